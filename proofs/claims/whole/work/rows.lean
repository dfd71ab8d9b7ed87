section
-- ===== PART A: goes FIRST, ahead of the names: the tables' words, and 'selects' of the private methods out of them =====
/-- a private method of a class that the tables say can be made, by its rows of tables_1 -/
def lw_okq (q : MethodName × Nat) : Prop := (q.1.cls ≠ "java/lang/invoke/MethodHandle" ∧ q.1.cls ≠ "java/lang/invoke/VarHandle") ∧ Cond.instantiable q.1.cls q.2 ∈ tables_1 ∧ Cond.privateMethod q.1 ∈ tables_1 ∧ Cond.instanceMethod q.1 ∈ tables_1
theorem lw_p0 : lw_okq (⟨"NinthAir", "finding", "(I)I"⟩, 7) := ⟨⟨by decide +kernel, by decide +kernel⟩, List.mem_of_getElem? (i := 14) (by decide +kernel), List.mem_of_getElem? (i := 167) (by decide +kernel), List.mem_of_getElem? (i := 168) (by decide +kernel)⟩
theorem lw_p1 : lw_okq (⟨"NinthAir$Night", "otherVoices", "(I)I"⟩, 13) := ⟨⟨by decide +kernel, by decide +kernel⟩, List.mem_of_getElem? (i := 22) (by decide +kernel), List.mem_of_getElem? (i := 197) (by decide +kernel), List.mem_of_getElem? (i := 198) (by decide +kernel)⟩
theorem lw_p2 : lw_okq (⟨"NinthAir", "nobody", "(I)Z"⟩, 7) := ⟨⟨by decide +kernel, by decide +kernel⟩, List.mem_of_getElem? (i := 14) (by decide +kernel), List.mem_of_getElem? (i := 233) (by decide +kernel), List.mem_of_getElem? (i := 234) (by decide +kernel)⟩
theorem lw_p3 : lw_okq (⟨"NinthAir$Night", "freeze", "()V"⟩, 13) := ⟨⟨by decide +kernel, by decide +kernel⟩, List.mem_of_getElem? (i := 22) (by decide +kernel), List.mem_of_getElem? (i := 289) (by decide +kernel), List.mem_of_getElem? (i := 290) (by decide +kernel)⟩
theorem lw_p4 : lw_okq (⟨"NinthAir$Night", "burn", "()V"⟩, 13) := ⟨⟨by decide +kernel, by decide +kernel⟩, List.mem_of_getElem? (i := 22) (by decide +kernel), List.mem_of_getElem? (i := 296) (by decide +kernel), List.mem_of_getElem? (i := 297) (by decide +kernel)⟩
theorem lw_p5 : lw_okq (⟨"NinthAir$Night", "mix", "()V"⟩, 13) := ⟨⟨by decide +kernel, by decide +kernel⟩, List.mem_of_getElem? (i := 22) (by decide +kernel), List.mem_of_getElem? (i := 300) (by decide +kernel), List.mem_of_getElem? (i := 301) (by decide +kernel)⟩
theorem lw_p6 : lw_okq (⟨"NinthAir$Night", "breathe", "()I"⟩, 13) := ⟨⟨by decide +kernel, by decide +kernel⟩, List.mem_of_getElem? (i := 22) (by decide +kernel), List.mem_of_getElem? (i := 304) (by decide +kernel), List.mem_of_getElem? (i := 305) (by decide +kernel)⟩
theorem lw_p7 : lw_okq (⟨"NinthAir", "startAhead", "()LNinthAir$Night;"⟩, 7) := ⟨⟨by decide +kernel, by decide +kernel⟩, List.mem_of_getElem? (i := 14) (by decide +kernel), List.mem_of_getElem? (i := 323) (by decide +kernel), List.mem_of_getElem? (i := 324) (by decide +kernel)⟩
theorem lw_p8 : lw_okq (⟨"NinthAir", "twoFiresDo", "(IIII)Z"⟩, 7) := ⟨⟨by decide +kernel, by decide +kernel⟩, List.mem_of_getElem? (i := 14) (by decide +kernel), List.mem_of_getElem? (i := 382) (by decide +kernel), List.mem_of_getElem? (i := 383) (by decide +kernel)⟩
theorem lw_p9 : lw_okq (⟨"NinthAir$Tape", "step", "()V"⟩, 6) := ⟨⟨by decide +kernel, by decide +kernel⟩, List.mem_of_getElem? (i := 83) (by decide +kernel), List.mem_of_getElem? (i := 456) (by decide +kernel), List.mem_of_getElem? (i := 457) (by decide +kernel)⟩
theorem lw_p10 : lw_okq (⟨"NinthAir$Tape", "tellItem", "(LNinthAir$Night;)Z"⟩, 6) := ⟨⟨by decide +kernel, by decide +kernel⟩, List.mem_of_getElem? (i := 83) (by decide +kernel), List.mem_of_getElem? (i := 463) (by decide +kernel), List.mem_of_getElem? (i := 464) (by decide +kernel)⟩
theorem lw_p11 : lw_okq (⟨"NinthAir$Tape", "kindNamed", "()I"⟩, 6) := ⟨⟨by decide +kernel, by decide +kernel⟩, List.mem_of_getElem? (i := 83) (by decide +kernel), List.mem_of_getElem? (i := 467) (by decide +kernel), List.mem_of_getElem? (i := 468) (by decide +kernel)⟩
theorem lw_p12 : lw_okq (⟨"NinthAir$Tape", "isWord", "(Ljava/lang/String;)Z"⟩, 6) := ⟨⟨by decide +kernel, by decide +kernel⟩, List.mem_of_getElem? (i := 83) (by decide +kernel), List.mem_of_getElem? (i := 472) (by decide +kernel), List.mem_of_getElem? (i := 473) (by decide +kernel)⟩
theorem lw_p13 : lw_okq (⟨"NinthAir$Tape", "tellOne", "(LNinthAir$Night;I)Z"⟩, 6) := ⟨⟨by decide +kernel, by decide +kernel⟩, List.mem_of_getElem? (i := 83) (by decide +kernel), List.mem_of_getElem? (i := 529) (by decide +kernel), List.mem_of_getElem? (i := 530) (by decide +kernel)⟩
theorem lw_p14 : lw_okq (⟨"NinthAir$Tape", "isNumber", "(II)Z"⟩, 6) := ⟨⟨by decide +kernel, by decide +kernel⟩, List.mem_of_getElem? (i := 83) (by decide +kernel), List.mem_of_getElem? (i := 535) (by decide +kernel), List.mem_of_getElem? (i := 536) (by decide +kernel)⟩
theorem lw_p15 : lw_okq (⟨"NinthAir$Tape", "tellRoom", "(LNinthAir$Night;)Z"⟩, 6) := ⟨⟨by decide +kernel, by decide +kernel⟩, List.mem_of_getElem? (i := 83) (by decide +kernel), List.mem_of_getElem? (i := 544) (by decide +kernel), List.mem_of_getElem? (i := 545) (by decide +kernel)⟩
def lw_privs_1 : List (MethodName × Nat) := [(⟨"NinthAir", "finding", "(I)I"⟩, 7), (⟨"NinthAir$Night", "otherVoices", "(I)I"⟩, 13), (⟨"NinthAir", "nobody", "(I)Z"⟩, 7), (⟨"NinthAir$Night", "freeze", "()V"⟩, 13), (⟨"NinthAir$Night", "burn", "()V"⟩, 13), (⟨"NinthAir$Night", "mix", "()V"⟩, 13), (⟨"NinthAir$Night", "breathe", "()I"⟩, 13), (⟨"NinthAir", "startAhead", "()LNinthAir$Night;"⟩, 7), (⟨"NinthAir", "twoFiresDo", "(IIII)Z"⟩, 7), (⟨"NinthAir$Tape", "step", "()V"⟩, 6), (⟨"NinthAir$Tape", "tellItem", "(LNinthAir$Night;)Z"⟩, 6), (⟨"NinthAir$Tape", "kindNamed", "()I"⟩, 6), (⟨"NinthAir$Tape", "isWord", "(Ljava/lang/String;)Z"⟩, 6), (⟨"NinthAir$Tape", "tellOne", "(LNinthAir$Night;I)Z"⟩, 6), (⟨"NinthAir$Tape", "isNumber", "(II)Z"⟩, 6), (⟨"NinthAir$Tape", "tellRoom", "(LNinthAir$Night;)Z"⟩, 6)]
theorem lw_r1 : ∀ q ∈ lw_privs_1, lw_okq q := List.forall_mem_cons.mpr ⟨lw_p0, List.forall_mem_cons.mpr ⟨lw_p1, List.forall_mem_cons.mpr ⟨lw_p2, List.forall_mem_cons.mpr ⟨lw_p3, List.forall_mem_cons.mpr ⟨lw_p4, List.forall_mem_cons.mpr ⟨lw_p5, List.forall_mem_cons.mpr ⟨lw_p6, List.forall_mem_cons.mpr ⟨lw_p7, List.forall_mem_cons.mpr ⟨lw_p8, List.forall_mem_cons.mpr ⟨lw_p9, List.forall_mem_cons.mpr ⟨lw_p10, List.forall_mem_cons.mpr ⟨lw_p11, List.forall_mem_cons.mpr ⟨lw_p12, List.forall_mem_cons.mpr ⟨lw_p13, List.forall_mem_cons.mpr ⟨lw_p14, List.forall_mem_cons.mpr ⟨lw_p15, fun _ h => absurd h List.not_mem_nil⟩⟩⟩⟩⟩⟩⟩⟩⟩⟩⟩⟩⟩⟩⟩⟩
theorem lw_p16 : lw_okq (⟨"NinthAir$Tape", "mayTell", "(Ljava/lang/String;LNinthAir$Night;II)Z"⟩, 6) := ⟨⟨by decide +kernel, by decide +kernel⟩, List.mem_of_getElem? (i := 83) (by decide +kernel), List.mem_of_getElem? (i := 549) (by decide +kernel), List.mem_of_getElem? (i := 550) (by decide +kernel)⟩
theorem lw_p17 : lw_okq (⟨"NinthAir$Tape", "tellDoor", "(LNinthAir$Night;I)Z"⟩, 6) := ⟨⟨by decide +kernel, by decide +kernel⟩, List.mem_of_getElem? (i := 83) (by decide +kernel), List.mem_of_getElem? (i := 559) (by decide +kernel), List.mem_of_getElem? (i := 560) (by decide +kernel)⟩
theorem lw_p18 : lw_okq (⟨"NinthAir$Tape", "tellCold", "(LNinthAir$Night;I)Z"⟩, 6) := ⟨⟨by decide +kernel, by decide +kernel⟩, List.mem_of_getElem? (i := 83) (by decide +kernel), List.mem_of_getElem? (i := 566) (by decide +kernel), List.mem_of_getElem? (i := 567) (by decide +kernel)⟩
theorem lw_p19 : lw_okq (⟨"NinthAirModel", "finds", "(I)I"⟩, 18) := ⟨⟨by decide +kernel, by decide +kernel⟩, List.mem_of_getElem? (i := 643) (by decide +kernel), List.mem_of_getElem? (i := 718) (by decide +kernel), List.mem_of_getElem? (i := 719) (by decide +kernel)⟩
theorem lw_p20 : lw_okq (⟨"NinthAirModel", "there", "(II)I"⟩, 18) := ⟨⟨by decide +kernel, by decide +kernel⟩, List.mem_of_getElem? (i := 643) (by decide +kernel), List.mem_of_getElem? (i := 722) (by decide +kernel), List.mem_of_getElem? (i := 723) (by decide +kernel)⟩
theorem lw_p21 : lw_okq (⟨"NinthAirModel", "lies", "(III)V"⟩, 18) := ⟨⟨by decide +kernel, by decide +kernel⟩, List.mem_of_getElem? (i := 643) (by decide +kernel), List.mem_of_getElem? (i := 726) (by decide +kernel), List.mem_of_getElem? (i := 727) (by decide +kernel)⟩
theorem lw_p22 : lw_okq (⟨"NinthAirModel", "inside", "(I)I"⟩, 18) := ⟨⟨by decide +kernel, by decide +kernel⟩, List.mem_of_getElem? (i := 643) (by decide +kernel), List.mem_of_getElem? (i := 734) (by decide +kernel), List.mem_of_getElem? (i := 735) (by decide +kernel)⟩
theorem lw_p23 : lw_okq (⟨"NinthAirModel", "its", "(II)I"⟩, 18) := ⟨⟨by decide +kernel, by decide +kernel⟩, List.mem_of_getElem? (i := 643) (by decide +kernel), List.mem_of_getElem? (i := 738) (by decide +kernel), List.mem_of_getElem? (i := 739) (by decide +kernel)⟩
theorem lw_p24 : lw_okq (⟨"NinthAirModel", "breathedIn", "(I)I"⟩, 18) := ⟨⟨by decide +kernel, by decide +kernel⟩, List.mem_of_getElem? (i := 643) (by decide +kernel), List.mem_of_getElem? (i := 742) (by decide +kernel), List.mem_of_getElem? (i := 743) (by decide +kernel)⟩
theorem lw_p25 : lw_okq (⟨"NinthAirModel", "breathes", "(I)I"⟩, 18) := ⟨⟨by decide +kernel, by decide +kernel⟩, List.mem_of_getElem? (i := 643) (by decide +kernel), List.mem_of_getElem? (i := 746) (by decide +kernel), List.mem_of_getElem? (i := 747) (by decide +kernel)⟩
theorem lw_p26 : lw_okq (⟨"NinthAirModel", "singers", "(I)I"⟩, 18) := ⟨⟨by decide +kernel, by decide +kernel⟩, List.mem_of_getElem? (i := 643) (by decide +kernel), List.mem_of_getElem? (i := 750) (by decide +kernel), List.mem_of_getElem? (i := 751) (by decide +kernel)⟩
theorem lw_p27 : lw_okq (⟨"NinthAirModel", "opens", "(II)V"⟩, 18) := ⟨⟨by decide +kernel, by decide +kernel⟩, List.mem_of_getElem? (i := 643) (by decide +kernel), List.mem_of_getElem? (i := 758) (by decide +kernel), List.mem_of_getElem? (i := 759) (by decide +kernel)⟩
theorem lw_p28 : lw_okq (⟨"NinthAirModel", "addOne", "(III)V"⟩, 18) := ⟨⟨by decide +kernel, by decide +kernel⟩, List.mem_of_getElem? (i := 643) (by decide +kernel), List.mem_of_getElem? (i := 774) (by decide +kernel), List.mem_of_getElem? (i := 775) (by decide +kernel)⟩
theorem lw_p29 : lw_okq (⟨"NinthAirModel", "puts", "(III)V"⟩, 18) := ⟨⟨by decide +kernel, by decide +kernel⟩, List.mem_of_getElem? (i := 643) (by decide +kernel), List.mem_of_getElem? (i := 778) (by decide +kernel), List.mem_of_getElem? (i := 779) (by decide +kernel)⟩
theorem lw_p30 : lw_okq (⟨"NinthAirModel", "isOne", "(I)Z"⟩, 18) := ⟨⟨by decide +kernel, by decide +kernel⟩, List.mem_of_getElem? (i := 643) (by decide +kernel), List.mem_of_getElem? (i := 786) (by decide +kernel), List.mem_of_getElem? (i := 787) (by decide +kernel)⟩
theorem lw_p31 : lw_okq (⟨"NinthAirModel", "leaves", "(I)V"⟩, 18) := ⟨⟨by decide +kernel, by decide +kernel⟩, List.mem_of_getElem? (i := 643) (by decide +kernel), List.mem_of_getElem? (i := 807) (by decide +kernel), List.mem_of_getElem? (i := 808) (by decide +kernel)⟩
def lw_privs_2 : List (MethodName × Nat) := [(⟨"NinthAir$Tape", "mayTell", "(Ljava/lang/String;LNinthAir$Night;II)Z"⟩, 6), (⟨"NinthAir$Tape", "tellDoor", "(LNinthAir$Night;I)Z"⟩, 6), (⟨"NinthAir$Tape", "tellCold", "(LNinthAir$Night;I)Z"⟩, 6), (⟨"NinthAirModel", "finds", "(I)I"⟩, 18), (⟨"NinthAirModel", "there", "(II)I"⟩, 18), (⟨"NinthAirModel", "lies", "(III)V"⟩, 18), (⟨"NinthAirModel", "inside", "(I)I"⟩, 18), (⟨"NinthAirModel", "its", "(II)I"⟩, 18), (⟨"NinthAirModel", "breathedIn", "(I)I"⟩, 18), (⟨"NinthAirModel", "breathes", "(I)I"⟩, 18), (⟨"NinthAirModel", "singers", "(I)I"⟩, 18), (⟨"NinthAirModel", "opens", "(II)V"⟩, 18), (⟨"NinthAirModel", "addOne", "(III)V"⟩, 18), (⟨"NinthAirModel", "puts", "(III)V"⟩, 18), (⟨"NinthAirModel", "isOne", "(I)Z"⟩, 18), (⟨"NinthAirModel", "leaves", "(I)V"⟩, 18)]
theorem lw_r2 : ∀ q ∈ lw_privs_2, lw_okq q := List.forall_mem_cons.mpr ⟨lw_p16, List.forall_mem_cons.mpr ⟨lw_p17, List.forall_mem_cons.mpr ⟨lw_p18, List.forall_mem_cons.mpr ⟨lw_p19, List.forall_mem_cons.mpr ⟨lw_p20, List.forall_mem_cons.mpr ⟨lw_p21, List.forall_mem_cons.mpr ⟨lw_p22, List.forall_mem_cons.mpr ⟨lw_p23, List.forall_mem_cons.mpr ⟨lw_p24, List.forall_mem_cons.mpr ⟨lw_p25, List.forall_mem_cons.mpr ⟨lw_p26, List.forall_mem_cons.mpr ⟨lw_p27, List.forall_mem_cons.mpr ⟨lw_p28, List.forall_mem_cons.mpr ⟨lw_p29, List.forall_mem_cons.mpr ⟨lw_p30, List.forall_mem_cons.mpr ⟨lw_p31, fun _ h => absurd h List.not_mem_nil⟩⟩⟩⟩⟩⟩⟩⟩⟩⟩⟩⟩⟩⟩⟩⟩
theorem lw_p32 : lw_okq (⟨"NinthAirModel", "oneHour", "()V"⟩, 18) := ⟨⟨by decide +kernel, by decide +kernel⟩, List.mem_of_getElem? (i := 643) (by decide +kernel), List.mem_of_getElem? (i := 816) (by decide +kernel), List.mem_of_getElem? (i := 817) (by decide +kernel)⟩
theorem lw_p33 : lw_okq (⟨"NinthAirModel", "freezes", "(I)V"⟩, 18) := ⟨⟨by decide +kernel, by decide +kernel⟩, List.mem_of_getElem? (i := 643) (by decide +kernel), List.mem_of_getElem? (i := 820) (by decide +kernel), List.mem_of_getElem? (i := 821) (by decide +kernel)⟩
theorem lw_p34 : lw_okq (⟨"NinthAirModel", "thaws", "(I)V"⟩, 18) := ⟨⟨by decide +kernel, by decide +kernel⟩, List.mem_of_getElem? (i := 643) (by decide +kernel), List.mem_of_getElem? (i := 824) (by decide +kernel), List.mem_of_getElem? (i := 825) (by decide +kernel)⟩
theorem lw_p35 : lw_okq (⟨"NinthAirModel", "draughts", "(I)V"⟩, 18) := ⟨⟨by decide +kernel, by decide +kernel⟩, List.mem_of_getElem? (i := 643) (by decide +kernel), List.mem_of_getElem? (i := 831) (by decide +kernel), List.mem_of_getElem? (i := 832) (by decide +kernel)⟩
theorem lw_p36 : lw_okq (⟨"NinthAirModel", "breathe", "(I)V"⟩, 18) := ⟨⟨by decide +kernel, by decide +kernel⟩, List.mem_of_getElem? (i := 643) (by decide +kernel), List.mem_of_getElem? (i := 835) (by decide +kernel), List.mem_of_getElem? (i := 836) (by decide +kernel)⟩
theorem lw_p37 : lw_okq (⟨"NinthAirModel", "sumOf", "(I)I"⟩, 18) := ⟨⟨by decide +kernel, by decide +kernel⟩, List.mem_of_getElem? (i := 643) (by decide +kernel), List.mem_of_getElem? (i := 839) (by decide +kernel), List.mem_of_getElem? (i := 840) (by decide +kernel)⟩
theorem lw_p38 : lw_okq (⟨"NinthAirModel", "stifled", "()I"⟩, 18) := ⟨⟨by decide +kernel, by decide +kernel⟩, List.mem_of_getElem? (i := 643) (by decide +kernel), List.mem_of_getElem? (i := 847) (by decide +kernel), List.mem_of_getElem? (i := 848) (by decide +kernel)⟩
theorem lw_p39 : lw_okq (⟨"NinthAirModel", "allBreathe", "()I"⟩, 18) := ⟨⟨by decide +kernel, by decide +kernel⟩, List.mem_of_getElem? (i := 643) (by decide +kernel), List.mem_of_getElem? (i := 851) (by decide +kernel), List.mem_of_getElem? (i := 852) (by decide +kernel)⟩
theorem lw_p40 : lw_okq (⟨"NinthAirModel", "moveAll", "(Z[I)V"⟩, 18) := ⟨⟨by decide +kernel, by decide +kernel⟩, List.mem_of_getElem? (i := 643) (by decide +kernel), List.mem_of_getElem? (i := 859) (by decide +kernel), List.mem_of_getElem? (i := 860) (by decide +kernel)⟩
theorem lw_p41 : lw_okq (⟨"NinthAirModel", "passes", "(I)V"⟩, 18) := ⟨⟨by decide +kernel, by decide +kernel⟩, List.mem_of_getElem? (i := 643) (by decide +kernel), List.mem_of_getElem? (i := 863) (by decide +kernel), List.mem_of_getElem? (i := 864) (by decide +kernel)⟩
theorem lw_p42 : lw_okq (⟨"NinthAirModel", "untilOf", "(I)I"⟩, 18) := ⟨⟨by decide +kernel, by decide +kernel⟩, List.mem_of_getElem? (i := 643) (by decide +kernel), List.mem_of_getElem? (i := 871) (by decide +kernel), List.mem_of_getElem? (i := 872) (by decide +kernel)⟩
theorem lw_p43 : lw_okq (⟨"NinthAirModel", "wellOnes", "()I"⟩, 18) := ⟨⟨by decide +kernel, by decide +kernel⟩, List.mem_of_getElem? (i := 643) (by decide +kernel), List.mem_of_getElem? (i := 880) (by decide +kernel), List.mem_of_getElem? (i := 881) (by decide +kernel)⟩
theorem lw_p44 : lw_okq (⟨"NinthAirModel", "wellFor", "()I"⟩, 18) := ⟨⟨by decide +kernel, by decide +kernel⟩, List.mem_of_getElem? (i := 643) (by decide +kernel), List.mem_of_getElem? (i := 888) (by decide +kernel), List.mem_of_getElem? (i := 889) (by decide +kernel)⟩
theorem lw_p45 : lw_okq (⟨"NinthAirModel", "stifledOn", "(I)I"⟩, 18) := ⟨⟨by decide +kernel, by decide +kernel⟩, List.mem_of_getElem? (i := 643) (by decide +kernel), List.mem_of_getElem? (i := 903) (by decide +kernel), List.mem_of_getElem? (i := 904) (by decide +kernel)⟩
theorem lw_p46 : lw_okq (⟨"NinthAirModel", "isWell", "(I)Z"⟩, 18) := ⟨⟨by decide +kernel, by decide +kernel⟩, List.mem_of_getElem? (i := 643) (by decide +kernel), List.mem_of_getElem? (i := 914) (by decide +kernel), List.mem_of_getElem? (i := 915) (by decide +kernel)⟩
theorem lw_p47 : lw_okq (⟨"NinthAirModel", "greatest", "(I)I"⟩, 18) := ⟨⟨by decide +kernel, by decide +kernel⟩, List.mem_of_getElem? (i := 643) (by decide +kernel), List.mem_of_getElem? (i := 938) (by decide +kernel), List.mem_of_getElem? (i := 939) (by decide +kernel)⟩
def lw_privs_3 : List (MethodName × Nat) := [(⟨"NinthAirModel", "oneHour", "()V"⟩, 18), (⟨"NinthAirModel", "freezes", "(I)V"⟩, 18), (⟨"NinthAirModel", "thaws", "(I)V"⟩, 18), (⟨"NinthAirModel", "draughts", "(I)V"⟩, 18), (⟨"NinthAirModel", "breathe", "(I)V"⟩, 18), (⟨"NinthAirModel", "sumOf", "(I)I"⟩, 18), (⟨"NinthAirModel", "stifled", "()I"⟩, 18), (⟨"NinthAirModel", "allBreathe", "()I"⟩, 18), (⟨"NinthAirModel", "moveAll", "(Z[I)V"⟩, 18), (⟨"NinthAirModel", "passes", "(I)V"⟩, 18), (⟨"NinthAirModel", "untilOf", "(I)I"⟩, 18), (⟨"NinthAirModel", "wellOnes", "()I"⟩, 18), (⟨"NinthAirModel", "wellFor", "()I"⟩, 18), (⟨"NinthAirModel", "stifledOn", "(I)I"⟩, 18), (⟨"NinthAirModel", "isWell", "(I)Z"⟩, 18), (⟨"NinthAirModel", "greatest", "(I)I"⟩, 18)]
theorem lw_r3 : ∀ q ∈ lw_privs_3, lw_okq q := List.forall_mem_cons.mpr ⟨lw_p32, List.forall_mem_cons.mpr ⟨lw_p33, List.forall_mem_cons.mpr ⟨lw_p34, List.forall_mem_cons.mpr ⟨lw_p35, List.forall_mem_cons.mpr ⟨lw_p36, List.forall_mem_cons.mpr ⟨lw_p37, List.forall_mem_cons.mpr ⟨lw_p38, List.forall_mem_cons.mpr ⟨lw_p39, List.forall_mem_cons.mpr ⟨lw_p40, List.forall_mem_cons.mpr ⟨lw_p41, List.forall_mem_cons.mpr ⟨lw_p42, List.forall_mem_cons.mpr ⟨lw_p43, List.forall_mem_cons.mpr ⟨lw_p44, List.forall_mem_cons.mpr ⟨lw_p45, List.forall_mem_cons.mpr ⟨lw_p46, List.forall_mem_cons.mpr ⟨lw_p47, fun _ h => absurd h List.not_mem_nil⟩⟩⟩⟩⟩⟩⟩⟩⟩⟩⟩⟩⟩⟩⟩⟩
theorem lw_p48 : lw_okq (⟨"NinthAirModel", "frostOf", "(I)I"⟩, 18) := ⟨⟨by decide +kernel, by decide +kernel⟩, List.mem_of_getElem? (i := 643) (by decide +kernel), List.mem_of_getElem? (i := 951) (by decide +kernel), List.mem_of_getElem? (i := 952) (by decide +kernel)⟩
theorem lw_p49 : lw_okq (⟨"NinthAirModel", "advance", "()V"⟩, 18) := ⟨⟨by decide +kernel, by decide +kernel⟩, List.mem_of_getElem? (i := 643) (by decide +kernel), List.mem_of_getElem? (i := 979) (by decide +kernel), List.mem_of_getElem? (i := 980) (by decide +kernel)⟩
theorem lw_p50 : lw_okq (⟨"NinthAirModel", "byteAt", "(I)I"⟩, 18) := ⟨⟨by decide +kernel, by decide +kernel⟩, List.mem_of_getElem? (i := 643) (by decide +kernel), List.mem_of_getElem? (i := 983) (by decide +kernel), List.mem_of_getElem? (i := 984) (by decide +kernel)⟩
theorem lw_p51 : lw_okq (⟨"NinthAirModel", "wantItem", "()V"⟩, 18) := ⟨⟨by decide +kernel, by decide +kernel⟩, List.mem_of_getElem? (i := 643) (by decide +kernel), List.mem_of_getElem? (i := 996) (by decide +kernel), List.mem_of_getElem? (i := 997) (by decide +kernel)⟩
theorem lw_p52 : lw_okq (⟨"NinthAirModel", "kindHere", "()I"⟩, 18) := ⟨⟨by decide +kernel, by decide +kernel⟩, List.mem_of_getElem? (i := 643) (by decide +kernel), List.mem_of_getElem? (i := 1000) (by decide +kernel), List.mem_of_getElem? (i := 1001) (by decide +kernel)⟩
theorem lw_p53 : lw_okq (⟨"NinthAirModel", "isWord", "(J)Z"⟩, 18) := ⟨⟨by decide +kernel, by decide +kernel⟩, List.mem_of_getElem? (i := 643) (by decide +kernel), List.mem_of_getElem? (i := 1005) (by decide +kernel), List.mem_of_getElem? (i := 1006) (by decide +kernel)⟩
theorem lw_p54 : lw_okq (⟨"NinthAirModel", "wantOne", "(I)V"⟩, 18) := ⟨⟨by decide +kernel, by decide +kernel⟩, List.mem_of_getElem? (i := 643) (by decide +kernel), List.mem_of_getElem? (i := 1014) (by decide +kernel), List.mem_of_getElem? (i := 1015) (by decide +kernel)⟩
theorem lw_p55 : lw_okq (⟨"NinthAirModel", "wantNumber", "(II)I"⟩, 18) := ⟨⟨by decide +kernel, by decide +kernel⟩, List.mem_of_getElem? (i := 643) (by decide +kernel), List.mem_of_getElem? (i := 1019) (by decide +kernel), List.mem_of_getElem? (i := 1020) (by decide +kernel)⟩
theorem lw_p56 : lw_okq (⟨"NinthAirModel", "mayWant", "(JIII)I"⟩, 18) := ⟨⟨by decide +kernel, by decide +kernel⟩, List.mem_of_getElem? (i := 643) (by decide +kernel), List.mem_of_getElem? (i := 1024) (by decide +kernel), List.mem_of_getElem? (i := 1025) (by decide +kernel)⟩
theorem lw_p57 : lw_okq (⟨"NinthAirModel", "wantRoom", "()V"⟩, 18) := ⟨⟨by decide +kernel, by decide +kernel⟩, List.mem_of_getElem? (i := 643) (by decide +kernel), List.mem_of_getElem? (i := 1029) (by decide +kernel), List.mem_of_getElem? (i := 1030) (by decide +kernel)⟩
theorem lw_p58 : lw_okq (⟨"NinthAirModel", "wantDoor", "(I)V"⟩, 18) := ⟨⟨by decide +kernel, by decide +kernel⟩, List.mem_of_getElem? (i := 643) (by decide +kernel), List.mem_of_getElem? (i := 1038) (by decide +kernel), List.mem_of_getElem? (i := 1039) (by decide +kernel)⟩
theorem lw_p59 : lw_okq (⟨"NinthAirModel", "isPart", "(III)Z"⟩, 18) := ⟨⟨by decide +kernel, by decide +kernel⟩, List.mem_of_getElem? (i := 643) (by decide +kernel), List.mem_of_getElem? (i := 1065) (by decide +kernel), List.mem_of_getElem? (i := 1066) (by decide +kernel)⟩
theorem lw_p60 : lw_okq (⟨"NinthAirModel", "badSheet", "(I)I"⟩, 18) := ⟨⟨by decide +kernel, by decide +kernel⟩, List.mem_of_getElem? (i := 643) (by decide +kernel), List.mem_of_getElem? (i := 1073) (by decide +kernel), List.mem_of_getElem? (i := 1074) (by decide +kernel)⟩
theorem lw_p61 : lw_okq (⟨"NinthAirModel", "isSo", "(II)Z"⟩, 18) := ⟨⟨by decide +kernel, by decide +kernel⟩, List.mem_of_getElem? (i := 643) (by decide +kernel), List.mem_of_getElem? (i := 1086) (by decide +kernel), List.mem_of_getElem? (i := 1087) (by decide +kernel)⟩
def lw_privs_4 : List (MethodName × Nat) := [(⟨"NinthAirModel", "frostOf", "(I)I"⟩, 18), (⟨"NinthAirModel", "advance", "()V"⟩, 18), (⟨"NinthAirModel", "byteAt", "(I)I"⟩, 18), (⟨"NinthAirModel", "wantItem", "()V"⟩, 18), (⟨"NinthAirModel", "kindHere", "()I"⟩, 18), (⟨"NinthAirModel", "isWord", "(J)Z"⟩, 18), (⟨"NinthAirModel", "wantOne", "(I)V"⟩, 18), (⟨"NinthAirModel", "wantNumber", "(II)I"⟩, 18), (⟨"NinthAirModel", "mayWant", "(JIII)I"⟩, 18), (⟨"NinthAirModel", "wantRoom", "()V"⟩, 18), (⟨"NinthAirModel", "wantDoor", "(I)V"⟩, 18), (⟨"NinthAirModel", "isPart", "(III)Z"⟩, 18), (⟨"NinthAirModel", "badSheet", "(I)I"⟩, 18), (⟨"NinthAirModel", "isSo", "(II)Z"⟩, 18)]
theorem lw_r4 : ∀ q ∈ lw_privs_4, lw_okq q := List.forall_mem_cons.mpr ⟨lw_p48, List.forall_mem_cons.mpr ⟨lw_p49, List.forall_mem_cons.mpr ⟨lw_p50, List.forall_mem_cons.mpr ⟨lw_p51, List.forall_mem_cons.mpr ⟨lw_p52, List.forall_mem_cons.mpr ⟨lw_p53, List.forall_mem_cons.mpr ⟨lw_p54, List.forall_mem_cons.mpr ⟨lw_p55, List.forall_mem_cons.mpr ⟨lw_p56, List.forall_mem_cons.mpr ⟨lw_p57, List.forall_mem_cons.mpr ⟨lw_p58, List.forall_mem_cons.mpr ⟨lw_p59, List.forall_mem_cons.mpr ⟨lw_p60, List.forall_mem_cons.mpr ⟨lw_p61, fun _ h => absurd h List.not_mem_nil⟩⟩⟩⟩⟩⟩⟩⟩⟩⟩⟩⟩⟩⟩
def lw_privs : List (MethodName × Nat) := lw_privs_1 ++ (lw_privs_2 ++ (lw_privs_3 ++ (lw_privs_4)))
def lw_tbl : List Cond := k2_sels lw_privs ++ tables_1
theorem lw_privs_ok : ∀ q ∈ lw_privs, lw_okq q := by
  show ∀ q ∈ lw_privs_1 ++ (lw_privs_2 ++ (lw_privs_3 ++ (lw_privs_4))), lw_okq q
  exact List.forall_mem_append.mpr ⟨lw_r1, List.forall_mem_append.mpr ⟨lw_r2, List.forall_mem_append.mpr ⟨lw_r3, lw_r4⟩⟩⟩
-- ===== end of PART A; then your names; then what follows =====
def R_law : String := "NinthAirLaw"
def RX0 : String := "NinthAir$Night"
def TX0 : u_T := fun k => match k with
  | 0 => ("NinthAir$Night", "airs", "[I", true)
  | 1 => ("NinthAir$Night", "frosts", "[I", true)
  | 2 => ("NinthAir$Night", "fires", "[I", true)
  | 3 => ("NinthAir$Night", "tights", "[I", true)
  | 4 => ("NinthAir$Night", "openDoors", "I", false)
  | 5 => ("NinthAir$Night", "cold", "I", false)
  | 6 => ("NinthAir$Night", "hour", "I", false)
  | 7 => ("NinthAir$Night", "people", "I", false)
  | 8 => ("NinthAir$Night", "kinds", "[I", true)
  | 9 => ("NinthAir$Night", "places", "[I", true)
  | 10 => ("NinthAir$Night", "needs", "[I", true)
  | 11 => ("NinthAir$Night", "stays", "[I", true)
  | _ => ("NinthAir$Night", "stifled", "[I", true)
def tyX0 : Nat → FieldType := fun k => match k with
  | 0 => .array .int
  | 1 => .array .int
  | 2 => .array .int
  | 3 => .array .int
  | 4 => .int
  | 5 => .int
  | 6 => .int
  | 7 => .int
  | 8 => .array .int
  | 9 => .array .int
  | 10 => .array .int
  | 11 => .array .int
  | _ => .array .int
theorem nmX0 : ∀ a, a < 13 → ∀ b, b < 13 → a ≠ b → (TX0 a).2.1 ≠ (TX0 b).2.1 := by decide +kernel
theorem tyX0_ok : ∀ k, k < 13 → parseFieldDescriptor (TX0 k).2.2.1 = some (tyX0 k) := by decide +kernel
abbrev cX0_init : ByteArray := prog_2_method_1_code
def yX0_init : MethodName := ⟨RX0, "<init>", "()V"⟩
abbrev cX0_become : ByteArray := prog_2_method_2_code
def yX0_become : MethodName := ⟨RX0, "become", "(LNinthAir$Night;)V"⟩
abbrev cX0_rowOfRooms : ByteArray := prog_2_method_3_code
def yX0_rowOfRooms : MethodName := ⟨RX0, "rowOfRooms", "(I)[I"⟩
abbrev cX0_rowOfPeople : ByteArray := prog_2_method_4_code
def yX0_rowOfPeople : MethodName := ⟨RX0, "rowOfPeople", "(I)[I"⟩
abbrev cX0_turnDoor : ByteArray := prog_2_method_5_code
def yX0_turnDoor : MethodName := ⟨RX0, "turnDoor", "(II)I"⟩
abbrev cX0_isFull : ByteArray := prog_2_method_6_code
def yX0_isFull : MethodName := ⟨RX0, "isFull", "()Z"⟩
abbrev cX0_add : ByteArray := prog_2_method_7_code
def yX0_add : MethodName := ⟨RX0, "add", "(III)I"⟩
abbrev cX0_remove : ByteArray := prog_2_method_8_code
def yX0_remove : MethodName := ⟨RX0, "remove", "(I)V"⟩
abbrev cX0_peopleIn : ByteArray := prog_2_method_9_code
def yX0_peopleIn : MethodName := ⟨RX0, "peopleIn", "(I)I"⟩
abbrev cX0_stifledSet : ByteArray := prog_2_method_10_code
def yX0_stifledSet : MethodName := ⟨RX0, "stifledSet", "()I"⟩
abbrev cX0_breathIn : ByteArray := prog_2_method_11_code
def yX0_breathIn : MethodName := ⟨RX0, "breathIn", "(I)I"⟩
abbrev cX0_greatestBreathIn : ByteArray := prog_2_method_12_code
def yX0_greatestBreathIn : MethodName := ⟨RX0, "greatestBreathIn", "(I)I"⟩
abbrev cX0_frostIn : ByteArray := prog_2_method_13_code
def yX0_frostIn : MethodName := ⟨RX0, "frostIn", "(I)I"⟩
abbrev cX0_breathOf : ByteArray := prog_2_method_14_code
def yX0_breathOf : MethodName := ⟨RX0, "breathOf", "(I)I"⟩
abbrev cX0_otherVoices : ByteArray := prog_2_method_15_code
def yX0_otherVoices : MethodName := ⟨RX0, "otherVoices", "(I)I"⟩
abbrev cX0_passHours : ByteArray := prog_2_method_16_code
def yX0_passHours : MethodName := ⟨RX0, "passHours", "(I)V"⟩
abbrev cX0_passHour : ByteArray := prog_2_method_17_code
def yX0_passHour : MethodName := ⟨RX0, "passHour", "()I"⟩
abbrev cX0_freeze : ByteArray := prog_2_method_18_code
def yX0_freeze : MethodName := ⟨RX0, "freeze", "()V"⟩
abbrev cX0_burn : ByteArray := prog_2_method_19_code
def yX0_burn : MethodName := ⟨RX0, "burn", "()V"⟩
abbrev cX0_mix : ByteArray := prog_2_method_20_code
def yX0_mix : MethodName := ⟨RX0, "mix", "()V"⟩
abbrev cX0_breathe : ByteArray := prog_2_method_21_code
def yX0_breathe : MethodName := ⟨RX0, "breathe", "()I"⟩
abbrev cX0_wellHours : ByteArray := prog_2_method_22_code
def yX0_wellHours : MethodName := ⟨RX0, "wellHours", "(II)I"⟩
abbrev cX0_stifledAfter : ByteArray := prog_2_method_23_code
def yX0_stifledAfter : MethodName := ⟨RX0, "stifledAfter", "(I)I"⟩
abbrev cX0_goesAsTold : ByteArray := prog_2_method_24_code
def yX0_goesAsTold : MethodName := ⟨RX0, "goesAsTold", "(ILNinthAir$Sheet;)Z"⟩
def RX1 : String := "NinthAir$Sheet"
def TX1 : u_T := fun k => match k with
  | 0 => ("NinthAir$Sheet", "numbers", "[J", true)
  | 1 => ("NinthAir$Sheet", "bits", "I", false)
  | _ => ("NinthAir$Sheet", "length", "I", false)
def tyX1 : Nat → FieldType := fun k => match k with
  | 0 => .array .long
  | 1 => .int
  | _ => .int
theorem nmX1 : ∀ a, a < 3 → ∀ b, b < 3 → a ≠ b → (TX1 a).2.1 ≠ (TX1 b).2.1 := by decide +kernel
theorem tyX1_ok : ∀ k, k < 3 → parseFieldDescriptor (TX1 k).2.2.1 = some (tyX1 k) := by decide +kernel
abbrev cX1_init : ByteArray := prog_3_method_1_code
def yX1_init : MethodName := ⟨RX1, "<init>", "()V"⟩
abbrev cX1_isMissing : ByteArray := prog_3_method_2_code
def yX1_isMissing : MethodName := ⟨RX1, "isMissing", "()Z"⟩
abbrev cX1_start : ByteArray := prog_3_method_3_code
def yX1_start : MethodName := ⟨RX1, "start", "(II)V"⟩
abbrev cX1_put : ByteArray := prog_3_method_4_code
def yX1_put : MethodName := ⟨RX1, "put", "(IJ)V"⟩
abbrev cX1_hasStretch : ByteArray := prog_3_method_5_code
def yX1_hasStretch : MethodName := ⟨RX1, "hasStretch", "(II)Z"⟩
def RX2 : String := "NinthAir$Tape"
def TX2 : u_T := fun k => match k with
  | 0 => ("NinthAir$Tape", "bytes", "[I", true)
  | 1 => ("NinthAir$Tape", "length", "I", false)
  | 2 => ("NinthAir$Tape", "token", "I", false)
  | 3 => ("NinthAir$Tape", "start", "I", false)
  | 4 => ("NinthAir$Tape", "behind", "I", false)
  | _ => ("NinthAir$Tape", "number", "I", false)
def tyX2 : Nat → FieldType := fun k => match k with
  | 0 => .array .int
  | 1 => .int
  | 2 => .int
  | 3 => .int
  | 4 => .int
  | _ => .int
theorem nmX2 : ∀ a, a < 6 → ∀ b, b < 6 → a ≠ b → (TX2 a).2.1 ≠ (TX2 b).2.1 := by decide +kernel
theorem tyX2_ok : ∀ k, k < 6 → parseFieldDescriptor (TX2 k).2.2.1 = some (tyX2 k) := by decide +kernel
abbrev cX2_init : ByteArray := prog_4_method_1_code
def yX2_init : MethodName := ⟨RX2, "<init>", "()V"⟩
abbrev cX2_append : ByteArray := prog_4_method_2_code
def yX2_append : MethodName := ⟨RX2, "append", "(II)V"⟩
abbrev cX2_tell : ByteArray := prog_4_method_3_code
def yX2_tell : MethodName := ⟨RX2, "tell", "(LNinthAir$Night;)I"⟩
abbrev cX2_tellItem : ByteArray := prog_4_method_4_code
def yX2_tellItem : MethodName := ⟨RX2, "tellItem", "(LNinthAir$Night;)Z"⟩
abbrev cX2_kindNamed : ByteArray := prog_4_method_5_code
def yX2_kindNamed : MethodName := ⟨RX2, "kindNamed", "()I"⟩
abbrev cX2_tellOne : ByteArray := prog_4_method_6_code
def yX2_tellOne : MethodName := ⟨RX2, "tellOne", "(LNinthAir$Night;I)Z"⟩
abbrev cX2_tellRoom : ByteArray := prog_4_method_7_code
def yX2_tellRoom : MethodName := ⟨RX2, "tellRoom", "(LNinthAir$Night;)Z"⟩
abbrev cX2_mayTell : ByteArray := prog_4_method_8_code
def yX2_mayTell : MethodName := ⟨RX2, "mayTell", "(Ljava/lang/String;LNinthAir$Night;II)Z"⟩
abbrev cX2_tellDoor : ByteArray := prog_4_method_9_code
def yX2_tellDoor : MethodName := ⟨RX2, "tellDoor", "(LNinthAir$Night;I)Z"⟩
abbrev cX2_tellCold : ByteArray := prog_4_method_10_code
def yX2_tellCold : MethodName := ⟨RX2, "tellCold", "(LNinthAir$Night;I)Z"⟩
abbrev cX2_isWord : ByteArray := prog_4_method_11_code
def yX2_isWord : MethodName := ⟨RX2, "isWord", "(Ljava/lang/String;)Z"⟩
abbrev cX2_isNumber : ByteArray := prog_4_method_12_code
def yX2_isNumber : MethodName := ⟨RX2, "isNumber", "(II)Z"⟩
abbrev cX2_step : ByteArray := prog_4_method_13_code
def yX2_step : MethodName := ⟨RX2, "step", "()V"⟩
abbrev cX2_tokenBegunBy : ByteArray := prog_4_method_14_code
def yX2_tokenBegunBy : MethodName := ⟨RX2, "tokenBegunBy", "(I)I"⟩
def RX3 : String := "NinthAir"
def TX3 : u_T := fun k => match k with
  | 0 => ("NinthAir", "night", "LNinthAir$Night;", true)
  | 1 => ("NinthAir", "kept", "LNinthAir$Night;", true)
  | 2 => ("NinthAir", "ahead", "LNinthAir$Night;", true)
  | 3 => ("NinthAir", "imageKept", "Z", false)
  | 4 => ("NinthAir", "tape", "LNinthAir$Tape;", true)
  | 5 => ("NinthAir", "sheets", "[LNinthAir$Sheet;", true)
  | _ => ("NinthAir", "answered", "[I", true)
def tyX3 : Nat → FieldType := fun k => match k with
  | 0 => .object "NinthAir$Night"
  | 1 => .object "NinthAir$Night"
  | 2 => .object "NinthAir$Night"
  | 3 => .boolean
  | 4 => .object "NinthAir$Tape"
  | 5 => .array (.object "NinthAir$Sheet")
  | _ => .array .int
theorem nmX3 : ∀ a, a < 7 → ∀ b, b < 7 → a ≠ b → (TX3 a).2.1 ≠ (TX3 b).2.1 := by decide +kernel
theorem tyX3_ok : ∀ k, k < 7 → parseFieldDescriptor (TX3 k).2.2.1 = some (tyX3 k) := by decide +kernel
abbrev cX3_init : ByteArray := prog_1_method_1_code
def yX3_init : MethodName := ⟨RX3, "<init>", "()V"⟩
abbrev cX3_room : ByteArray := prog_1_method_2_code
def yX3_room : MethodName := ⟨RX3, "room", "(III)I"⟩
abbrev cX3_roomOf : ByteArray := prog_1_method_3_code
def yX3_roomOf : MethodName := ⟨RX3, "roomOf", "(II)I"⟩
abbrev cX3_door : ByteArray := prog_1_method_4_code
def yX3_door : MethodName := ⟨RX3, "door", "(II)I"⟩
abbrev cX3_cold : ByteArray := prog_1_method_5_code
def yX3_cold : MethodName := ⟨RX3, "cold", "(I)I"⟩
abbrev cX3_one : ByteArray := prog_1_method_6_code
def yX3_one : MethodName := ⟨RX3, "one", "(II)I"⟩
abbrev cX3_of : ByteArray := prog_1_method_7_code
def yX3_of : MethodName := ⟨RX3, "of", "(II)I"⟩
abbrev cX3_set : ByteArray := prog_1_method_8_code
def yX3_set : MethodName := ⟨RX3, "set", "(III)I"⟩
abbrev cX3_turn : ByteArray := prog_1_method_9_code
def yX3_turn : MethodName := ⟨RX3, "turn", "(II)I"⟩
abbrev cX3_as : ByteArray := prog_1_method_10_code
def yX3_as : MethodName := ⟨RX3, "as", "(II)I"⟩
abbrev cX3_goes : ByteArray := prog_1_method_11_code
def yX3_goes : MethodName := ⟨RX3, "goes", "(I)I"⟩
abbrev cX3_hours : ByteArray := prog_1_method_12_code
def yX3_hours : MethodName := ⟨RX3, "hours", "(I)I"⟩
abbrev cX3_now : ByteArray := prog_1_method_13_code
def yX3_now : MethodName := ⟨RX3, "now", "(I)I"⟩
abbrev cX3_on : ByteArray := prog_1_method_14_code
def yX3_on : MethodName := ⟨RX3, "on", "(III)I"⟩
abbrev cX3_when : ByteArray := prog_1_method_15_code
def yX3_when : MethodName := ⟨RX3, "when", "(I)I"⟩
abbrev cX3_first : ByteArray := prog_1_method_16_code
def yX3_first : MethodName := ⟨RX3, "first", "()I"⟩
abbrev cX3_well : ByteArray := prog_1_method_17_code
def yX3_well : MethodName := ⟨RX3, "well", "()I"⟩
abbrev cX3_doors : ByteArray := prog_1_method_18_code
def yX3_doors : MethodName := ⟨RX3, "doors", "()I"⟩
abbrev cX3_shut : ByteArray := prog_1_method_19_code
def yX3_shut : MethodName := ⟨RX3, "shut", "(I)I"⟩
abbrev cX3_fire : ByteArray := prog_1_method_20_code
def yX3_fire : MethodName := ⟨RX3, "fire", "(II)I"⟩
abbrev cX3_fires : ByteArray := prog_1_method_21_code
def yX3_fires : MethodName := ⟨RX3, "fires", "(III)I"⟩
abbrev cX3_sleep : ByteArray := prog_1_method_22_code
def yX3_sleep : MethodName := ⟨RX3, "sleep", "(I)I"⟩
abbrev cX3_kind : ByteArray := prog_1_method_23_code
def yX3_kind : MethodName := ⟨RX3, "kind", "(II)I"⟩
abbrev cX3_costs : ByteArray := prog_1_method_24_code
def yX3_costs : MethodName := ⟨RX3, "costs", "(II)I"⟩
abbrev cX3_share : ByteArray := prog_1_method_25_code
def yX3_share : MethodName := ⟨RX3, "share", "(II)J"⟩
abbrev cX3_swept : ByteArray := prog_1_method_26_code
def yX3_swept : MethodName := ⟨RX3, "swept", "(I)I"⟩
abbrev cX3_sweeps : ByteArray := prog_1_method_27_code
def yX3_sweeps : MethodName := ⟨RX3, "sweeps", "(I)I"⟩
abbrev cX3_owed : ByteArray := prog_1_method_28_code
def yX3_owed : MethodName := ⟨RX3, "owed", "()I"⟩
abbrev cX3_leaked : ByteArray := prog_1_method_29_code
def yX3_leaked : MethodName := ⟨RX3, "leaked", "(III)I"⟩
abbrev cX3_feed : ByteArray := prog_1_method_30_code
def yX3_feed : MethodName := ⟨RX3, "feed", "(II)I"⟩
abbrev cX3_wipe : ByteArray := prog_1_method_31_code
def yX3_wipe : MethodName := ⟨RX3, "wipe", "()I"⟩
abbrev cX3_text : ByteArray := prog_1_method_32_code
def yX3_text : MethodName := ⟨RX3, "text", "()I"⟩
abbrev cX3_sheet : ByteArray := prog_1_method_33_code
def yX3_sheet : MethodName := ⟨RX3, "sheet", "(III)I"⟩
abbrev cX3_write : ByteArray := prog_1_method_34_code
def yX3_write : MethodName := ⟨RX3, "write", "(IIJ)J"⟩
abbrev cX3_copy : ByteArray := prog_1_method_35_code
def yX3_copy : MethodName := ⟨RX3, "copy", "(IIIII)I"⟩
abbrev cX3_lays : ByteArray := prog_1_method_36_code
def yX3_lays : MethodName := ⟨RX3, "lays", "(I)I"⟩
abbrev cX3_book : ByteArray := prog_1_method_37_code
def yX3_book : MethodName := ⟨RX3, "book", "(II)I"⟩
abbrev cX3_read : ByteArray := prog_1_method_38_code
def yX3_read : MethodName := ⟨RX3, "read", "(II)I"⟩
abbrev cX3_image : ByteArray := prog_1_method_39_code
def yX3_image : MethodName := ⟨RX3, "image", "()I"⟩
abbrev cX3_undo : ByteArray := prog_1_method_40_code
def yX3_undo : MethodName := ⟨RX3, "undo", "()I"⟩
abbrev cX3_tear : ByteArray := prog_1_method_41_code
def yX3_tear : MethodName := ⟨RX3, "tear", "()I"⟩
abbrev cX3_count : ByteArray := prog_1_method_42_code
def yX3_count : MethodName := ⟨RX3, "count", "(I)I"⟩
abbrev cX3_status : ByteArray := prog_1_method_43_code
def yX3_status : MethodName := ⟨RX3, "status", "(I)I"⟩
abbrev cX3_finding : ByteArray := prog_1_method_44_code
def yX3_finding : MethodName := ⟨RX3, "finding", "(I)I"⟩
abbrev cX3_nobody : ByteArray := prog_1_method_45_code
def yX3_nobody : MethodName := ⟨RX3, "nobody", "(I)Z"⟩
abbrev cX3_startAhead : ByteArray := prog_1_method_46_code
def yX3_startAhead : MethodName := ⟨RX3, "startAhead", "()LNinthAir$Night;"⟩
abbrev cX3_twoFiresDo : ByteArray := prog_1_method_47_code
def yX3_twoFiresDo : MethodName := ⟨RX3, "twoFiresDo", "(IIII)Z"⟩
abbrev cX3_outside : ByteArray := prog_1_method_48_code
def yX3_outside : MethodName := ⟨RX3, "outside", "(III)Z"⟩
abbrev cX3_noRoom : ByteArray := prog_1_method_49_code
def yX3_noRoom : MethodName := ⟨RX3, "noRoom", "(I)Z"⟩
abbrev cX3_noKind : ByteArray := prog_1_method_50_code
def yX3_noKind : MethodName := ⟨RX3, "noKind", "(I)Z"⟩
abbrev cX3_noSheet : ByteArray := prog_1_method_51_code
def yX3_noSheet : MethodName := ⟨RX3, "noSheet", "(I)Z"⟩
abbrev cX3_isKindOf : ByteArray := prog_1_method_52_code
def yX3_isKindOf : MethodName := ⟨RX3, "isKindOf", "(II)Z"⟩
abbrev cX3_has : ByteArray := prog_1_method_53_code
def yX3_has : MethodName := ⟨RX3, "has", "(II)Z"⟩
abbrev cX3_exchange : ByteArray := prog_1_method_54_code
def yX3_exchange : MethodName := ⟨RX3, "exchange", "([III)I"⟩
abbrev cX3_sum : ByteArray := prog_1_method_55_code
def yX3_sum : MethodName := ⟨RX3, "sum", "([II)I"⟩
def RX4 : String := "NinthAirModel"
def TX4 : u_T := fun k => match k with
  | 0 => ("NinthAirModel", "row", "[I", true)
  | 1 => ("NinthAirModel", "found", "[I", true)
  | 2 => ("NinthAirModel", "tried", "[I", true)
  | 3 => ("NinthAirModel", "tape", "[I", true)
  | 4 => ("NinthAirModel", "tapeMany", "I", false)
  | 5 => ("NinthAirModel", "sort", "I", false)
  | 6 => ("NinthAirModel", "begins", "I", false)
  | 7 => ("NinthAirModel", "tokenEnds", "I", false)
  | 8 => ("NinthAirModel", "word", "J", false)
  | 9 => ("NinthAirModel", "value", "I", false)
  | 10 => ("NinthAirModel", "good", "Z", false)
  | 11 => ("NinthAirModel", "bitsOf", "[I", true)
  | 12 => ("NinthAirModel", "sizeOf", "[I", true)
  | 13 => ("NinthAirModel", "sheets", "[J", true)
  | 14 => ("NinthAirModel", "lent", "[J", true)
  | 15 => ("NinthAirModel", "image", "[I", true)
  | 16 => ("NinthAirModel", "before", "[I", true)
  | _ => ("NinthAirModel", "isKept", "Z", false)
def tyX4 : Nat → FieldType := fun k => match k with
  | 0 => .array .int
  | 1 => .array .int
  | 2 => .array .int
  | 3 => .array .int
  | 4 => .int
  | 5 => .int
  | 6 => .int
  | 7 => .int
  | 8 => .long
  | 9 => .int
  | 10 => .boolean
  | 11 => .array .int
  | 12 => .array .int
  | 13 => .array .long
  | 14 => .array .long
  | 15 => .array .int
  | 16 => .array .int
  | _ => .boolean
theorem nmX4 : ∀ a, a < 18 → ∀ b, b < 18 → a ≠ b → (TX4 a).2.1 ≠ (TX4 b).2.1 := by decide +kernel
theorem tyX4_ok : ∀ k, k < 18 → parseFieldDescriptor (TX4 k).2.2.1 = some (tyX4 k) := by decide +kernel
abbrev cX4_init : ByteArray := prog_6_method_1_code
def yX4_init : MethodName := ⟨RX4, "<init>", "()V"⟩
abbrev cX4_in : ByteArray := prog_6_method_2_code
def yX4_in : MethodName := ⟨RX4, "in", "(III)Z"⟩
abbrev cX4_finds : ByteArray := prog_6_method_3_code
def yX4_finds : MethodName := ⟨RX4, "finds", "(I)I"⟩
abbrev cX4_has : ByteArray := prog_6_method_4_code
def yX4_has : MethodName := ⟨RX4, "has", "(II)Z"⟩
abbrev cX4_bits : ByteArray := prog_6_method_5_code
def yX4_bits : MethodName := ⟨RX4, "bits", "(I)I"⟩
abbrev cX4_its : ByteArray := prog_6_method_6_code
def yX4_its : MethodName := ⟨RX4, "its", "(II)I"⟩
abbrev cX4_puts : ByteArray := prog_6_method_7_code
def yX4_puts : MethodName := ⟨RX4, "puts", "(III)V"⟩
abbrev cX4_there : ByteArray := prog_6_method_8_code
def yX4_there : MethodName := ⟨RX4, "there", "(II)I"⟩
abbrev cX4_lies : ByteArray := prog_6_method_9_code
def yX4_lies : MethodName := ⟨RX4, "lies", "(III)V"⟩
abbrev cX4_isOne : ByteArray := prog_6_method_10_code
def yX4_isOne : MethodName := ⟨RX4, "isOne", "(I)Z"⟩
abbrev cX4_isRoom : ByteArray := prog_6_method_11_code
def yX4_isRoom : MethodName := ⟨RX4, "isRoom", "(I)Z"⟩
abbrev cX4_isKind : ByteArray := prog_6_method_12_code
def yX4_isKind : MethodName := ⟨RX4, "isKind", "(I)Z"⟩
abbrev cX4_isSpan : ByteArray := prog_6_method_13_code
def yX4_isSpan : MethodName := ⟨RX4, "isSpan", "(I)Z"⟩
abbrev cX4_isTold : ByteArray := prog_6_method_14_code
def yX4_isTold : MethodName := ⟨RX4, "isTold", "(II)Z"⟩
abbrev cX4_room : ByteArray := prog_6_method_15_code
def yX4_room : MethodName := ⟨RX4, "room", "(III)I"⟩
abbrev cX4_inside : ByteArray := prog_6_method_16_code
def yX4_inside : MethodName := ⟨RX4, "inside", "(I)I"⟩
abbrev cX4_breathedIn : ByteArray := prog_6_method_17_code
def yX4_breathedIn : MethodName := ⟨RX4, "breathedIn", "(I)I"⟩
abbrev cX4_roomOf : ByteArray := prog_6_method_18_code
def yX4_roomOf : MethodName := ⟨RX4, "roomOf", "(II)I"⟩
abbrev cX4_opens : ByteArray := prog_6_method_19_code
def yX4_opens : MethodName := ⟨RX4, "opens", "(II)V"⟩
abbrev cX4_door : ByteArray := prog_6_method_20_code
def yX4_door : MethodName := ⟨RX4, "door", "(II)I"⟩
abbrev cX4_cold : ByteArray := prog_6_method_21_code
def yX4_cold : MethodName := ⟨RX4, "cold", "(I)I"⟩
abbrev cX4_addOne : ByteArray := prog_6_method_22_code
def yX4_addOne : MethodName := ⟨RX4, "addOne", "(III)V"⟩
abbrev cX4_one : ByteArray := prog_6_method_23_code
def yX4_one : MethodName := ⟨RX4, "one", "(II)I"⟩
abbrev cX4_singers : ByteArray := prog_6_method_24_code
def yX4_singers : MethodName := ⟨RX4, "singers", "(I)I"⟩
abbrev cX4_breathes : ByteArray := prog_6_method_25_code
def yX4_breathes : MethodName := ⟨RX4, "breathes", "(I)I"⟩
abbrev cX4_of : ByteArray := prog_6_method_26_code
def yX4_of : MethodName := ⟨RX4, "of", "(II)I"⟩
abbrev cX4_set : ByteArray := prog_6_method_27_code
def yX4_set : MethodName := ⟨RX4, "set", "(III)I"⟩
abbrev cX4_turn : ByteArray := prog_6_method_28_code
def yX4_turn : MethodName := ⟨RX4, "turn", "(II)I"⟩
abbrev cX4_as : ByteArray := prog_6_method_29_code
def yX4_as : MethodName := ⟨RX4, "as", "(II)I"⟩
abbrev cX4_leaves : ByteArray := prog_6_method_30_code
def yX4_leaves : MethodName := ⟨RX4, "leaves", "(I)V"⟩
abbrev cX4_goes : ByteArray := prog_6_method_31_code
def yX4_goes : MethodName := ⟨RX4, "goes", "(I)I"⟩
abbrev cX4_freezes : ByteArray := prog_6_method_32_code
def yX4_freezes : MethodName := ⟨RX4, "freezes", "(I)V"⟩
abbrev cX4_thaws : ByteArray := prog_6_method_33_code
def yX4_thaws : MethodName := ⟨RX4, "thaws", "(I)V"⟩
abbrev cX4_draughts : ByteArray := prog_6_method_34_code
def yX4_draughts : MethodName := ⟨RX4, "draughts", "(I)V"⟩
abbrev cX4_breathe : ByteArray := prog_6_method_35_code
def yX4_breathe : MethodName := ⟨RX4, "breathe", "(I)V"⟩
abbrev cX4_oneHour : ByteArray := prog_6_method_36_code
def yX4_oneHour : MethodName := ⟨RX4, "oneHour", "()V"⟩
abbrev cX4_sumOf : ByteArray := prog_6_method_37_code
def yX4_sumOf : MethodName := ⟨RX4, "sumOf", "(I)I"⟩
abbrev cX4_stifled : ByteArray := prog_6_method_38_code
def yX4_stifled : MethodName := ⟨RX4, "stifled", "()I"⟩
abbrev cX4_allBreathe : ByteArray := prog_6_method_39_code
def yX4_allBreathe : MethodName := ⟨RX4, "allBreathe", "()I"⟩
abbrev cX4_hours : ByteArray := prog_6_method_40_code
def yX4_hours : MethodName := ⟨RX4, "hours", "(I)I"⟩
abbrev cX4_now : ByteArray := prog_6_method_41_code
def yX4_now : MethodName := ⟨RX4, "now", "(I)I"⟩
abbrev cX4_passes : ByteArray := prog_6_method_42_code
def yX4_passes : MethodName := ⟨RX4, "passes", "(I)V"⟩
abbrev cX4_on : ByteArray := prog_6_method_43_code
def yX4_on : MethodName := ⟨RX4, "on", "(III)I"⟩
abbrev cX4_untilOf : ByteArray := prog_6_method_44_code
def yX4_untilOf : MethodName := ⟨RX4, "untilOf", "(I)I"⟩
abbrev cX4_when : ByteArray := prog_6_method_45_code
def yX4_when : MethodName := ⟨RX4, "when", "(I)I"⟩
abbrev cX4_wellOnes : ByteArray := prog_6_method_46_code
def yX4_wellOnes : MethodName := ⟨RX4, "wellOnes", "()I"⟩
abbrev cX4_first : ByteArray := prog_6_method_47_code
def yX4_first : MethodName := ⟨RX4, "first", "()I"⟩
abbrev cX4_wellFor : ByteArray := prog_6_method_48_code
def yX4_wellFor : MethodName := ⟨RX4, "wellFor", "()I"⟩
abbrev cX4_well : ByteArray := prog_6_method_49_code
def yX4_well : MethodName := ⟨RX4, "well", "()I"⟩
abbrev cX4_doors : ByteArray := prog_6_method_50_code
def yX4_doors : MethodName := ⟨RX4, "doors", "()I"⟩
abbrev cX4_stifledOn : ByteArray := prog_6_method_51_code
def yX4_stifledOn : MethodName := ⟨RX4, "stifledOn", "(I)I"⟩
abbrev cX4_shut : ByteArray := prog_6_method_52_code
def yX4_shut : MethodName := ⟨RX4, "shut", "(I)I"⟩
abbrev cX4_isWell : ByteArray := prog_6_method_53_code
def yX4_isWell : MethodName := ⟨RX4, "isWell", "(I)Z"⟩
abbrev cX4_fire : ByteArray := prog_6_method_54_code
def yX4_fire : MethodName := ⟨RX4, "fire", "(II)I"⟩
abbrev cX4_fires : ByteArray := prog_6_method_55_code
def yX4_fires : MethodName := ⟨RX4, "fires", "(III)I"⟩
abbrev cX4_sleep : ByteArray := prog_6_method_56_code
def yX4_sleep : MethodName := ⟨RX4, "sleep", "(I)I"⟩
abbrev cX4_kind : ByteArray := prog_6_method_57_code
def yX4_kind : MethodName := ⟨RX4, "kind", "(II)I"⟩
abbrev cX4_costs : ByteArray := prog_6_method_58_code
def yX4_costs : MethodName := ⟨RX4, "costs", "(II)I"⟩
abbrev cX4_product : ByteArray := prog_6_method_59_code
def yX4_product : MethodName := ⟨RX4, "product", "(I)J"⟩
abbrev cX4_greatest : ByteArray := prog_6_method_60_code
def yX4_greatest : MethodName := ⟨RX4, "greatest", "(I)I"⟩
abbrev cX4_share : ByteArray := prog_6_method_61_code
def yX4_share : MethodName := ⟨RX4, "share", "(II)J"⟩
abbrev cX4_frostOf : ByteArray := prog_6_method_62_code
def yX4_frostOf : MethodName := ⟨RX4, "frostOf", "(I)I"⟩
abbrev cX4_swept : ByteArray := prog_6_method_63_code
def yX4_swept : MethodName := ⟨RX4, "swept", "(I)I"⟩
abbrev cX4_sweeps : ByteArray := prog_6_method_64_code
def yX4_sweeps : MethodName := ⟨RX4, "sweeps", "(I)I"⟩
abbrev cX4_owed : ByteArray := prog_6_method_65_code
def yX4_owed : MethodName := ⟨RX4, "owed", "()I"⟩
abbrev cX4_leaked : ByteArray := prog_6_method_66_code
def yX4_leaked : MethodName := ⟨RX4, "leaked", "(III)I"⟩
abbrev cX4_feed : ByteArray := prog_6_method_67_code
def yX4_feed : MethodName := ⟨RX4, "feed", "(II)I"⟩
abbrev cX4_wipe : ByteArray := prog_6_method_68_code
def yX4_wipe : MethodName := ⟨RX4, "wipe", "()I"⟩
abbrev cX4_byteAt : ByteArray := prog_6_method_69_code
def yX4_byteAt : MethodName := ⟨RX4, "byteAt", "(I)I"⟩
abbrev cX4_isLetter : ByteArray := prog_6_method_70_code
def yX4_isLetter : MethodName := ⟨RX4, "isLetter", "(I)Z"⟩
abbrev cX4_isDigit : ByteArray := prog_6_method_71_code
def yX4_isDigit : MethodName := ⟨RX4, "isDigit", "(I)Z"⟩
abbrev cX4_advance : ByteArray := prog_6_method_72_code
def yX4_advance : MethodName := ⟨RX4, "advance", "()V"⟩
abbrev cX4_isWord : ByteArray := prog_6_method_73_code
def yX4_isWord : MethodName := ⟨RX4, "isWord", "(J)Z"⟩
abbrev cX4_kindHere : ByteArray := prog_6_method_74_code
def yX4_kindHere : MethodName := ⟨RX4, "kindHere", "()I"⟩
abbrev cX4_wantNumber : ByteArray := prog_6_method_75_code
def yX4_wantNumber : MethodName := ⟨RX4, "wantNumber", "(II)I"⟩
abbrev cX4_mayWant : ByteArray := prog_6_method_76_code
def yX4_mayWant : MethodName := ⟨RX4, "mayWant", "(JIII)I"⟩
abbrev cX4_wantOne : ByteArray := prog_6_method_77_code
def yX4_wantOne : MethodName := ⟨RX4, "wantOne", "(I)V"⟩
abbrev cX4_wantRoom : ByteArray := prog_6_method_78_code
def yX4_wantRoom : MethodName := ⟨RX4, "wantRoom", "()V"⟩
abbrev cX4_wantDoor : ByteArray := prog_6_method_79_code
def yX4_wantDoor : MethodName := ⟨RX4, "wantDoor", "(I)V"⟩
abbrev cX4_wantItem : ByteArray := prog_6_method_80_code
def yX4_wantItem : MethodName := ⟨RX4, "wantItem", "()V"⟩
abbrev cX4_text : ByteArray := prog_6_method_81_code
def yX4_text : MethodName := ⟨RX4, "text", "()I"⟩
abbrev cX4_isSheet : ByteArray := prog_6_method_82_code
def yX4_isSheet : MethodName := ⟨RX4, "isSheet", "(I)Z"⟩
abbrev cX4_narrow : ByteArray := prog_6_method_83_code
def yX4_narrow : MethodName := ⟨RX4, "narrow", "(IJ)J"⟩
abbrev cX4_sheet : ByteArray := prog_6_method_84_code
def yX4_sheet : MethodName := ⟨RX4, "sheet", "(III)I"⟩
abbrev cX4_write : ByteArray := prog_6_method_85_code
def yX4_write : MethodName := ⟨RX4, "write", "(IIJ)J"⟩
abbrev cX4_isPart : ByteArray := prog_6_method_86_code
def yX4_isPart : MethodName := ⟨RX4, "isPart", "(III)Z"⟩
abbrev cX4_copy : ByteArray := prog_6_method_87_code
def yX4_copy : MethodName := ⟨RX4, "copy", "(IIIII)I"⟩
abbrev cX4_badSheet : ByteArray := prog_6_method_88_code
def yX4_badSheet : MethodName := ⟨RX4, "badSheet", "(I)I"⟩
abbrev cX4_lays : ByteArray := prog_6_method_89_code
def yX4_lays : MethodName := ⟨RX4, "lays", "(I)I"⟩
abbrev cX4_book : ByteArray := prog_6_method_90_code
def yX4_book : MethodName := ⟨RX4, "book", "(II)I"⟩
abbrev cX4_isSo : ByteArray := prog_6_method_91_code
def yX4_isSo : MethodName := ⟨RX4, "isSo", "(II)Z"⟩
abbrev cX4_read : ByteArray := prog_6_method_92_code
def yX4_read : MethodName := ⟨RX4, "read", "(II)I"⟩
abbrev cX4_moveAll : ByteArray := prog_6_method_93_code
def yX4_moveAll : MethodName := ⟨RX4, "moveAll", "(Z[I)V"⟩
abbrev cX4_image : ByteArray := prog_6_method_94_code
def yX4_image : MethodName := ⟨RX4, "image", "()I"⟩
abbrev cX4_undo : ByteArray := prog_6_method_95_code
def yX4_undo : MethodName := ⟨RX4, "undo", "()I"⟩
abbrev cX4_tear : ByteArray := prog_6_method_96_code
def yX4_tear : MethodName := ⟨RX4, "tear", "()I"⟩
abbrev cX4_count : ByteArray := prog_6_method_97_code
def yX4_count : MethodName := ⟨RX4, "count", "(I)I"⟩
abbrev cX4_status : ByteArray := prog_6_method_98_code
def yX4_status : MethodName := ⟨RX4, "status", "(I)I"⟩
def RJ6 : String := "java/lang/Integer"
abbrev cJ6_numberOfTrailingZeros_0f7a4 : ByteArray := prog_7_method_48_code
def yJ6_numberOfTrailingZeros_0f7a4 : MethodName := ⟨RJ6, "numberOfTrailingZeros", "(I)I"⟩
abbrev cJ6_bitCount_0f7a4 : ByteArray := prog_7_method_49_code
def yJ6_bitCount_0f7a4 : MethodName := ⟨RJ6, "bitCount", "(I)I"⟩
def RJ9 : String := "java/lang/Math"
abbrev cJ9_max_7cf53 : ByteArray := prog_8_method_65_code
def yJ9_max_7cf53 : MethodName := ⟨RJ9, "max", "(II)I"⟩
abbrev cJ9_min_7cf53 : ByteArray := prog_8_method_69_code
def yJ9_min_7cf53 : MethodName := ⟨RJ9, "min", "(II)I"⟩
def RJ0 : String := "java/lang/String"
abbrev cJ0_length_8abf5 : ByteArray := prog_9_method_54_code
def yJ0_length_8abf5 : MethodName := ⟨RJ0, "length", "()I"⟩
abbrev cJ0_charAt_5068e : ByteArray := prog_9_method_56_code
def yJ0_charAt_5068e : MethodName := ⟨RJ0, "charAt", "(I)C"⟩
abbrev cJ0_coder_7d493 : ByteArray := prog_9_method_152_code
def yJ0_coder_7d493 : MethodName := ⟨RJ0, "coder", "()B"⟩
abbrev cJ0_isLatin1_aae02 : ByteArray := prog_9_method_154_code
def yJ0_isLatin1_aae02 : MethodName := ⟨RJ0, "isLatin1", "()Z"⟩
abbrev cJ0_checkIndex_df160 : ByteArray := prog_9_method_155_code
def yJ0_checkIndex_df160 : MethodName := ⟨RJ0, "checkIndex", "(II)V"⟩
def RJ1 : String := "java/lang/StringLatin1"
abbrev cJ1_charAt_3b067 : ByteArray := prog_10_method_2_code
def yJ1_charAt_3b067 : MethodName := ⟨RJ1, "charAt", "([BI)C"⟩
def RJ2 : String := "java/lang/StringUTF16"
abbrev cJ2_getChar_3b067 : ByteArray := prog_11_method_5_code
def yJ2_getChar_3b067 : MethodName := ⟨RJ2, "getChar", "([BI)C"⟩
abbrev cJ2_length_9d52b : ByteArray := prog_11_method_6_code
def yJ2_length_9d52b : MethodName := ⟨RJ2, "length", "([B)I"⟩
abbrev cJ2_charAt_3b067 : ByteArray := prog_11_method_83_code
def yJ2_charAt_3b067 : MethodName := ⟨RJ2, "charAt", "([BI)C"⟩
abbrev cJ2_checkIndex_2214a : ByteArray := prog_11_method_91_code
def yJ2_checkIndex_2214a : MethodName := ⟨RJ2, "checkIndex", "(I[B)V"⟩
def RJ10 : String := "java/lang/System"
def RJ3 : String := "jdk/internal/util/Preconditions"
abbrev cJ3_checkIndex_8e157 : ByteArray := prog_13_method_11_code
def yJ3_checkIndex_8e157 : MethodName := ⟨RJ3, "checkIndex", "(IILjava/util/function/BiFunction;)I"⟩
def RL : String := "NinthAirLaw"
abbrev cL_law : ByteArray := code
def yL_law : MethodName := ⟨RL, "law", "([I)Z"⟩
abbrev vwCl : List vw_C := [(RX0, TX0, 13), (RX1, TX1, 3), (RX2, TX2, 6), (RX3, TX3, 7), (RX4, TX4, 18)]
end
section
/-! THE SMALL MACHINE. A memory of ints I and a memory of longs J, by places; places 0 to 53 are the cells of the class and of the reference, read-only places lie above.
na_stp: what one instruction asks of the memory, goal first; na_wp: a stretch of instructions; both are tied to W in part 03. -/
abbrev Mm : Type := Nat → Nat → Int32
abbrev Ml : Type := Nat → Nat → Int64
abbrev Lo : Type := List (Option Value)
/-- what a cell is: an array (0 ints, 1 longs, 2 the row of sheets; its length) or an object (its class, its fields: 0 an int, 1 a long, n + 2 the cell at place n) -/
abbrev Ly : Type := (Nat × Nat) ⊕ (Nat × List Nat)
/-- an instruction: where it stands, its length, itself, hints (numbers, for the check), its constants -/
abbrev En : Type := Nat × Nat × Instr × List Nat × Int32 × Int64
def jmin (x y : Int32) : Int32 := if y < x then y else x
def jmax (x y : Int32) : Int32 := if x < y then y else x
def na_set (I : Mm) (k j : Nat) (v : Int32) : Mm := fun a => if a = k then upd (I k) j v else I a
def na_setL (J : Ml) (k j : Nat) (v : Int64) : Ml := fun a => if a = k then vp_updL (J k) j v else J a
def na_cpI (I : Mm) (a d sp dp n : Nat) : Mm := fun b => if b = d then va_cpy (I a) (I d) sp dp n else I b
def na_cpL (J : Ml) (a d sp dp n : Nat) : Ml := fun b => if b = d then va_cpy (J a) (J d) sp dp n else J b
def na_nth {α : Type} : List α → Nat → Option α
  | [], _ => none
  | a :: _, 0 => some a
  | _ :: r, n + 1 => na_nth r n
def na_dr {α : Type} : Nat → List α → List α
  | 0, l => l
  | _ + 1, [] => []
  | n + 1, _ :: r => na_dr n r
/-- places: 0 the class; 1, 11, 21 its three nights (night, kept, ahead), each an object and nine rows; 31, 32 the tape; 33 the row of sheets; 34 .. 41 four sheets, each an object and its numbers; 42 answered; 43 the reference; 44 .. 53 its rows -/
def na_lay : List Ly :=
  [.inr (3, [3, 13, 23, 0, 33, 35, 44]),
   .inr (0, [4, 5, 6, 7, 0, 0, 0, 0, 8, 9, 10, 11, 12]), .inl (0, 8), .inl (0, 8), .inl (0, 8), .inl (0, 8), .inl (0, 8), .inl (0, 8), .inl (0, 8), .inl (0, 8), .inl (0, 8),
   .inr (0, [14, 15, 16, 17, 0, 0, 0, 0, 18, 19, 20, 21, 22]), .inl (0, 8), .inl (0, 8), .inl (0, 8), .inl (0, 8), .inl (0, 8), .inl (0, 8), .inl (0, 8), .inl (0, 8), .inl (0, 8),
   .inr (0, [24, 25, 26, 27, 0, 0, 0, 0, 28, 29, 30, 31, 32]), .inl (0, 8), .inl (0, 8), .inl (0, 8), .inl (0, 8), .inl (0, 8), .inl (0, 8), .inl (0, 8), .inl (0, 8), .inl (0, 8),
   .inr (2, [34, 0, 0, 0, 0, 0]), .inl (0, 120),
   .inl (2, 4),
   .inr (1, [37, 0, 0]), .inl (1, 40), .inr (1, [39, 0, 0]), .inl (1, 40), .inr (1, [41, 0, 0]), .inl (1, 40), .inr (1, [43, 0, 0]), .inl (1, 40),
   .inl (0, 7),
   .inr (4, [46, 47, 48, 49, 0, 0, 0, 0, 1, 0, 0, 50, 51, 52, 53, 54, 55, 0]), .inl (0, 76), .inl (0, 7), .inl (0, 76), .inl (0, 120), .inl (0, 4), .inl (0, 4), .inl (1, 160), .inl (1, 40), .inl (0, 76), .inl (0, 76)]

/-- the place of sheet j -/
def na_shp (j : Nat) : Nat := 34 + 2 * j
/-- a value of the small machine in the true one: places become addresses; 90 is a value that nobody asks for -/
def na_tv (ad : Nat → Nat) (fm : Value) : Value → Value
  | .ref a => if a = 90 then fm else .ref (ad a)
  | v => v
def na_fw (I : Mm) (J : Ml) (k j : Nat) : Nat → Value
  | 0 => .int (I k j)
  | 1 => .long (J k j)
  | n + 2 => .ref n
def na_fv (ad : Nat → Nat) (I : Mm) (J : Ml) (k j : Nat) : Nat → Value
  | 0 => .int (I k j)
  | 1 => .long (J k j)
  | n + 2 => .ref (ad n)
def na_fs (ad : Nat → Nat) (I : Mm) (J : Ml) (k : Nat) : Nat → List Nat → List Value
  | _, [] => []
  | j, c :: r => na_fv ad I J k j c :: na_fs ad I J k (j + 1) r
def na_ce (ca ad : Nat → Nat) (I : Mm) (J : Ml) (k : Nat) (e : Ly) : va_E := match e with
  | .inl (0, n) => .inl (ca 0, n, .inl (I k))
  | .inl (1, n) => .inl (ca 1, n, .inr (.inl (J k)))
  | .inl (_ + 2, n) => .inl (ca 2, n, .inr (.inr (.inr (.inr (fun j => some (ad (na_shp j)))))))
  | .inr (c, fs) => .inr (c, na_fs ad I J k 0 fs)
def na_ws (ca ad : Nat → Nat) (I : Mm) (J : Ml) : Nat → List Ly → va_W
  | _, [] => []
  | k, e :: r => (ad k, na_ce ca ad I J k e) :: na_ws ca ad I J (k + 1) r
/-! read-only places: 60 .. 64 the class's tables, 70 the script, 100 .. 116 the words, 120 .. 136 their letters -/
def na_lst (l : List Int32) : Nat → Int32 := fun j => l.getD j 0
def na_sa (sx : Nat × (Nat → Int32)) : Nat → Option (Nat × (Nat → Int32))
  | 60 => some (4, na_lst [9999, 9999, 99, 9])
  | 61 => some (5, na_lst [0, 0, 1, 0, 0])
  | 62 => some (5, na_lst [5, 7, 20, 999, 1])
  | 63 => some (6, na_lst [-1, 0, 0, 0, 1, 2])
  | 64 => some (7, na_lst [1, 1, 2, 6, 24, 120, 720])
  | 70 => some sx
  | _ => none
def na_wd : List (Nat × String × List Int32) :=
  [(66, "person", [112, 101, 114, 115, 111, 110]), (68, "dancer", [100, 97, 110, 99, 101, 114]), (70, "sleeper", [115, 108, 101, 101, 112, 101, 114]), (72, "holder", [104, 111, 108, 100, 101, 114]), (74, "choir", [99, 104, 111, 105, 114]), (76, "dreamer", [100, 114, 101, 97, 109, 101, 114]),
   (84, "in", [105, 110]), (93, "need", [110, 101, 101, 100]), (43, "room", [114, 111, 111, 109]), (99, "air", [97, 105, 114]), (105, "frost", [102, 114, 111, 115, 116]), (107, "fire", [102, 105, 114, 101]), (109, "tight", [116, 105, 103, 104, 116]), (52, "open", [111, 112, 101, 110]), (57, "shut", [115, 104, 117, 116]), (59, "cold", [99, 111, 108, 100]), (64, "mild", [109, 105, 108, 100])]
/-- the letters of the word at place 120 + i -/
def na_sb (a : Nat) : Option (Nat × (Nat → Int32)) := if a < 120 then none else match na_nth na_wd (a - 120) with
  | some w => some (w.2.2.length, na_lst w.2.2)
  | none => none
def na_st : List (String × String × String × Value) :=
  [(RX3, "MOST_OF_ROOM", "[I", .ref 60), (RX3, "LEAST_OF_ONE", "[I", .ref 61), (RX3, "MOST_OF_ONE", "[I", .ref 62), (RX3, "UNDER", "[I", .ref 63), (RX3, "ORDERS", "[I", .ref 64), (RJ0, "COMPACT_STRINGS", "Z", .int 1), (RJ3, "SIOOBE_FORMATTER", "Ljava/util/function/BiFunction;", .ref 90)]
/-! the stack and the locals -/
def na_pI (st : List Value) (k : Int32 → List Value → Prop) : Prop := match st with
  | .int x :: r => k x r
  | _ => False
def na_pL (st : List Value) (k : Int64 → List Value → Prop) : Prop := match st with
  | .long x :: r => k x r
  | _ => False
def na_pR (st : List Value) (k : Nat → List Value → Prop) : Prop := match st with
  | .ref x :: r => k x r
  | _ => False
def na_p1 (st : List Value) (k : Value → List Value → Prop) : Prop := match st with
  | .int x :: r => k (.int x) r
  | .ref x :: r => k (.ref x) r
  | _ => False
def na_ld (l : Option (Option Value)) (k : Value → Prop) : Prop := match l with
  | some (some v) => k v
  | _ => False
/-- a store; the long that it cuts in two is gone -/
def na_s1 : Lo → Nat → Value → Lo
  | [], _, _ => []
  | _ :: r, 0, v => some v :: r
  | x :: r, 1, v => (match x with
    | some (.long _) => none
    | some (.double _) => none
    | y => y) :: na_s1 r 0 v
  | x :: r, i + 2, v => x :: na_s1 r (i + 1) v
def na_n1 : Lo → Lo
  | [] => []
  | _ :: r => none :: r
def na_s2 : Lo → Nat → Value → Lo
  | [], _, _ => []
  | _ :: r, 0, v => some v :: na_n1 r
  | x :: r, 1, v => (match x with
    | some (.long _) => none
    | some (.double _) => none
    | y => y) :: na_s2 r 0 v
  | x :: r, i + 2, v => x :: na_s2 r (i + 1) v
def na_tk : Nat → List Value → List Value → (List Value → List Value → Prop) → Prop
  | 0, acc, st, k => k acc st
  | n + 1, acc, v :: st, k => na_tk n (v :: acc) st k
  | _ + 1, _, [], _ => False
def na_cat (st : List Value) : Nat := (st.map fun v => v.category).sum
def na_nl (ty : FieldType) (v : Int32) : Prop := match ty with
  | .int => True
  | t => narrow t (.int v) = .int v
def na_h0 (h : List Nat) : Nat := match h with
  | [] => 0
  | a :: _ => a
def na_h1 (h : List Nat) : Nat := na_h0 h.tail
def na_h2 (h : List Nat) : Nat := na_h0 h.tail.tail
/-- an int row at a place: its length, its numbers -/
def na_ar (sx : Nat × (Nat → Int32)) (I : Mm) (a : Nat) (k : Nat → (Nat → Int32) → Prop) : Prop := match na_nth na_lay a with
  | some (.inl (0, n)) => k n (I a)
  | some _ => False
  | none => match na_sa sx a with
    | some q => k q.1 q.2
    | none => False
end
section
/-! the methods, by numbers: name, bytes, locals, what it answers, frames and words that it needs (by program) -/
abbrev MI : Type := MethodName × ByteArray × Nat × Option FieldType × Nat × Nat
abbrev MX0_become : Nat := 0
abbrev MX0_rowOfRooms : Nat := 1
abbrev MX0_rowOfPeople : Nat := 2
abbrev MX0_turnDoor : Nat := 3
abbrev MX0_isFull : Nat := 4
abbrev MX0_add : Nat := 5
abbrev MX0_remove : Nat := 6
abbrev MX0_peopleIn : Nat := 7
abbrev MX0_stifledSet : Nat := 8
abbrev MX0_breathIn : Nat := 9
abbrev MX0_greatestBreathIn : Nat := 10
abbrev MX0_frostIn : Nat := 11
abbrev MX0_breathOf : Nat := 12
abbrev MX0_otherVoices : Nat := 13
abbrev MX0_passHours : Nat := 14
abbrev MX0_passHour : Nat := 15
abbrev MX0_freeze : Nat := 16
abbrev MX0_burn : Nat := 17
abbrev MX0_mix : Nat := 18
abbrev MX0_breathe : Nat := 19
abbrev MX0_wellHours : Nat := 20
abbrev MX0_stifledAfter : Nat := 21
abbrev MX0_goesAsTold : Nat := 22
abbrev MX1_isMissing : Nat := 23
abbrev MX1_start : Nat := 24
abbrev MX1_put : Nat := 25
abbrev MX1_hasStretch : Nat := 26
abbrev MX2_append : Nat := 27
abbrev MX2_tell : Nat := 28
abbrev MX2_tellItem : Nat := 29
abbrev MX2_kindNamed : Nat := 30
abbrev MX2_tellOne : Nat := 31
abbrev MX2_tellRoom : Nat := 32
abbrev MX2_mayTell : Nat := 33
abbrev MX2_tellDoor : Nat := 34
abbrev MX2_tellCold : Nat := 35
abbrev MX2_isWord : Nat := 36
abbrev MX2_isNumber : Nat := 37
abbrev MX2_step : Nat := 38
abbrev MX2_tokenBegunBy : Nat := 39
abbrev MX3_room : Nat := 40
abbrev MX3_roomOf : Nat := 41
abbrev MX3_door : Nat := 42
abbrev MX3_cold : Nat := 43
abbrev MX3_one : Nat := 44
abbrev MX3_of : Nat := 45
abbrev MX3_set : Nat := 46
abbrev MX3_turn : Nat := 47
abbrev MX3_as : Nat := 48
abbrev MX3_goes : Nat := 49
abbrev MX3_hours : Nat := 50
abbrev MX3_now : Nat := 51
abbrev MX3_on : Nat := 52
abbrev MX3_when : Nat := 53
abbrev MX3_first : Nat := 54
abbrev MX3_well : Nat := 55
abbrev MX3_doors : Nat := 56
abbrev MX3_shut : Nat := 57
abbrev MX3_fire : Nat := 58
abbrev MX3_fires : Nat := 59
abbrev MX3_sleep : Nat := 60
abbrev MX3_kind : Nat := 61
abbrev MX3_costs : Nat := 62
abbrev MX3_share : Nat := 63
abbrev MX3_swept : Nat := 64
abbrev MX3_sweeps : Nat := 65
abbrev MX3_owed : Nat := 66
abbrev MX3_leaked : Nat := 67
abbrev MX3_feed : Nat := 68
abbrev MX3_wipe : Nat := 69
abbrev MX3_text : Nat := 70
abbrev MX3_sheet : Nat := 71
abbrev MX3_write : Nat := 72
abbrev MX3_copy : Nat := 73
abbrev MX3_lays : Nat := 74
abbrev MX3_book : Nat := 75
abbrev MX3_read : Nat := 76
abbrev MX3_image : Nat := 77
abbrev MX3_undo : Nat := 78
abbrev MX3_tear : Nat := 79
abbrev MX3_count : Nat := 80
abbrev MX3_status : Nat := 81
abbrev MX3_finding : Nat := 82
abbrev MX3_nobody : Nat := 83
abbrev MX3_startAhead : Nat := 84
abbrev MX3_twoFiresDo : Nat := 85
abbrev MX3_outside : Nat := 86
abbrev MX3_noRoom : Nat := 87
abbrev MX3_noKind : Nat := 88
abbrev MX3_noSheet : Nat := 89
abbrev MX3_isKindOf : Nat := 90
abbrev MX3_has : Nat := 91
abbrev MX3_exchange : Nat := 92
abbrev MX3_sum : Nat := 93
abbrev MX4_in : Nat := 94
abbrev MX4_finds : Nat := 95
abbrev MX4_has : Nat := 96
abbrev MX4_bits : Nat := 97
abbrev MX4_its : Nat := 98
abbrev MX4_puts : Nat := 99
abbrev MX4_there : Nat := 100
abbrev MX4_lies : Nat := 101
abbrev MX4_isOne : Nat := 102
abbrev MX4_isRoom : Nat := 103
abbrev MX4_isKind : Nat := 104
abbrev MX4_isSpan : Nat := 105
abbrev MX4_isTold : Nat := 106
abbrev MX4_room : Nat := 107
abbrev MX4_inside : Nat := 108
abbrev MX4_breathedIn : Nat := 109
abbrev MX4_roomOf : Nat := 110
abbrev MX4_opens : Nat := 111
abbrev MX4_door : Nat := 112
abbrev MX4_cold : Nat := 113
abbrev MX4_addOne : Nat := 114
abbrev MX4_one : Nat := 115
abbrev MX4_singers : Nat := 116
abbrev MX4_breathes : Nat := 117
abbrev MX4_of : Nat := 118
abbrev MX4_set : Nat := 119
abbrev MX4_turn : Nat := 120
abbrev MX4_as : Nat := 121
abbrev MX4_leaves : Nat := 122
abbrev MX4_goes : Nat := 123
abbrev MX4_freezes : Nat := 124
abbrev MX4_thaws : Nat := 125
abbrev MX4_draughts : Nat := 126
abbrev MX4_breathe : Nat := 127
abbrev MX4_oneHour : Nat := 128
abbrev MX4_sumOf : Nat := 129
abbrev MX4_stifled : Nat := 130
abbrev MX4_allBreathe : Nat := 131
abbrev MX4_hours : Nat := 132
abbrev MX4_now : Nat := 133
abbrev MX4_passes : Nat := 134
abbrev MX4_on : Nat := 135
abbrev MX4_untilOf : Nat := 136
abbrev MX4_when : Nat := 137
abbrev MX4_wellOnes : Nat := 138
abbrev MX4_first : Nat := 139
abbrev MX4_wellFor : Nat := 140
abbrev MX4_well : Nat := 141
abbrev MX4_doors : Nat := 142
abbrev MX4_stifledOn : Nat := 143
abbrev MX4_shut : Nat := 144
abbrev MX4_isWell : Nat := 145
abbrev MX4_fire : Nat := 146
abbrev MX4_fires : Nat := 147
abbrev MX4_sleep : Nat := 148
abbrev MX4_kind : Nat := 149
abbrev MX4_costs : Nat := 150
abbrev MX4_product : Nat := 151
abbrev MX4_greatest : Nat := 152
abbrev MX4_share : Nat := 153
abbrev MX4_frostOf : Nat := 154
abbrev MX4_swept : Nat := 155
abbrev MX4_sweeps : Nat := 156
abbrev MX4_owed : Nat := 157
abbrev MX4_leaked : Nat := 158
abbrev MX4_feed : Nat := 159
abbrev MX4_wipe : Nat := 160
abbrev MX4_byteAt : Nat := 161
abbrev MX4_isLetter : Nat := 162
abbrev MX4_isDigit : Nat := 163
abbrev MX4_advance : Nat := 164
abbrev MX4_isWord : Nat := 165
abbrev MX4_kindHere : Nat := 166
abbrev MX4_wantNumber : Nat := 167
abbrev MX4_mayWant : Nat := 168
abbrev MX4_wantOne : Nat := 169
abbrev MX4_wantRoom : Nat := 170
abbrev MX4_wantDoor : Nat := 171
abbrev MX4_wantItem : Nat := 172
abbrev MX4_text : Nat := 173
abbrev MX4_isSheet : Nat := 174
abbrev MX4_narrow : Nat := 175
abbrev MX4_sheet : Nat := 176
abbrev MX4_write : Nat := 177
abbrev MX4_isPart : Nat := 178
abbrev MX4_copy : Nat := 179
abbrev MX4_badSheet : Nat := 180
abbrev MX4_lays : Nat := 181
abbrev MX4_book : Nat := 182
abbrev MX4_isSo : Nat := 183
abbrev MX4_read : Nat := 184
abbrev MX4_moveAll : Nat := 185
abbrev MX4_image : Nat := 186
abbrev MX4_undo : Nat := 187
abbrev MX4_tear : Nat := 188
abbrev MX4_count : Nat := 189
abbrev MX4_status : Nat := 190
abbrev MJ6_numberOfTrailingZeros_0f7a4 : Nat := 191
abbrev MJ6_bitCount_0f7a4 : Nat := 192
abbrev MJ0_length_8abf5 : Nat := 193
abbrev MJ0_charAt_5068e : Nat := 194
abbrev MJ0_coder_7d493 : Nat := 195
abbrev MJ0_isLatin1_aae02 : Nat := 196
abbrev MJ0_checkIndex_df160 : Nat := 197
abbrev MJ1_charAt_3b067 : Nat := 198
abbrev MJ3_checkIndex_8e157 : Nat := 199
def na_mis0 : List MI := [(yX0_become, cX0_become, 3, none, 1, 26),
  (yX0_rowOfRooms, cX0_rowOfRooms, 2, (some (.array .int)), 0, 0),
  (yX0_rowOfPeople, cX0_rowOfPeople, 2, (some (.array .int)), 0, 0),
  (yX0_turnDoor, cX0_turnDoor, 4, (some .int), 0, 0),
  (yX0_isFull, cX0_isFull, 1, (some .boolean), 0, 0),
  (yX0_add, cX0_add, 5, (some .int), 0, 0),
  (yX0_remove, cX0_remove, 5, none, 1, 26),
  (yX0_peopleIn, cX0_peopleIn, 4, (some .int), 0, 0),
  (yX0_stifledSet, cX0_stifledSet, 3, (some .int), 0, 0),
  (yX0_breathIn, cX0_breathIn, 4, (some .int), 2, 45),
  (yX0_greatestBreathIn, cX0_greatestBreathIn, 4, (some .int), 2, 45),
  (yX0_frostIn, cX0_frostIn, 4, (some .int), 1, 21),
  (yX0_breathOf, cX0_breathOf, 3, (some .int), 1, 23),
  (yX0_otherVoices, cX0_otherVoices, 4, (some .int), 0, 0),
  (yX0_passHours, cX0_passHours, 3, none, 4, 89),
  (yX0_passHour, cX0_passHour, 1, (some .int), 3, 69),
  (yX0_freeze, cX0_freeze, 3, none, 1, 21),
  (yX0_burn, cX0_burn, 3, none, 1, 21),
  (yX0_mix, cX0_mix, 3, none, 1, 21),
  (yX0_breathe, cX0_breathe, 5, (some .int), 2, 45),
  (yX0_wellHours, cX0_wellHours, 4, (some .int), 4, 89),
  (yX0_stifledAfter, cX0_stifledAfter, 2, (some .int), 5, 111),
  (yX0_goesAsTold, cX0_goesAsTold, 4, (some .boolean), 4, 89),
  (yX1_isMissing, cX1_isMissing, 1, (some .boolean), 0, 0),
  (yX1_start, cX1_start, 4, none, 0, 0)]
def na_mis1 : List MI := [(yX1_put, cX1_put, 4, none, 0, 0),
  (yX1_hasStretch, cX1_hasStretch, 3, (some .boolean), 0, 0),
  (yX2_append, cX2_append, 4, none, 0, 0),
  (yX2_tell, cX2_tell, 3, (some .int), 8, 175),
  (yX2_tellItem, cX2_tellItem, 3, (some .boolean), 7, 153),
  (yX2_kindNamed, cX2_kindNamed, 1, (some .int), 5, 107),
  (yX2_tellOne, cX2_tellOne, 5, (some .boolean), 5, 107),
  (yX2_tellRoom, cX2_tellRoom, 3, (some .boolean), 6, 131),
  (yX2_mayTell, cX2_mayTell, 5, (some .boolean), 5, 107),
  (yX2_tellDoor, cX2_tellDoor, 3, (some .boolean), 2, 45),
  (yX2_tellCold, cX2_tellCold, 3, (some .boolean), 2, 40),
  (yX2_isWord, cX2_isWord, 3, (some .boolean), 4, 85),
  (yX2_isNumber, cX2_isNumber, 4, (some .boolean), 1, 22),
  (yX2_step, cX2_step, 1, none, 1, 20),
  (yX2_tokenBegunBy, cX2_tokenBegunBy, 1, (some .int), 0, 0),
  (yX3_room, cX3_room, 4, (some .int), 2, 44),
  (yX3_roomOf, cX3_roomOf, 3, (some .int), 3, 68),
  (yX3_door, cX3_door, 3, (some .int), 2, 44),
  (yX3_cold, cX3_cold, 3, (some .int), 2, 44),
  (yX3_one, cX3_one, 3, (some .int), 2, 44),
  (yX3_of, cX3_of, 3, (some .int), 2, 45),
  (yX3_set, cX3_set, 4, (some .int), 2, 44),
  (yX3_turn, cX3_turn, 3, (some .int), 2, 44),
  (yX3_as, cX3_as, 3, (some .int), 3, 65),
  (yX3_goes, cX3_goes, 3, (some .int), 2, 50)]
def na_mis2 : List MI := [(yX3_hours, cX3_hours, 2, (some .int), 5, 111),
  (yX3_now, cX3_now, 2, (some .int), 3, 68),
  (yX3_on, cX3_on, 5, (some .int), 5, 111),
  (yX3_when, cX3_when, 3, (some .int), 5, 112),
  (yX3_first, cX3_first, 4, (some .int), 4, 89),
  (yX3_well, cX3_well, 1, (some .int), 5, 112),
  (yX3_doors, cX3_doors, 6, (some .int), 5, 112),
  (yX3_shut, cX3_shut, 7, (some .int), 6, 132),
  (yX3_fire, cX3_fire, 5, (some .int), 5, 112),
  (yX3_fires, cX3_fires, 5, (some .int), 6, 139),
  (yX3_sleep, cX3_sleep, 7, (some .int), 5, 112),
  (yX3_kind, cX3_kind, 8, (some .int), 6, 132),
  (yX3_costs, cX3_costs, 4, (some .int), 5, 111),
  (yX3_share, cX3_share, 9, (some .long), 3, 68),
  (yX3_swept, cX3_swept, 4, (some .int), 2, 44),
  (yX3_sweeps, cX3_sweeps, 3, (some .int), 2, 44),
  (yX3_owed, cX3_owed, 3, (some .int), 0, 0),
  (yX3_leaked, cX3_leaked, 7, (some .int), 5, 111),
  (yX3_feed, cX3_feed, 3, (some .int), 2, 44),
  (yX3_wipe, cX3_wipe, 2, (some .int), 0, 0),
  (yX3_text, cX3_text, 2, (some .int), 9, 197),
  (yX3_sheet, cX3_sheet, 4, (some .int), 2, 44),
  (yX3_write, cX3_write, 8, (some .long), 2, 44),
  (yX3_copy, cX3_copy, 8, (some .int), 2, 44),
  (yX3_lays, cX3_lays, 7, (some .int), 2, 44)]
def na_mis3 : List MI := [(yX3_book, cX3_book, 6, (some .int), 4, 89),
  (yX3_read, cX3_read, 8, (some .int), 5, 112),
  (yX3_image, cX3_image, 1, (some .int), 2, 48),
  (yX3_undo, cX3_undo, 1, (some .int), 2, 48),
  (yX3_tear, cX3_tear, 2, (some .int), 0, 0),
  (yX3_count, cX3_count, 2, (some .int), 2, 44),
  (yX3_status, cX3_status, 2, (some .int), 2, 44),
  (yX3_finding, cX3_finding, 3, (some .int), 1, 22),
  (yX3_nobody, cX3_nobody, 2, (some .boolean), 1, 22),
  (yX3_startAhead, cX3_startAhead, 1, (some (.object "NinthAir$Night")), 2, 48),
  (yX3_twoFiresDo, cX3_twoFiresDo, 8, (some .boolean), 5, 112),
  (yX3_outside, cX3_outside, 3, (some .boolean), 0, 0),
  (yX3_noRoom, cX3_noRoom, 1, (some .boolean), 1, 22),
  (yX3_noKind, cX3_noKind, 1, (some .boolean), 1, 22),
  (yX3_noSheet, cX3_noSheet, 1, (some .boolean), 1, 22),
  (yX3_isKindOf, cX3_isKindOf, 4, (some .boolean), 2, 42),
  (yX3_has, cX3_has, 2, (some .boolean), 0, 0),
  (yX3_exchange, cX3_exchange, 4, (some .int), 0, 0),
  (yX3_sum, cX3_sum, 4, (some .int), 0, 0),
  (yX4_in, cX4_in, 3, (some .boolean), 0, 0),
  (yX4_finds, cX4_finds, 2, (some .int), 0, 0),
  (yX4_has, cX4_has, 2, (some .boolean), 0, 0),
  (yX4_bits, cX4_bits, 3, (some .int), 0, 0),
  (yX4_its, cX4_its, 3, (some .int), 0, 0),
  (yX4_puts, cX4_puts, 4, none, 0, 0)]
def na_mis4 : List MI := [(yX4_there, cX4_there, 3, (some .int), 0, 0),
  (yX4_lies, cX4_lies, 4, none, 0, 0),
  (yX4_isOne, cX4_isOne, 2, (some .boolean), 1, 22),
  (yX4_isRoom, cX4_isRoom, 1, (some .boolean), 1, 22),
  (yX4_isKind, cX4_isKind, 1, (some .boolean), 1, 22),
  (yX4_isSpan, cX4_isSpan, 1, (some .boolean), 1, 22),
  (yX4_isTold, cX4_isTold, 2, (some .boolean), 1, 22),
  (yX4_room, cX4_room, 5, (some .int), 2, 43),
  (yX4_inside, cX4_inside, 4, (some .int), 1, 22),
  (yX4_breathedIn, cX4_breathedIn, 4, (some .int), 3, 67),
  (yX4_roomOf, cX4_roomOf, 3, (some .int), 4, 90),
  (yX4_opens, cX4_opens, 3, none, 0, 0),
  (yX4_door, cX4_door, 4, (some .int), 1, 22),
  (yX4_cold, cX4_cold, 3, (some .int), 1, 22),
  (yX4_addOne, cX4_addOne, 5, none, 1, 23),
  (yX4_one, cX4_one, 3, (some .int), 2, 47),
  (yX4_singers, cX4_singers, 4, (some .int), 1, 22),
  (yX4_breathes, cX4_breathes, 3, (some .int), 2, 45),
  (yX4_of, cX4_of, 3, (some .int), 3, 67),
  (yX4_set, cX4_set, 6, (some .int), 2, 43),
  (yX4_turn, cX4_turn, 4, (some .int), 2, 43),
  (yX4_as, cX4_as, 5, (some .int), 2, 43),
  (yX4_leaves, cX4_leaves, 3, none, 0, 0),
  (yX4_goes, cX4_goes, 3, (some .int), 2, 43),
  (yX4_freezes, cX4_freezes, 3, none, 1, 23)]
def na_mis5 : List MI := [(yX4_thaws, cX4_thaws, 3, none, 1, 23),
  (yX4_draughts, cX4_draughts, 4, none, 1, 23),
  (yX4_breathe, cX4_breathe, 5, none, 3, 67),
  (yX4_oneHour, cX4_oneHour, 2, none, 4, 91),
  (yX4_sumOf, cX4_sumOf, 4, (some .int), 1, 22),
  (yX4_stifled, cX4_stifled, 3, (some .int), 1, 22),
  (yX4_allBreathe, cX4_allBreathe, 3, (some .int), 3, 67),
  (yX4_hours, cX4_hours, 3, (some .int), 5, 112),
  (yX4_now, cX4_now, 2, (some .int), 4, 89),
  (yX4_passes, cX4_passes, 3, none, 5, 112),
  (yX4_on, cX4_on, 5, (some .int), 6, 134),
  (yX4_untilOf, cX4_untilOf, 3, (some .int), 5, 112),
  (yX4_when, cX4_when, 3, (some .int), 6, 134),
  (yX4_wellOnes, cX4_wellOnes, 1, (some .int), 2, 44),
  (yX4_first, cX4_first, 4, (some .int), 5, 112),
  (yX4_wellFor, cX4_wellFor, 1, (some .int), 6, 134),
  (yX4_well, cX4_well, 1, (some .int), 7, 154),
  (yX4_doors, cX4_doors, 6, (some .int), 7, 154),
  (yX4_stifledOn, cX4_stifledOn, 3, (some .int), 6, 134),
  (yX4_shut, cX4_shut, 7, (some .int), 7, 156),
  (yX4_isWell, cX4_isWell, 4, (some .boolean), 6, 134),
  (yX4_fire, cX4_fire, 5, (some .int), 7, 157),
  (yX4_fires, cX4_fires, 9, (some .int), 7, 157),
  (yX4_sleep, cX4_sleep, 7, (some .int), 6, 134),
  (yX4_kind, cX4_kind, 8, (some .int), 7, 156)]
def na_mis6 : List MI := [(yX4_costs, cX4_costs, 5, (some .int), 6, 134),
  (yX4_product, cX4_product, 4, (some .long), 0, 0),
  (yX4_greatest, cX4_greatest, 5, (some .int), 3, 67),
  (yX4_share, cX4_share, 7, (some .long), 4, 91),
  (yX4_frostOf, cX4_frostOf, 4, (some .int), 1, 22),
  (yX4_swept, cX4_swept, 4, (some .int), 2, 45),
  (yX4_sweeps, cX4_sweeps, 3, (some .int), 2, 45),
  (yX4_owed, cX4_owed, 3, (some .int), 1, 22),
  (yX4_leaked, cX4_leaked, 6, (some .int), 6, 134),
  (yX4_feed, cX4_feed, 4, (some .int), 1, 22),
  (yX4_wipe, cX4_wipe, 2, (some .int), 0, 0),
  (yX4_byteAt, cX4_byteAt, 2, (some .int), 0, 0),
  (yX4_isLetter, cX4_isLetter, 1, (some .boolean), 1, 22),
  (yX4_isDigit, cX4_isDigit, 1, (some .boolean), 1, 22),
  (yX4_advance, cX4_advance, 2, none, 2, 42),
  (yX4_isWord, cX4_isWord, 3, (some .boolean), 0, 0),
  (yX4_kindHere, cX4_kindHere, 1, (some .int), 1, 22),
  (yX4_wantNumber, cX4_wantNumber, 4, (some .int), 3, 63),
  (yX4_mayWant, cX4_mayWant, 6, (some .int), 4, 86),
  (yX4_wantOne, cX4_wantOne, 4, none, 5, 111),
  (yX4_wantRoom, cX4_wantRoom, 6, none, 5, 111),
  (yX4_wantDoor, cX4_wantDoor, 3, none, 4, 86),
  (yX4_wantItem, cX4_wantItem, 1, none, 6, 136),
  (yX4_text, cX4_text, 3, (some .int), 7, 156),
  (yX4_isSheet, cX4_isSheet, 1, (some .boolean), 1, 22)]
def na_mis7 : List MI := [(yX4_narrow, cX4_narrow, 3, (some .long), 0, 0),
  (yX4_sheet, cX4_sheet, 5, (some .int), 2, 42),
  (yX4_write, cX4_write, 7, (some .long), 2, 42),
  (yX4_isPart, cX4_isPart, 4, (some .boolean), 0, 0),
  (yX4_copy, cX4_copy, 7, (some .int), 2, 42),
  (yX4_badSheet, cX4_badSheet, 2, (some .int), 2, 42),
  (yX4_lays, cX4_lays, 7, (some .int), 3, 63),
  (yX4_book, cX4_book, 5, (some .int), 5, 112),
  (yX4_isSo, cX4_isSo, 5, (some .boolean), 5, 112),
  (yX4_read, cX4_read, 6, (some .int), 6, 136),
  (yX4_moveAll, cX4_moveAll, 4, none, 0, 0),
  (yX4_image, cX4_image, 1, (some .int), 1, 23),
  (yX4_undo, cX4_undo, 1, (some .int), 1, 23),
  (yX4_tear, cX4_tear, 2, (some .int), 0, 0),
  (yX4_count, cX4_count, 4, (some .int), 2, 45),
  (yX4_status, cX4_status, 4, (some .int), 1, 22),
  (yJ6_numberOfTrailingZeros_0f7a4, cJ6_numberOfTrailingZeros_0f7a4, 2, (some .int), 0, 0),
  (yJ6_bitCount_0f7a4, cJ6_bitCount_0f7a4, 1, (some .int), 0, 0),
  (yJ0_length_8abf5, cJ0_length_8abf5, 1, (some .int), 1, 20),
  (yJ0_charAt_5068e, cJ0_charAt_5068e, 2, (some .char), 3, 64),
  (yJ0_coder_7d493, cJ0_coder_7d493, 1, (some .byte), 0, 0),
  (yJ0_isLatin1_aae02, cJ0_isLatin1_aae02, 1, (some .boolean), 0, 0),
  (yJ0_checkIndex_df160, cJ0_checkIndex_df160, 2, none, 1, 22),
  (yJ1_charAt_3b067, cJ1_charAt_3b067, 2, (some .char), 2, 43),
  (yJ3_checkIndex_8e157, cJ3_checkIndex_8e157, 3, (some .int), 0, 0)]
def na_mis : List MI := na_mis0 ++ na_mis1 ++ na_mis2 ++ na_mis3 ++ na_mis4 ++ na_mis5 ++ na_mis6 ++ na_mis7
def na_mi (j : Nat) : MI := match na_nth na_mis j with
  | some q => q
  | none => (yL_law, code, 4, some .boolean, 0, 0)
end
section
/-! THE SMALL MACHINE IN THE TRUE ONE: what holds of the true heap (na_R), what is given all along (na_C), a method's contract (Mt), one instruction (na_stp), a stretch (na_wp). -/
def na_Tg : List Cond := lw_tbl.filter goodWord
def na_ww (q : MI) : List Cond := .code q.1 q.2.1 q.2.2.1 q.2.2.2.1 :: na_Tg
def na_rm (q : MI) : Room := { frames := q.2.2.2.2.1, cells := 0, slots := 0, locals := q.2.2.2.2.2 }
/-- cells that may change: all that came behind the law's start -/
abbrev na_A (N0 : Nat) : Nat → Prop := fun q => N0 ≤ q
def na_tys (ca : Nat → Nat) : List (ClassId × FieldType) := [(ca 0, .int), (ca 1, .long), (ca 2, .object RX1)]
def na_R (D : va_G) (ca ad : Nat → Nat) (N0 : Nat) (s0 : State) (I : Mm) (J : Ml) (H : Heap) : Prop :=
  va_P D vwCl (na_ws ca ad I J 0 na_lay) H ∧ va_D (na_A N0) (na_ws ca ad I J 0 na_lay) ∧ N0 ≤ H.size ∧ ∀ q : Nat, q < N0 → H[q]? = s0.heap[q]?
/-- words of the tables that must be carried by hand -/
def na_Kw (ad : Nat → Nat) (U : State) : Prop :=
  va_Nw (.methodLinkNest RX0 65 yX3_has RX3) U ∧ va_Nw (.methodLinkNest RX2 137 yX3_outside RX3) U ∧ va_Nw (.fieldLinkNest RX2 111 RX3 "MOST_OF_ROOM" "[I" RX3) U ∧ ∀ (i : Nat) (q : Nat × String × List Int32), na_nth na_wd i = some q → vk_R RX2 q.1 q.2.1 (ad (100 + i)) U
def na_C (sx : Nat × (Nat → Int32)) (D : va_G) (ca ad : Nat → Nat) (fm : Value) (N0 : Nat) (s0 : State) : Prop :=
  va_K D vwCl (na_tys ca) s0 ∧ s0.heap.size = N0 ∧
  (∀ (a : Nat) (q : Nat × (Nat → Int32)), na_sa sx a = some q → va_T .int (ad a) q.1 (fun j => .int (q.2 j)) (na_A N0) s0 s0.heap) ∧
  (∀ (a : Nat) (q : Nat × (Nat → Int32)), na_sb a = some q → va_T .byte (ad a) q.1 (fun j => .int (q.2 j)) (na_A N0) s0 s0.heap) ∧
  (∀ q ∈ na_st, va_Z q.1 q.2.1 q.2.2.1 (na_tv ad fm q.2.2.2) (na_A N0) s0 s0.heap) ∧
  (∀ (i : Nat) (q : Nat × String × List Int32), na_nth na_wd i = some q → va_O RJ0 (ad (100 + i)) (na_A N0) s0 s0.heap ∧ va_OF RJ0 "coder" "B" (.int 0) (ad (100 + i)) (na_A N0) s0 s0.heap ∧ va_OF RJ0 "value" "[B" (.ref (ad (120 + i))) (ad (100 + i)) (na_A N0) s0 s0.heap) ∧
  (fm = .null ∨ ∃ t : Nat, fm = .ref t)
def na_Pc (D : va_G) (ca ad : Nat → Nat) (fm : Value) (N0 : Nat) (s0 : State) (av : List Value) (I : Mm) (J : Ml) : Array Value → State → Prop := fun v U =>
  v = (av.map (na_tv ad fm)).toArray ∧ s0.vm.Alike U.vm ∧ na_Kw ad U ∧ na_R D ca ad N0 s0 I J U.heap
def na_Qc (D : va_G) (ca ad : Nat → Nat) (fm : Value) (N0 : Nat) (s0 : State) (Post : Option Value → Mm → Ml → Prop) : Array Value → State → Outcome → State → Prop := fun _ st o t =>
  ∃ (r : Option Value) (I : Mm) (J : Ml), o = .returned (r.map (na_tv ad fm)) ∧ Post r I J ∧ na_R D ca ad N0 s0 I J t.heap ∧ st.heap.size ≤ t.heap.size
/-- method j, with these arguments over this memory, returns, and Post holds of its answer and of the memory behind it -/
def Mt (sx : Nat × (Nat → Int32)) (j : Nat) (av : List Value) (I : Mm) (J : Ml) (Post : Option Value → Mm → Ml → Prop) : Prop :=
  ∀ (l : Launch) (D : va_G) (ca ad : Nat → Nat) (fm : Value) (N0 : Nat) (s0 : State), na_C sx D ca ad fm N0 s0 →
    Met l (na_mi j).1 (na_ww (na_mi j)) (na_rm (na_mi j)) (na_Pc D ca ad fm N0 s0 av I J) (na_Qc D ca ad fm N0 s0 Post) 0 0 (na_A N0)
theorem Met.conseq {l : Launch} {y : MethodName} {ws : List Cond} {rm : Room} {Pc : Array Value → State → Prop} {Qc Qd : Array Value → State → Outcome → State → Prop} {mc ms : Nat} {free : Addr → Prop} (h : Met l y ws rm Pc Qc mc ms free) (hq : ∀ a st o t, Qc a st o t → Qd a st o t) : Met l y ws rm Pc Qd mc ms free := by
  intro p e ha hc hk s m args below hf happ hP hK
  obtain ⟨k, o, h1, h2, h3, h4, h5⟩ := h p e ha hc hk s m args below hf happ hP hK
  exact ⟨k, o, h1, h2, h3, hq _ _ _ _ h4, h5⟩
theorem Mt.conseq {sx : Nat × (Nat → Int32)} {j : Nat} {av : List Value} {I : Mm} {J : Ml} {P Q : Option Value → Mm → Ml → Prop} (h : Mt sx j av I J P) (hq : ∀ r I' J', P r I' J' → Q r I' J') : Mt sx j av I J Q :=
  fun l D ca ad fm N0 s0 hC => (h l D ca ad fm N0 s0 hC).conseq fun a st o t ⟨r, I', J', h1, h2, h3⟩ => ⟨r, I', J', h1, hq r I' J' h2, h3⟩
def na_pu (v : Option Value) (st : List Value) : List Value := match v with
  | none => st
  | some v => v :: st
def na_ct : List Value → Nat
  | [] => 0
  | .long _ :: r => 2 + na_ct r
  | .double _ :: r => 2 + na_ct r
  | _ :: r => 1 + na_ct r
def na_rc (c : Nat) (as : List Value) : Bool := match as with
  | .ref a :: _ => bif Nat.beq c 9 then Nat.ble 100 a && Nat.ble a 116 else match na_nth na_lay a with
    | some (.inr q) => Nat.beq q.1 c
    | _ => false
  | _ => false
def na_sw : List Nat → Int → Int32 → (Nat → Prop) → Prop
  | [], _, _, _ => True
  | t :: r, lo, x, k => (x.toInt = lo → k t) ∧ na_sw r (lo + 1) x k
/-- one instruction: what must hold so that the method goes on as k says, or ends as Rt says -/
def na_stp (P : List En) (sx : Nat × (Nat → Int32)) (rt : Option FieldType) (Rt : Option Value → Mm → Ml → Prop) (k : List En → Lo → List Value → Mm → Ml → Prop) (e : En) (r : List En) (ls : Lo) (st : List Value) (I : Mm) (J : Ml) : Prop :=
  match e.2.2.1 with
  | .iconst _ => k r ls (.int e.2.2.2.2.1 :: st) I J
  | .bipush _ => k r ls (.int e.2.2.2.2.1 :: st) I J
  | .sipush _ => k r ls (.int e.2.2.2.2.1 :: st) I J
  | .ldc_w _ => k r ls (.int e.2.2.2.2.1 :: st) I J
  | .ldc _ => match e.2.2.2.1 with
    | [] => k r ls (.int e.2.2.2.2.1 :: st) I J
    | a :: _ => k r ls (.ref (100 + a) :: st) I J
  | .lconst _ => k r ls (.long e.2.2.2.2.2 :: st) I J
  | .ldc2_w _ => k r ls (.long e.2.2.2.2.2 :: st) I J
  | .iload _ => na_ld (na_nth ls (na_h0 e.2.2.2.1)) fun v => na_pI [v] fun x _ => k r ls (.int x :: st) I J
  | .iload_n _ => na_ld (na_nth ls (na_h0 e.2.2.2.1)) fun v => na_pI [v] fun x _ => k r ls (.int x :: st) I J
  | .lload _ => na_ld (na_nth ls (na_h0 e.2.2.2.1)) fun v => na_pL [v] fun x _ => k r ls (.long x :: st) I J
  | .lload_n _ => na_ld (na_nth ls (na_h0 e.2.2.2.1)) fun v => na_pL [v] fun x _ => k r ls (.long x :: st) I J
  | .aload _ => na_ld (na_nth ls (na_h0 e.2.2.2.1)) fun v => na_pR [v] fun x _ => bif Nat.beq x 90 then False else k r ls (.ref x :: st) I J
  | .aload_n _ => na_ld (na_nth ls (na_h0 e.2.2.2.1)) fun v => na_pR [v] fun x _ => bif Nat.beq x 90 then False else k r ls (.ref x :: st) I J
  | .istore _ => na_pI st fun x st => k r (na_s1 ls (na_h0 e.2.2.2.1) (.int x)) st I J
  | .istore_n _ => na_pI st fun x st => k r (na_s1 ls (na_h0 e.2.2.2.1) (.int x)) st I J
  | .lstore _ => na_pL st fun x st => k r (na_s2 ls (na_h0 e.2.2.2.1) (.long x)) st I J
  | .lstore_n _ => na_pL st fun x st => k r (na_s2 ls (na_h0 e.2.2.2.1) (.long x)) st I J
  | .astore _ => na_pR st fun x st => bif Nat.beq x 90 then False else k r (na_s1 ls (na_h0 e.2.2.2.1) (.ref x)) st I J
  | .astore_n _ => na_pR st fun x st => bif Nat.beq x 90 then False else k r (na_s1 ls (na_h0 e.2.2.2.1) (.ref x)) st I J
  | .iinc _ _ => na_ld (na_nth ls (na_h0 e.2.2.2.1)) fun v => na_pI [v] fun x _ => k r (na_s1 ls (na_h0 e.2.2.2.1) (.int (x + e.2.2.2.2.1))) st I J
  | .iadd => na_pI st fun y st => na_pI st fun x st => k r ls (.int (x + y) :: st) I J
  | .isub => na_pI st fun y st => na_pI st fun x st => k r ls (.int (x - y) :: st) I J
  | .imul => na_pI st fun y st => na_pI st fun x st => k r ls (.int (x * y) :: st) I J
  | .iand => na_pI st fun y st => na_pI st fun x st => k r ls (.int (x &&& y) :: st) I J
  | .ior => na_pI st fun y st => na_pI st fun x st => k r ls (.int (x ||| y) :: st) I J
  | .ixor => na_pI st fun y st => na_pI st fun x st => k r ls (.int (x ^^^ y) :: st) I J
  | .ishl => na_pI st fun y st => na_pI st fun x st => k r ls (.int (x <<< (y &&& 31)) :: st) I J
  | .ishr => na_pI st fun y st => na_pI st fun x st => k r ls (.int (x >>> (y &&& 31)) :: st) I J
  | .iushr => na_pI st fun y st => na_pI st fun x st => k r ls (.int (x.toUInt32 >>> (y.toUInt32 &&& Int32.toUInt32 31)).toInt32 :: st) I J
  | .idiv => na_pI st fun y st => na_pI st fun x st => ¬ y = 0 ∧ k r ls (.int (x / y) :: st) I J
  | .irem => na_pI st fun y st => na_pI st fun x st => ¬ y = 0 ∧ k r ls (.int (x - x / y * y) :: st) I J
  | .ineg => na_pI st fun x st => k r ls (.int (-x) :: st) I J
  | .ladd => na_pL st fun y st => na_pL st fun x st => k r ls (.long (x + y) :: st) I J
  | .lsub => na_pL st fun y st => na_pL st fun x st => k r ls (.long (x - y) :: st) I J
  | .lmul => na_pL st fun y st => na_pL st fun x st => k r ls (.long (x * y) :: st) I J
  | .land => na_pL st fun y st => na_pL st fun x st => k r ls (.long (x &&& y) :: st) I J
  | .lor => na_pL st fun y st => na_pL st fun x st => k r ls (.long (x ||| y) :: st) I J
  | .ldiv => na_pL st fun y st => na_pL st fun x st => ¬ y = 0 ∧ k r ls (.long (x / y) :: st) I J
  | .lshl => na_pI st fun y st => na_pL st fun x st => k r ls (.long (x <<< (y.toInt64 &&& 63)) :: st) I J
  | .lshr => na_pI st fun y st => na_pL st fun x st => k r ls (.long (x >>> (y.toInt64 &&& 63)) :: st) I J
  | .lcmp => na_pL st fun y st => na_pL st fun x st => k r ls (.int (lg_cmp x y) :: st) I J
  | .i2l => na_pI st fun x st => k r ls (.long x.toInt64 :: st) I J
  | .l2i => na_pL st fun x st => k r ls (.int x.toInt32 :: st) I J
  | .i2b => na_pI st fun x st => k r ls (.int x.toInt8.toInt32 :: st) I J
  | .i2s => na_pI st fun x st => k r ls (.int x.toInt16.toInt32 :: st) I J
  | .i2c => na_pI st fun x st => k r ls (.int (x.toUInt32 % 65536).toInt32 :: st) I J
  | .dup => na_p1 st fun v st => k r ls (v :: v :: st) I J
  | .pop => na_p1 st fun _ st => k r ls st I J
  | .dup2 => na_p1 st fun v st => na_p1 st fun w st => k r ls (v :: w :: v :: w :: st) I J
  | .goto _ => k (na_dr (na_h0 e.2.2.2.1) P) ls st I J
  | .ifCond .eq _ => na_pI st fun x st => (x = 0 → k (na_dr (na_h0 e.2.2.2.1) P) ls st I J) ∧ (¬ x = 0 → k r ls st I J)
  | .ifCond .ne _ => na_pI st fun x st => (¬ x = 0 → k (na_dr (na_h0 e.2.2.2.1) P) ls st I J) ∧ (x = 0 → k r ls st I J)
  | .ifCond .lt _ => na_pI st fun x st => (x < 0 → k (na_dr (na_h0 e.2.2.2.1) P) ls st I J) ∧ (¬ x < 0 → k r ls st I J)
  | .ifCond .ge _ => na_pI st fun x st => (0 ≤ x → k (na_dr (na_h0 e.2.2.2.1) P) ls st I J) ∧ (¬ 0 ≤ x → k r ls st I J)
  | .ifCond .gt _ => na_pI st fun x st => (0 < x → k (na_dr (na_h0 e.2.2.2.1) P) ls st I J) ∧ (¬ 0 < x → k r ls st I J)
  | .ifCond .le _ => na_pI st fun x st => (x ≤ 0 → k (na_dr (na_h0 e.2.2.2.1) P) ls st I J) ∧ (¬ x ≤ 0 → k r ls st I J)
  | .if_icmp .eq _ => na_pI st fun y st => na_pI st fun x st => (x = y → k (na_dr (na_h0 e.2.2.2.1) P) ls st I J) ∧ (¬ x = y → k r ls st I J)
  | .if_icmp .ne _ => na_pI st fun y st => na_pI st fun x st => (¬ x = y → k (na_dr (na_h0 e.2.2.2.1) P) ls st I J) ∧ (x = y → k r ls st I J)
  | .if_icmp .lt _ => na_pI st fun y st => na_pI st fun x st => (x < y → k (na_dr (na_h0 e.2.2.2.1) P) ls st I J) ∧ (¬ x < y → k r ls st I J)
  | .if_icmp .ge _ => na_pI st fun y st => na_pI st fun x st => (y ≤ x → k (na_dr (na_h0 e.2.2.2.1) P) ls st I J) ∧ (¬ y ≤ x → k r ls st I J)
  | .if_icmp .gt _ => na_pI st fun y st => na_pI st fun x st => (y < x → k (na_dr (na_h0 e.2.2.2.1) P) ls st I J) ∧ (¬ y < x → k r ls st I J)
  | .if_icmp .le _ => na_pI st fun y st => na_pI st fun x st => (x ≤ y → k (na_dr (na_h0 e.2.2.2.1) P) ls st I J) ∧ (¬ x ≤ y → k r ls st I J)
  | .tableswitch _ lo hi _ => na_pI st fun x st => (x.toInt < lo ∨ hi < x.toInt → k (na_dr (na_h0 e.2.2.2.1) P) ls st I J) ∧ na_sw e.2.2.2.1.tail lo x fun t => k (na_dr t P) ls st I J
  | .iaload => na_pI st fun i st => na_pR st fun a st => na_ar sx I a fun n f => vp_in i n ∧ k r ls (.int (f i.toNatClampNeg) :: st) I J
  | .baload => na_pI st fun i st => na_pR st fun a st => match na_sb a with
    | some q => vp_in i q.1 ∧ k r ls (.int (q.2 i.toNatClampNeg) :: st) I J
    | none => False
  | .laload => na_pI st fun i st => na_pR st fun a st => match na_nth na_lay a with
    | some (.inl (1, n)) => vp_in i n ∧ k r ls (.long (J a i.toNatClampNeg) :: st) I J
    | _ => False
  | .aaload => na_pI st fun i st => na_pR st fun a st => match na_nth na_lay a with
    | some (.inl (2, n)) => vp_in i n ∧ k r ls (.ref (na_shp i.toNatClampNeg) :: st) I J
    | _ => False
  | .iastore => na_pI st fun v st => na_pI st fun i st => na_pR st fun a st => match na_nth na_lay a with
    | some (.inl (0, n)) => vp_in i n ∧ k r ls st (na_set I a i.toNatClampNeg v) J
    | _ => False
  | .lastore => na_pL st fun v st => na_pI st fun i st => na_pR st fun a st => match na_nth na_lay a with
    | some (.inl (1, n)) => vp_in i n ∧ k r ls st I (na_setL J a i.toNatClampNeg v)
    | _ => False
  | .arraylength => na_pR st fun a st => match na_nth na_lay a with
    | some (.inl (0, n)) => k r ls (.int (Int32.ofNat n) :: st) I J
    | some _ => False
    | none => match na_sa sx a with
      | some q => k r ls (.int (Int32.ofNat q.1) :: st) I J
      | none => match na_sb a with
        | some q => k r ls (.int (Int32.ofNat q.1) :: st) I J
        | none => False
  | .getfield _ => na_pR st fun a st => bif Nat.beq (na_h0 e.2.2.2.1) 9 then (bif Nat.ble 100 a && Nat.ble a 116 then (match na_h1 e.2.2.2.1 with
      | 0 => k r ls (.int 0 :: st) I J
      | 1 => k r ls (.ref (a + 20) :: st) I J
      | _ => False) else False) else match na_nth na_lay a with
    | some (.inr q) => bif Nat.beq q.1 (na_h0 e.2.2.2.1) then (match na_nth q.2 (na_h1 e.2.2.2.1) with
      | some f => k r ls (na_fw I J a (na_h1 e.2.2.2.1) f :: st) I J
      | none => False) else False
    | _ => False
  | .putfield _ => match st with
    | .int v :: .ref a :: st => (match na_nth na_lay a with
      | some (.inr q) => bif Nat.beq q.1 (na_h0 e.2.2.2.1) then (match na_nth q.2 (na_h1 e.2.2.2.1) with
        | some 0 => (match na_h2 e.2.2.2.1 with
          | 0 => k r ls st (na_set I a (na_h1 e.2.2.2.1) v) J
          | 1 => (v = 0 ∨ v = 1) ∧ k r ls st (na_set I a (na_h1 e.2.2.2.1) v) J
          | _ => False)
        | _ => False) else False
      | _ => False)
    | .long v :: .ref a :: st => (match na_nth na_lay a with
      | some (.inr q) => bif Nat.beq q.1 (na_h0 e.2.2.2.1) then (match na_nth q.2 (na_h1 e.2.2.2.1) with
        | some 1 => bif Nat.beq (na_h2 e.2.2.2.1) 2 then k r ls st I (na_setL J a (na_h1 e.2.2.2.1) v) else False
        | _ => False) else False
      | _ => False)
    | _ => False
  | .getstatic _ => match na_nth na_st (na_h0 e.2.2.2.1) with
    | some q => k r ls (q.2.2.2 :: st) I J
    | none => False
  | .invokestatic _ => bif Nat.beq (na_h0 e.2.2.2.1) 998 then False else bif Nat.beq (na_h0 e.2.2.2.1) 997 then (na_pI st fun y st => na_pI st fun x st => bif Nat.ble (na_ct st) 8 then k r ls (.int (jmin x y) :: st) I J else False) else bif Nat.beq (na_h0 e.2.2.2.1) 996 then (na_pI st fun y st => na_pI st fun x st => bif Nat.ble (na_ct st) 8 then k r ls (.int (jmax x y) :: st) I J else False) else bif Nat.beq (na_h0 e.2.2.2.1) 999 then
      na_pI st fun n st => na_pI st fun dp st => na_pR st fun d st => na_pI st fun sp st => na_pR st fun a st => bif Nat.ble (na_ct st) 8 then (match na_nth na_lay a, na_nth na_lay d with
      | some (.inl (0, n0)), some (.inl (0, n1)) => (¬ sp < 0 ∧ ¬ dp < 0 ∧ ¬ n < 0 ∧ sp.toNatClampNeg + n.toNatClampNeg ≤ n0 ∧ dp.toNatClampNeg + n.toNatClampNeg ≤ n1) ∧ k r ls st (na_cpI I a d sp.toNatClampNeg dp.toNatClampNeg n.toNatClampNeg) J
      | some (.inl (1, n0)), some (.inl (1, n1)) => (¬ sp < 0 ∧ ¬ dp < 0 ∧ ¬ n < 0 ∧ sp.toNatClampNeg + n.toNatClampNeg ≤ n0 ∧ dp.toNatClampNeg + n.toNatClampNeg ≤ n1) ∧ k r ls st I (na_cpL J a d sp.toNatClampNeg dp.toNatClampNeg n.toNatClampNeg)
      | _, _ => False) else False
    else na_tk (na_h1 e.2.2.2.1) [] st fun as st => bif Nat.ble (na_ct st) 8 then Mt sx (na_h0 e.2.2.2.1) as I J (fun v I' J' => k r ls (na_pu v st) I' J') else False
  | .invokevirtual _ => na_tk (na_h1 e.2.2.2.1) [] st fun as st => bif Nat.ble (na_ct st) 8 && na_rc (na_h2 e.2.2.2.1) as then Mt sx (na_h0 e.2.2.2.1) as I J (fun v I' J' => k r ls (na_pu v st) I' J') else False
  | .return_ => match st with
    | [] => Rt none I J
    | _ => False
  | .ireturn => match st, rt with
    | [.int v], some ty => na_nl ty v ∧ Rt (some (.int v)) I J
    | _, _ => False
  | .lreturn => match st with
    | [.long v] => Rt (some (.long v)) I J
    | _ => False
  | .areturn => match st with
    | [.ref a] => bif Nat.beq a 90 then False else Rt (some (.ref a)) I J
    | _ => False
  | _ => False
/-- the stretch goes on, or stops at a row that 'cut' names -/
def na_go (K : Nat → Lo → List Value → Mm → Ml → Prop) (cut : Nat → Bool) (ih : List En → Lo → List Value → Mm → Ml → Prop) (sfx : List En) (ls : Lo) (st : List Value) (I : Mm) (J : Ml) : Prop := match sfx with
  | [] => False
  | e :: _ => bif cut e.1 then K e.1 ls st I J else ih sfx ls st I J
def na_wp (P : List En) (sx : Nat × (Nat → Int32)) (rt : Option FieldType) (Rt : Option Value → Mm → Ml → Prop) (K : Nat → Lo → List Value → Mm → Ml → Prop) (cut : Nat → Bool) : Nat → List En → Lo → List Value → Mm → Ml → Prop
  | 0 => fun sfx ls st I J => match sfx with
    | [] => False
    | e :: _ => K e.1 ls st I J
  | n + 1 => fun sfx ls st I J => match sfx with
    | [] => False
    | e :: r => na_stp P sx rt Rt (na_go K cut (na_wp P sx rt Rt K cut n)) e r ls st I J
end
section
/-! lists, worlds and locals of the small machine -/
theorem na_nth_eq {α : Type} : ∀ (l : List α) (i : Nat), na_nth l i = l[i]?
  | [], i => by simp [na_nth]
  | a :: r, 0 => by simp [na_nth]
  | a :: r, i + 1 => by simp [na_nth, na_nth_eq r i]
theorem na_dr_eq {α : Type} : ∀ (n : Nat) (l : List α), na_dr n l = l.drop n
  | 0, l => by simp [na_dr]
  | n + 1, [] => by simp [na_dr]
  | n + 1, a :: r => by simp [na_dr, na_dr_eq n r]
theorem na_fs_get (ad : Nat → Nat) (I : Mm) (J : Ml) (k : Nat) : ∀ (fs : List Nat) (j i : Nat), (na_fs ad I J k j fs)[i]? = (fs[i]?).map (na_fv ad I J k (j + i))
  | [], j, i => by simp [na_fs]
  | c :: r, j, 0 => by simp [na_fs]
  | c :: r, j, i + 1 => by
    have h := na_fs_get ad I J k r (j + 1) i
    simp only [na_fs, List.getElem?_cons_succ, h]
    rw [show j + 1 + i = j + (i + 1) by omega]
theorem na_fs_len (ad : Nat → Nat) (I : Mm) (J : Ml) (k : Nat) : ∀ (fs : List Nat) (j : Nat), (na_fs ad I J k j fs).length = fs.length
  | [], j => rfl
  | c :: r, j => by simp [na_fs, na_fs_len ad I J k r (j + 1)]
theorem na_ws_get (ca ad : Nat → Nat) (I : Mm) (J : Ml) : ∀ (L : List Ly) (k i : Nat), (na_ws ca ad I J k L)[i]? = (L[i]?).map (fun e => (ad (k + i), na_ce ca ad I J (k + i) e))
  | [], k, i => by simp [na_ws]
  | c :: r, k, 0 => by simp [na_ws]
  | c :: r, k, i + 1 => by
    have h := na_ws_get ca ad I J r (k + 1) i
    simp only [na_ws, List.getElem?_cons_succ, h]
    rw [show k + 1 + i = k + (i + 1) by omega]
theorem na_ws_at {ca ad : Nat → Nat} {I : Mm} {J : Ml} {k : Nat} {e : Ly} (h : na_nth na_lay k = some e) : (na_ws ca ad I J 0 na_lay)[k]? = some (ad k, na_ce ca ad I J k e) := by
  rw [na_nth_eq] at h
  rw [na_ws_get, h]
  simp
theorem na_fv_congr {ad : Nat → Nat} {I I' : Mm} {J J' : Ml} {k j : Nat} (hI : I' k = I k) (hJ : J' k = J k) : ∀ c : Nat, na_fv ad I' J' k j c = na_fv ad I J k j c
  | 0 => by simp [na_fv, hI]
  | 1 => by simp [na_fv, hJ]
  | n + 2 => rfl
theorem na_ce_congr {ca ad : Nat → Nat} {I I' : Mm} {J J' : Ml} {k : Nat} (hI : I' k = I k) (hJ : J' k = J k) (e : Ly) : na_ce ca ad I' J' k e = na_ce ca ad I J k e := by
  rcases e with ⟨t, n⟩ | ⟨c, fs⟩
  · match t with
    | 0 => simp [na_ce, hI]
    | 1 => simp [na_ce, hJ]
    | t + 2 => simp [na_ce]
  · have : na_fs ad I' J' k 0 fs = na_fs ad I J k 0 fs := by
      apply List.ext_getElem?
      intro i
      rw [na_fs_get, na_fs_get]
      congr 1
      exact funext fun c => na_fv_congr hI hJ c
    simp [na_ce, this]
theorem na_ws_set {ca ad : Nat → Nat} {I I' : Mm} {J J' : Ml} {k : Nat} {e : Ly} (h : na_nth na_lay k = some e) (ho : ∀ a, a ≠ k → I' a = I a ∧ J' a = J a) : (na_ws ca ad I J 0 na_lay).set k (ad k, na_ce ca ad I' J' k e) = na_ws ca ad I' J' 0 na_lay := by
  have h' := h
  rw [na_nth_eq] at h
  apply List.ext_getElem?
  intro i
  rw [List.getElem?_set]
  by_cases hi : k = i
  · subst hi
    have hl : k < (na_ws ca ad I J 0 na_lay).length := by
      rcases Nat.lt_or_ge k (na_ws ca ad I J 0 na_lay).length with q | q
      · exact q
      · have := na_ws_at (ca := ca) (ad := ad) (I := I) (J := J) h'
        rw [List.getElem?_eq_none q] at this
        cases this
    rw [if_pos rfl, if_pos hl, na_ws_at h']
  · rw [if_neg hi, na_ws_get, na_ws_get]
    congr 1
    funext e'
    rw [na_ce_congr (ho _ (by omega)).1 (ho _ (by omega)).2]
theorem na_set_off {I : Mm} {k j : Nat} {v : Int32} {a : Nat} (h : a ≠ k) : na_set I k j v a = I a := by simp [na_set, h]
theorem na_set_on {I : Mm} {k j : Nat} {v : Int32} : na_set I k j v k = upd (I k) j v := by simp [na_set]
theorem na_setL_off {J : Ml} {k j : Nat} {v : Int64} {a : Nat} (h : a ≠ k) : na_setL J k j v a = J a := by simp [na_setL, h]
theorem na_setL_on {J : Ml} {k j : Nat} {v : Int64} : na_setL J k j v k = vp_updL (J k) j v := by simp [na_setL]
theorem na_cpI_off {I : Mm} {a d sp dp n b : Nat} (h : b ≠ d) : na_cpI I a d sp dp n b = I b := by simp [na_cpI, h]
theorem na_cpI_on {I : Mm} {a d sp dp n : Nat} : na_cpI I a d sp dp n d = va_cpy (I a) (I d) sp dp n := by simp [na_cpI]
theorem na_cpL_off {J : Ml} {a d sp dp n b : Nat} (h : b ≠ d) : na_cpL J a d sp dp n b = J b := by simp [na_cpL, h]
theorem na_cpL_on {J : Ml} {a d sp dp n : Nat} : na_cpL J a d sp dp n d = va_cpy (J a) (J d) sp dp n := by simp [na_cpL]
/-- an object's cell with one field changed -/
theorem na_fs_set {ad : Nat → Nat} {I I' : Mm} {J J' : Ml} {k j : Nat} {fs : List Nat} {c : Nat} {v : Value} (hc : fs[j]? = some c) (hv : na_fv ad I' J' k j c = v) (ho : ∀ b, b ≠ j → I' k b = I k b ∧ J' k b = J k b) : (na_fs ad I J k 0 fs).set j v = na_fs ad I' J' k 0 fs := by
  apply List.ext_getElem?
  intro i
  rw [List.getElem?_set]
  by_cases hi : j = i
  · subst hi
    have hl : j < (na_fs ad I J k 0 fs).length := by
      rw [na_fs_len]
      exact (List.getElem?_eq_some_iff.mp hc).1
    rw [if_pos rfl, if_pos hl, na_fs_get, hc]
    simp [hv]
  · rw [if_neg hi, na_fs_get, na_fs_get]
    congr 1
    funext c'
    have h1 := ho (0 + i) (by omega)
    match c' with
    | 0 => simp only [na_fv, h1.1]
    | 1 => simp only [na_fv, h1.2]
    | n + 2 => rfl
/-! locals -/
def na_lv (ad : Nat → Nat) (fm : Value) (lsA : Array Slot) (nL : Nat) (ls : Lo) : Prop := lsA.size = nL ∧ lv_wf lsA ∧ ∀ (i : Nat) (v : Value), ls[i]? = some (some v) → lsA[i]? = some (.val (na_tv ad fm v))
def na_al (ad : Nat → Nat) (fm : Value) (ls : Lo) : List (Nat × Value) := (List.range ls.length).filterMap fun i => match ls[i]? with
  | some (some v) => some (i, na_tv ad fm v)
  | _ => none
theorem na_al_mem {ad : Nat → Nat} {fm : Value} {ls : Lo} {q : Nat × Value} : q ∈ na_al ad fm ls ↔ ∃ v, ls[q.1]? = some (some v) ∧ q.2 = na_tv ad fm v := by
  unfold na_al
  rw [List.mem_filterMap]
  constructor
  · rintro ⟨i, -, h⟩
    cases hl : ls[i]? with
    | none => simp [hl] at h
    | some o =>
      cases o with
      | none => simp [hl] at h
      | some v =>
        simp only [hl, Option.some.injEq] at h
        subst h
        exact ⟨v, hl, rfl⟩
  · rintro ⟨v, h1, h2⟩
    refine ⟨q.1, ?_, ?_⟩
    · rw [List.mem_range]
      exact (List.getElem?_eq_some_iff.mp h1).1
    · simp [h1, ← h2]
theorem na_lv.has {ad : Nat → Nat} {fm : Value} {lsA : Array Slot} {nL : Nat} {ls : Lo} (h : na_lv ad fm lsA nL ls) : lv_has lsA nL (na_al ad fm ls) :=
  ⟨h.1, h.2.1, fun q hq => by
    obtain ⟨v, h1, h2⟩ := na_al_mem.mp hq
    rw [h2]
    exact h.2.2 q.1 v h1⟩
theorem na_tv_cat {ad : Nat → Nat} {fm : Value} (hf : fm = .null ∨ ∃ t : Nat, fm = .ref t) (v : Value) : (na_tv ad fm v).category = v.category := by
  cases v <;> simp only [na_tv]
  split
  · rcases hf with rfl | ⟨t, rfl⟩ <;> rfl
  · rfl
theorem na_s1_get : ∀ (ls : Lo) (i j : Nat) (v w : Value), (na_s1 ls i v)[j]? = some (some w) → (j = i ∧ w = v) ∨ (j ≠ i ∧ ls[j]? = some (some w) ∧ ¬ (j + 1 = i ∧ ((∃ x, w = .long x) ∨ ∃ x, w = .double x)))
  | [], i, j, v, w, h => by simp [na_s1] at h
  | x :: r, 0, 0, v, w, h => by
    simp only [na_s1, List.getElem?_cons_zero, Option.some.injEq] at h
    exact Or.inl ⟨rfl, h.symm⟩
  | x :: r, 0, j + 1, v, w, h => by
    simp only [na_s1, List.getElem?_cons_succ] at h
    exact Or.inr ⟨by omega, by simpa using h, fun q => by omega⟩
  | x :: r, 1, 0, v, w, h => by
    simp only [na_s1, List.getElem?_cons_zero, Option.some.injEq] at h
    split at h
    · cases h
    · cases h
    · rename_i h1 h2
      subst h
      refine Or.inr ⟨by omega, by simp, fun q => ?_⟩
      rcases q.2 with ⟨y, hy⟩ | ⟨y, hy⟩
      · exact h1 y (by rw [hy])
      · exact h2 y (by rw [hy])
  | x :: r, 1, j + 1, v, w, h => by
    simp only [na_s1, List.getElem?_cons_succ] at h
    rcases na_s1_get r 0 j v w h with ⟨h1, h2⟩ | ⟨h1, h2, h3⟩
    · exact Or.inl ⟨by omega, h2⟩
    · exact Or.inr ⟨by omega, by simpa using h2, fun q => by omega⟩
  | x :: r, i + 2, 0, v, w, h => by
    simp only [na_s1, List.getElem?_cons_zero, Option.some.injEq] at h
    exact Or.inr ⟨by omega, by simpa using h, fun q => by omega⟩
  | x :: r, i + 2, j + 1, v, w, h => by
    simp only [na_s1, List.getElem?_cons_succ] at h
    rcases na_s1_get r (i + 1) j v w h with ⟨h1, h2⟩ | ⟨h1, h2, h3⟩
    · exact Or.inl ⟨by omega, h2⟩
    · exact Or.inr ⟨by omega, by simpa using h2, fun q => h3 ⟨by omega, q.2⟩⟩
theorem na_s2_get : ∀ (ls : Lo) (i j : Nat) (v w : Value), (na_s2 ls i v)[j]? = some (some w) → (j = i ∧ w = v) ∨ (j ≠ i ∧ j ≠ i + 1 ∧ ls[j]? = some (some w) ∧ ¬ (j + 1 = i ∧ ((∃ x, w = .long x) ∨ ∃ x, w = .double x)))
  | [], i, j, v, w, h => by simp [na_s2] at h
  | x :: r, 0, 0, v, w, h => by
    simp only [na_s2, List.getElem?_cons_zero, Option.some.injEq] at h
    exact Or.inl ⟨rfl, h.symm⟩
  | x :: r, 0, j + 1, v, w, h => by
    simp only [na_s2, List.getElem?_cons_succ] at h
    cases r with
    | nil => simp [na_n1] at h
    | cons y r =>
      cases j with
      | zero => simp [na_n1] at h
      | succ j => exact Or.inr ⟨by omega, by omega, by simpa [na_n1] using h, fun q => by omega⟩
  | x :: r, 1, 0, v, w, h => by
    simp only [na_s2, List.getElem?_cons_zero, Option.some.injEq] at h
    split at h
    · cases h
    · cases h
    · rename_i h1 h2
      subst h
      refine Or.inr ⟨by omega, by omega, by simp, fun q => ?_⟩
      rcases q.2 with ⟨y, hy⟩ | ⟨y, hy⟩
      · exact h1 y (by rw [hy])
      · exact h2 y (by rw [hy])
  | x :: r, 1, j + 1, v, w, h => by
    simp only [na_s2, List.getElem?_cons_succ] at h
    rcases na_s2_get r 0 j v w h with ⟨h1, h2⟩ | ⟨h1, h4, h2, h3⟩
    · exact Or.inl ⟨by omega, h2⟩
    · exact Or.inr ⟨by omega, by omega, by simpa using h2, fun q => by omega⟩
  | x :: r, i + 2, 0, v, w, h => by
    simp only [na_s2, List.getElem?_cons_zero, Option.some.injEq] at h
    exact Or.inr ⟨by omega, by omega, by simpa using h, fun q => by omega⟩
  | x :: r, i + 2, j + 1, v, w, h => by
    simp only [na_s2, List.getElem?_cons_succ] at h
    rcases na_s2_get r (i + 1) j v w h with ⟨h1, h2⟩ | ⟨h1, h4, h2, h3⟩
    · exact Or.inl ⟨by omega, h2⟩
    · exact Or.inr ⟨by omega, by omega, by simpa using h2, fun q => h3 ⟨by omega, q.2⟩⟩
/-- a store of one slot -/
theorem na_lv.s1 {ad : Nat → Nat} {fm : Value} {lsA : Array Slot} {nL i : Nat} {ls : Lo} {v : Value} (hf : fm = .null ∨ ∃ t : Nat, fm = .ref t) (h : lv_has lsA nL ((i, na_tv ad fm v) :: (na_al ad fm ls).filter (fun q => !(q.1 == i) && !(q.1 + 1 == i && q.2.category == 2)))) : na_lv ad fm lsA nL (na_s1 ls i v) := by
  refine ⟨h.1, h.2.1, fun j w hj => ?_⟩
  rcases na_s1_get ls i j v w hj with ⟨rfl, rfl⟩ | ⟨hi, h1, h2⟩
  · exact h.2.2 (j, na_tv ad fm w) List.mem_cons_self
  · refine h.2.2 (j, na_tv ad fm w) (List.mem_cons_of_mem _ (List.mem_filter.mpr ⟨na_al_mem.mpr ⟨w, h1, rfl⟩, ?_⟩))
    simp only [Bool.and_eq_true, Bool.not_eq_true', beq_eq_false_iff_ne, ne_eq, Bool.and_eq_false_iff]
    refine ⟨hi, ?_⟩
    by_cases hj1 : j + 1 = i
    · refine Or.inr fun hc => ?_
      rw [na_tv_cat hf] at hc
      cases w with
      | long x => exact h2 ⟨hj1, Or.inl ⟨x, rfl⟩⟩
      | double x => exact h2 ⟨hj1, Or.inr ⟨x, rfl⟩⟩
      | _ => simp [Value.category] at hc
    · exact Or.inl hj1
theorem na_lv.s2 {ad : Nat → Nat} {fm : Value} {lsA : Array Slot} {nL i : Nat} {ls : Lo} {v : Value} (hf : fm = .null ∨ ∃ t : Nat, fm = .ref t) (h : lv_has lsA nL ((i, na_tv ad fm v) :: (na_al ad fm ls).filter (fun q => !(q.1 == i) && (!(q.1 == i + 1) && !(q.1 + 1 == i && q.2.category == 2))))) : na_lv ad fm lsA nL (na_s2 ls i v) := by
  refine ⟨h.1, h.2.1, fun j w hj => ?_⟩
  rcases na_s2_get ls i j v w hj with ⟨rfl, rfl⟩ | ⟨hi, hi2, h1, h2⟩
  · exact h.2.2 (j, na_tv ad fm w) List.mem_cons_self
  · refine h.2.2 (j, na_tv ad fm w) (List.mem_cons_of_mem _ (List.mem_filter.mpr ⟨na_al_mem.mpr ⟨w, h1, rfl⟩, ?_⟩))
    simp only [Bool.and_eq_true, Bool.not_eq_true', beq_eq_false_iff_ne, ne_eq, Bool.and_eq_false_iff]
    refine ⟨hi, hi2, ?_⟩
    by_cases hj1 : j + 1 = i
    · refine Or.inr fun hc => ?_
      rw [na_tv_cat hf] at hc
      cases w with
      | long x => exact h2 ⟨hj1, Or.inl ⟨x, rfl⟩⟩
      | double x => exact h2 ⟨hj1, Or.inr ⟨x, rfl⟩⟩
      | _ => simp [Value.category] at hc
    · exact Or.inl hj1
end
section
/-! ONE INSTRUCTION OF THE SMALL MACHINE IS ONE OF THE TRUE ONE -/
theorem na_pI_s {st : List Value} {k : Int32 → List Value → Prop} (h : na_pI st k) : ∃ x r, st = .int x :: r ∧ k x r := by
  unfold na_pI at h
  split at h
  · exact ⟨_, _, rfl, h⟩
  · exact h.elim
theorem na_pL_s {st : List Value} {k : Int64 → List Value → Prop} (h : na_pL st k) : ∃ x r, st = .long x :: r ∧ k x r := by
  unfold na_pL at h
  split at h
  · exact ⟨_, _, rfl, h⟩
  · exact h.elim
theorem na_pR_s {st : List Value} {k : Nat → List Value → Prop} (h : na_pR st k) : ∃ (x : Nat) (r : List Value), st = .ref x :: r ∧ k x r := by
  unfold na_pR at h
  split at h
  · exact ⟨_, _, rfl, h⟩
  · exact h.elim
theorem na_p1_s {st : List Value} {k : Value → List Value → Prop} (h : na_p1 st k) : ∃ v r, st = v :: r ∧ v.category = 1 ∧ k v r := by
  unfold na_p1 at h
  split at h
  · exact ⟨_, _, rfl, rfl, h⟩
  · exact ⟨_, _, rfl, rfl, h⟩
  · exact h.elim
theorem na_ld_s {l : Option (Option Value)} {k : Value → Prop} (h : na_ld l k) : ∃ v, l = some (some v) ∧ k v := by
  unfold na_ld at h
  split at h
  · exact ⟨_, rfl, h⟩
  · exact h.elim
theorem na_tk_s : ∀ (n : Nat) (acc st : List Value) (k : List Value → List Value → Prop), na_tk n acc st k → ∃ vs r, st = vs ++ r ∧ vs.length = n ∧ k (vs.reverse ++ acc) r
  | 0, acc, st, k, h => ⟨[], st, rfl, rfl, h⟩
  | n + 1, acc, [], k, h => by simp [na_tk] at h
  | n + 1, acc, v :: st, k, h => by
    obtain ⟨vs, r, h1, h2, h3⟩ := na_tk_s n (v :: acc) st k h
    exact ⟨v :: vs, r, by rw [h1]; rfl, by simp [h2], by simpa using h3⟩
theorem na_ct_eq : ∀ st : List Value, na_ct st = (st.map fun v => v.category).sum
  | [] => rfl
  | v :: r => by
    have h := na_ct_eq r
    cases v <;> simp [na_ct, Value.category, h]
theorem na_tvs_cat {ad : Nat → Nat} {fm : Value} (hf : fm = .null ∨ ∃ t : Nat, fm = .ref t) (st : List Value) : ((st.map (na_tv ad fm)).map fun v => v.category).sum = na_ct st := by
  rw [na_ct_eq, List.map_map]
  congr 2
  funext v
  exact na_tv_cat hf v
/-- what the check of a linking instruction says -/
def na_lk (own : String) (i : Instr) (h : List Nat) (v : Int32) (w : Int64) : Prop := match i with
  | .ldc idx => match h with
    | [] => Cond.constant own idx v ∈ na_Tg
    | a :: _ => own = RX2 ∧ ∃ q, na_nth na_wd a = some q ∧ q.1 = idx
  | .ldc_w idx => Cond.constant own idx v ∈ na_Tg
  | .ldc2_w idx => Cond.constantLong own idx w ∈ na_Tg
  | .getfield idx => if na_h0 h = 9 then (na_h1 h = 0 → Cond.fieldLink own idx RJ0 "coder" "B" ∈ na_Tg) ∧ (na_h1 h = 1 → Cond.fieldLink own idx RJ0 "value" "[B" ∈ na_Tg) else
      ∃ (C : String) (T : u_T) (N : Nat), vwCl[na_h0 h]? = some (C, T, N) ∧ (∀ w ∈ u_ws C T N, w ∈ na_Tg) ∧ na_h1 h < N ∧ Cond.fieldLink own idx (T (na_h1 h)).1 (T (na_h1 h)).2.1 (T (na_h1 h)).2.2.1 ∈ na_Tg
  | .putfield idx => ∃ (C : String) (T : u_T) (N : Nat) (ty : Nat → FieldType), vwCl[na_h0 h]? = some (C, T, N) ∧ (∀ w ∈ u_ws C T N, w ∈ na_Tg) ∧ (∀ k, k < N → parseFieldDescriptor (T k).2.2.1 = some (ty k)) ∧ (∀ a, a < N → ∀ b, b < N → a ≠ b → (T a).2.1 ≠ (T b).2.1) ∧ na_h1 h < N ∧ Cond.fieldLink own idx (T (na_h1 h)).1 (T (na_h1 h)).2.1 (T (na_h1 h)).2.2.1 ∈ na_Tg ∧ (T (na_h1 h)).2.2.2 = false ∧ ((na_h2 h = 0 ∧ ty (na_h1 h) = .int) ∨ (na_h2 h = 1 ∧ ty (na_h1 h) = .boolean) ∨ (na_h2 h = 2 ∧ ty (na_h1 h) = .long))
  | .getstatic idx => ∃ q, na_nth na_st (na_h0 h) = some q ∧ (Cond.fieldLink own idx q.1 q.2.1 q.2.2.1 ∈ na_Tg ∨ (own = RX2 ∧ idx = 111 ∧ q.1 = RX3 ∧ q.2.1 = "MOST_OF_ROOM" ∧ q.2.2.1 = "[I"))
  | .invokestatic idx => if na_h0 h = 998 then True else if na_h0 h = 997 then Cond.methodLink own idx Lib.Math.min.name ∈ na_Tg else if na_h0 h = 996 then Cond.methodLink own idx Lib.Math.max.name ∈ na_Tg else if na_h0 h = 999 then Cond.methodLink own idx arraycopyName ∈ na_Tg else
      (Cond.methodLink own idx (na_mi (na_h0 h)).1 ∈ na_Tg ∨ (own = RX0 ∧ idx = 65 ∧ (na_mi (na_h0 h)).1 = yX3_has) ∨ (own = RX2 ∧ idx = 137 ∧ (na_mi (na_h0 h)).1 = yX3_outside)) ∧ Cond.static (na_mi (na_h0 h)).1 ∈ na_Tg ∧ Cond.initialized (na_mi (na_h0 h)).1.cls ∈ na_Tg ∧ (na_ww (na_mi (na_h0 h))).head? = some (.code (na_mi (na_h0 h)).1 (na_mi (na_h0 h)).2.1 (na_mi (na_h0 h)).2.2.1 (na_mi (na_h0 h)).2.2.2.1) ∧ Cond.code (na_mi (na_h0 h)).1 (na_mi (na_h0 h)).2.1 (na_mi (na_h0 h)).2.2.1 (na_mi (na_h0 h)).2.2.2.1 ∈ na_Tg ∧ (na_mi (na_h0 h)).1.cls ≠ "java/lang/invoke/MethodHandle" ∧ (na_mi (na_h0 h)).1.cls ≠ "java/lang/invoke/VarHandle" ∧ (parseMethodDescriptor (na_mi (na_h0 h)).1.desc).map (fun d => d.parameters.length) = some (na_h1 h)
  | .invokevirtual idx => Cond.methodLink own idx (na_mi (na_h0 h)).1 ∈ na_Tg ∧ Cond.instanceMethod (na_mi (na_h0 h)).1 ∈ na_Tg ∧ Cond.selects (na_mi (na_h0 h)).1.cls (na_mi (na_h0 h)).1 (na_mi (na_h0 h)).1 ∈ na_Tg ∧ Cond.initialized (na_mi (na_h0 h)).1.cls ∈ na_Tg ∧ Cond.code (na_mi (na_h0 h)).1 (na_mi (na_h0 h)).2.1 (na_mi (na_h0 h)).2.2.1 (na_mi (na_h0 h)).2.2.2.1 ∈ na_Tg ∧ (na_mi (na_h0 h)).1.cls ≠ "java/lang/invoke/MethodHandle" ∧ (na_mi (na_h0 h)).1.cls ≠ "java/lang/invoke/VarHandle" ∧ (parseMethodDescriptor (na_mi (na_h0 h)).1.desc).map (fun d => d.parameters.length) = some (na_h1 h - 1) ∧ 1 ≤ na_h1 h ∧ ((na_h2 h = 9 ∧ (na_mi (na_h0 h)).1.cls = RJ0) ∨ (na_h2 h ≠ 9 ∧ ∃ q, vwCl[na_h2 h]? = some q ∧ q.1 = (na_mi (na_h0 h)).1.cls))
  | _ => True
end
section
/-! the check of a program, by the kernel -/
def na_tg (P : List En) (pc : Nat) (off : Int) (t : Nat) : Bool := match na_dr t P with
  | [] => false
  | e :: _ => decide ((pc : Int) + off = (e.1 : Int))
def na_tgs (P : List En) (pc : Nat) : List Int → List Nat → Bool
  | [], [] => true
  | o :: os, t :: ts => na_tg P pc o t && na_tgs P pc os ts
  | _, _ => false
def na_ity : FieldType → Bool
  | .int => true
  | .boolean => true
  | .byte => true
  | .char => true
  | .short => true
  | _ => false
def na_rty : FieldType → Bool
  | .object _ => true
  | .array _ => true
  | _ => false
def na_lty : FieldType → Bool
  | .long => true
  | _ => false
def na_ot (p : FieldType → Bool) (o : Option FieldType) : Bool := match o with
  | some t => p t
  | none => false
def na_okI (P : List En) (nL : Nat) (rt : Option FieldType) (fr lo : Nat) (e : En) : Bool :=
  match e.2.2.1 with
  | .iconst n => e.2.1 == 1 && Int32.ofInt n == e.2.2.2.2.1
  | .bipush n => e.2.1 == 2 && (Int8.ofInt n).toInt32 == e.2.2.2.2.1
  | .sipush n => e.2.1 == 3 && (Int16.ofInt n).toInt32 == e.2.2.2.2.1
  | .ldc_w _ => e.2.1 == 3
  | .ldc _ => e.2.1 == 2
  | .lconst n => e.2.1 == 1 && Int64.ofNat (n : Nat) == e.2.2.2.2.2
  | .ldc2_w _ => e.2.1 == 3
  | .iload i => e.2.1 == 2 && i == na_h0 e.2.2.2.1
  | .lload i => e.2.1 == 2 && i == na_h0 e.2.2.2.1
  | .aload i => e.2.1 == 2 && i == na_h0 e.2.2.2.1
  | .iload_n i => e.2.1 == 1 && (i : Nat) == na_h0 e.2.2.2.1
  | .lload_n i => e.2.1 == 1 && (i : Nat) == na_h0 e.2.2.2.1
  | .aload_n i => e.2.1 == 1 && (i : Nat) == na_h0 e.2.2.2.1
  | .istore i => e.2.1 == 2 && i == na_h0 e.2.2.2.1 && Nat.blt i nL
  | .lstore i => e.2.1 == 2 && i == na_h0 e.2.2.2.1 && Nat.blt (i + 1) nL
  | .astore i => e.2.1 == 2 && i == na_h0 e.2.2.2.1 && Nat.blt i nL
  | .istore_n i => e.2.1 == 1 && (i : Nat) == na_h0 e.2.2.2.1 && Nat.blt (na_h0 e.2.2.2.1) nL
  | .lstore_n i => e.2.1 == 1 && (i : Nat) == na_h0 e.2.2.2.1 && Nat.blt (na_h0 e.2.2.2.1 + 1) nL
  | .astore_n i => e.2.1 == 1 && (i : Nat) == na_h0 e.2.2.2.1 && Nat.blt (na_h0 e.2.2.2.1) nL
  | .iinc i n => e.2.1 == 3 && i == na_h0 e.2.2.2.1 && Nat.blt i nL && Int32.ofInt n == e.2.2.2.2.1
  | .goto off => e.2.1 == 3 && na_tg P e.1 off (na_h0 e.2.2.2.1)
  | .ifCond _ off => e.2.1 == 3 && na_tg P e.1 off (na_h0 e.2.2.2.1)
  | .if_icmp _ off => e.2.1 == 3 && na_tg P e.1 off (na_h0 e.2.2.2.1)
  | .tableswitch d lo hi offs => na_tg P e.1 d (na_h0 e.2.2.2.1) && na_tgs P e.1 offs.toList e.2.2.2.1.tail && decide (lo + offs.toList.length = hi + 1)
  | .getfield _ => e.2.1 == 3
  | .putfield _ => e.2.1 == 3
  | .getstatic _ => e.2.1 == 3
  | .invokestatic _ => e.2.1 == 3 && bif Nat.beq (na_h0 e.2.2.2.1) 998 then true else bif Nat.beq (na_h0 e.2.2.2.1) 997 || Nat.beq (na_h0 e.2.2.2.1) 996 then Nat.ble 1 fr && Nat.ble 21 lo else bif Nat.beq (na_h0 e.2.2.2.1) 999 then Nat.ble 1 fr && Nat.ble 26 lo else Nat.ble ((na_mi (na_h0 e.2.2.2.1)).2.2.2.2.1 + 1) fr && Nat.ble (8 + ((na_mi (na_h0 e.2.2.2.1)).2.2.1 + 11) + (na_mi (na_h0 e.2.2.2.1)).2.2.2.2.2) lo
  | .invokevirtual _ => e.2.1 == 3 && Nat.ble ((na_mi (na_h0 e.2.2.2.1)).2.2.2.2.1 + 1) fr && Nat.ble (8 + ((na_mi (na_h0 e.2.2.2.1)).2.2.1 + 11) + (na_mi (na_h0 e.2.2.2.1)).2.2.2.2.2) lo
  | .return_ => e.2.1 == 1 && rt.isNone
  | .ireturn => e.2.1 == 1 && na_ot na_ity rt
  | .lreturn => e.2.1 == 1 && na_ot na_lty rt
  | .areturn => e.2.1 == 1 && na_ot na_rty rt
  | _ => e.2.1 == 1
def na_okL (cc : ByteArray) (P : List En) (nL : Nat) (rt : Option FieldType) (fr lo : Nat) : List En → Bool
  | [] => true
  | e :: r => decide (decode cc e.1 = .ok (e.2.2.1, e.2.1)) && (match r with
    | [] => true
    | e' :: _ => Nat.beq e'.1 (e.1 + e.2.1)) && na_okI P nL rt fr lo e && na_okL cc P nL rt fr lo r
/-- a part of a program, checked -/
def na_okS (own : String) (cc : ByteArray) (P : List En) (nL : Nat) (rt : Option FieldType) (fr lo : Nat) (sfx : List En) : Prop := na_okL cc P nL rt fr lo sfx = true ∧ ∀ e ∈ sfx, na_lk own e.2.2.1 e.2.2.2.1 e.2.2.2.2.1 e.2.2.2.2.2
theorem na_okL_drop {cc : ByteArray} {P : List En} {nL : Nat} {rt : Option FieldType} {fr lo : Nat} : ∀ (n : Nat) (l : List En), na_okL cc P nL rt fr lo l = true → na_okL cc P nL rt fr lo (l.drop n) = true
  | 0, l, h => by simpa using h
  | n + 1, [], h => by simp [na_okL]
  | n + 1, a :: r, h => by
    simp only [List.drop_succ_cons]
    refine na_okL_drop n r ?_
    simp only [na_okL, Bool.and_eq_true] at h
    exact h.2
theorem na_okS.drop {own : String} {cc : ByteArray} {P : List En} {nL : Nat} {rt : Option FieldType} {fr lo : Nat} (h : na_okS own cc P nL rt fr lo P) (t : Nat) : na_okS own cc P nL rt fr lo (na_dr t P) := by
  rw [na_dr_eq]
  exact ⟨na_okL_drop t P h.1, fun e he => h.2 e (List.mem_of_mem_drop he)⟩
theorem na_okS.tail {own : String} {cc : ByteArray} {P : List En} {nL : Nat} {rt : Option FieldType} {fr lo : Nat} {e : En} {r : List En} (h : na_okS own cc P nL rt fr lo (e :: r)) : na_okS own cc P nL rt fr lo r := by
  have h1 := h.1
  simp only [na_okL, Bool.and_eq_true] at h1
  exact ⟨h1.2, fun e he => h.2 e (List.mem_cons_of_mem _ he)⟩
end
section
section NaSound
variable {p : Program} {l : Launch} {e : Env} {R : Room} {s s0 : State} {m : MethodId} {args : Array Value} {below : List Frame} {meth : Method} {c : Code} {cells slots : Nat} {Q : State → Prop}
variable {sx : Nat × (Nat → Int32)} {D : va_G} {ca ad : Nat → Nat} {fm : Value} {N0 : Nat} {own : String} {cc : ByteArray} {P : List En} {nL fr lo : Nat} {rt : Option FieldType} {Rt : Option Value → Mm → Ml → Prop}
/-- the true machine holds the small one's memory and locals -/
def na_iv (D : va_G) (ca ad : Nat → Nat) (fm : Value) (N0 : Nat) (s : State) (nL : Nat) (H : Heap) (locs : List Loc) (lsA : Array Slot) (ls : Lo) (I : Mm) (J : Ml) : Prop :=
  va_P D vwCl (na_ws ca ad I J 0 na_lay) H ∧ va_D (na_A N0) (na_ws ca ad I J 0 na_lay) ∧ va_S (na_A N0) s.heap H locs ∧ na_lv ad fm lsA nL ls
/-- what is given at a method's body -/
def na_B (sx : Nat × (Nat → Int32)) (D : va_G) (ca ad : Nat → Nat) (fm : Value) (N0 : Nat) (s0 : State) (own : String) (cc : ByteArray) (nL fr lo : Nat) (p : Program) (R : Room) (s : State) (m : MethodId) (args : Array Value) (c : Code) (cells slots : Nat) : Prop :=
  na_C sx D ca ad fm N0 s0 ∧ p.tables.exec = Jvm.exec ∧ c.code = cc ∧ c.maxLocals = nL ∧ s.vm.findClass own = some m.cls ∧ (∀ w ∈ na_Tg, w.before args s = true) ∧ na_Kw ad s ∧ s0.vm.Alike s.vm ∧ (∀ q : Nat, q < N0 → s.heap[q]? = s0.heap[q]?) ∧ N0 ≤ s.heap.size ∧ fr ≤ R.frames ∧ lo ≤ R.locals ∧ cells ≤ R.cells ∧ slots ≤ R.slots
/-- from these rows on, with these locals, this stack, this memory, the true machine comes to Q -/
def na_At (D : va_G) (ca ad : Nat → Nat) (fm : Value) (N0 : Nat) (nL : Nat) (p : Program) (l : Launch) (e : Env) (R : Room) (s : State) (m : MethodId) (args : Array Value) (below : List Frame) (meth : Method) (c : Code) (cells slots : Nat) (Q : State → Prop) (sfx : List En) (ls : Lo) (st : List Value) (I : Mm) (J : Ml) : Prop :=
  ∀ (x : En) (r : List En), sfx = x :: r → ∀ (H : Heap) (locs : List Loc) (lsA : Array Slot), na_iv D ca ad fm N0 s nL H locs lsA ls I J → W p l e R s m args below meth c H locs cells slots Q (F0 m x.1 lsA (st.map (na_tv ad fm)))
/-- the method's end at pc -/
def na_rd (cc : ByteArray) (rt : Option FieldType) (pc : Nat) (v : Option Value) : Prop := match v with
  | none => decode cc pc = .ok (.return_, 1) ∧ rt = none
  | some (.int v) => decode cc pc = .ok (.ireturn, 1) ∧ ∃ ty, rt = some ty ∧ na_ity ty = true ∧ na_nl ty v
  | some (.long _) => decode cc pc = .ok (.lreturn, 1) ∧ rt = some .long
  | some (.ref a) => decode cc pc = .ok (.areturn, 1) ∧ a ≠ 90 ∧ ∃ ty, rt = some ty ∧ na_rty ty = true
  | _ => False
def na_En (D : va_G) (ca ad : Nat → Nat) (fm : Value) (N0 : Nat) (cc : ByteArray) (rt : Option FieldType) (Rt : Option Value → Mm → Ml → Prop) (p : Program) (l : Launch) (e : Env) (R : Room) (s : State) (m : MethodId) (args : Array Value) (below : List Frame) (meth : Method) (c : Code) (cells slots : Nat) (Q : State → Prop) : Prop :=
  ∀ (v : Option Value) (I : Mm) (J : Ml) (H : Heap) (locs : List Loc) (pc : Nat) (lsA : Array Slot), Rt v I J → va_P D vwCl (na_ws ca ad I J 0 na_lay) H → va_D (na_A N0) (na_ws ca ad I J 0 na_lay) → va_S (na_A N0) s.heap H locs → na_rd cc rt pc v → W p l e R s m args below meth c H locs cells slots Q (F0 m pc lsA (v.map (na_tv ad fm)).toList)
theorem na_run {H : Heap} {locs : List Loc} {pc : Nat} {lsA : Array Slot} {st0 rest : List Value} {Qa : State → Outcome → State → Prop} {A : Nat → Prop} (hr : va_Run p l e R s m args below meth c H locs cells slots 0 0 (F0 m pc lsA st0) rest Qa A) (hL : ∀ q ∈ locs, A q.base)
    (kk : ∀ (v : Option Value) (st t : State) (locs1 : List Loc), st.heap = H → Qa st (.returned v) t → (∀ q ∈ locs1, A q.base) → W p l e R s m args below meth c t.heap locs1 cells slots Q (F0 m (pc + 3) lsA (v.toList ++ rest))) : W p l e R s m args below meth c H locs cells slots Q (F0 m pc lsA st0) := by
  intro T hT X
  obtain ⟨v, st₀, t, T', L, h0, X', hL1, e1, e2, hq, st⟩ := hr T hT X
  obtain ⟨t2, a1, b1⟩ := kk v st₀ t (locs ++ L) h0 hq (fun q hq => by
    rcases List.mem_append.mp hq with h | h
    · exact hL q h
    · exact hL1 q h) T' e1 X'
  exact ⟨t2, st t2 a1, b1⟩
end NaSound
end
section
section NaStep
variable {p : Program} {l : Launch} {e : Env} {R : Room} {s s0 : State} {m : MethodId} {args : Array Value} {below : List Frame} {meth : Method} {c : Code} {cells slots : Nat} {Q : State → Prop}
variable {sx : Nat × (Nat → Int32)} {D : va_G} {ca ad : Nat → Nat} {fm : Value} {N0 : Nat} {own : String} {cc : ByteArray} {P : List En} {nL fr lo : Nat} {rt : Option FieldType} {Rt : Option Value → Mm → Ml → Prop}
theorem na_tv_ref {ad : Nat → Nat} {fm : Value} {a : Nat} (h : a ≠ 90) : na_tv ad fm (.ref a) = .ref (ad a) := if_neg h
theorem na_lay_lt {a : Nat} {x : Ly} (h : na_nth na_lay a = some x) : a ≠ 90 := by
  intro q
  subst q
  have h2 : na_nth na_lay 90 = none := by decide +kernel
  rw [h2] at h
  cases h
theorem na_sa_ne {sx : Nat × (Nat → Int32)} {a : Nat} {x : Nat × (Nat → Int32)} (h : na_sa sx a = some x) : a ≠ 90 := by
  intro q
  subst q
  simp [na_sa] at h
theorem na_sb_ne {a : Nat} {x : Nat × (Nat → Int32)} (h : na_sb a = some x) : a ≠ 90 := by
  intro q
  subst q
  simp [na_sb] at h
theorem na_wd_lt {i : Nat} {q : Nat × String × List Int32} (h : na_nth na_wd i = some q) : i < 17 := by
  rw [na_nth_eq] at h
  exact (List.getElem?_eq_some_iff.mp h).1
theorem na_wd_at {i : Nat} (h : i < 17) : ∃ q, na_nth na_wd i = some q := by
  rw [na_nth_eq]
  exact ⟨_, List.getElem?_eq_getElem h⟩
theorem na_C.T {A' : Nat → Prop} {ty : FieldType} {a n : Nat} {f : Nat → Value} (h : va_T ty a n f A' s0 s0.heap) (hal : s0.vm.Alike s.vm) (hh : ∀ q : Nat, ¬ A' q → s.heap[q]? = s0.heap[q]?) : va_T ty a n f A' s s.heap := (h.moved hal).kept (fun q _ hq => hh q hq)
theorem na_C.Z {A' : Nat → Prop} {C n d : String} {v : Value} (h : va_Z C n d v A' s0 s0.heap) (hal : s0.vm.Alike s.vm) (hh : ∀ q : Nat, ¬ A' q → s.heap[q]? = s0.heap[q]?) : va_Z C n d v A' s s.heap := (h.moved hal).kept (fun q _ hq => hh q hq)
theorem na_C.OF {A' : Nat → Prop} {o n d : String} {v : Value} {a : Nat} (h : va_OF o n d v a A' s0 s0.heap) (hal : s0.vm.Alike s.vm) (hh : ∀ q : Nat, ¬ A' q → s.heap[q]? = s0.heap[q]?) : va_OF o n d v a A' s s.heap := (h.moved hal).kept (fun q _ hq => hh q hq)
theorem na_C.O {A' : Nat → Prop} {E : String} {a : Nat} (h : va_O E a A' s0 s0.heap) (hal : s0.vm.Alike s.vm) (hh : ∀ q : Nat, ¬ A' q → s.heap[q]? = s0.heap[q]?) : va_O E a A' s s.heap := (va_O.moved hal h).kept (fun q _ hq => hh q hq)
theorem na_beqF {a b : Nat} (h : ¬ a = b) : Nat.beq a b = false := by
  cases hq : Nat.beq a b with
  | false => rfl
  | true => exact absurd (Nat.eq_of_beq_eq_true hq) h
theorem na_lay_f : ∀ x ∈ na_lay, (match x with | .inr q => q.2.all (fun f => Nat.blt f 90) | .inl _ => true) = true := by decide +kernel
theorem na_lay_fl {a c j f : Nat} {fs : List Nat} (h : na_nth na_lay a = some (.inr (c, fs))) (hf : na_nth fs j = some f) : f < 90 := by
  rw [na_nth_eq] at h hf
  have h1 := na_lay_f _ (List.mem_of_getElem? h)
  have h2 := List.all_eq_true.mp h1 f (List.mem_of_getElem? hf)
  exact Nat.le_of_ble_eq_true h2
theorem na_fw_tv {ad : Nat → Nat} {fm : Value} {I : Mm} {J : Ml} {k j : Nat} : ∀ (f : Nat), f < 90 → na_tv ad fm (na_fw I J k j f) = na_fv ad I J k j f
  | 0, _ => rfl
  | 1, _ => rfl
  | n + 2, h => na_tv_ref (by omega)
theorem na_good : ∀ w ∈ na_Tg, (w.onTables && w.keeps) = true ∨ ∃ ty, w = .arrayClass ty := fun w h => good_of_word (List.mem_filter.mp h).2
theorem na_mem {i : Nat} {w : Cond} (h : lw_tbl[i]? = some w) (hg : goodWord w = true) : w ∈ na_Tg := List.mem_filter.mpr ⟨List.mem_of_getElem? h, hg⟩
theorem na_natT : Cond.native arraycopyName ∈ na_Tg := na_mem (i := 336) (by decide +kernel) (by decide +kernel)
theorem na_statT : Cond.static arraycopyName ∈ na_Tg := na_mem (i := 335) (by decide +kernel) (by decide +kernel)
theorem na_sysT : Cond.initialized "java/lang/System" ∈ na_Tg := na_mem (i := 68) (by decide +kernel) (by decide +kernel)
theorem na_mathT : Cond.initialized "java/lang/Math" ∈ na_Tg := na_mem (i := 69) (by decide +kernel) (by decide +kernel)
theorem na_mminS : Cond.static Lib.Math.min.name ∈ na_Tg := na_mem (i := 355) (by decide +kernel) (by decide +kernel)
theorem na_mminC : Cond.code Lib.Math.min.name Lib.Math.min.code 2 (some .int) ∈ na_Tg := na_mem (i := 356) (by decide +kernel) (by decide +kernel)
theorem na_mmaxS : Cond.static Lib.Math.max.name ∈ na_Tg := na_mem (i := 470) (by decide +kernel) (by decide +kernel)
theorem na_mmaxC : Cond.code Lib.Math.max.name Lib.Math.max.code 2 (some .int) ∈ na_Tg := na_mem (i := 471) (by decide +kernel) (by decide +kernel)
theorem na_Kw.same {ad : Nat → Nat} {u U : State} (h : na_Kw ad u) (hv : u.vm = U.vm) : na_Kw ad U := ⟨va_Nw.same rfl hv h.1, va_Nw.same rfl hv h.2.1, va_Nw.same rfl hv h.2.2.1, fun i q hq => vk_R.same hv.symm (h.2.2.2 i q hq)⟩
theorem na_Kw.warm {ad : Nat → Nat} {u U : State} (h : na_Kw ad u) (hW : u.WarmedH U.vm) : na_Kw ad U := ⟨va_Nw.warmM hW h.1, va_Nw.warmM hW h.2.1, va_Nw.warmF hW h.2.2.1, fun i q hq => vk_R.warm hW (h.2.2.2 i q hq)⟩
theorem na_blind {D : va_G} {ca ad : Nat → Nat} {fm : Value} {N0 : Nat} {s0 : State} {av : List Value} {I : Mm} {J : Ml} : FrameBlind (na_Pc D ca ad fm N0 s0 av I J) := fun a U g mk ⟨h1, h2, h3, h4⟩ => ⟨h1, h2, h3.same rfl, h4⟩
/-- what a callee is given -/
theorem na_pre (hB : na_B sx D ca ad fm N0 s0 own cc nL fr lo p R s m args c cells slots) {H : Heap} {locs : List Loc} {av : List Value} {I : Mm} {J : Ml} (hPw : va_P D vwCl (na_ws ca ad I J 0 na_lay) H) (hDw : va_D (na_A N0) (na_ws ca ad I J 0 na_lay)) (hSw : va_S (na_A N0) s.heap H locs) : ∀ U : State, U.heap = H → s.WarmedH U.vm → na_Pc D ca ad fm N0 s0 av I J (av.map (na_tv ad fm)).toArray U := by
  intro U hU hW
  obtain ⟨hC, hx, hb, hml, hown, hts, hKw, hal, hh, hn0, hfr, hlo, hcs, hss⟩ := id hB
  refine ⟨rfl, hal.trans hW.alike, hKw.warm hW, ?_⟩
  rw [hU]
  exact ⟨hPw, hDw, Nat.le_trans hn0 hSw.1, fun q hq => (hSw.2.1 q (Nat.lt_of_lt_of_le hq hn0) (Nat.not_le.mpr hq)).trans (hh q hq)⟩
/-- behind a call -/
theorem na_back {H : Heap} {locs : List Loc} {pc : Nat} {lsA : Array Slot} {st0 rest : List Value} {Post : Option Value → Mm → Ml → Prop} {a : Array Value} {ls : Lo} (hB : na_B sx D ca ad fm N0 s0 own cc nL fr lo p R s m args c cells slots) (hSw : va_S (na_A N0) s.heap H locs) (hlv : na_lv ad fm lsA nL ls)
    (hr : va_Run p l e R s m args below meth c H locs cells slots 0 0 (F0 m pc lsA st0) (rest.map (na_tv ad fm)) (na_Qc D ca ad fm N0 s0 Post a) (na_A N0))
    (kk : ∀ (r : Option Value) (I' : Mm) (J' : Ml), Post r I' J' → ∀ (H' : Heap) (locs' : List Loc), na_iv D ca ad fm N0 s nL H' locs' lsA ls I' J' → W p l e R s m args below meth c H' locs' cells slots Q (F0 m (pc + 3) lsA ((na_pu r rest).map (na_tv ad fm)))) : W p l e R s m args below meth c H locs cells slots Q (F0 m pc lsA st0) := by
  obtain ⟨hC, hx, hb, hml, hown, hts, hKw, hal, hh, hn0, hfr, hlo, hcs, hss⟩ := id hB
  refine na_run hr hSw.2.2 (fun v st t locs1 hst hq hl1 => ?_)
  obtain ⟨r, I', J', ho, hpost, hR, hsz⟩ := hq
  have ev : v = r.map (na_tv ad fm) := by cases ho; rfl
  have g := kk r I' J' hpost t.heap locs1 ⟨hR.1, hR.2.1, ⟨by rw [hst] at hsz; exact Nat.le_trans hSw.1 hsz, fun q h1 h2 => (hR.2.2.2 q (Nat.not_le.mp h2)).trans (hh q (Nat.not_le.mp h2)).symm, hl1⟩, hlv⟩
  rw [ev]
  cases r with
  | none => exact g
  | some v => exact g
theorem na_sw_s : ∀ (ts : List Nat) (lo : Int) (x : Int32) (k : Nat → Prop), na_sw ts lo x k → ∀ (j t : Nat), ts[j]? = some t → x.toInt = lo + j → k t
  | [], lo, x, k, h, j, t, hj, hx => by simp at hj
  | t0 :: ts, lo, x, k, h, 0, t, hj, hx => by
    simp only [List.getElem?_cons_zero, Option.some.injEq] at hj
    subst hj
    exact h.1 (by omega)
  | t0 :: ts, lo, x, k, h, j + 1, t, hj, hx => na_sw_s ts (lo + 1) x k h.2 j t (by simpa using hj) (by omega)
theorem na_tgs_s {P : List En} {pc : Nat} : ∀ (os : List Int) (ts : List Nat), na_tgs P pc os ts = true → ∀ (j : Nat) (o : Int), os[j]? = some o → ∃ t, ts[j]? = some t ∧ na_tg P pc o t = true
  | [], ts, h, j, o, hj => by simp at hj
  | o0 :: os, [], h, j, o, hj => by simp [na_tgs] at h
  | o0 :: os, t0 :: ts, h, j, o, hj => by
    simp only [na_tgs, Bool.and_eq_true] at h
    cases j with
    | zero =>
      simp only [List.getElem?_cons_zero, Option.some.injEq] at hj
      subst hj
      exact ⟨t0, by simp, h.1⟩
    | succ j =>
      obtain ⟨t, h1, h2⟩ := na_tgs_s os ts h.2 j o (by simpa using hj)
      exact ⟨t, by simpa using h1, h2⟩
theorem na_shp_ne {a n : Nat} {i : Int32} (h : na_nth na_lay a = some (.inl (2, n))) (hi : vp_in i n) : na_shp i.toNatClampNeg ≠ 90 := by
  have hlt : i.toNatClampNeg < n := Nat.not_le.mp fun q => hi (Or.inr q)
  have hn : n ≤ 4 := by
    rw [na_nth_eq] at h
    have hm := List.mem_of_getElem? h
    simp [na_lay] at hm
    omega
  unfold na_shp
  omega
theorem na_lty_s {o : Option FieldType} (h : na_ot na_lty o = true) : o = some .long := by
  cases o with
  | none => cases h
  | some t =>
    cases t <;> first | rfl | cases h
theorem na_ot_s {f : FieldType → Bool} {o : Option FieldType} (h : na_ot f o = true) : ∃ t, o = some t ∧ f t = true := by
  cases o with
  | none => cases h
  | some t => exact ⟨t, rfl, h⟩
set_option maxHeartbeats 4000000 in
set_option maxRecDepth 100000 in
theorem na_step (hB : na_B sx D ca ad fm N0 s0 own cc nL fr lo p R s m args c cells slots) (hE : na_En D ca ad fm N0 cc rt Rt p l e R s m args below meth c cells slots Q) (hP : na_okS own cc P nL rt fr lo P)
    {k : List En → Lo → List Value → Mm → Ml → Prop} (hk0 : ∀ ls st I J, ¬ k [] ls st I J) (hk : ∀ sfx ls st I J, na_okS own cc P nL rt fr lo sfx → k sfx ls st I J → na_At D ca ad fm N0 nL p l e R s m args below meth c cells slots Q sfx ls st I J)
    {x : En} {r : List En} (hS : na_okS own cc P nL rt fr lo (x :: r)) {ls : Lo} {st : List Value} {I : Mm} {J : Ml} (h : na_stp P sx rt Rt k x r ls st I J) : na_At D ca ad fm N0 nL p l e R s m args below meth c cells slots Q (x :: r) ls st I J := by
  intro x' r' hxr H locs lsA hiv
  cases hxr
  obtain ⟨pc, len, ins, hi, v32, v64⟩ := x
  have hok := hS.1
  have hlk := hS.2 _ List.mem_cons_self
  simp only [na_okL, Bool.and_eq_true, decide_eq_true_eq] at hok
  obtain ⟨⟨⟨hd, hnx⟩, hI⟩, -⟩ := hok
  have hSt := hS.tail
  obtain ⟨hC, hx, hb, hml, hown, hts, hKw, hal, hh, hn0, hfr, hlo, hcs, hss⟩ := id hB
  obtain ⟨hK0, hsz0, hsa, hsb, hst, hwd, hfm⟩ := id hC
  have hh' : ∀ q : Nat, ¬ na_A N0 q → s.heap[q]? = s0.heap[q]? := fun q hq => hh q (Nat.not_le.mp hq)
  have hK : va_K D vwCl (na_tys ca) s := va_K.moved hal hK0
  obtain ⟨hPw, hDw, hSw, hlv⟩ := id hiv
  have nx : ∀ (ls' : Lo) (st' : List Value) (I' : Mm) (J' : Ml), k r ls' st' I' J' → ∀ (H' : Heap) (locs' : List Loc) (lsA' : Array Slot), na_iv D ca ad fm N0 s nL H' locs' lsA' ls' I' J' → W p l e R s m args below meth c H' locs' cells slots Q (F0 m (pc + len) lsA' (st'.map (na_tv ad fm))) := by
    intro ls' st' I' J' hk' H' locs' lsA' hiv'
    cases r with
    | nil => exact absurd hk' (hk0 _ _ _ _)
    | cons y r2 =>
      have h1 := hk _ _ _ _ _ hSt hk' y r2 rfl H' locs' lsA' hiv'
      have h2 : y.1 = pc + len := Nat.eq_of_beq_eq_true hnx
      rw [h2] at h1
      exact h1
  have jp : ∀ (off : Int) (t : Nat), na_tg P pc off t = true → ∃ tgt : Nat, (pc : Int) + off = (tgt : Int) ∧ ∀ (ls' : Lo) (st' : List Value) (I' : Mm) (J' : Ml), k (na_dr t P) ls' st' I' J' → ∀ (H' : Heap) (locs' : List Loc) (lsA' : Array Slot), na_iv D ca ad fm N0 s nL H' locs' lsA' ls' I' J' → W p l e R s m args below meth c H' locs' cells slots Q (F0 m tgt lsA' (st'.map (na_tv ad fm))) := by
    intro off t ht
    have hdS := hP.drop t
    unfold na_tg at ht
    split at ht
    · cases ht
    · rename_i y r2 hy
      refine ⟨y.1, by simpa using ht, fun ls' st' I' J' hk' H' locs' lsA' hiv' => ?_⟩
      exact hk _ _ _ _ _ hdS hk' y r2 hy H' locs' lsA' hiv'
  have key : W p l e R s m args below meth c H locs cells slots Q (F0 m pc lsA (st.map (na_tv ad fm))) := by
    cases ins with
    | iconst n =>
      dsimp only [na_stp] at h
      simp only [na_okI, Bool.and_eq_true, beq_iff_eq] at hI
      obtain ⟨h1, h2⟩ := hI
      subst h1
      exact lv_iconst hx hb hd h2 (nx _ _ _ _ h _ _ _ hiv)
    | bipush n =>
      dsimp only [na_stp] at h
      simp only [na_okI, Bool.and_eq_true, beq_iff_eq] at hI
      obtain ⟨h1, h2⟩ := hI
      subst h1
      exact lv_bipush hx hb hd h2 (nx _ _ _ _ h _ _ _ hiv)
    | sipush n =>
      dsimp only [na_stp] at h
      simp only [na_okI, Bool.and_eq_true, beq_iff_eq] at hI
      obtain ⟨h1, h2⟩ := hI
      subst h1
      exact lv_sipush hx hb hd h2 (nx _ _ _ _ h _ _ _ hiv)
    | lconst n =>
      dsimp only [na_stp] at h
      simp only [na_okI, Bool.and_eq_true, beq_iff_eq] at hI
      obtain ⟨h1, h2⟩ := hI
      subst h1
      exact lv_lconst hx hb hd h2 (nx _ _ _ _ h _ _ _ hiv)
    | ldc_w n =>
      dsimp only [na_stp] at h
      simp only [na_okI, Bool.and_eq_true, beq_iff_eq] at hI
      subst hI
      exact lv_ldcw hx hb hown (hts _ hlk) hd (nx _ _ _ _ h _ _ _ hiv)
    | ldc2_w n =>
      dsimp only [na_stp] at h
      simp only [na_okI, Bool.and_eq_true, beq_iff_eq] at hI
      subst hI
      exact lv_ldc2 hx hb hown (hts _ hlk) hd (nx _ _ _ _ h _ _ _ hiv)
    | ldc n =>
      dsimp only [na_stp] at h
      simp only [na_okI, Bool.and_eq_true, beq_iff_eq] at hI
      subst hI
      cases hi with
      | nil => exact lv_ldc hx hb hown (hts _ hlk) hd (nx _ _ _ _ h _ _ _ hiv)
      | cons a hr =>
        obtain ⟨ho, q, hq, hqi⟩ := hlk
        have hl17 := na_wd_lt hq
        have g := nx _ _ _ _ h _ _ _ hiv
        simp only [List.map_cons, na_tv_ref (ad := ad) (fm := fm) (show 100 + a ≠ 90 by omega)] at g
        subst ho
        subst hqi
        exact va_ldcS hx hb hown (hKw.2.2.2 a q hq) hd g
    | iload n =>
      dsimp only [na_stp] at h
      simp only [na_okI, Bool.and_eq_true, beq_iff_eq] at hI
      obtain ⟨h1, h2⟩ := hI
      subst h1
      obtain ⟨v, hv, h1_⟩ := na_ld_s h
      try dsimp only at h1_
      obtain ⟨y, r3, e3, h2_⟩ := na_pI_s h1_
      try dsimp only at h2_
      cases e3
      rw [na_nth_eq] at hv
      have g := hlv.2.2 _ _ hv
      subst h2
      exact lv_iload hx hb hd g (nx _ _ _ _ h2_ _ _ _ hiv)
    | iload_n n =>
      dsimp only [na_stp] at h
      simp only [na_okI, Bool.and_eq_true, beq_iff_eq] at hI
      obtain ⟨h1, h2⟩ := hI
      subst h1
      obtain ⟨v, hv, h1_⟩ := na_ld_s h
      try dsimp only at h1_
      obtain ⟨y, r3, e3, h2_⟩ := na_pI_s h1_
      try dsimp only at h2_
      cases e3
      rw [na_nth_eq] at hv
      have g := hlv.2.2 _ _ hv
      exact lv_iload_n hx hb hd h2 g (nx _ _ _ _ h2_ _ _ _ hiv)
    | lload n =>
      dsimp only [na_stp] at h
      simp only [na_okI, Bool.and_eq_true, beq_iff_eq] at hI
      obtain ⟨h1, h2⟩ := hI
      subst h1
      obtain ⟨v, hv, h1_⟩ := na_ld_s h
      try dsimp only at h1_
      obtain ⟨y, r3, e3, h2_⟩ := na_pL_s h1_
      try dsimp only at h2_
      cases e3
      rw [na_nth_eq] at hv
      have g := hlv.2.2 _ _ hv
      subst h2
      exact lv_lload hx hb hd g (nx _ _ _ _ h2_ _ _ _ hiv)
    | lload_n n =>
      dsimp only [na_stp] at h
      simp only [na_okI, Bool.and_eq_true, beq_iff_eq] at hI
      obtain ⟨h1, h2⟩ := hI
      subst h1
      obtain ⟨v, hv, h1_⟩ := na_ld_s h
      try dsimp only at h1_
      obtain ⟨y, r3, e3, h2_⟩ := na_pL_s h1_
      try dsimp only at h2_
      cases e3
      rw [na_nth_eq] at hv
      have g := hlv.2.2 _ _ hv
      exact lv_lload_n hx hb hd h2 g (nx _ _ _ _ h2_ _ _ _ hiv)
    | aload n =>
      dsimp only [na_stp] at h
      simp only [na_okI, Bool.and_eq_true, beq_iff_eq] at hI
      obtain ⟨h1, h2⟩ := hI
      subst h1
      obtain ⟨v, hv, h1_⟩ := na_ld_s h
      try dsimp only at h1_
      obtain ⟨y, r3, e3, h2_⟩ := na_pR_s h1_
      try dsimp only at h2_
      cases e3
      rw [na_nth_eq] at hv
      have g := hlv.2.2 _ _ hv
      cases h9 : Nat.beq y 90 with
      | true => rw [h9] at h2_; exact (show False from h2_).elim
      | false =>
        rw [h9] at h2_
        have h90 : y ≠ 90 := Nat.ne_of_beq_eq_false h9
        rw [na_tv_ref h90] at g
        have g2 := nx _ _ _ _ h2_ _ _ _ hiv
        simp only [List.map_cons, na_tv_ref (ad := ad) (fm := fm) h90] at g2
        subst h2
        exact lv_aload hx hb hd g g2
    | aload_n n =>
      dsimp only [na_stp] at h
      simp only [na_okI, Bool.and_eq_true, beq_iff_eq] at hI
      obtain ⟨h1, h2⟩ := hI
      subst h1
      obtain ⟨v, hv, h1_⟩ := na_ld_s h
      try dsimp only at h1_
      obtain ⟨y, r3, e3, h2_⟩ := na_pR_s h1_
      try dsimp only at h2_
      cases e3
      rw [na_nth_eq] at hv
      have g := hlv.2.2 _ _ hv
      cases h9 : Nat.beq y 90 with
      | true => rw [h9] at h2_; exact (show False from h2_).elim
      | false =>
        rw [h9] at h2_
        have h90 : y ≠ 90 := Nat.ne_of_beq_eq_false h9
        rw [na_tv_ref h90] at g
        have g2 := nx _ _ _ _ h2_ _ _ _ hiv
        simp only [List.map_cons, na_tv_ref (ad := ad) (fm := fm) h90] at g2
        exact lv_aload_n hx hb hd h2 g g2
    | istore n =>
      dsimp only [na_stp] at h
      simp only [na_okI, Bool.and_eq_true, beq_iff_eq] at hI
      obtain ⟨⟨h1, h2⟩, h3⟩ := hI
      subst h1
      obtain ⟨y, r3, e3, h1_⟩ := na_pI_s h
      try dsimp only at h1_
      subst e3
      subst h2
      exact lv_istore hx hb hd hlv.has (Nat.le_of_ble_eq_true h3) rfl (fun lsB hl => nx _ _ _ _ h1_ _ _ _ ⟨hPw, hDw, hSw, na_lv.s1 (v := .int y) hfm hl⟩)
    | istore_n n =>
      dsimp only [na_stp] at h
      simp only [na_okI, Bool.and_eq_true, beq_iff_eq] at hI
      obtain ⟨⟨h1, h2⟩, h3⟩ := hI
      subst h1
      obtain ⟨y, r3, e3, h1_⟩ := na_pI_s h
      try dsimp only at h1_
      subst e3
      exact lv_istore_n hx hb hd h2 hlv.has (Nat.le_of_ble_eq_true h3) rfl (fun lsB hl => nx _ _ _ _ h1_ _ _ _ ⟨hPw, hDw, hSw, na_lv.s1 (v := .int y) hfm hl⟩)
    | lstore n =>
      dsimp only [na_stp] at h
      simp only [na_okI, Bool.and_eq_true, beq_iff_eq] at hI
      obtain ⟨⟨h1, h2⟩, h3⟩ := hI
      subst h1
      obtain ⟨y, r3, e3, h1_⟩ := na_pL_s h
      try dsimp only at h1_
      subst e3
      subst h2
      exact lv_lstore hx hb hd hlv.has (Nat.le_of_ble_eq_true h3) rfl (fun lsB hl => nx _ _ _ _ h1_ _ _ _ ⟨hPw, hDw, hSw, na_lv.s2 (v := .long y) hfm hl⟩)
    | lstore_n n =>
      dsimp only [na_stp] at h
      simp only [na_okI, Bool.and_eq_true, beq_iff_eq] at hI
      obtain ⟨⟨h1, h2⟩, h3⟩ := hI
      subst h1
      obtain ⟨y, r3, e3, h1_⟩ := na_pL_s h
      try dsimp only at h1_
      subst e3
      exact lv_lstore_n hx hb hd h2 hlv.has (Nat.le_of_ble_eq_true h3) rfl (fun lsB hl => nx _ _ _ _ h1_ _ _ _ ⟨hPw, hDw, hSw, na_lv.s2 (v := .long y) hfm hl⟩)
    | astore n =>
      dsimp only [na_stp] at h
      simp only [na_okI, Bool.and_eq_true, beq_iff_eq] at hI
      obtain ⟨⟨h1, h2⟩, h3⟩ := hI
      subst h1
      obtain ⟨y, r3, e3, h1_⟩ := na_pR_s h
      try dsimp only at h1_
      subst e3
      cases h9 : Nat.beq y 90 with
      | true => rw [h9] at h1_; exact (show False from h1_).elim
      | false =>
        rw [h9] at h1_
        have h90 : y ≠ 90 := Nat.ne_of_beq_eq_false h9
        simp only [List.map_cons, na_tv_ref (ad := ad) (fm := fm) h90]
        subst h2
        exact lv_astore hx hb hd hlv.has (Nat.le_of_ble_eq_true h3) rfl (fun lsB hl => nx _ _ _ _ h1_ _ _ _ ⟨hPw, hDw, hSw, na_lv.s1 (v := .ref y) hfm (by rw [na_tv_ref h90]; exact hl)⟩)
    | astore_n n =>
      dsimp only [na_stp] at h
      simp only [na_okI, Bool.and_eq_true, beq_iff_eq] at hI
      obtain ⟨⟨h1, h2⟩, h3⟩ := hI
      subst h1
      obtain ⟨y, r3, e3, h1_⟩ := na_pR_s h
      try dsimp only at h1_
      subst e3
      cases h9 : Nat.beq y 90 with
      | true => rw [h9] at h1_; exact (show False from h1_).elim
      | false =>
        rw [h9] at h1_
        have h90 : y ≠ 90 := Nat.ne_of_beq_eq_false h9
        simp only [List.map_cons, na_tv_ref (ad := ad) (fm := fm) h90]
        exact lv_astore_n hx hb hd h2 hlv.has (Nat.le_of_ble_eq_true h3) rfl (fun lsB hl => nx _ _ _ _ h1_ _ _ _ ⟨hPw, hDw, hSw, na_lv.s1 (v := .ref y) hfm (by rw [na_tv_ref h90]; exact hl)⟩)
    | iinc i n =>
      dsimp only [na_stp] at h
      simp only [na_okI, Bool.and_eq_true, beq_iff_eq] at hI
      obtain ⟨⟨⟨h1, h2⟩, h3⟩, h4⟩ := hI
      subst h1
      subst h2
      obtain ⟨v, hv, h1_⟩ := na_ld_s h
      try dsimp only at h1_
      obtain ⟨y, r3, e3, h2_⟩ := na_pI_s h1_
      try dsimp only at h2_
      cases e3
      rw [na_nth_eq] at hv
      obtain ⟨kk, hkk⟩ := List.getElem?_of_mem (na_al_mem (ad := ad) (fm := fm) (q := (na_h0 hi, .int y)) |>.mpr ⟨_, hv, rfl⟩)
      exact lv_iinc (v := y + v32) hx hb hd hlv.has hkk (by rw [h4]) (Nat.le_of_ble_eq_true h3) rfl (fun lsB hl => nx _ _ _ _ h2_ _ _ _ ⟨hPw, hDw, hSw, na_lv.s1 (v := .int (y + v32)) hfm hl⟩)
    | iadd =>
      dsimp only [na_stp] at h
      simp only [na_okI, Bool.and_eq_true, beq_iff_eq] at hI
      subst hI
      obtain ⟨y, r1, e1, h1_⟩ := na_pI_s h
      try dsimp only at h1_
      obtain ⟨z, r2, e2, h2_⟩ := na_pI_s h1_
      try dsimp only at h2_
      subst e1 e2
      exact lv_iadd hx hb hd (nx _ _ _ _ h2_ _ _ _ hiv)
    | isub =>
      dsimp only [na_stp] at h
      simp only [na_okI, Bool.and_eq_true, beq_iff_eq] at hI
      subst hI
      obtain ⟨y, r1, e1, h1_⟩ := na_pI_s h
      try dsimp only at h1_
      obtain ⟨z, r2, e2, h2_⟩ := na_pI_s h1_
      try dsimp only at h2_
      subst e1 e2
      exact lv_isub hx hb hd (nx _ _ _ _ h2_ _ _ _ hiv)
    | imul =>
      dsimp only [na_stp] at h
      simp only [na_okI, Bool.and_eq_true, beq_iff_eq] at hI
      subst hI
      obtain ⟨y, r1, e1, h1_⟩ := na_pI_s h
      try dsimp only at h1_
      obtain ⟨z, r2, e2, h2_⟩ := na_pI_s h1_
      try dsimp only at h2_
      subst e1 e2
      exact lv_imul hx hb hd (nx _ _ _ _ h2_ _ _ _ hiv)
    | iand =>
      dsimp only [na_stp] at h
      simp only [na_okI, Bool.and_eq_true, beq_iff_eq] at hI
      subst hI
      obtain ⟨y, r1, e1, h1_⟩ := na_pI_s h
      try dsimp only at h1_
      obtain ⟨z, r2, e2, h2_⟩ := na_pI_s h1_
      try dsimp only at h2_
      subst e1 e2
      exact lv_iand hx hb hd (nx _ _ _ _ h2_ _ _ _ hiv)
    | ior =>
      dsimp only [na_stp] at h
      simp only [na_okI, Bool.and_eq_true, beq_iff_eq] at hI
      subst hI
      obtain ⟨y, r1, e1, h1_⟩ := na_pI_s h
      try dsimp only at h1_
      obtain ⟨z, r2, e2, h2_⟩ := na_pI_s h1_
      try dsimp only at h2_
      subst e1 e2
      exact lv_ior hx hb hd (nx _ _ _ _ h2_ _ _ _ hiv)
    | ixor =>
      dsimp only [na_stp] at h
      simp only [na_okI, Bool.and_eq_true, beq_iff_eq] at hI
      subst hI
      obtain ⟨y, r1, e1, h1_⟩ := na_pI_s h
      try dsimp only at h1_
      obtain ⟨z, r2, e2, h2_⟩ := na_pI_s h1_
      try dsimp only at h2_
      subst e1 e2
      exact lv_ixor hx hb hd (nx _ _ _ _ h2_ _ _ _ hiv)
    | ishl =>
      dsimp only [na_stp] at h
      simp only [na_okI, Bool.and_eq_true, beq_iff_eq] at hI
      subst hI
      obtain ⟨y, r1, e1, h1_⟩ := na_pI_s h
      try dsimp only at h1_
      obtain ⟨z, r2, e2, h2_⟩ := na_pI_s h1_
      try dsimp only at h2_
      subst e1 e2
      exact lv_ishl hx hb hd (nx _ _ _ _ h2_ _ _ _ hiv)
    | ishr =>
      dsimp only [na_stp] at h
      simp only [na_okI, Bool.and_eq_true, beq_iff_eq] at hI
      subst hI
      obtain ⟨y, r1, e1, h1_⟩ := na_pI_s h
      try dsimp only at h1_
      obtain ⟨z, r2, e2, h2_⟩ := na_pI_s h1_
      try dsimp only at h2_
      subst e1 e2
      exact lv_ishr hx hb hd (nx _ _ _ _ h2_ _ _ _ hiv)
    | iushr =>
      dsimp only [na_stp] at h
      simp only [na_okI, Bool.and_eq_true, beq_iff_eq] at hI
      subst hI
      obtain ⟨y, r1, e1, h1_⟩ := na_pI_s h
      try dsimp only at h1_
      obtain ⟨z, r2, e2, h2_⟩ := na_pI_s h1_
      try dsimp only at h2_
      subst e1 e2
      exact lv_iushr hx hb hd rfl (nx _ _ _ _ h2_ _ _ _ hiv)
    | idiv =>
      dsimp only [na_stp] at h
      simp only [na_okI, Bool.and_eq_true, beq_iff_eq] at hI
      subst hI
      obtain ⟨y, r1, e1, h1_⟩ := na_pI_s h
      try dsimp only at h1_
      obtain ⟨z, r2, e2, h2_⟩ := na_pI_s h1_
      try dsimp only at h2_
      subst e1 e2
      exact lv_idiv hx hb hd h2_.1 (nx _ _ _ _ h2_.2 _ _ _ hiv)
    | irem =>
      dsimp only [na_stp] at h
      simp only [na_okI, Bool.and_eq_true, beq_iff_eq] at hI
      subst hI
      obtain ⟨y, r1, e1, h1_⟩ := na_pI_s h
      try dsimp only at h1_
      obtain ⟨z, r2, e2, h2_⟩ := na_pI_s h1_
      try dsimp only at h2_
      subst e1 e2
      exact lv_irem hx hb hd h2_.1 (nx _ _ _ _ h2_.2 _ _ _ hiv)
    | ineg =>
      dsimp only [na_stp] at h
      simp only [na_okI, Bool.and_eq_true, beq_iff_eq] at hI
      subst hI
      obtain ⟨y, r1, e1, h1_⟩ := na_pI_s h
      try dsimp only at h1_
      subst e1
      exact lv_ineg hx hb hd (nx _ _ _ _ h1_ _ _ _ hiv)
    | ladd =>
      dsimp only [na_stp] at h
      simp only [na_okI, Bool.and_eq_true, beq_iff_eq] at hI
      subst hI
      obtain ⟨y, r1, e1, h1_⟩ := na_pL_s h
      try dsimp only at h1_
      obtain ⟨z, r2, e2, h2_⟩ := na_pL_s h1_
      try dsimp only at h2_
      subst e1 e2
      exact lv_ladd hx hb hd (nx _ _ _ _ h2_ _ _ _ hiv)
    | lsub =>
      dsimp only [na_stp] at h
      simp only [na_okI, Bool.and_eq_true, beq_iff_eq] at hI
      subst hI
      obtain ⟨y, r1, e1, h1_⟩ := na_pL_s h
      try dsimp only at h1_
      obtain ⟨z, r2, e2, h2_⟩ := na_pL_s h1_
      try dsimp only at h2_
      subst e1 e2
      exact lv_lsub hx hb hd (nx _ _ _ _ h2_ _ _ _ hiv)
    | lmul =>
      dsimp only [na_stp] at h
      simp only [na_okI, Bool.and_eq_true, beq_iff_eq] at hI
      subst hI
      obtain ⟨y, r1, e1, h1_⟩ := na_pL_s h
      try dsimp only at h1_
      obtain ⟨z, r2, e2, h2_⟩ := na_pL_s h1_
      try dsimp only at h2_
      subst e1 e2
      exact lv_lmul hx hb hd (nx _ _ _ _ h2_ _ _ _ hiv)
    | land =>
      dsimp only [na_stp] at h
      simp only [na_okI, Bool.and_eq_true, beq_iff_eq] at hI
      subst hI
      obtain ⟨y, r1, e1, h1_⟩ := na_pL_s h
      try dsimp only at h1_
      obtain ⟨z, r2, e2, h2_⟩ := na_pL_s h1_
      try dsimp only at h2_
      subst e1 e2
      exact lv_land hx hb hd (nx _ _ _ _ h2_ _ _ _ hiv)
    | lor =>
      dsimp only [na_stp] at h
      simp only [na_okI, Bool.and_eq_true, beq_iff_eq] at hI
      subst hI
      obtain ⟨y, r1, e1, h1_⟩ := na_pL_s h
      try dsimp only at h1_
      obtain ⟨z, r2, e2, h2_⟩ := na_pL_s h1_
      try dsimp only at h2_
      subst e1 e2
      exact lv_lor hx hb hd (nx _ _ _ _ h2_ _ _ _ hiv)
    | ldiv =>
      dsimp only [na_stp] at h
      simp only [na_okI, Bool.and_eq_true, beq_iff_eq] at hI
      subst hI
      obtain ⟨y, r1, e1, h1_⟩ := na_pL_s h
      try dsimp only at h1_
      obtain ⟨z, r2, e2, h2_⟩ := na_pL_s h1_
      try dsimp only at h2_
      subst e1 e2
      exact lv_ldiv hx hb hd h2_.1 (nx _ _ _ _ h2_.2 _ _ _ hiv)
    | lcmp =>
      dsimp only [na_stp] at h
      simp only [na_okI, Bool.and_eq_true, beq_iff_eq] at hI
      subst hI
      obtain ⟨y, r1, e1, h1_⟩ := na_pL_s h
      try dsimp only at h1_
      obtain ⟨z, r2, e2, h2_⟩ := na_pL_s h1_
      try dsimp only at h2_
      subst e1 e2
      exact W.lcmp hx hb hd (nx _ _ _ _ h2_ _ _ _ hiv)
    | lshl =>
      dsimp only [na_stp] at h
      simp only [na_okI, Bool.and_eq_true, beq_iff_eq] at hI
      subst hI
      obtain ⟨y, r1, e1, h1_⟩ := na_pI_s h
      try dsimp only at h1_
      obtain ⟨z, r2, e2, h2_⟩ := na_pL_s h1_
      try dsimp only at h2_
      subst e1 e2
      exact lv_lshl hx hb hd rfl (nx _ _ _ _ h2_ _ _ _ hiv)
    | lshr =>
      dsimp only [na_stp] at h
      simp only [na_okI, Bool.and_eq_true, beq_iff_eq] at hI
      subst hI
      obtain ⟨y, r1, e1, h1_⟩ := na_pI_s h
      try dsimp only at h1_
      obtain ⟨z, r2, e2, h2_⟩ := na_pL_s h1_
      try dsimp only at h2_
      subst e1 e2
      exact lv_lshr hx hb hd rfl (nx _ _ _ _ h2_ _ _ _ hiv)
    | i2l =>
      dsimp only [na_stp] at h
      simp only [na_okI, Bool.and_eq_true, beq_iff_eq] at hI
      subst hI
      obtain ⟨y, r1, e1, h1_⟩ := na_pI_s h
      try dsimp only at h1_
      subst e1
      exact lv_i2l hx hb hd rfl (nx _ _ _ _ h1_ _ _ _ hiv)
    | l2i =>
      dsimp only [na_stp] at h
      simp only [na_okI, Bool.and_eq_true, beq_iff_eq] at hI
      subst hI
      obtain ⟨y, r1, e1, h1_⟩ := na_pL_s h
      try dsimp only at h1_
      subst e1
      exact lv_l2i hx hb hd rfl (nx _ _ _ _ h1_ _ _ _ hiv)
    | i2b =>
      dsimp only [na_stp] at h
      simp only [na_okI, Bool.and_eq_true, beq_iff_eq] at hI
      subst hI
      obtain ⟨y, r1, e1, h1_⟩ := na_pI_s h
      try dsimp only at h1_
      subst e1
      exact lv_i2b hx hb hd rfl (nx _ _ _ _ h1_ _ _ _ hiv)
    | i2s =>
      dsimp only [na_stp] at h
      simp only [na_okI, Bool.and_eq_true, beq_iff_eq] at hI
      subst hI
      obtain ⟨y, r1, e1, h1_⟩ := na_pI_s h
      try dsimp only at h1_
      subst e1
      exact lv_i2s hx hb hd rfl (nx _ _ _ _ h1_ _ _ _ hiv)
    | i2c =>
      dsimp only [na_stp] at h
      simp only [na_okI, Bool.and_eq_true, beq_iff_eq] at hI
      subst hI
      obtain ⟨y, r1, e1, h1_⟩ := na_pI_s h
      try dsimp only at h1_
      subst e1
      exact lv_i2c hx hb hd rfl (nx _ _ _ _ h1_ _ _ _ hiv)
    | dup =>
      dsimp only [na_stp] at h
      simp only [na_okI, Bool.and_eq_true, beq_iff_eq] at hI
      subst hI
      obtain ⟨y, r1, e1, hc, h1_⟩ := na_p1_s h
      try dsimp only at h1_
      subst e1
      exact lv_dup hx hb hd ((na_tv_cat hfm y).trans hc) (nx _ _ _ _ h1_ _ _ _ hiv)
    | pop =>
      dsimp only [na_stp] at h
      simp only [na_okI, Bool.and_eq_true, beq_iff_eq] at hI
      subst hI
      obtain ⟨y, r1, e1, hc, h1_⟩ := na_p1_s h
      try dsimp only at h1_
      subst e1
      exact lv_pop hx hb hd ((na_tv_cat hfm y).trans hc) (nx _ _ _ _ h1_ _ _ _ hiv)
    | dup2 =>
      dsimp only [na_stp] at h
      simp only [na_okI, Bool.and_eq_true, beq_iff_eq] at hI
      subst hI
      obtain ⟨y, r1, e1, hc, h1_⟩ := na_p1_s h
      try dsimp only at h1_
      obtain ⟨z, r2, e2, hc2, h2_⟩ := na_p1_s h1_
      try dsimp only at h2_
      subst e1 e2
      exact lv_dup2_11 hx hb hd ((na_tv_cat hfm y).trans hc) ((na_tv_cat hfm z).trans hc2) (nx _ _ _ _ h2_ _ _ _ hiv)
    | goto off =>
      dsimp only [na_stp] at h
      simp only [na_okI, Bool.and_eq_true, beq_iff_eq] at hI
      obtain ⟨h1, h2⟩ := hI
      subst h1
      obtain ⟨tgt, ht, kt⟩ := jp _ _ h2
      exact lv_goto hx hb hd ht (kt _ _ _ _ h _ _ _ hiv)
    | ifCond cd off =>
      simp only [na_okI, Bool.and_eq_true, beq_iff_eq] at hI
      obtain ⟨h1, h2⟩ := hI
      subst h1
      obtain ⟨tgt, ht, kt⟩ := jp _ _ h2
      cases cd with
      | eq =>
        try dsimp only [na_stp] at h
        obtain ⟨y, r1, e1, h1_⟩ := na_pI_s h
        try dsimp only at h1_
        subst e1
        exact lv_if_eq hx hb hd ht (fun q => kt _ _ _ _ (h1_.1 q) _ _ _ hiv) (fun q => nx _ _ _ _ (h1_.2 q) _ _ _ hiv)
      | ne =>
        try dsimp only [na_stp] at h
        obtain ⟨y, r1, e1, h2_⟩ := na_pI_s h
        try dsimp only at h2_
        subst e1
        exact lv_if_ne hx hb hd ht (fun q => kt _ _ _ _ (h2_.1 q) _ _ _ hiv) (fun q => nx _ _ _ _ (h2_.2 q) _ _ _ hiv)
      | lt =>
        try dsimp only [na_stp] at h
        obtain ⟨y, r1, e1, h3_⟩ := na_pI_s h
        try dsimp only at h3_
        subst e1
        exact lv_if_lt hx hb hd ht (fun q => kt _ _ _ _ (h3_.1 q) _ _ _ hiv) (fun q => nx _ _ _ _ (h3_.2 q) _ _ _ hiv)
      | ge =>
        try dsimp only [na_stp] at h
        obtain ⟨y, r1, e1, h4_⟩ := na_pI_s h
        try dsimp only at h4_
        subst e1
        exact lv_if_ge hx hb hd ht (fun q => kt _ _ _ _ (h4_.1 q) _ _ _ hiv) (fun q => nx _ _ _ _ (h4_.2 q) _ _ _ hiv)
      | gt =>
        try dsimp only [na_stp] at h
        obtain ⟨y, r1, e1, h5_⟩ := na_pI_s h
        try dsimp only at h5_
        subst e1
        exact lv_if_gt hx hb hd ht (fun q => kt _ _ _ _ (h5_.1 q) _ _ _ hiv) (fun q => nx _ _ _ _ (h5_.2 q) _ _ _ hiv)
      | le =>
        try dsimp only [na_stp] at h
        obtain ⟨y, r1, e1, h6_⟩ := na_pI_s h
        try dsimp only at h6_
        subst e1
        exact lv_if_le hx hb hd ht (fun q => kt _ _ _ _ (h6_.1 q) _ _ _ hiv) (fun q => nx _ _ _ _ (h6_.2 q) _ _ _ hiv)
    | if_icmp cd off =>
      simp only [na_okI, Bool.and_eq_true, beq_iff_eq] at hI
      obtain ⟨h1, h2⟩ := hI
      subst h1
      obtain ⟨tgt, ht, kt⟩ := jp _ _ h2
      cases cd with
      | eq =>
        try dsimp only [na_stp] at h
        obtain ⟨y, r1, e1, h1_⟩ := na_pI_s h
        try dsimp only at h1_
        obtain ⟨z, r2, e2, h2_⟩ := na_pI_s h1_
        try dsimp only at h2_
        subst e1 e2
        exact lv_icmp_eq hx hb hd ht (fun q => kt _ _ _ _ (h2_.1 q) _ _ _ hiv) (fun q => nx _ _ _ _ (h2_.2 q) _ _ _ hiv)
      | ne =>
        try dsimp only [na_stp] at h
        obtain ⟨y, r1, e1, h3_⟩ := na_pI_s h
        try dsimp only at h3_
        obtain ⟨z, r2, e2, h4_⟩ := na_pI_s h3_
        try dsimp only at h4_
        subst e1 e2
        exact lv_icmp_ne hx hb hd ht (fun q => kt _ _ _ _ (h4_.1 q) _ _ _ hiv) (fun q => nx _ _ _ _ (h4_.2 q) _ _ _ hiv)
      | lt =>
        try dsimp only [na_stp] at h
        obtain ⟨y, r1, e1, h5_⟩ := na_pI_s h
        try dsimp only at h5_
        obtain ⟨z, r2, e2, h6_⟩ := na_pI_s h5_
        try dsimp only at h6_
        subst e1 e2
        exact lv_icmp_lt hx hb hd ht (fun q => kt _ _ _ _ (h6_.1 q) _ _ _ hiv) (fun q => nx _ _ _ _ (h6_.2 q) _ _ _ hiv)
      | ge =>
        try dsimp only [na_stp] at h
        obtain ⟨y, r1, e1, h7_⟩ := na_pI_s h
        try dsimp only at h7_
        obtain ⟨z, r2, e2, h8_⟩ := na_pI_s h7_
        try dsimp only at h8_
        subst e1 e2
        exact lv_icmp_ge hx hb hd ht (fun q => kt _ _ _ _ (h8_.1 q) _ _ _ hiv) (fun q => nx _ _ _ _ (h8_.2 q) _ _ _ hiv)
      | gt =>
        try dsimp only [na_stp] at h
        obtain ⟨y, r1, e1, h9_⟩ := na_pI_s h
        try dsimp only at h9_
        obtain ⟨z, r2, e2, h10_⟩ := na_pI_s h9_
        try dsimp only at h10_
        subst e1 e2
        exact lv_icmp_gt hx hb hd ht (fun q => kt _ _ _ _ (h10_.1 q) _ _ _ hiv) (fun q => nx _ _ _ _ (h10_.2 q) _ _ _ hiv)
      | le =>
        try dsimp only [na_stp] at h
        obtain ⟨y, r1, e1, h11_⟩ := na_pI_s h
        try dsimp only at h11_
        obtain ⟨z, r2, e2, h12_⟩ := na_pI_s h11_
        try dsimp only at h12_
        subst e1 e2
        exact lv_icmp_le hx hb hd ht (fun q => kt _ _ _ _ (h12_.1 q) _ _ _ hiv) (fun q => nx _ _ _ _ (h12_.2 q) _ _ _ hiv)
    | tableswitch d lo2 hi2 offs =>
      dsimp only [na_stp] at h
      simp only [na_okI, Bool.and_eq_true, decide_eq_true_eq] at hI
      obtain ⟨⟨h1, h2⟩, h3⟩ := hI
      obtain ⟨y, r1, e1, h1_⟩ := na_pI_s h
      try dsimp only at h1_
      subst e1
      by_cases hin : y.toInt < lo2 ∨ hi2 < y.toInt
      · obtain ⟨tgt, ht, kt⟩ := jp _ _ h1
        exact lv_tableOut hx hb hd hin ht (kt _ _ _ _ (h1_.1 hin) _ _ _ hiv)
      · have hlt : (y.toInt - lo2).toNat < offs.toList.length := by omega
        obtain ⟨o, ho⟩ : ∃ o, offs.toList[(y.toInt - lo2).toNat]? = some o := ⟨_, List.getElem?_eq_getElem hlt⟩
        obtain ⟨t, ht1, ht2⟩ := na_tgs_s _ _ h2 _ _ ho
        obtain ⟨tgt, ht, kt⟩ := jp _ _ ht2
        exact lv_tableIn hx hb hd (fun q => hin (Or.inl q)) (fun q => hin (Or.inr q)) (by rw [← Array.getElem?_toList]; exact ho) ht (kt _ _ _ _ (na_sw_s _ _ _ _ h1_.2 _ t ht1 (by omega)) _ _ _ hiv)
    | iaload =>
      dsimp only [na_stp] at h
      simp only [na_okI, Bool.and_eq_true, beq_iff_eq] at hI
      subst hI
      obtain ⟨i, r1, e1, h1_⟩ := na_pI_s h
      try dsimp only at h1_
      obtain ⟨a, r2, e2, h2_⟩ := na_pR_s h1_
      try dsimp only at h2_
      subst e1 e2
      unfold na_ar at h2_
      split at h2_
      · rename_i n hn
        show W p l e R s m args below meth c H locs cells slots Q (F0 m pc lsA (.int i :: na_tv ad fm (.ref a) :: r2.map (na_tv ad fm)))
        rw [na_tv_ref (na_lay_lt hn)]
        exact va_iald hx hb hK hPw a 0 (na_ws_at hn) rfl h2_.1 hd (nx _ _ _ _ h2_.2 _ _ _ hiv)
      · exact h2_.elim
      · split at h2_
        · rename_i q hq
          show W p l e R s m args below meth c H locs cells slots Q (F0 m pc lsA (.int i :: na_tv ad fm (.ref a) :: r2.map (na_tv ad fm)))
          rw [na_tv_ref (na_sa_ne hq)]
          exact va_ti hx hb (na_C.T (hsa a q hq) hal hh') hSw h2_.1 rfl hd (nx _ _ _ _ h2_.2 _ _ _ hiv)
        · exact h2_.elim
    | baload =>
      dsimp only [na_stp] at h
      simp only [na_okI, Bool.and_eq_true, beq_iff_eq] at hI
      subst hI
      obtain ⟨i, r1, e1, h1_⟩ := na_pI_s h
      try dsimp only at h1_
      obtain ⟨a, r2, e2, h2_⟩ := na_pR_s h1_
      try dsimp only at h2_
      subst e1 e2
      split at h2_
      · rename_i q hq
        show W p l e R s m args below meth c H locs cells slots Q (F0 m pc lsA (.int i :: na_tv ad fm (.ref a) :: r2.map (na_tv ad fm)))
        rw [na_tv_ref (na_sb_ne hq)]
        exact va_tb hx hb (na_C.T (hsb a q hq) hal hh') hSw h2_.1 rfl hd (nx _ _ _ _ h2_.2 _ _ _ hiv)
      · exact h2_.elim
    | laload =>
      dsimp only [na_stp] at h
      simp only [na_okI, Bool.and_eq_true, beq_iff_eq] at hI
      subst hI
      obtain ⟨i, r1, e1, h1_⟩ := na_pI_s h
      try dsimp only at h1_
      obtain ⟨a, r2, e2, h2_⟩ := na_pR_s h1_
      try dsimp only at h2_
      subst e1 e2
      split at h2_
      · rename_i n hn
        show W p l e R s m args below meth c H locs cells slots Q (F0 m pc lsA (.int i :: na_tv ad fm (.ref a) :: r2.map (na_tv ad fm)))
        rw [na_tv_ref (na_lay_lt hn)]
        exact va_lald hx hb hK hPw a 1 (na_ws_at hn) rfl h2_.1 hd (nx _ _ _ _ h2_.2 _ _ _ hiv)
      · exact h2_.elim
    | aaload =>
      dsimp only [na_stp] at h
      simp only [na_okI, Bool.and_eq_true, beq_iff_eq] at hI
      subst hI
      obtain ⟨i, r1, e1, h1_⟩ := na_pI_s h
      try dsimp only at h1_
      obtain ⟨a, r2, e2, h2_⟩ := na_pR_s h1_
      try dsimp only at h2_
      subst e1 e2
      split at h2_
      · rename_i n hn
        show W p l e R s m args below meth c H locs cells slots Q (F0 m pc lsA (.int i :: na_tv ad fm (.ref a) :: r2.map (na_tv ad fm)))
        rw [na_tv_ref (na_lay_lt hn)]
        have g := nx _ _ _ _ h2_.2 _ _ _ hiv
        simp only [List.map_cons, na_tv_ref (ad := ad) (fm := fm) (na_shp_ne hn h2_.1)] at g
        exact va_aldq (C := RX1) hx hb hK hPw a 2 (na_ws_at hn) rfl h2_.1 hd g
      · exact h2_.elim
    | iastore =>
      dsimp only [na_stp] at h
      simp only [na_okI, Bool.and_eq_true, beq_iff_eq] at hI
      subst hI
      obtain ⟨v, r0, e0, h1_⟩ := na_pI_s h
      try dsimp only at h1_
      obtain ⟨i, r1, e1, h2_⟩ := na_pI_s h1_
      try dsimp only at h2_
      obtain ⟨a, r2, e2, h3_⟩ := na_pR_s h2_
      try dsimp only at h3_
      subst e0 e1 e2
      split at h3_
      · rename_i n hn
        show W p l e R s m args below meth c H locs cells slots Q (F0 m pc lsA (.int v :: .int i :: na_tv ad fm (.ref a) :: r2.map (na_tv ad fm)))
        rw [na_tv_ref (na_lay_lt hn)]
        refine va_iast hx hb hK hPw hDw hSw a 0 (na_ws_at hn) rfl h3_.1 hd (fun H1 locs1 p1 d1 s1 => ?_)
        have es : (na_ws ca ad I J 0 na_lay).set a (ad a, .inl (ca 0, n, .inl (upd (I a) i.toNatClampNeg v))) = na_ws ca ad (na_set I a i.toNatClampNeg v) J 0 na_lay := by
          rw [← na_ws_set hn (I := I) (J := J) (fun b hb => ⟨na_set_off hb, rfl⟩)]
          simp [na_ce, na_set_on]
        rw [es] at p1 d1
        exact nx _ _ _ _ h3_.2 _ _ _ ⟨p1, d1, s1, hlv⟩
      · exact h3_.elim
    | lastore =>
      dsimp only [na_stp] at h
      simp only [na_okI, Bool.and_eq_true, beq_iff_eq] at hI
      subst hI
      obtain ⟨v, r0, e0, h1_⟩ := na_pL_s h
      try dsimp only at h1_
      obtain ⟨i, r1, e1, h2_⟩ := na_pI_s h1_
      try dsimp only at h2_
      obtain ⟨a, r2, e2, h3_⟩ := na_pR_s h2_
      try dsimp only at h3_
      subst e0 e1 e2
      split at h3_
      · rename_i n hn
        show W p l e R s m args below meth c H locs cells slots Q (F0 m pc lsA (.long v :: .int i :: na_tv ad fm (.ref a) :: r2.map (na_tv ad fm)))
        rw [na_tv_ref (na_lay_lt hn)]
        refine va_last hx hb hK hPw hDw hSw a 1 (na_ws_at hn) rfl h3_.1 hd (fun H1 locs1 p1 d1 s1 => ?_)
        have es : (na_ws ca ad I J 0 na_lay).set a (ad a, .inl (ca 1, n, .inr (.inl (vp_updL (J a) i.toNatClampNeg v)))) = na_ws ca ad I (na_setL J a i.toNatClampNeg v) 0 na_lay := by
          rw [← na_ws_set hn (I := I) (J := J) (fun b hb => ⟨rfl, na_setL_off hb⟩)]
          simp [na_ce, na_setL_on]
        rw [es] at p1 d1
        exact nx _ _ _ _ h3_.2 _ _ _ ⟨p1, d1, s1, hlv⟩
      · exact h3_.elim
    | arraylength =>
      dsimp only [na_stp] at h
      simp only [na_okI, Bool.and_eq_true, beq_iff_eq] at hI
      subst hI
      obtain ⟨a, r2, e2, h1_⟩ := na_pR_s h
      try dsimp only at h1_
      subst e2
      split at h1_
      · rename_i n hn
        show W p l e R s m args below meth c H locs cells slots Q (F0 m pc lsA (na_tv ad fm (.ref a) :: r2.map (na_tv ad fm)))
        rw [na_tv_ref (na_lay_lt hn)]
        exact va_alen hx hb hK hPw a 0 (na_ws_at hn) rfl rfl hd (nx _ _ _ _ h1_ _ _ _ hiv)
      · exact h1_.elim
      · split at h1_
        · rename_i q hq
          show W p l e R s m args below meth c H locs cells slots Q (F0 m pc lsA (na_tv ad fm (.ref a) :: r2.map (na_tv ad fm)))
          rw [na_tv_ref (na_sa_ne hq)]
          exact va_tlen hx hb (na_C.T (hsa a q hq) hal hh') hSw rfl hd (nx _ _ _ _ h1_ _ _ _ hiv)
        · split at h1_
          · rename_i q hq
            show W p l e R s m args below meth c H locs cells slots Q (F0 m pc lsA (na_tv ad fm (.ref a) :: r2.map (na_tv ad fm)))
            rw [na_tv_ref (na_sb_ne hq)]
            exact va_tlen hx hb (na_C.T (hsb a q hq) hal hh') hSw rfl hd (nx _ _ _ _ h1_ _ _ _ hiv)
          · exact h1_.elim
    | getfield idx =>
      dsimp only [na_stp] at h
      simp only [na_okI, beq_iff_eq] at hI
      subst hI
      obtain ⟨a, r2, e2, h1⟩ := na_pR_s h
      subst e2
      simp only [na_lk] at hlk
      by_cases h9 : na_h0 hi = 9
      · rw [if_pos h9] at hlk
        have h1 : (bif Nat.ble 100 a && Nat.ble a 116 then (match na_h1 hi with
          | 0 => k r ls (.int 0 :: r2) I J
          | 1 => k r ls (.ref (a + 20) :: r2) I J
          | _ => False) else False) := by
          have e9 : Nat.beq (na_h0 hi) 9 = true := by rw [h9]; rfl
          rw [e9] at h1
          exact h1
        cases hr : (Nat.ble 100 a && Nat.ble a 116) with
        | false => rw [hr] at h1; exact (show False from h1).elim
        | true =>
          rw [hr] at h1
          simp only [Bool.and_eq_true] at hr
          have ha1 := Nat.le_of_ble_eq_true hr.1
          have ha2 := Nat.le_of_ble_eq_true hr.2
          obtain ⟨i, rfl⟩ : ∃ i, a = 100 + i := ⟨a - 100, by omega⟩
          obtain ⟨q, hq⟩ := na_wd_at (i := i) (by omega)
          show W p l e R s m args below meth c H locs cells slots Q (F0 m pc lsA (na_tv ad fm (.ref (100 + i)) :: r2.map (na_tv ad fm)))
          rw [na_tv_ref (by omega)]
          have h1 : (match na_h1 hi with
            | 0 => k r ls (.int 0 :: r2) I J
            | 1 => k r ls (.ref (100 + i + 20) :: r2) I J
            | _ => False) := h1
          split at h1
          · rename_i hz
            exact vk_getf hx hb (na_C.OF (hwd i q hq).2.1 hal hh') hSw hown (hts _ (hlk.1 hz)) (fun x hx => hx) hd (nx _ _ _ _ h1 _ _ _ hiv)
          · rename_i hz
            have g := nx _ _ _ _ h1 _ _ _ hiv
            simp only [List.map_cons, na_tv_ref (ad := ad) (fm := fm) (show 100 + i + 20 ≠ 90 by omega)] at g
            rw [show 100 + i + 20 = 120 + i by omega] at g
            exact vk_getf hx hb (na_C.OF (hwd i q hq).2.2 hal hh') hSw hown (hts _ (hlk.2 hz)) (fun x hx => hx) hd g
          · exact h1.elim
      · rw [if_neg h9] at hlk
        obtain ⟨C, T, N, hc, hin, hkN, hfl⟩ := hlk
        have e9 : Nat.beq (na_h0 hi) 9 = false := na_beqF h9
        rw [e9] at h1
        simp only [cond_false] at h1
        split at h1
        · rename_i q hq
          obtain ⟨c0, fs⟩ := q
          cases hcc : Nat.beq c0 (na_h0 hi) with
          | false => simp only [hcc, cond_false] at h1
          | true =>
            simp only [hcc, cond_true] at h1
            have hcc := Nat.eq_of_beq_eq_true hcc
            split at h1
            · rename_i f hf
              have g := nx _ _ _ _ h1 _ _ _ hiv
              simp only [List.map_cons, na_fw_tv (ad := ad) (fm := fm) f (na_lay_fl hq hf)] at g
              show W p l e R s m args below meth c H locs cells slots Q (F0 m pc lsA (na_tv ad fm (.ref a) :: r2.map (na_tv ad fm)))
              rw [na_tv_ref (na_lay_lt hq)]
              refine va_get hx hb hts hin hown hK hPw a (na_ws_at hq) (by rw [hcc]; exact hc) (na_h1 hi) hkN (hts _ hfl) (fun x hx => hx) (v := na_fv ad I J a (na_h1 hi) f) ?_ hd g
              rw [na_nth_eq] at hf
              rw [na_fs_get, hf]
              simp
            · exact h1.elim
        · exact h1.elim
    | putfield idx =>
      dsimp only [na_stp] at h
      simp only [na_okI, beq_iff_eq] at hI
      subst hI
      simp only [na_lk] at hlk
      obtain ⟨C, T, N, ty, hc, hin, hty, hnm, hkN, hfl, hfin, hkind⟩ := hlk
      split at h
      · rename_i v a r2
        split at h
        · rename_i q hq
          obtain ⟨c0, fs⟩ := q
          cases hcc : Nat.beq c0 (na_h0 hi) with
          | false => simp only [hcc, cond_false] at h
          | true =>
            simp only [hcc, cond_true] at h
            have hcc := Nat.eq_of_beq_eq_true hcc
            split at h
            · rename_i hf
              rw [na_nth_eq] at hf
              have hkn2 : k r ls r2 (na_set I a (na_h1 hi) v) J ∧ narrow (ty (na_h1 hi)) (.int v) = .int v ∧ fits (ty (na_h1 hi)) (.int v) = true := by
                split at h
                · rename_i hz
                  rcases hkind with ⟨z1, z2⟩ | ⟨z1, z2⟩ | ⟨z1, z2⟩
                  · rw [z2]
                    exact ⟨h, rfl, rfl⟩
                  · omega
                  · omega
                · rename_i hz
                  rcases hkind with ⟨z1, z2⟩ | ⟨z1, z2⟩ | ⟨z1, z2⟩
                  · omega
                  · rw [z2]
                    refine ⟨h.2, ?_⟩
                    rcases h.1 with rfl | rfl <;> exact ⟨by decide, by decide⟩
                  · omega
                · exact h.elim
              show W p l e R s m args below meth c H locs cells slots Q (F0 m pc lsA (.int v :: na_tv ad fm (.ref a) :: r2.map (na_tv ad fm)))
              rw [na_tv_ref (na_lay_lt hq)]
              refine va_put hx hb hts hin ty hty hnm hown hK hPw hDw hSw a (na_ws_at hq) (by rw [hcc]; exact hc) (na_h1 hi) hkN (hts _ hfl) (fun x hx => hx) hfin (hty _ hkN) hkn2.2.1 hkn2.2.2 (by rw [na_fs_len]; exact (List.getElem?_eq_some_iff.mp hf).1) hd (fun H1 locs1 p1 d1 s1 => ?_)
              have es : (na_ws ca ad I J 0 na_lay).set a (ad a, .inr (c0, (na_fs ad I J a 0 fs).set (na_h1 hi) (.int v))) = na_ws ca ad (na_set I a (na_h1 hi) v) J 0 na_lay := by
                rw [← na_ws_set hq (I := I) (J := J) (fun b hb => ⟨na_set_off hb, rfl⟩)]
                rw [na_fs_set (I' := na_set I a (na_h1 hi) v) (J' := J) hf (by simp [na_fv, na_set_on, upd]) (fun b hb => ⟨by simp [na_set_on, upd, hb], rfl⟩)]
                rfl
              rw [es] at p1 d1
              exact nx _ _ _ _ hkn2.1 _ _ _ ⟨p1, d1, s1, hlv⟩
            · exact h.elim
        · exact h.elim
      · rename_i v a r2
        split at h
        · rename_i q hq
          obtain ⟨c0, fs⟩ := q
          cases hcc : Nat.beq c0 (na_h0 hi) with
          | false => simp only [hcc, cond_false] at h
          | true =>
            simp only [hcc, cond_true] at h
            have hcc := Nat.eq_of_beq_eq_true hcc
            split at h
            · rename_i hf
              rw [na_nth_eq] at hf
              have hkn2 : k r ls r2 I (na_setL J a (na_h1 hi) v) ∧ narrow (ty (na_h1 hi)) (.long v) = .long v ∧ fits (ty (na_h1 hi)) (.long v) = true := by
                cases h2b : Nat.beq (na_h2 hi) 2 with
                | false => simp only [h2b, cond_false] at h
                | true =>
                  simp only [h2b, cond_true] at h
                  have h2b := Nat.eq_of_beq_eq_true h2b
                  rcases hkind with ⟨z1, z2⟩ | ⟨z1, z2⟩ | ⟨z1, z2⟩
                  · omega
                  · omega
                  · rw [z2]
                    exact ⟨h, rfl, rfl⟩
              show W p l e R s m args below meth c H locs cells slots Q (F0 m pc lsA (.long v :: na_tv ad fm (.ref a) :: r2.map (na_tv ad fm)))
              rw [na_tv_ref (na_lay_lt hq)]
              refine va_put hx hb hts hin ty hty hnm hown hK hPw hDw hSw a (na_ws_at hq) (by rw [hcc]; exact hc) (na_h1 hi) hkN (hts _ hfl) (fun x hx => hx) hfin (hty _ hkN) hkn2.2.1 hkn2.2.2 (by rw [na_fs_len]; exact (List.getElem?_eq_some_iff.mp hf).1) hd (fun H1 locs1 p1 d1 s1 => ?_)
              have es : (na_ws ca ad I J 0 na_lay).set a (ad a, .inr (c0, (na_fs ad I J a 0 fs).set (na_h1 hi) (.long v))) = na_ws ca ad I (na_setL J a (na_h1 hi) v) 0 na_lay := by
                rw [← na_ws_set hq (I := I) (J := J) (fun b hb => ⟨rfl, na_setL_off hb⟩)]
                rw [na_fs_set (I' := I) (J' := na_setL J a (na_h1 hi) v) hf (by simp [na_fv, na_setL_on, vp_updL]) (fun b hb => ⟨rfl, by simp [na_setL_on, vp_updL, hb]⟩)]
                rfl
              rw [es] at p1 d1
              exact nx _ _ _ _ hkn2.1 _ _ _ ⟨p1, d1, s1, hlv⟩
            · exact h.elim
        · exact h.elim
      · exact h.elim
    | getstatic idx =>
      dsimp only [na_stp] at h
      simp only [na_okI, beq_iff_eq] at hI
      subst hI
      simp only [na_lk] at hlk
      obtain ⟨q, hq, hlk⟩ := hlk
      rw [hq] at h
      have hqm : q ∈ na_st := by rw [na_nth_eq] at hq; exact List.mem_of_getElem? hq
      have hZ := na_C.Z (hst q hqm) hal hh'
      have g := nx _ _ _ _ h _ _ _ hiv
      rcases hlk with hlk | ⟨z1, z2, z3, z4, z5⟩
      · exact va_gets hx hb hZ hSw hown (hts _ hlk) (fun x hx => hx) hd g
      · rw [z3, z4, z5] at hZ
        subst z1 z2
        exact va_getsN hx hb hZ hSw hown (va_Nw.use rfl hKw.2.2.1) (fun x hx => hx) hd g
    | invokestatic idx =>
      dsimp only [na_stp] at h
      simp only [na_okI, Bool.and_eq_true, beq_iff_eq] at hI
      obtain ⟨hlen, hI⟩ := hI
      subst hlen
      simp only [na_lk] at hlk
      by_cases h8 : na_h0 hi = 998
      · have e8 : Nat.beq (na_h0 hi) 998 = true := by rw [h8]; rfl
        rw [e8] at h
        exact (show False from h).elim
      have e8 : Nat.beq (na_h0 hi) 998 = false := na_beqF h8
      rw [if_neg h8] at hlk
      rw [e8] at h hI
      simp only [cond_false] at h hI
      by_cases h7 : na_h0 hi = 997
      · have e7 : Nat.beq (na_h0 hi) 997 = true := by rw [h7]; rfl
        rw [if_pos h7] at hlk
        rw [e7] at h hI
        simp only [cond_true, Bool.true_or, Bool.or_true, Bool.and_eq_true] at h hI
        have hI1 := Nat.le_of_ble_eq_true hI.1
        have hI2 := Nat.le_of_ble_eq_true hI.2
        obtain ⟨y, r1, e1, h1⟩ := na_pI_s h
        obtain ⟨z, r2, e2, h2⟩ := na_pI_s h1
        subst e1 e2
        cases hct : Nat.ble (na_ct r2) 8 with
        | false => simp only [hct, cond_false] at h2
        | true =>
          simp only [hct, cond_true] at h2
          have hct := Nat.le_of_ble_eq_true hct
          exact va_mmin hx hb (hml.trans hlv.1.symm) hown (hts _ hlk) (hts _ na_mminS) (hts _ na_mathT) (hts _ na_mminC) (by omega) (by rw [na_tvs_cat hfm]; omega) hcs hss hd (nx _ _ _ _ h2 _ _ _ hiv)
      have e7 : Nat.beq (na_h0 hi) 997 = false := na_beqF h7
      rw [if_neg h7] at hlk
      rw [e7] at h hI
      simp only [cond_false, Bool.false_or] at h hI
      by_cases h7 : na_h0 hi = 996
      · have e7 : Nat.beq (na_h0 hi) 996 = true := by rw [h7]; rfl
        rw [if_pos h7] at hlk
        rw [e7] at h hI
        simp only [cond_true, Bool.true_or, Bool.or_true, Bool.and_eq_true] at h hI
        have hI1 := Nat.le_of_ble_eq_true hI.1
        have hI2 := Nat.le_of_ble_eq_true hI.2
        obtain ⟨y, r1, e1, h1⟩ := na_pI_s h
        obtain ⟨z, r2, e2, h2⟩ := na_pI_s h1
        subst e1 e2
        cases hct : Nat.ble (na_ct r2) 8 with
        | false => simp only [hct, cond_false] at h2
        | true =>
          simp only [hct, cond_true] at h2
          have hct := Nat.le_of_ble_eq_true hct
          exact va_mmax hx hb (hml.trans hlv.1.symm) hown (hts _ hlk) (hts _ na_mmaxS) (hts _ na_mathT) (hts _ na_mmaxC) (by omega) (by rw [na_tvs_cat hfm]; omega) hcs hss hd (nx _ _ _ _ h2 _ _ _ hiv)
      have e7 : Nat.beq (na_h0 hi) 996 = false := na_beqF h7
      rw [if_neg h7] at hlk
      rw [e7] at h hI
      simp only [cond_false, Bool.false_or] at h hI
      by_cases h9 : na_h0 hi = 999
      · rw [if_pos h9] at hlk
        have e9 : Nat.beq (na_h0 hi) 999 = true := by rw [h9]; rfl
        rw [e9] at h hI
        simp only [cond_true, Bool.and_eq_true] at hI
        have hI1 := Nat.le_of_ble_eq_true hI.1
        have hI2 := Nat.le_of_ble_eq_true hI.2
        simp only [cond_true] at h
        obtain ⟨n, r1, e1, h1⟩ := na_pI_s h
        obtain ⟨dp, r2, e2, h2⟩ := na_pI_s h1
        obtain ⟨d, r3, e3, h3⟩ := na_pR_s h2
        obtain ⟨sp, r4, e4, h4⟩ := na_pI_s h3
        obtain ⟨a, r5, e5, h5⟩ := na_pR_s h4
        subst e1 e2 e3 e4 e5
        cases hct : Nat.ble (na_ct r5) 8 with
        | false => simp only [hct, cond_false] at h5
        | true =>
          simp only [hct, cond_true] at h5
          have hct := Nat.le_of_ble_eq_true hct
          have hloc : ((r5.map (na_tv ad fm)).map fun v => v.category).sum + (nativeFrameWords "java/lang/System" "arraycopy" 5 + 11) ≤ R.locals := by
            rw [na_tvs_cat hfm]
            have : nativeFrameWords "java/lang/System" "arraycopy" 5 = 7 := by decide +kernel
            omega
          have hml2 : c.maxLocals = lsA.size := hml.trans hlv.1.symm
          split at h5
          · rename_i n0 n1 ha hdd
            obtain ⟨⟨g1, g2, g3, g4, g5⟩, h6⟩ := h5
            show W p l e R s m args below meth c H locs cells slots Q (F0 m pc lsA (.int n :: .int dp :: na_tv ad fm (.ref d) :: .int sp :: na_tv ad fm (.ref a) :: r5.map (na_tv ad fm)))
            rw [na_tv_ref (na_lay_lt ha), na_tv_ref (na_lay_lt hdd)]
            refine va_copyi hx hb hml2 hown (hts _ hlk) (hts _ na_natT) (hts _ na_statT) (hts _ na_sysT) hK hPw hDw hSw a d 0 0 (na_ws_at ha) (na_ws_at hdd) rfl rfl rfl g1 g2 g3 g4 g5 (fun i _ => rfl) (by omega) hloc hd (fun H1 locs1 p1 d1 s1 => ?_)
            have es : (na_ws ca ad I J 0 na_lay).set d (ad d, .inl (ca 0, n1, .inl (va_cpy (I a) (I d) sp.toNatClampNeg dp.toNatClampNeg n.toNatClampNeg))) = na_ws ca ad (na_cpI I a d sp.toNatClampNeg dp.toNatClampNeg n.toNatClampNeg) J 0 na_lay := by
              rw [← na_ws_set hdd (I := I) (J := J) (fun b hb => ⟨na_cpI_off hb, rfl⟩)]
              simp [na_ce, na_cpI_on]
            rw [es] at p1 d1
            exact nx _ _ _ _ h6 _ _ _ ⟨p1, d1, s1, hlv⟩
          · rename_i n0 n1 ha hdd
            obtain ⟨⟨g1, g2, g3, g4, g5⟩, h6⟩ := h5
            show W p l e R s m args below meth c H locs cells slots Q (F0 m pc lsA (.int n :: .int dp :: na_tv ad fm (.ref d) :: .int sp :: na_tv ad fm (.ref a) :: r5.map (na_tv ad fm)))
            rw [na_tv_ref (na_lay_lt ha), na_tv_ref (na_lay_lt hdd)]
            refine va_copyl hx hb hml2 hown (hts _ hlk) (hts _ na_natT) (hts _ na_statT) (hts _ na_sysT) hK hPw hDw hSw a d 1 1 (na_ws_at ha) (na_ws_at hdd) rfl rfl rfl g1 g2 g3 g4 g5 (fun i _ => rfl) (by omega) hloc hd (fun H1 locs1 p1 d1 s1 => ?_)
            have es : (na_ws ca ad I J 0 na_lay).set d (ad d, .inl (ca 1, n1, .inr (.inl (va_cpy (J a) (J d) sp.toNatClampNeg dp.toNatClampNeg n.toNatClampNeg)))) = na_ws ca ad I (na_cpL J a d sp.toNatClampNeg dp.toNatClampNeg n.toNatClampNeg) 0 na_lay := by
              rw [← na_ws_set hdd (I := I) (J := J) (fun b hb => ⟨rfl, na_cpL_off hb⟩)]
              simp [na_ce, na_cpL_on]
            rw [es] at p1 d1
            exact nx _ _ _ _ h6 _ _ _ ⟨p1, d1, s1, hlv⟩
          · exact h5.elim
      · rw [if_neg h9] at hlk
        have e9 : Nat.beq (na_h0 hi) 999 = false := na_beqF h9
        rw [e9] at h hI
        simp only [cond_false, Bool.and_eq_true] at hI
        have hI1 := Nat.le_of_ble_eq_true hI.1
        have hI2 := Nat.le_of_ble_eq_true hI.2
        simp only [cond_false] at h
        obtain ⟨vs, r5, e5, hvl, h5⟩ := na_tk_s _ _ _ _ h
        subst e5
        obtain ⟨hl1, hl2, hl3, hl4, hl5, hl6, hl7, hl8⟩ := hlk
        cases hct : Nat.ble (na_ct r5) 8 with
        | false => simp only [hct, cond_false] at h5
        | true =>
          simp only [hct, cond_true, List.append_nil] at h5
          have hct := Nat.le_of_ble_eq_true hct
          have hM := h5 l D ca ad fm N0 s0 hC
          have hst2 : (F0 m pc lsA ((vs ++ r5).map (na_tv ad fm))).stack = ((vs.reverse).map (na_tv ad fm)).reverse ++ r5.map (na_tv ad fm) := by simp
          have hG : GoodIn na_Tg (na_ww (na_mi (na_h0 hi))) := fun w hw => by
            rcases List.mem_cons.mp hw with q | q
            · subst q
              exact ⟨hl5, na_good _ hl5⟩
            · exact ⟨q, na_good _ q⟩
          have hroom : 2 * (F0 m pc lsA ((vs ++ r5).map (na_tv ad fm))).monitorRoom + ((r5.map (na_tv ad fm)).map fun v => v.category).sum ≤ 8 := lv_room (by rw [na_tvs_cat hfm]; exact hct)
          refine na_back (Post := fun v I' J' => k r ls (na_pu v r5) I' J') (rest := r5) (a := (vs.reverse.map (na_tv ad fm)).toArray) hB hSw hlv ?_ (fun rr I' J' hp H' locs' hiv' => nx _ _ _ _ hp _ _ _ hiv')
          · rcases hl1 with hl1 | ⟨z1, z2, z3⟩ | ⟨z1, z2, z3⟩
            · exact va_runS ⟨hx, hb, hml, hown, hts⟩ hM (va_cwS (na_h1 hi) hts (fun w hw => by
                unfold va_wsS at hw
                rcases List.mem_append.mp hw with q | q
                · simp only [List.mem_cons, List.not_mem_nil, or_false] at q
                  rcases q with rfl | rfl | rfl
                  · exact ⟨hl1, na_good _ hl1⟩
                  · exact ⟨hl2, na_good _ hl2⟩
                  · exact ⟨hl3, na_good _ hl3⟩
                · exact hG w q) rfl rfl rfl ⟨hl6, hl7, hl8⟩ ⟨Nat.le_trans hI1 hfr, Nat.le_trans hI2 hlo⟩) ⟨na_blind, na_pre hB hPw hDw hSw⟩ rfl (by simp [hvl]) hlv.1 hst2 hroom hd ⟨hcs, hss⟩
            · exact va_runSN ⟨hx, hb, hml, hown, hts⟩ hM ⟨va_cnB (na_h1 hi) hts hG rfl rfl rfl (by rw [z1, z2, z3]; exact hKw.1) (hts _ hl3) ⟨hl6, hl7, hl8⟩ ⟨Nat.le_trans hI1 hfr, Nat.le_trans hI2 hlo⟩, hts _ hl2, trivial⟩ ⟨na_blind, na_pre hB hPw hDw hSw⟩ rfl (by simp [hvl]) hlv.1 hst2 hroom hd ⟨hcs, hss⟩
            · exact va_runSN ⟨hx, hb, hml, hown, hts⟩ hM ⟨va_cnB (na_h1 hi) hts hG rfl rfl rfl (by rw [z1, z2, z3]; exact hKw.2.1) (hts _ hl3) ⟨hl6, hl7, hl8⟩ ⟨Nat.le_trans hI1 hfr, Nat.le_trans hI2 hlo⟩, hts _ hl2, trivial⟩ ⟨na_blind, na_pre hB hPw hDw hSw⟩ rfl (by simp [hvl]) hlv.1 hst2 hroom hd ⟨hcs, hss⟩
    | invokevirtual idx =>
      dsimp only [na_stp] at h
      simp only [na_okI, Bool.and_eq_true, beq_iff_eq] at hI
      obtain ⟨⟨hlen, hI1⟩, hI2⟩ := hI
      subst hlen
      have hI1 := Nat.le_of_ble_eq_true hI1
      have hI2 := Nat.le_of_ble_eq_true hI2
      simp only [na_lk] at hlk
      obtain ⟨vs, r5, e5, hvl, h5⟩ := na_tk_s _ _ _ _ h
      subst e5
      obtain ⟨hl1, hl2, hl3, hl4, hl5, hl6, hl7, hl8, hl9, hrcv⟩ := hlk
      cases hct : (Nat.ble (na_ct r5) 8 && na_rc (na_h2 hi) (vs.reverse ++ [])) with
      | false => simp only [hct, cond_false] at h5
      | true =>
        simp only [hct, cond_true] at h5
        simp only [Bool.and_eq_true, List.append_nil] at hct
        simp only [List.append_nil] at h5
        obtain ⟨hct, hrc⟩ := hct
        have hct := Nat.le_of_ble_eq_true hct
        have hM := h5 l D ca ad fm N0 s0 hC
        obtain ⟨a, as', hvs⟩ : ∃ (a : Nat) (as' : List Value), vs.reverse = .ref a :: as' := by
          unfold na_rc at hrc
          split at hrc
          · rename_i a as' hq
            exact ⟨a, as', hq⟩
          · cases hrc
        have hvs2 : vs = as'.reverse ++ [.ref a] := by
          have := congrArg List.reverse hvs
          simpa using this
        rw [hvs] at hM hrc
        have hrecv : a ≠ 90 ∧ ∃ cellB : Cell, H[ad a]? = some cellB ∧ cellB.vm.isStatics = false ∧ s.vm.findClass (na_mi (na_h0 hi)).1.cls = some cellB.cls := by
          rcases hrcv with ⟨z1, z2⟩ | ⟨z1, q, z2, z3⟩
          · rw [z1] at hrc
            have hrc : (Nat.ble 100 a && Nat.ble a 116) = true := hrc
            simp only [Bool.and_eq_true] at hrc
            have ha1 := Nat.le_of_ble_eq_true hrc.1
            have ha2 := Nat.le_of_ble_eq_true hrc.2
            obtain ⟨i, rfl⟩ : ∃ i, a = 100 + i := ⟨a - 100, by omega⟩
            obtain ⟨q, hq⟩ := na_wd_at (i := i) (by omega)
            obtain ⟨cell, g1, g2, g3, -⟩ := (na_C.O (hwd i q hq).1 hal hh').kept hSw.2.1
            exact ⟨by omega, cell, g1, g2, by rw [z2]; exact g3⟩
          · have e9 : Nat.beq (na_h2 hi) 9 = false := na_beqF z1
            unfold na_rc at hrc
            simp only [e9, cond_false] at hrc
            split at hrc
            · rename_i q2 hq2
              obtain ⟨c0, fs⟩ := q2
              have hcc := Nat.eq_of_beq_eq_true hrc
              rw [← z3]
              exact ⟨na_lay_lt hq2, va_recv hK hPw (ci := c0) (q0 := a) (by rw [show c0 = na_h2 hi from hcc]; exact z2) (na_ws_at hq2)⟩
            · cases hrc
        obtain ⟨ha90, hcell⟩ := hrecv
        have hst2 : (F0 m pc lsA ((vs ++ r5).map (na_tv ad fm))).stack = (as'.map (na_tv ad fm)).reverse ++ .ref (ad a) :: r5.map (na_tv ad fm) := by
          show (vs ++ r5).map (na_tv ad fm) = _
          rw [hvs2]
          simp [na_tv_ref ha90]
        have hlen2 : as'.length = na_h1 hi - 1 := by
          have : vs.length = as'.length + 1 := by rw [hvs2]; simp
          omega
        have hG : GoodIn na_Tg (na_ww (na_mi (na_h0 hi))) := fun w hw => by
          rcases List.mem_cons.mp hw with q | q
          · subst q
            exact ⟨hl5, na_good _ hl5⟩
          · exact ⟨q, na_good _ q⟩
        have hroom : 2 * (F0 m pc lsA ((vs ++ r5).map (na_tv ad fm))).monitorRoom + ((r5.map (na_tv ad fm)).map fun v => v.category).sum ≤ 8 := lv_room (by rw [na_tvs_cat hfm]; exact hct)
        have hpre := na_pre (av := .ref a :: as') hB hPw hDw hSw
        have eav : (Value.ref a :: as').map (na_tv ad fm) = Value.ref (ad a) :: as'.map (na_tv ad fm) := by simp [na_tv_ref ha90]
        rw [eav] at hpre
        refine na_back (Post := fun v I' J' => k r ls (na_pu v r5) I' J') (rest := r5) (a := (Value.ref (ad a) :: as'.map (na_tv ad fm)).toArray) hB hSw hlv ?_ (fun rr I' J' hp H' locs' hiv' => nx _ _ _ _ hp _ _ _ hiv')
        · exact va_runV (C := (na_mi (na_h0 hi)).1.cls) ⟨hx, hb, hml, hown, hts⟩ hM (cwV (na_h1 hi - 1) hts (fun w hw => by
            unfold wsV at hw
            rcases List.mem_append.mp hw with q | q
            · simp only [List.mem_cons, List.not_mem_nil, or_false] at q
              rcases q with rfl | rfl | rfl | rfl
              · exact ⟨hl1, na_good _ hl1⟩
              · exact ⟨hl2, na_good _ hl2⟩
              · exact ⟨hl3, na_good _ hl3⟩
              · exact ⟨hl4, na_good _ hl4⟩
            · exact hG w q) rfl rfl rfl ⟨rfl, hl6, hl7, hl8⟩ ⟨Nat.le_trans hI1 hfr, Nat.le_trans hI2 hlo⟩) ⟨na_blind, hcell, hpre⟩ rfl (by simp [hlen2]) hlv.1 hst2 hroom hd ⟨hcs, hss⟩
    | return_ =>
      dsimp only [na_stp] at h
      simp only [na_okI, Bool.and_eq_true, beq_iff_eq] at hI
      obtain ⟨h1, h2⟩ := hI
      subst h1
      split at h
      · exact hE none I J H locs pc lsA h hPw hDw hSw ⟨hd, by simpa using h2⟩
      · exact h.elim
    | ireturn =>
      dsimp only [na_stp] at h
      simp only [na_okI, Bool.and_eq_true, beq_iff_eq] at hI
      obtain ⟨h1, h2⟩ := hI
      subst h1
      split at h
      · rename_i v ty
        exact hE (some (.int v)) I J H locs pc lsA h.2 hPw hDw hSw ⟨hd, ty, rfl, h2, h.1⟩
      · exact h.elim
    | lreturn =>
      dsimp only [na_stp] at h
      simp only [na_okI, Bool.and_eq_true, beq_iff_eq] at hI
      obtain ⟨h1, h2⟩ := hI
      subst h1
      split at h
      · rename_i v
        exact hE (some (.long v)) I J H locs pc lsA h hPw hDw hSw ⟨hd, na_lty_s h2⟩
      · exact h.elim
    | areturn =>
      dsimp only [na_stp] at h
      simp only [na_okI, Bool.and_eq_true, beq_iff_eq] at hI
      obtain ⟨h1, h2⟩ := hI
      subst h1
      split at h
      · rename_i a
        cases h9 : Nat.beq a 90 with
        | true => rw [h9] at h; exact (show False from h).elim
        | false =>
          rw [h9] at h
          obtain ⟨ty, t1, t2⟩ := na_ot_s h2
          exact hE (some (.ref a)) I J H locs pc lsA h hPw hDw hSw ⟨hd, Nat.ne_of_beq_eq_false h9, ty, t1, t2⟩
      · exact h.elim
    | _ => exact (show False from h).elim
  exact key
end NaStep
end
section
/-! STRETCHES, METHODS -/
def GW (sx : Nat × (Nat → Int32)) (q : MI) (Rt : Option Value → Mm → Ml → Prop) (pc : Nat) (ls : Lo) (st : List Value) (I : Mm) (J : Ml) : Prop :=
  ∀ (p : Program) (l : Launch) (e : Env) (R : Room) (s s0 : State) (m : MethodId) (args : Array Value) (below : List Frame) (meth : Method) (c : Code) (cells slots : Nat) (Q : State → Prop) (D : va_G) (ca ad : Nat → Nat) (fm : Value) (N0 : Nat),
    na_B sx D ca ad fm N0 s0 q.1.cls q.2.1 q.2.2.1 q.2.2.2.2.1 q.2.2.2.2.2 p R s m args c cells slots → na_En D ca ad fm N0 q.2.1 q.2.2.2.1 Rt p l e R s m args below meth c cells slots Q →
    ∀ (H : Heap) (locs : List Loc) (lsA : Array Slot), na_iv D ca ad fm N0 s q.2.2.1 H locs lsA ls I J → W p l e R s m args below meth c H locs cells slots Q (F0 m pc lsA (st.map (na_tv ad fm)))
/-- a checked program of a method -/
def na_okP (q : MI) (P : List En) : Prop := na_okS q.1.cls q.2.1 P q.2.2.1 q.2.2.2.1 q.2.2.2.2.1 q.2.2.2.2.2 P
theorem GW_wp {sx : Nat × (Nat → Int32)} {q : MI} {P : List En} (hP : na_okP q P) {Rt : Option Value → Mm → Ml → Prop} {cut : Nat → Bool} : ∀ (n : Nat) (sfx : List En), na_okS q.1.cls q.2.1 P q.2.2.1 q.2.2.2.1 q.2.2.2.2.1 q.2.2.2.2.2 sfx → ∀ (ls : Lo) (st : List Value) (I : Mm) (J : Ml), na_wp P sx q.2.2.2.1 Rt (GW sx q Rt) cut n sfx ls st I J → ∀ (x : En) (r : List En), sfx = x :: r → GW sx q Rt x.1 ls st I J
  | 0, sfx, hS, ls, st, I, J, h, x, r, e => by
    subst e
    exact h
  | n + 1, sfx, hS, ls, st, I, J, h, x, r, e => by
    subst e
    intro p l e R s s0 m args below meth c cells slots Q D ca ad fm N0 hB hE H locs lsA hiv
    refine na_step (k := na_go (GW sx q Rt) cut (na_wp P sx q.2.2.2.1 Rt (GW sx q Rt) cut n)) hB hE hP (fun ls st I J h => h) ?_ hS h x r rfl H locs lsA hiv
    intro sfx ls st I J hS2 hgo y r2 e2 H locs lsA hiv
    subst e2
    unfold na_go at hgo
    cases hc : cut y.1 with
    | true =>
      simp only [hc, cond_true] at hgo
      exact hgo p l e R s s0 m args below meth c cells slots Q D ca ad fm N0 hB hE H locs lsA hiv
    | false =>
      simp only [hc, cond_false] at hgo
      exact GW_wp hP n _ hS2 ls st I J hgo y r2 rfl p l e R s s0 m args below meth c cells slots Q D ca ad fm N0 hB hE H locs lsA hiv
/-- from row t of the program on, which stands at pc -/
theorem GW.run {sx : Nat × (Nat → Int32)} {q : MI} {P : List En} (hP : na_okP q P) {Rt : Option Value → Mm → Ml → Prop} (cut : Nat → Bool) (n t : Nat) {pc : Nat} (hpc : (match na_dr t P with | [] => none | x :: _ => some x.1) = some pc) {ls : Lo} {st : List Value} {I : Mm} {J : Ml} (h : na_wp P sx q.2.2.2.1 Rt (GW sx q Rt) cut n (na_dr t P) ls st I J) : GW sx q Rt pc ls st I J := by
  split at hpc
  · cases hpc
  · rename_i x r hx
    cases hpc
    exact GW_wp hP n (na_dr t P) (na_okS.drop hP t) ls st I J h x r hx
theorem GW.conseq {sx : Nat × (Nat → Int32)} {q : MI} {R1 R2 : Option Value → Mm → Ml → Prop} {pc : Nat} {ls : Lo} {st : List Value} {I : Mm} {J : Ml} (h : GW sx q R1 pc ls st I J) (hr : ∀ v I' J', R1 v I' J' → R2 v I' J') : GW sx q R2 pc ls st I J :=
  fun p l e R s s0 m args below meth c cells slots Q D ca ad fm N0 hB hE H locs lsA hiv => h p l e R s s0 m args below meth c cells slots Q D ca ad fm N0 hB (fun v I J H locs pc lsA h1 => hE v I J H locs pc lsA (hr _ _ _ h1)) H locs lsA hiv
/-- more locals are known than are asked for -/
def na_le : Lo → Lo → Prop
  | [], _ => True
  | none :: a, _ :: b => na_le a b
  | some v :: a, some w :: b => v = w ∧ na_le a b
  | none :: a, [] => na_le a []
  | _, _ => False
theorem na_le_get : ∀ (a b : Lo), na_le a b → ∀ (i : Nat) (v : Value), a[i]? = some (some v) → b[i]? = some (some v)
  | [], _, _, i, v, h => by simp at h
  | none :: a, y :: b, hl, 0, v, h => by simp at h
  | none :: a, y :: b, hl, i + 1, v, h => by
    simp only [List.getElem?_cons_succ] at h ⊢
    exact na_le_get a b hl i v h
  | some x :: a, some y :: b, hl, 0, v, h => by
    simp only [List.getElem?_cons_zero] at h ⊢
    rw [← hl.1]
    exact h
  | some x :: a, some y :: b, hl, i + 1, v, h => by
    simp only [List.getElem?_cons_succ] at h ⊢
    exact na_le_get a b hl.2 i v h
  | none :: a, [], hl, 0, v, h => by simp at h
  | none :: a, [], hl, i + 1, v, h => by
    simp only [List.getElem?_cons_succ] at h
    have := na_le_get a [] hl i v h
    simp at this
  | some x :: a, [], hl, i, v, h => by exact (show False from hl).elim
  | some x :: a, none :: b, hl, i, v, h => by exact (show False from hl).elim
theorem GW.weak {sx : Nat × (Nat → Int32)} {q : MI} {Rt : Option Value → Mm → Ml → Prop} {pc : Nat} {ls ls' : Lo} {st : List Value} {I : Mm} {J : Ml} (h : GW sx q Rt pc ls st I J) (hl : na_le ls ls') : GW sx q Rt pc ls' st I J :=
  fun p l e R s s0 m args below meth c cells slots Q D ca ad fm N0 hB hE H locs lsA hiv => h p l e R s s0 m args below meth c cells slots Q D ca ad fm N0 hB hE H locs lsA ⟨hiv.1, hiv.2.1, hiv.2.2.1, hiv.2.2.2.1, hiv.2.2.2.2.1, fun i v hv => hiv.2.2.2.2.2 i v (na_le_get _ _ hl i v hv)⟩
/-- the locals at a method's entry -/
def na_ent : List Value → Lo
  | [] => []
  | .long x :: r => some (.long x) :: none :: na_ent r
  | .double x :: r => some (.double x) :: none :: na_ent r
  | v :: r => some v :: na_ent r
theorem na_ent_args {ad : Nat → Nat} {fm : Value} (hf : fm = .null ∨ ∃ t : Nat, fm = .ref t) : ∀ (av : List Value) (k i : Nat) (v : Value), (na_ent av)[i]? = some (some v) → (k + i, na_tv ad fm v) ∈ lv_args k (av.map (na_tv ad fm))
  | [], k, i, v, h => by simp [na_ent] at h
  | w :: r, k, i, v, h => by
    have ih := na_ent_args (ad := ad) hf r
    have hc := na_tv_cat (ad := ad) hf w
    cases w with
    | long x =>
      simp only [List.map_cons, lv_args]
      rw [hc]
      match i, h with
      | 0, h =>
        simp only [na_ent, List.getElem?_cons_zero, Option.some.injEq] at h
        subst h
        simp
      | 1, h => simp [na_ent] at h
      | i + 2, h =>
        have := ih (k + 2) i v (by simpa [na_ent] using h)
        rw [show k + 2 + i = k + (i + 2) by omega] at this
        exact List.mem_cons_of_mem _ this
    | double x =>
      simp only [List.map_cons, lv_args]
      rw [hc]
      match i, h with
      | 0, h =>
        simp only [na_ent, List.getElem?_cons_zero, Option.some.injEq] at h
        subst h
        simp
      | 1, h => simp [na_ent] at h
      | i + 2, h =>
        have := ih (k + 2) i v (by simpa [na_ent] using h)
        rw [show k + 2 + i = k + (i + 2) by omega] at this
        exact List.mem_cons_of_mem _ this
    | _ =>
      simp only [List.map_cons, lv_args]
      rw [hc]
      match i, h with
      | 0, h =>
        simp only [na_ent, List.getElem?_cons_zero, Option.some.injEq] at h
        subst h
        simp
      | i + 1, h =>
        have := ih (k + 1) i v (by simpa [na_ent] using h)
        rw [show k + 1 + i = k + (i + 1) by omega] at this
        simp [Value.category, this]
theorem na_wds (av : List Value) : na_ct av = na_ct av := rfl
set_option maxHeartbeats 4000000 in
theorem Mt.of {sx : Nat × (Nat → Int32)} {j : Nat} (q : MI) (hq : na_mi j = q) (hpn : plainName q.1.cls = true) {av : List Value} {I : Mm} {J : Ml} {Post : Option Value → Mm → Ml → Prop} (hct : na_ct av ≤ q.2.2.1) (h : GW sx q Post 0 (na_ent av) [] I J) : Mt sx j av I J Post := by
  subst hq
  intro l D ca ad fm N0 s0 hC
  refine Met.ofW (cc := (na_mi j).2.1) (maxL := (na_mi j).2.2.1) (ret := (na_mi j).2.2.2.1) hpn rfl ?_
  intro p e s m args below meth c s₁ B hml hv
  obtain ⟨hargs, hal, hKw, hR⟩ := hv
  subst hargs
  have hfm := hC.2.2.2.2.2.2
  have hts : ∀ w ∈ na_ww (na_mi j), w.before (av.map (na_tv ad fm)).toArray s = true := atoms_spec (ws := na_ww (na_mi j)) B.pre
  have hown : s.vm.findClass (na_mi j).1.cls = some m.cls := findClass_of_methodNamed B.named
  have hB : na_B sx D ca ad fm N0 s0 (na_mi j).1.cls (na_mi j).2.1 (na_mi j).2.2.1 (na_mi j).2.2.2.2.1 (na_mi j).2.2.2.2.2 p (headSpec (na_ww (na_mi j)) (na_rm (na_mi j))).room s m (av.map (na_tv ad fm)).toArray c 0 0 := ⟨hC, B.exec, B.bytes, hml, hown, fun w hw => hts w (List.mem_cons_of_mem _ hw), hKw, hal, hR.2.2.2, hR.2.2.1, Nat.le_refl _, Nat.le_refl _, Nat.le_refl _, Nat.le_refl _⟩
  have hlen : (lg_sl (av.map (na_tv ad fm))).length ≤ (na_mi j).2.2.1 := by
    have : (lg_sl (av.map (na_tv ad fm))).length = na_ct av := by
      clear hct hts hown hB h hml B hR
      induction av with
      | nil => rfl
      | cons v r ih =>
        have hc := na_tv_cat (ad := ad) hfm v
        simp only [List.map_cons, lg_sl, List.flatMap_cons, List.length_append] at ih ⊢
        rw [ih, hc]
        cases v <;> simp [na_ct, Value.category]
    omega
  have hl := lv_entry (av.map (na_tv ad fm)) hlen
  rw [lg_entry_eq]
  refine h p l e _ s s0 m _ below meth c 0 0 _ D ca ad fm N0 hB ?_ s.heap [] _ ⟨hR.1, hR.2.1, va_S.rf, hl.1, hl.2.1, fun i v hv => hl.2.2 (i, na_tv ad fm v) (by simpa using na_ent_args hfm av 0 i v hv)⟩
  intro v I' J' H locs pc lsA hpost hP' hD' hS' hrd
  have hRt : ∀ t : State, t.heap = H → na_Qc D ca ad fm N0 s0 Post (av.map (na_tv ad fm)).toArray s (.returned (v.map (na_tv ad fm))) t := fun t ht => ⟨v, I', J', rfl, hpost, by
    rw [ht]
    exact ⟨hP', hD', Nat.le_trans hR.2.2.1 hS'.1, fun q hq => (hS'.2.1 q (Nat.lt_of_lt_of_le hq hR.2.2.1) (Nat.not_le.mpr hq)).trans (hR.2.2.2 q hq)⟩, by rw [ht]; exact hS'.1⟩
  have hlocks := B.notSynchronized
  cases v with
  | none =>
    obtain ⟨r1, r2⟩ := hrd
    exact W.vret B.exec B.bytes (B.returns.trans r2) (fun t ht _ => hRt t ht) hS'.2.2 r1
  | some v =>
    cases v with
    | int v =>
      obtain ⟨r1, ty, r2, r3, r4⟩ := hrd
      refine W.zret B.exec B.bytes (B.returns.trans r2) ?_ (fun t ht _ => hRt t ht) hS'.2.2 r1
      cases ty <;> first | exact r4 | rfl | cases r3
    | long v =>
      obtain ⟨r1, r2⟩ := hrd
      exact W.lret B.exec B.bytes (B.returns.trans r2) (fun t ht _ => hRt t ht) hS'.2.2 r1
    | ref a =>
      obtain ⟨r1, r2, ty, r3, r4⟩ := hrd
      refine W.aret (v := na_tv ad fm (.ref a)) B.exec B.bytes (B.returns.trans r3) ?_ (Or.inr ⟨ad a, na_tv_ref r2⟩) (fun t ht _ => hRt t ht) hS'.2.2 r1
      cases ty <;> first | exact Or.inl ⟨_, rfl⟩ | exact Or.inr ⟨_, rfl⟩ | cases r4
    | _ => exact (show False from hrd).elim
end
section
/-! what the tables say of each method (by program) -/
theorem fv_0 : Cond.instanceMethod (na_mi 0).1 ∈ na_Tg ∧ Cond.selects (na_mi 0).1.cls (na_mi 0).1 (na_mi 0).1 ∈ na_Tg ∧ Cond.initialized (na_mi 0).1.cls ∈ na_Tg ∧ Cond.code (na_mi 0).1 (na_mi 0).2.1 (na_mi 0).2.2.1 (na_mi 0).2.2.2.1 ∈ na_Tg ∧ (na_mi 0).1.cls ≠ "java/lang/invoke/MethodHandle" ∧ (na_mi 0).1.cls ≠ "java/lang/invoke/VarHandle" ∧ (parseMethodDescriptor (na_mi 0).1.desc).map (fun d => d.parameters.length) = some (2 - 1) ∧ 1 ≤ 2 ∧ ((0 = 9 ∧ (na_mi 0).1.cls = RJ0) ∨ (0 ≠ 9 ∧ ∃ q, vwCl[0]? = some q ∧ q.1 = (na_mi 0).1.cls)) := ⟨na_mem (i := 389) (by decide +kernel) (by decide +kernel), na_mem (i := 390) (by decide +kernel) (by decide +kernel), na_mem (i := 64) (by decide +kernel) (by decide +kernel), na_mem (i := 391) (by decide +kernel) (by decide +kernel), by decide +kernel, by decide +kernel, by decide +kernel, by decide, Or.inr ⟨by decide, _, rfl, by decide +kernel⟩⟩
theorem fv_1 : Cond.instanceMethod (na_mi 1).1 ∈ na_Tg ∧ Cond.selects (na_mi 1).1.cls (na_mi 1).1 (na_mi 1).1 ∈ na_Tg ∧ Cond.initialized (na_mi 1).1.cls ∈ na_Tg ∧ Cond.code (na_mi 1).1 (na_mi 1).2.1 (na_mi 1).2.2.1 (na_mi 1).2.2.2.1 ∈ na_Tg ∧ (na_mi 1).1.cls ≠ "java/lang/invoke/MethodHandle" ∧ (na_mi 1).1.cls ≠ "java/lang/invoke/VarHandle" ∧ (parseMethodDescriptor (na_mi 1).1.desc).map (fun d => d.parameters.length) = some (2 - 1) ∧ 1 ≤ 2 ∧ ((0 = 9 ∧ (na_mi 1).1.cls = RJ0) ∨ (0 ≠ 9 ∧ ∃ q, vwCl[0]? = some q ∧ q.1 = (na_mi 1).1.cls)) := ⟨na_mem (i := 233) (by decide +kernel) (by decide +kernel), na_mem (i := 234) (by decide +kernel) (by decide +kernel), na_mem (i := 64) (by decide +kernel) (by decide +kernel), na_mem (i := 235) (by decide +kernel) (by decide +kernel), by decide +kernel, by decide +kernel, by decide +kernel, by decide, Or.inr ⟨by decide, _, rfl, by decide +kernel⟩⟩
theorem fv_2 : Cond.instanceMethod (na_mi 2).1 ∈ na_Tg ∧ Cond.selects (na_mi 2).1.cls (na_mi 2).1 (na_mi 2).1 ∈ na_Tg ∧ Cond.initialized (na_mi 2).1.cls ∈ na_Tg ∧ Cond.code (na_mi 2).1 (na_mi 2).2.1 (na_mi 2).2.2.1 (na_mi 2).2.2.2.1 ∈ na_Tg ∧ (na_mi 2).1.cls ≠ "java/lang/invoke/MethodHandle" ∧ (na_mi 2).1.cls ≠ "java/lang/invoke/VarHandle" ∧ (parseMethodDescriptor (na_mi 2).1.desc).map (fun d => d.parameters.length) = some (2 - 1) ∧ 1 ≤ 2 ∧ ((0 = 9 ∧ (na_mi 2).1.cls = RJ0) ∨ (0 ≠ 9 ∧ ∃ q, vwCl[0]? = some q ∧ q.1 = (na_mi 2).1.cls)) := ⟨na_mem (i := 300) (by decide +kernel) (by decide +kernel), na_mem (i := 301) (by decide +kernel) (by decide +kernel), na_mem (i := 64) (by decide +kernel) (by decide +kernel), na_mem (i := 302) (by decide +kernel) (by decide +kernel), by decide +kernel, by decide +kernel, by decide +kernel, by decide, Or.inr ⟨by decide, _, rfl, by decide +kernel⟩⟩
theorem fv_3 : Cond.instanceMethod (na_mi 3).1 ∈ na_Tg ∧ Cond.selects (na_mi 3).1.cls (na_mi 3).1 (na_mi 3).1 ∈ na_Tg ∧ Cond.initialized (na_mi 3).1.cls ∈ na_Tg ∧ Cond.code (na_mi 3).1 (na_mi 3).2.1 (na_mi 3).2.2.1 (na_mi 3).2.2.2.1 ∈ na_Tg ∧ (na_mi 3).1.cls ≠ "java/lang/invoke/MethodHandle" ∧ (na_mi 3).1.cls ≠ "java/lang/invoke/VarHandle" ∧ (parseMethodDescriptor (na_mi 3).1.desc).map (fun d => d.parameters.length) = some (3 - 1) ∧ 1 ≤ 3 ∧ ((0 = 9 ∧ (na_mi 3).1.cls = RJ0) ∨ (0 ≠ 9 ∧ ∃ q, vwCl[0]? = some q ∧ q.1 = (na_mi 3).1.cls)) := ⟨na_mem (i := 267) (by decide +kernel) (by decide +kernel), na_mem (i := 268) (by decide +kernel) (by decide +kernel), na_mem (i := 64) (by decide +kernel) (by decide +kernel), na_mem (i := 269) (by decide +kernel) (by decide +kernel), by decide +kernel, by decide +kernel, by decide +kernel, by decide, Or.inr ⟨by decide, _, rfl, by decide +kernel⟩⟩
theorem fv_4 : Cond.instanceMethod (na_mi 4).1 ∈ na_Tg ∧ Cond.selects (na_mi 4).1.cls (na_mi 4).1 (na_mi 4).1 ∈ na_Tg ∧ Cond.initialized (na_mi 4).1.cls ∈ na_Tg ∧ Cond.code (na_mi 4).1 (na_mi 4).2.1 (na_mi 4).2.2.1 (na_mi 4).2.2.2.1 ∈ na_Tg ∧ (na_mi 4).1.cls ≠ "java/lang/invoke/MethodHandle" ∧ (na_mi 4).1.cls ≠ "java/lang/invoke/VarHandle" ∧ (parseMethodDescriptor (na_mi 4).1.desc).map (fun d => d.parameters.length) = some (1 - 1) ∧ 1 ≤ 1 ∧ ((0 = 9 ∧ (na_mi 4).1.cls = RJ0) ∨ (0 ≠ 9 ∧ ∃ q, vwCl[0]? = some q ∧ q.1 = (na_mi 4).1.cls)) := ⟨na_mem (i := 282) (by decide +kernel) (by decide +kernel), na_mem (i := 283) (by decide +kernel) (by decide +kernel), na_mem (i := 64) (by decide +kernel) (by decide +kernel), na_mem (i := 284) (by decide +kernel) (by decide +kernel), by decide +kernel, by decide +kernel, by decide +kernel, by decide, Or.inr ⟨by decide, _, rfl, by decide +kernel⟩⟩
theorem fv_5 : Cond.instanceMethod (na_mi 5).1 ∈ na_Tg ∧ Cond.selects (na_mi 5).1.cls (na_mi 5).1 (na_mi 5).1 ∈ na_Tg ∧ Cond.initialized (na_mi 5).1.cls ∈ na_Tg ∧ Cond.code (na_mi 5).1 (na_mi 5).2.1 (na_mi 5).2.2.1 (na_mi 5).2.2.2.1 ∈ na_Tg ∧ (na_mi 5).1.cls ≠ "java/lang/invoke/MethodHandle" ∧ (na_mi 5).1.cls ≠ "java/lang/invoke/VarHandle" ∧ (parseMethodDescriptor (na_mi 5).1.desc).map (fun d => d.parameters.length) = some (4 - 1) ∧ 1 ≤ 4 ∧ ((0 = 9 ∧ (na_mi 5).1.cls = RJ0) ∨ (0 ≠ 9 ∧ ∃ q, vwCl[0]? = some q ∧ q.1 = (na_mi 5).1.cls)) := ⟨na_mem (i := 287) (by decide +kernel) (by decide +kernel), na_mem (i := 288) (by decide +kernel) (by decide +kernel), na_mem (i := 64) (by decide +kernel) (by decide +kernel), na_mem (i := 289) (by decide +kernel) (by decide +kernel), by decide +kernel, by decide +kernel, by decide +kernel, by decide, Or.inr ⟨by decide, _, rfl, by decide +kernel⟩⟩
theorem fv_6 : Cond.instanceMethod (na_mi 6).1 ∈ na_Tg ∧ Cond.selects (na_mi 6).1.cls (na_mi 6).1 (na_mi 6).1 ∈ na_Tg ∧ Cond.initialized (na_mi 6).1.cls ∈ na_Tg ∧ Cond.code (na_mi 6).1 (na_mi 6).2.1 (na_mi 6).2.2.1 (na_mi 6).2.2.2.1 ∈ na_Tg ∧ (na_mi 6).1.cls ≠ "java/lang/invoke/MethodHandle" ∧ (na_mi 6).1.cls ≠ "java/lang/invoke/VarHandle" ∧ (parseMethodDescriptor (na_mi 6).1.desc).map (fun d => d.parameters.length) = some (2 - 1) ∧ 1 ≤ 2 ∧ ((0 = 9 ∧ (na_mi 6).1.cls = RJ0) ∨ (0 ≠ 9 ∧ ∃ q, vwCl[0]? = some q ∧ q.1 = (na_mi 6).1.cls)) := ⟨na_mem (i := 330) (by decide +kernel) (by decide +kernel), na_mem (i := 331) (by decide +kernel) (by decide +kernel), na_mem (i := 64) (by decide +kernel) (by decide +kernel), na_mem (i := 332) (by decide +kernel) (by decide +kernel), by decide +kernel, by decide +kernel, by decide +kernel, by decide, Or.inr ⟨by decide, _, rfl, by decide +kernel⟩⟩
theorem fv_7 : Cond.instanceMethod (na_mi 7).1 ∈ na_Tg ∧ Cond.selects (na_mi 7).1.cls (na_mi 7).1 (na_mi 7).1 ∈ na_Tg ∧ Cond.initialized (na_mi 7).1.cls ∈ na_Tg ∧ Cond.code (na_mi 7).1 (na_mi 7).2.1 (na_mi 7).2.2.1 (na_mi 7).2.2.2.1 ∈ na_Tg ∧ (na_mi 7).1.cls ≠ "java/lang/invoke/MethodHandle" ∧ (na_mi 7).1.cls ≠ "java/lang/invoke/VarHandle" ∧ (parseMethodDescriptor (na_mi 7).1.desc).map (fun d => d.parameters.length) = some (2 - 1) ∧ 1 ≤ 2 ∧ ((0 = 9 ∧ (na_mi 7).1.cls = RJ0) ∨ (0 ≠ 9 ∧ ∃ q, vwCl[0]? = some q ∧ q.1 = (na_mi 7).1.cls)) := ⟨na_mem (i := 244) (by decide +kernel) (by decide +kernel), na_mem (i := 245) (by decide +kernel) (by decide +kernel), na_mem (i := 64) (by decide +kernel) (by decide +kernel), na_mem (i := 246) (by decide +kernel) (by decide +kernel), by decide +kernel, by decide +kernel, by decide +kernel, by decide, Or.inr ⟨by decide, _, rfl, by decide +kernel⟩⟩
theorem fv_8 : Cond.instanceMethod (na_mi 8).1 ∈ na_Tg ∧ Cond.selects (na_mi 8).1.cls (na_mi 8).1 (na_mi 8).1 ∈ na_Tg ∧ Cond.initialized (na_mi 8).1.cls ∈ na_Tg ∧ Cond.code (na_mi 8).1 (na_mi 8).2.1 (na_mi 8).2.2.1 (na_mi 8).2.2.2.1 ∈ na_Tg ∧ (na_mi 8).1.cls ≠ "java/lang/invoke/MethodHandle" ∧ (na_mi 8).1.cls ≠ "java/lang/invoke/VarHandle" ∧ (parseMethodDescriptor (na_mi 8).1.desc).map (fun d => d.parameters.length) = some (1 - 1) ∧ 1 ≤ 1 ∧ ((0 = 9 ∧ (na_mi 8).1.cls = RJ0) ∨ (0 ≠ 9 ∧ ∃ q, vwCl[0]? = some q ∧ q.1 = (na_mi 8).1.cls)) := ⟨na_mem (i := 377) (by decide +kernel) (by decide +kernel), na_mem (i := 378) (by decide +kernel) (by decide +kernel), na_mem (i := 64) (by decide +kernel) (by decide +kernel), na_mem (i := 379) (by decide +kernel) (by decide +kernel), by decide +kernel, by decide +kernel, by decide +kernel, by decide, Or.inr ⟨by decide, _, rfl, by decide +kernel⟩⟩
theorem fv_9 : Cond.instanceMethod (na_mi 9).1 ∈ na_Tg ∧ Cond.selects (na_mi 9).1.cls (na_mi 9).1 (na_mi 9).1 ∈ na_Tg ∧ Cond.initialized (na_mi 9).1.cls ∈ na_Tg ∧ Cond.code (na_mi 9).1 (na_mi 9).2.1 (na_mi 9).2.2.1 (na_mi 9).2.2.2.1 ∈ na_Tg ∧ (na_mi 9).1.cls ≠ "java/lang/invoke/MethodHandle" ∧ (na_mi 9).1.cls ≠ "java/lang/invoke/VarHandle" ∧ (parseMethodDescriptor (na_mi 9).1.desc).map (fun d => d.parameters.length) = some (2 - 1) ∧ 1 ≤ 2 ∧ ((0 = 9 ∧ (na_mi 9).1.cls = RJ0) ∨ (0 ≠ 9 ∧ ∃ q, vwCl[0]? = some q ∧ q.1 = (na_mi 9).1.cls)) := ⟨na_mem (i := 248) (by decide +kernel) (by decide +kernel), na_mem (i := 249) (by decide +kernel) (by decide +kernel), na_mem (i := 64) (by decide +kernel) (by decide +kernel), na_mem (i := 250) (by decide +kernel) (by decide +kernel), by decide +kernel, by decide +kernel, by decide +kernel, by decide, Or.inr ⟨by decide, _, rfl, by decide +kernel⟩⟩
theorem fv_10 : Cond.instanceMethod (na_mi 10).1 ∈ na_Tg ∧ Cond.selects (na_mi 10).1.cls (na_mi 10).1 (na_mi 10).1 ∈ na_Tg ∧ Cond.initialized (na_mi 10).1.cls ∈ na_Tg ∧ Cond.code (na_mi 10).1 (na_mi 10).2.1 (na_mi 10).2.2.1 (na_mi 10).2.2.2.1 ∈ na_Tg ∧ (na_mi 10).1.cls ≠ "java/lang/invoke/MethodHandle" ∧ (na_mi 10).1.cls ≠ "java/lang/invoke/VarHandle" ∧ (parseMethodDescriptor (na_mi 10).1.desc).map (fun d => d.parameters.length) = some (2 - 1) ∧ 1 ≤ 2 ∧ ((0 = 9 ∧ (na_mi 10).1.cls = RJ0) ∨ (0 ≠ 9 ∧ ∃ q, vwCl[0]? = some q ∧ q.1 = (na_mi 10).1.cls)) := ⟨na_mem (i := 466) (by decide +kernel) (by decide +kernel), na_mem (i := 467) (by decide +kernel) (by decide +kernel), na_mem (i := 64) (by decide +kernel) (by decide +kernel), na_mem (i := 468) (by decide +kernel) (by decide +kernel), by decide +kernel, by decide +kernel, by decide +kernel, by decide, Or.inr ⟨by decide, _, rfl, by decide +kernel⟩⟩
theorem fv_11 : Cond.instanceMethod (na_mi 11).1 ∈ na_Tg ∧ Cond.selects (na_mi 11).1.cls (na_mi 11).1 (na_mi 11).1 ∈ na_Tg ∧ Cond.initialized (na_mi 11).1.cls ∈ na_Tg ∧ Cond.code (na_mi 11).1 (na_mi 11).2.1 (na_mi 11).2.2.1 (na_mi 11).2.2.2.1 ∈ na_Tg ∧ (na_mi 11).1.cls ≠ "java/lang/invoke/MethodHandle" ∧ (na_mi 11).1.cls ≠ "java/lang/invoke/VarHandle" ∧ (parseMethodDescriptor (na_mi 11).1.desc).map (fun d => d.parameters.length) = some (2 - 1) ∧ 1 ≤ 2 ∧ ((0 = 9 ∧ (na_mi 11).1.cls = RJ0) ∨ (0 ≠ 9 ∧ ∃ q, vwCl[0]? = some q ∧ q.1 = (na_mi 11).1.cls)) := ⟨na_mem (i := 482) (by decide +kernel) (by decide +kernel), na_mem (i := 483) (by decide +kernel) (by decide +kernel), na_mem (i := 64) (by decide +kernel) (by decide +kernel), na_mem (i := 484) (by decide +kernel) (by decide +kernel), by decide +kernel, by decide +kernel, by decide +kernel, by decide, Or.inr ⟨by decide, _, rfl, by decide +kernel⟩⟩
theorem fv_12 : Cond.instanceMethod (na_mi 12).1 ∈ na_Tg ∧ Cond.selects (na_mi 12).1.cls (na_mi 12).1 (na_mi 12).1 ∈ na_Tg ∧ Cond.initialized (na_mi 12).1.cls ∈ na_Tg ∧ Cond.code (na_mi 12).1 (na_mi 12).2.1 (na_mi 12).2.2.1 (na_mi 12).2.2.2.1 ∈ na_Tg ∧ (na_mi 12).1.cls ≠ "java/lang/invoke/MethodHandle" ∧ (na_mi 12).1.cls ≠ "java/lang/invoke/VarHandle" ∧ (parseMethodDescriptor (na_mi 12).1.desc).map (fun d => d.parameters.length) = some (2 - 1) ∧ 1 ≤ 2 ∧ ((0 = 9 ∧ (na_mi 12).1.cls = RJ0) ∨ (0 ≠ 9 ∧ ∃ q, vwCl[0]? = some q ∧ q.1 = (na_mi 12).1.cls)) := ⟨na_mem (i := 255) (by decide +kernel) (by decide +kernel), na_mem (i := 256) (by decide +kernel) (by decide +kernel), na_mem (i := 64) (by decide +kernel) (by decide +kernel), na_mem (i := 257) (by decide +kernel) (by decide +kernel), by decide +kernel, by decide +kernel, by decide +kernel, by decide, Or.inr ⟨by decide, _, rfl, by decide +kernel⟩⟩
theorem fv_13 : Cond.instanceMethod (na_mi 13).1 ∈ na_Tg ∧ Cond.selects (na_mi 13).1.cls (na_mi 13).1 (na_mi 13).1 ∈ na_Tg ∧ Cond.initialized (na_mi 13).1.cls ∈ na_Tg ∧ Cond.code (na_mi 13).1 (na_mi 13).2.1 (na_mi 13).2.2.1 (na_mi 13).2.2.2.1 ∈ na_Tg ∧ (na_mi 13).1.cls ≠ "java/lang/invoke/MethodHandle" ∧ (na_mi 13).1.cls ≠ "java/lang/invoke/VarHandle" ∧ (parseMethodDescriptor (na_mi 13).1.desc).map (fun d => d.parameters.length) = some (2 - 1) ∧ 1 ≤ 2 ∧ ((0 = 9 ∧ (na_mi 13).1.cls = RJ0) ∨ (0 ≠ 9 ∧ ∃ q, vwCl[0]? = some q ∧ q.1 = (na_mi 13).1.cls)) := ⟨na_mem (i := 260) (by decide +kernel) (by decide +kernel), na_mem (i := 1) (by decide +kernel) (by decide +kernel), na_mem (i := 64) (by decide +kernel) (by decide +kernel), na_mem (i := 261) (by decide +kernel) (by decide +kernel), by decide +kernel, by decide +kernel, by decide +kernel, by decide, Or.inr ⟨by decide, _, rfl, by decide +kernel⟩⟩
theorem fv_14 : Cond.instanceMethod (na_mi 14).1 ∈ na_Tg ∧ Cond.selects (na_mi 14).1.cls (na_mi 14).1 (na_mi 14).1 ∈ na_Tg ∧ Cond.initialized (na_mi 14).1.cls ∈ na_Tg ∧ Cond.code (na_mi 14).1 (na_mi 14).2.1 (na_mi 14).2.2.1 (na_mi 14).2.2.2.1 ∈ na_Tg ∧ (na_mi 14).1.cls ≠ "java/lang/invoke/MethodHandle" ∧ (na_mi 14).1.cls ≠ "java/lang/invoke/VarHandle" ∧ (parseMethodDescriptor (na_mi 14).1.desc).map (fun d => d.parameters.length) = some (2 - 1) ∧ 1 ≤ 2 ∧ ((0 = 9 ∧ (na_mi 14).1.cls = RJ0) ∨ (0 ≠ 9 ∧ ∃ q, vwCl[0]? = some q ∧ q.1 = (na_mi 14).1.cls)) := ⟨na_mem (i := 343) (by decide +kernel) (by decide +kernel), na_mem (i := 344) (by decide +kernel) (by decide +kernel), na_mem (i := 64) (by decide +kernel) (by decide +kernel), na_mem (i := 345) (by decide +kernel) (by decide +kernel), by decide +kernel, by decide +kernel, by decide +kernel, by decide, Or.inr ⟨by decide, _, rfl, by decide +kernel⟩⟩
theorem fv_15 : Cond.instanceMethod (na_mi 15).1 ∈ na_Tg ∧ Cond.selects (na_mi 15).1.cls (na_mi 15).1 (na_mi 15).1 ∈ na_Tg ∧ Cond.initialized (na_mi 15).1.cls ∈ na_Tg ∧ Cond.code (na_mi 15).1 (na_mi 15).2.1 (na_mi 15).2.2.1 (na_mi 15).2.2.2.1 ∈ na_Tg ∧ (na_mi 15).1.cls ≠ "java/lang/invoke/MethodHandle" ∧ (na_mi 15).1.cls ≠ "java/lang/invoke/VarHandle" ∧ (parseMethodDescriptor (na_mi 15).1.desc).map (fun d => d.parameters.length) = some (1 - 1) ∧ 1 ≤ 1 ∧ ((0 = 9 ∧ (na_mi 15).1.cls = RJ0) ∨ (0 ≠ 9 ∧ ∃ q, vwCl[0]? = some q ∧ q.1 = (na_mi 15).1.cls)) := ⟨na_mem (i := 347) (by decide +kernel) (by decide +kernel), na_mem (i := 348) (by decide +kernel) (by decide +kernel), na_mem (i := 64) (by decide +kernel) (by decide +kernel), na_mem (i := 349) (by decide +kernel) (by decide +kernel), by decide +kernel, by decide +kernel, by decide +kernel, by decide, Or.inr ⟨by decide, _, rfl, by decide +kernel⟩⟩
theorem fv_16 : Cond.instanceMethod (na_mi 16).1 ∈ na_Tg ∧ Cond.selects (na_mi 16).1.cls (na_mi 16).1 (na_mi 16).1 ∈ na_Tg ∧ Cond.initialized (na_mi 16).1.cls ∈ na_Tg ∧ Cond.code (na_mi 16).1 (na_mi 16).2.1 (na_mi 16).2.2.1 (na_mi 16).2.2.2.1 ∈ na_Tg ∧ (na_mi 16).1.cls ≠ "java/lang/invoke/MethodHandle" ∧ (na_mi 16).1.cls ≠ "java/lang/invoke/VarHandle" ∧ (parseMethodDescriptor (na_mi 16).1.desc).map (fun d => d.parameters.length) = some (1 - 1) ∧ 1 ≤ 1 ∧ ((0 = 9 ∧ (na_mi 16).1.cls = RJ0) ∨ (0 ≠ 9 ∧ ∃ q, vwCl[0]? = some q ∧ q.1 = (na_mi 16).1.cls)) := ⟨na_mem (i := 352) (by decide +kernel) (by decide +kernel), na_mem (i := 3) (by decide +kernel) (by decide +kernel), na_mem (i := 64) (by decide +kernel) (by decide +kernel), na_mem (i := 353) (by decide +kernel) (by decide +kernel), by decide +kernel, by decide +kernel, by decide +kernel, by decide, Or.inr ⟨by decide, _, rfl, by decide +kernel⟩⟩
theorem fv_17 : Cond.instanceMethod (na_mi 17).1 ∈ na_Tg ∧ Cond.selects (na_mi 17).1.cls (na_mi 17).1 (na_mi 17).1 ∈ na_Tg ∧ Cond.initialized (na_mi 17).1.cls ∈ na_Tg ∧ Cond.code (na_mi 17).1 (na_mi 17).2.1 (na_mi 17).2.2.1 (na_mi 17).2.2.2.1 ∈ na_Tg ∧ (na_mi 17).1.cls ≠ "java/lang/invoke/MethodHandle" ∧ (na_mi 17).1.cls ≠ "java/lang/invoke/VarHandle" ∧ (parseMethodDescriptor (na_mi 17).1.desc).map (fun d => d.parameters.length) = some (1 - 1) ∧ 1 ≤ 1 ∧ ((0 = 9 ∧ (na_mi 17).1.cls = RJ0) ∨ (0 ≠ 9 ∧ ∃ q, vwCl[0]? = some q ∧ q.1 = (na_mi 17).1.cls)) := ⟨na_mem (i := 359) (by decide +kernel) (by decide +kernel), na_mem (i := 4) (by decide +kernel) (by decide +kernel), na_mem (i := 64) (by decide +kernel) (by decide +kernel), na_mem (i := 360) (by decide +kernel) (by decide +kernel), by decide +kernel, by decide +kernel, by decide +kernel, by decide, Or.inr ⟨by decide, _, rfl, by decide +kernel⟩⟩
theorem fv_18 : Cond.instanceMethod (na_mi 18).1 ∈ na_Tg ∧ Cond.selects (na_mi 18).1.cls (na_mi 18).1 (na_mi 18).1 ∈ na_Tg ∧ Cond.initialized (na_mi 18).1.cls ∈ na_Tg ∧ Cond.code (na_mi 18).1 (na_mi 18).2.1 (na_mi 18).2.2.1 (na_mi 18).2.2.2.1 ∈ na_Tg ∧ (na_mi 18).1.cls ≠ "java/lang/invoke/MethodHandle" ∧ (na_mi 18).1.cls ≠ "java/lang/invoke/VarHandle" ∧ (parseMethodDescriptor (na_mi 18).1.desc).map (fun d => d.parameters.length) = some (1 - 1) ∧ 1 ≤ 1 ∧ ((0 = 9 ∧ (na_mi 18).1.cls = RJ0) ∨ (0 ≠ 9 ∧ ∃ q, vwCl[0]? = some q ∧ q.1 = (na_mi 18).1.cls)) := ⟨na_mem (i := 363) (by decide +kernel) (by decide +kernel), na_mem (i := 5) (by decide +kernel) (by decide +kernel), na_mem (i := 64) (by decide +kernel) (by decide +kernel), na_mem (i := 364) (by decide +kernel) (by decide +kernel), by decide +kernel, by decide +kernel, by decide +kernel, by decide, Or.inr ⟨by decide, _, rfl, by decide +kernel⟩⟩
theorem fv_19 : Cond.instanceMethod (na_mi 19).1 ∈ na_Tg ∧ Cond.selects (na_mi 19).1.cls (na_mi 19).1 (na_mi 19).1 ∈ na_Tg ∧ Cond.initialized (na_mi 19).1.cls ∈ na_Tg ∧ Cond.code (na_mi 19).1 (na_mi 19).2.1 (na_mi 19).2.2.1 (na_mi 19).2.2.2.1 ∈ na_Tg ∧ (na_mi 19).1.cls ≠ "java/lang/invoke/MethodHandle" ∧ (na_mi 19).1.cls ≠ "java/lang/invoke/VarHandle" ∧ (parseMethodDescriptor (na_mi 19).1.desc).map (fun d => d.parameters.length) = some (1 - 1) ∧ 1 ≤ 1 ∧ ((0 = 9 ∧ (na_mi 19).1.cls = RJ0) ∨ (0 ≠ 9 ∧ ∃ q, vwCl[0]? = some q ∧ q.1 = (na_mi 19).1.cls)) := ⟨na_mem (i := 367) (by decide +kernel) (by decide +kernel), na_mem (i := 6) (by decide +kernel) (by decide +kernel), na_mem (i := 64) (by decide +kernel) (by decide +kernel), na_mem (i := 368) (by decide +kernel) (by decide +kernel), by decide +kernel, by decide +kernel, by decide +kernel, by decide, Or.inr ⟨by decide, _, rfl, by decide +kernel⟩⟩
theorem fv_20 : Cond.instanceMethod (na_mi 20).1 ∈ na_Tg ∧ Cond.selects (na_mi 20).1.cls (na_mi 20).1 (na_mi 20).1 ∈ na_Tg ∧ Cond.initialized (na_mi 20).1.cls ∈ na_Tg ∧ Cond.code (na_mi 20).1 (na_mi 20).2.1 (na_mi 20).2.2.1 (na_mi 20).2.2.2.1 ∈ na_Tg ∧ (na_mi 20).1.cls ≠ "java/lang/invoke/MethodHandle" ∧ (na_mi 20).1.cls ≠ "java/lang/invoke/VarHandle" ∧ (parseMethodDescriptor (na_mi 20).1.desc).map (fun d => d.parameters.length) = some (3 - 1) ∧ 1 ≤ 3 ∧ ((0 = 9 ∧ (na_mi 20).1.cls = RJ0) ∨ (0 ≠ 9 ∧ ∃ q, vwCl[0]? = some q ∧ q.1 = (na_mi 20).1.cls)) := ⟨na_mem (i := 398) (by decide +kernel) (by decide +kernel), na_mem (i := 399) (by decide +kernel) (by decide +kernel), na_mem (i := 64) (by decide +kernel) (by decide +kernel), na_mem (i := 400) (by decide +kernel) (by decide +kernel), by decide +kernel, by decide +kernel, by decide +kernel, by decide, Or.inr ⟨by decide, _, rfl, by decide +kernel⟩⟩
theorem fv_21 : Cond.instanceMethod (na_mi 21).1 ∈ na_Tg ∧ Cond.selects (na_mi 21).1.cls (na_mi 21).1 (na_mi 21).1 ∈ na_Tg ∧ Cond.initialized (na_mi 21).1.cls ∈ na_Tg ∧ Cond.code (na_mi 21).1 (na_mi 21).2.1 (na_mi 21).2.2.1 (na_mi 21).2.2.2.1 ∈ na_Tg ∧ (na_mi 21).1.cls ≠ "java/lang/invoke/MethodHandle" ∧ (na_mi 21).1.cls ≠ "java/lang/invoke/VarHandle" ∧ (parseMethodDescriptor (na_mi 21).1.desc).map (fun d => d.parameters.length) = some (2 - 1) ∧ 1 ≤ 2 ∧ ((0 = 9 ∧ (na_mi 21).1.cls = RJ0) ∨ (0 ≠ 9 ∧ ∃ q, vwCl[0]? = some q ∧ q.1 = (na_mi 21).1.cls)) := ⟨na_mem (i := 424) (by decide +kernel) (by decide +kernel), na_mem (i := 425) (by decide +kernel) (by decide +kernel), na_mem (i := 64) (by decide +kernel) (by decide +kernel), na_mem (i := 426) (by decide +kernel) (by decide +kernel), by decide +kernel, by decide +kernel, by decide +kernel, by decide, Or.inr ⟨by decide, _, rfl, by decide +kernel⟩⟩
theorem fv_22 : Cond.instanceMethod (na_mi 22).1 ∈ na_Tg ∧ Cond.selects (na_mi 22).1.cls (na_mi 22).1 (na_mi 22).1 ∈ na_Tg ∧ Cond.initialized (na_mi 22).1.cls ∈ na_Tg ∧ Cond.code (na_mi 22).1 (na_mi 22).2.1 (na_mi 22).2.2.1 (na_mi 22).2.2.2.1 ∈ na_Tg ∧ (na_mi 22).1.cls ≠ "java/lang/invoke/MethodHandle" ∧ (na_mi 22).1.cls ≠ "java/lang/invoke/VarHandle" ∧ (parseMethodDescriptor (na_mi 22).1.desc).map (fun d => d.parameters.length) = some (3 - 1) ∧ 1 ≤ 3 ∧ ((0 = 9 ∧ (na_mi 22).1.cls = RJ0) ∨ (0 ≠ 9 ∧ ∃ q, vwCl[0]? = some q ∧ q.1 = (na_mi 22).1.cls)) := ⟨na_mem (i := 681) (by decide +kernel) (by decide +kernel), na_mem (i := 682) (by decide +kernel) (by decide +kernel), na_mem (i := 64) (by decide +kernel) (by decide +kernel), na_mem (i := 683) (by decide +kernel) (by decide +kernel), by decide +kernel, by decide +kernel, by decide +kernel, by decide, Or.inr ⟨by decide, _, rfl, by decide +kernel⟩⟩
theorem fv_23 : Cond.instanceMethod (na_mi 23).1 ∈ na_Tg ∧ Cond.selects (na_mi 23).1.cls (na_mi 23).1 (na_mi 23).1 ∈ na_Tg ∧ Cond.initialized (na_mi 23).1.cls ∈ na_Tg ∧ Cond.code (na_mi 23).1 (na_mi 23).2.1 (na_mi 23).2.2.1 (na_mi 23).2.2.2.1 ∈ na_Tg ∧ (na_mi 23).1.cls ≠ "java/lang/invoke/MethodHandle" ∧ (na_mi 23).1.cls ≠ "java/lang/invoke/VarHandle" ∧ (parseMethodDescriptor (na_mi 23).1.desc).map (fun d => d.parameters.length) = some (1 - 1) ∧ 1 ≤ 1 ∧ ((1 = 9 ∧ (na_mi 23).1.cls = RJ0) ∨ (1 ≠ 9 ∧ ∃ q, vwCl[1]? = some q ∧ q.1 = (na_mi 23).1.cls)) := ⟨na_mem (i := 650) (by decide +kernel) (by decide +kernel), na_mem (i := 651) (by decide +kernel) (by decide +kernel), na_mem (i := 66) (by decide +kernel) (by decide +kernel), na_mem (i := 652) (by decide +kernel) (by decide +kernel), by decide +kernel, by decide +kernel, by decide +kernel, by decide, Or.inr ⟨by decide, _, rfl, by decide +kernel⟩⟩
theorem fv_24 : Cond.instanceMethod (na_mi 24).1 ∈ na_Tg ∧ Cond.selects (na_mi 24).1.cls (na_mi 24).1 (na_mi 24).1 ∈ na_Tg ∧ Cond.initialized (na_mi 24).1.cls ∈ na_Tg ∧ Cond.code (na_mi 24).1 (na_mi 24).2.1 (na_mi 24).2.2.1 (na_mi 24).2.2.2.1 ∈ na_Tg ∧ (na_mi 24).1.cls ≠ "java/lang/invoke/MethodHandle" ∧ (na_mi 24).1.cls ≠ "java/lang/invoke/VarHandle" ∧ (parseMethodDescriptor (na_mi 24).1.desc).map (fun d => d.parameters.length) = some (3 - 1) ∧ 1 ≤ 3 ∧ ((1 = 9 ∧ (na_mi 24).1.cls = RJ0) ∨ (1 ≠ 9 ∧ ∃ q, vwCl[1]? = some q ∧ q.1 = (na_mi 24).1.cls)) := ⟨na_mem (i := 642) (by decide +kernel) (by decide +kernel), na_mem (i := 643) (by decide +kernel) (by decide +kernel), na_mem (i := 66) (by decide +kernel) (by decide +kernel), na_mem (i := 644) (by decide +kernel) (by decide +kernel), by decide +kernel, by decide +kernel, by decide +kernel, by decide, Or.inr ⟨by decide, _, rfl, by decide +kernel⟩⟩
theorem fv_25 : Cond.instanceMethod (na_mi 25).1 ∈ na_Tg ∧ Cond.selects (na_mi 25).1.cls (na_mi 25).1 (na_mi 25).1 ∈ na_Tg ∧ Cond.initialized (na_mi 25).1.cls ∈ na_Tg ∧ Cond.code (na_mi 25).1 (na_mi 25).2.1 (na_mi 25).2.2.1 (na_mi 25).2.2.2.1 ∈ na_Tg ∧ (na_mi 25).1.cls ≠ "java/lang/invoke/MethodHandle" ∧ (na_mi 25).1.cls ≠ "java/lang/invoke/VarHandle" ∧ (parseMethodDescriptor (na_mi 25).1.desc).map (fun d => d.parameters.length) = some (3 - 1) ∧ 1 ≤ 3 ∧ ((1 = 9 ∧ (na_mi 25).1.cls = RJ0) ∨ (1 ≠ 9 ∧ ∃ q, vwCl[1]? = some q ∧ q.1 = (na_mi 25).1.cls)) := ⟨na_mem (i := 655) (by decide +kernel) (by decide +kernel), na_mem (i := 656) (by decide +kernel) (by decide +kernel), na_mem (i := 66) (by decide +kernel) (by decide +kernel), na_mem (i := 657) (by decide +kernel) (by decide +kernel), by decide +kernel, by decide +kernel, by decide +kernel, by decide, Or.inr ⟨by decide, _, rfl, by decide +kernel⟩⟩
theorem fv_26 : Cond.instanceMethod (na_mi 26).1 ∈ na_Tg ∧ Cond.selects (na_mi 26).1.cls (na_mi 26).1 (na_mi 26).1 ∈ na_Tg ∧ Cond.initialized (na_mi 26).1.cls ∈ na_Tg ∧ Cond.code (na_mi 26).1 (na_mi 26).2.1 (na_mi 26).2.2.1 (na_mi 26).2.2.2.1 ∈ na_Tg ∧ (na_mi 26).1.cls ≠ "java/lang/invoke/MethodHandle" ∧ (na_mi 26).1.cls ≠ "java/lang/invoke/VarHandle" ∧ (parseMethodDescriptor (na_mi 26).1.desc).map (fun d => d.parameters.length) = some (3 - 1) ∧ 1 ≤ 3 ∧ ((1 = 9 ∧ (na_mi 26).1.cls = RJ0) ∨ (1 ≠ 9 ∧ ∃ q, vwCl[1]? = some q ∧ q.1 = (na_mi 26).1.cls)) := ⟨na_mem (i := 663) (by decide +kernel) (by decide +kernel), na_mem (i := 664) (by decide +kernel) (by decide +kernel), na_mem (i := 66) (by decide +kernel) (by decide +kernel), na_mem (i := 665) (by decide +kernel) (by decide +kernel), by decide +kernel, by decide +kernel, by decide +kernel, by decide, Or.inr ⟨by decide, _, rfl, by decide +kernel⟩⟩
theorem fv_27 : Cond.instanceMethod (na_mi 27).1 ∈ na_Tg ∧ Cond.selects (na_mi 27).1.cls (na_mi 27).1 (na_mi 27).1 ∈ na_Tg ∧ Cond.initialized (na_mi 27).1.cls ∈ na_Tg ∧ Cond.code (na_mi 27).1 (na_mi 27).2.1 (na_mi 27).2.2.1 (na_mi 27).2.2.2.1 ∈ na_Tg ∧ (na_mi 27).1.cls ≠ "java/lang/invoke/MethodHandle" ∧ (na_mi 27).1.cls ≠ "java/lang/invoke/VarHandle" ∧ (parseMethodDescriptor (na_mi 27).1.desc).map (fun d => d.parameters.length) = some (3 - 1) ∧ 1 ≤ 3 ∧ ((2 = 9 ∧ (na_mi 27).1.cls = RJ0) ∨ (2 ≠ 9 ∧ ∃ q, vwCl[2]? = some q ∧ q.1 = (na_mi 27).1.cls)) := ⟨na_mem (i := 502) (by decide +kernel) (by decide +kernel), na_mem (i := 503) (by decide +kernel) (by decide +kernel), na_mem (i := 65) (by decide +kernel) (by decide +kernel), na_mem (i := 504) (by decide +kernel) (by decide +kernel), by decide +kernel, by decide +kernel, by decide +kernel, by decide, Or.inr ⟨by decide, _, rfl, by decide +kernel⟩⟩
theorem fv_28 : Cond.instanceMethod (na_mi 28).1 ∈ na_Tg ∧ Cond.selects (na_mi 28).1.cls (na_mi 28).1 (na_mi 28).1 ∈ na_Tg ∧ Cond.initialized (na_mi 28).1.cls ∈ na_Tg ∧ Cond.code (na_mi 28).1 (na_mi 28).2.1 (na_mi 28).2.2.1 (na_mi 28).2.2.2.1 ∈ na_Tg ∧ (na_mi 28).1.cls ≠ "java/lang/invoke/MethodHandle" ∧ (na_mi 28).1.cls ≠ "java/lang/invoke/VarHandle" ∧ (parseMethodDescriptor (na_mi 28).1.desc).map (fun d => d.parameters.length) = some (2 - 1) ∧ 1 ≤ 2 ∧ ((2 = 9 ∧ (na_mi 28).1.cls = RJ0) ∨ (2 ≠ 9 ∧ ∃ q, vwCl[2]? = some q ∧ q.1 = (na_mi 28).1.cls)) := ⟨na_mem (i := 514) (by decide +kernel) (by decide +kernel), na_mem (i := 515) (by decide +kernel) (by decide +kernel), na_mem (i := 65) (by decide +kernel) (by decide +kernel), na_mem (i := 516) (by decide +kernel) (by decide +kernel), by decide +kernel, by decide +kernel, by decide +kernel, by decide, Or.inr ⟨by decide, _, rfl, by decide +kernel⟩⟩
theorem fv_29 : Cond.instanceMethod (na_mi 29).1 ∈ na_Tg ∧ Cond.selects (na_mi 29).1.cls (na_mi 29).1 (na_mi 29).1 ∈ na_Tg ∧ Cond.initialized (na_mi 29).1.cls ∈ na_Tg ∧ Cond.code (na_mi 29).1 (na_mi 29).2.1 (na_mi 29).2.2.1 (na_mi 29).2.2.2.1 ∈ na_Tg ∧ (na_mi 29).1.cls ≠ "java/lang/invoke/MethodHandle" ∧ (na_mi 29).1.cls ≠ "java/lang/invoke/VarHandle" ∧ (parseMethodDescriptor (na_mi 29).1.desc).map (fun d => d.parameters.length) = some (2 - 1) ∧ 1 ≤ 2 ∧ ((2 = 9 ∧ (na_mi 29).1.cls = RJ0) ∨ (2 ≠ 9 ∧ ∃ q, vwCl[2]? = some q ∧ q.1 = (na_mi 29).1.cls)) := ⟨na_mem (i := 526) (by decide +kernel) (by decide +kernel), na_mem (i := 10) (by decide +kernel) (by decide +kernel), na_mem (i := 65) (by decide +kernel) (by decide +kernel), na_mem (i := 527) (by decide +kernel) (by decide +kernel), by decide +kernel, by decide +kernel, by decide +kernel, by decide, Or.inr ⟨by decide, _, rfl, by decide +kernel⟩⟩
theorem fv_30 : Cond.instanceMethod (na_mi 30).1 ∈ na_Tg ∧ Cond.selects (na_mi 30).1.cls (na_mi 30).1 (na_mi 30).1 ∈ na_Tg ∧ Cond.initialized (na_mi 30).1.cls ∈ na_Tg ∧ Cond.code (na_mi 30).1 (na_mi 30).2.1 (na_mi 30).2.2.1 (na_mi 30).2.2.2.1 ∈ na_Tg ∧ (na_mi 30).1.cls ≠ "java/lang/invoke/MethodHandle" ∧ (na_mi 30).1.cls ≠ "java/lang/invoke/VarHandle" ∧ (parseMethodDescriptor (na_mi 30).1.desc).map (fun d => d.parameters.length) = some (1 - 1) ∧ 1 ≤ 1 ∧ ((2 = 9 ∧ (na_mi 30).1.cls = RJ0) ∨ (2 ≠ 9 ∧ ∃ q, vwCl[2]? = some q ∧ q.1 = (na_mi 30).1.cls)) := ⟨na_mem (i := 530) (by decide +kernel) (by decide +kernel), na_mem (i := 11) (by decide +kernel) (by decide +kernel), na_mem (i := 65) (by decide +kernel) (by decide +kernel), na_mem (i := 531) (by decide +kernel) (by decide +kernel), by decide +kernel, by decide +kernel, by decide +kernel, by decide, Or.inr ⟨by decide, _, rfl, by decide +kernel⟩⟩
theorem fv_31 : Cond.instanceMethod (na_mi 31).1 ∈ na_Tg ∧ Cond.selects (na_mi 31).1.cls (na_mi 31).1 (na_mi 31).1 ∈ na_Tg ∧ Cond.initialized (na_mi 31).1.cls ∈ na_Tg ∧ Cond.code (na_mi 31).1 (na_mi 31).2.1 (na_mi 31).2.2.1 (na_mi 31).2.2.2.1 ∈ na_Tg ∧ (na_mi 31).1.cls ≠ "java/lang/invoke/MethodHandle" ∧ (na_mi 31).1.cls ≠ "java/lang/invoke/VarHandle" ∧ (parseMethodDescriptor (na_mi 31).1.desc).map (fun d => d.parameters.length) = some (3 - 1) ∧ 1 ≤ 3 ∧ ((2 = 9 ∧ (na_mi 31).1.cls = RJ0) ∨ (2 ≠ 9 ∧ ∃ q, vwCl[2]? = some q ∧ q.1 = (na_mi 31).1.cls)) := ⟨na_mem (i := 592) (by decide +kernel) (by decide +kernel), na_mem (i := 13) (by decide +kernel) (by decide +kernel), na_mem (i := 65) (by decide +kernel) (by decide +kernel), na_mem (i := 593) (by decide +kernel) (by decide +kernel), by decide +kernel, by decide +kernel, by decide +kernel, by decide, Or.inr ⟨by decide, _, rfl, by decide +kernel⟩⟩
theorem fv_32 : Cond.instanceMethod (na_mi 32).1 ∈ na_Tg ∧ Cond.selects (na_mi 32).1.cls (na_mi 32).1 (na_mi 32).1 ∈ na_Tg ∧ Cond.initialized (na_mi 32).1.cls ∈ na_Tg ∧ Cond.code (na_mi 32).1 (na_mi 32).2.1 (na_mi 32).2.2.1 (na_mi 32).2.2.2.1 ∈ na_Tg ∧ (na_mi 32).1.cls ≠ "java/lang/invoke/MethodHandle" ∧ (na_mi 32).1.cls ≠ "java/lang/invoke/VarHandle" ∧ (parseMethodDescriptor (na_mi 32).1.desc).map (fun d => d.parameters.length) = some (2 - 1) ∧ 1 ≤ 2 ∧ ((2 = 9 ∧ (na_mi 32).1.cls = RJ0) ∨ (2 ≠ 9 ∧ ∃ q, vwCl[2]? = some q ∧ q.1 = (na_mi 32).1.cls)) := ⟨na_mem (i := 607) (by decide +kernel) (by decide +kernel), na_mem (i := 15) (by decide +kernel) (by decide +kernel), na_mem (i := 65) (by decide +kernel) (by decide +kernel), na_mem (i := 608) (by decide +kernel) (by decide +kernel), by decide +kernel, by decide +kernel, by decide +kernel, by decide, Or.inr ⟨by decide, _, rfl, by decide +kernel⟩⟩
theorem fv_33 : Cond.instanceMethod (na_mi 33).1 ∈ na_Tg ∧ Cond.selects (na_mi 33).1.cls (na_mi 33).1 (na_mi 33).1 ∈ na_Tg ∧ Cond.initialized (na_mi 33).1.cls ∈ na_Tg ∧ Cond.code (na_mi 33).1 (na_mi 33).2.1 (na_mi 33).2.2.1 (na_mi 33).2.2.2.1 ∈ na_Tg ∧ (na_mi 33).1.cls ≠ "java/lang/invoke/MethodHandle" ∧ (na_mi 33).1.cls ≠ "java/lang/invoke/VarHandle" ∧ (parseMethodDescriptor (na_mi 33).1.desc).map (fun d => d.parameters.length) = some (5 - 1) ∧ 1 ≤ 5 ∧ ((2 = 9 ∧ (na_mi 33).1.cls = RJ0) ∨ (2 ≠ 9 ∧ ∃ q, vwCl[2]? = some q ∧ q.1 = (na_mi 33).1.cls)) := ⟨na_mem (i := 612) (by decide +kernel) (by decide +kernel), na_mem (i := 16) (by decide +kernel) (by decide +kernel), na_mem (i := 65) (by decide +kernel) (by decide +kernel), na_mem (i := 613) (by decide +kernel) (by decide +kernel), by decide +kernel, by decide +kernel, by decide +kernel, by decide, Or.inr ⟨by decide, _, rfl, by decide +kernel⟩⟩
theorem fv_34 : Cond.instanceMethod (na_mi 34).1 ∈ na_Tg ∧ Cond.selects (na_mi 34).1.cls (na_mi 34).1 (na_mi 34).1 ∈ na_Tg ∧ Cond.initialized (na_mi 34).1.cls ∈ na_Tg ∧ Cond.code (na_mi 34).1 (na_mi 34).2.1 (na_mi 34).2.2.1 (na_mi 34).2.2.2.1 ∈ na_Tg ∧ (na_mi 34).1.cls ≠ "java/lang/invoke/MethodHandle" ∧ (na_mi 34).1.cls ≠ "java/lang/invoke/VarHandle" ∧ (parseMethodDescriptor (na_mi 34).1.desc).map (fun d => d.parameters.length) = some (3 - 1) ∧ 1 ≤ 3 ∧ ((2 = 9 ∧ (na_mi 34).1.cls = RJ0) ∨ (2 ≠ 9 ∧ ∃ q, vwCl[2]? = some q ∧ q.1 = (na_mi 34).1.cls)) := ⟨na_mem (i := 622) (by decide +kernel) (by decide +kernel), na_mem (i := 17) (by decide +kernel) (by decide +kernel), na_mem (i := 65) (by decide +kernel) (by decide +kernel), na_mem (i := 623) (by decide +kernel) (by decide +kernel), by decide +kernel, by decide +kernel, by decide +kernel, by decide, Or.inr ⟨by decide, _, rfl, by decide +kernel⟩⟩
theorem fv_35 : Cond.instanceMethod (na_mi 35).1 ∈ na_Tg ∧ Cond.selects (na_mi 35).1.cls (na_mi 35).1 (na_mi 35).1 ∈ na_Tg ∧ Cond.initialized (na_mi 35).1.cls ∈ na_Tg ∧ Cond.code (na_mi 35).1 (na_mi 35).2.1 (na_mi 35).2.2.1 (na_mi 35).2.2.2.1 ∈ na_Tg ∧ (na_mi 35).1.cls ≠ "java/lang/invoke/MethodHandle" ∧ (na_mi 35).1.cls ≠ "java/lang/invoke/VarHandle" ∧ (parseMethodDescriptor (na_mi 35).1.desc).map (fun d => d.parameters.length) = some (3 - 1) ∧ 1 ≤ 3 ∧ ((2 = 9 ∧ (na_mi 35).1.cls = RJ0) ∨ (2 ≠ 9 ∧ ∃ q, vwCl[2]? = some q ∧ q.1 = (na_mi 35).1.cls)) := ⟨na_mem (i := 629) (by decide +kernel) (by decide +kernel), na_mem (i := 18) (by decide +kernel) (by decide +kernel), na_mem (i := 65) (by decide +kernel) (by decide +kernel), na_mem (i := 630) (by decide +kernel) (by decide +kernel), by decide +kernel, by decide +kernel, by decide +kernel, by decide, Or.inr ⟨by decide, _, rfl, by decide +kernel⟩⟩
theorem fv_36 : Cond.instanceMethod (na_mi 36).1 ∈ na_Tg ∧ Cond.selects (na_mi 36).1.cls (na_mi 36).1 (na_mi 36).1 ∈ na_Tg ∧ Cond.initialized (na_mi 36).1.cls ∈ na_Tg ∧ Cond.code (na_mi 36).1 (na_mi 36).2.1 (na_mi 36).2.2.1 (na_mi 36).2.2.2.1 ∈ na_Tg ∧ (na_mi 36).1.cls ≠ "java/lang/invoke/MethodHandle" ∧ (na_mi 36).1.cls ≠ "java/lang/invoke/VarHandle" ∧ (parseMethodDescriptor (na_mi 36).1.desc).map (fun d => d.parameters.length) = some (2 - 1) ∧ 1 ≤ 2 ∧ ((2 = 9 ∧ (na_mi 36).1.cls = RJ0) ∨ (2 ≠ 9 ∧ ∃ q, vwCl[2]? = some q ∧ q.1 = (na_mi 36).1.cls)) := ⟨na_mem (i := 535) (by decide +kernel) (by decide +kernel), na_mem (i := 12) (by decide +kernel) (by decide +kernel), na_mem (i := 65) (by decide +kernel) (by decide +kernel), na_mem (i := 536) (by decide +kernel) (by decide +kernel), by decide +kernel, by decide +kernel, by decide +kernel, by decide, Or.inr ⟨by decide, _, rfl, by decide +kernel⟩⟩
theorem fv_37 : Cond.instanceMethod (na_mi 37).1 ∈ na_Tg ∧ Cond.selects (na_mi 37).1.cls (na_mi 37).1 (na_mi 37).1 ∈ na_Tg ∧ Cond.initialized (na_mi 37).1.cls ∈ na_Tg ∧ Cond.code (na_mi 37).1 (na_mi 37).2.1 (na_mi 37).2.2.1 (na_mi 37).2.2.2.1 ∈ na_Tg ∧ (na_mi 37).1.cls ≠ "java/lang/invoke/MethodHandle" ∧ (na_mi 37).1.cls ≠ "java/lang/invoke/VarHandle" ∧ (parseMethodDescriptor (na_mi 37).1.desc).map (fun d => d.parameters.length) = some (3 - 1) ∧ 1 ≤ 3 ∧ ((2 = 9 ∧ (na_mi 37).1.cls = RJ0) ∨ (2 ≠ 9 ∧ ∃ q, vwCl[2]? = some q ∧ q.1 = (na_mi 37).1.cls)) := ⟨na_mem (i := 598) (by decide +kernel) (by decide +kernel), na_mem (i := 14) (by decide +kernel) (by decide +kernel), na_mem (i := 65) (by decide +kernel) (by decide +kernel), na_mem (i := 599) (by decide +kernel) (by decide +kernel), by decide +kernel, by decide +kernel, by decide +kernel, by decide, Or.inr ⟨by decide, _, rfl, by decide +kernel⟩⟩
theorem fv_38 : Cond.instanceMethod (na_mi 38).1 ∈ na_Tg ∧ Cond.selects (na_mi 38).1.cls (na_mi 38).1 (na_mi 38).1 ∈ na_Tg ∧ Cond.initialized (na_mi 38).1.cls ∈ na_Tg ∧ Cond.code (na_mi 38).1 (na_mi 38).2.1 (na_mi 38).2.2.1 (na_mi 38).2.2.2.1 ∈ na_Tg ∧ (na_mi 38).1.cls ≠ "java/lang/invoke/MethodHandle" ∧ (na_mi 38).1.cls ≠ "java/lang/invoke/VarHandle" ∧ (parseMethodDescriptor (na_mi 38).1.desc).map (fun d => d.parameters.length) = some (1 - 1) ∧ 1 ≤ 1 ∧ ((2 = 9 ∧ (na_mi 38).1.cls = RJ0) ∨ (2 ≠ 9 ∧ ∃ q, vwCl[2]? = some q ∧ q.1 = (na_mi 38).1.cls)) := ⟨na_mem (i := 519) (by decide +kernel) (by decide +kernel), na_mem (i := 9) (by decide +kernel) (by decide +kernel), na_mem (i := 65) (by decide +kernel) (by decide +kernel), na_mem (i := 520) (by decide +kernel) (by decide +kernel), by decide +kernel, by decide +kernel, by decide +kernel, by decide, Or.inr ⟨by decide, _, rfl, by decide +kernel⟩⟩
theorem fs_39 : Cond.static (na_mi 39).1 ∈ na_Tg ∧ Cond.initialized (na_mi 39).1.cls ∈ na_Tg ∧ (na_ww (na_mi 39)).head? = some (.code (na_mi 39).1 (na_mi 39).2.1 (na_mi 39).2.2.1 (na_mi 39).2.2.2.1) ∧ Cond.code (na_mi 39).1 (na_mi 39).2.1 (na_mi 39).2.2.1 (na_mi 39).2.2.2.1 ∈ na_Tg ∧ (na_mi 39).1.cls ≠ "java/lang/invoke/MethodHandle" ∧ (na_mi 39).1.cls ≠ "java/lang/invoke/VarHandle" ∧ (parseMethodDescriptor (na_mi 39).1.desc).map (fun d => d.parameters.length) = some 1 := ⟨na_mem (i := 522) (by decide +kernel) (by decide +kernel), na_mem (i := 65) (by decide +kernel) (by decide +kernel), rfl, na_mem (i := 523) (by decide +kernel) (by decide +kernel), by decide +kernel, by decide +kernel, by decide +kernel⟩
theorem fv_40 : Cond.instanceMethod (na_mi 40).1 ∈ na_Tg ∧ Cond.selects (na_mi 40).1.cls (na_mi 40).1 (na_mi 40).1 ∈ na_Tg ∧ Cond.initialized (na_mi 40).1.cls ∈ na_Tg ∧ Cond.code (na_mi 40).1 (na_mi 40).2.1 (na_mi 40).2.2.1 (na_mi 40).2.2.2.1 ∈ na_Tg ∧ (na_mi 40).1.cls ≠ "java/lang/invoke/MethodHandle" ∧ (na_mi 40).1.cls ≠ "java/lang/invoke/VarHandle" ∧ (parseMethodDescriptor (na_mi 40).1.desc).map (fun d => d.parameters.length) = some (4 - 1) ∧ 1 ≤ 4 ∧ ((3 = 9 ∧ (na_mi 40).1.cls = RJ0) ∨ (3 ≠ 9 ∧ ∃ q, vwCl[3]? = some q ∧ q.1 = (na_mi 40).1.cls)) := ⟨na_mem (i := 216) (by decide +kernel) (by decide +kernel), na_mem (i := 217) (by decide +kernel) (by decide +kernel), na_mem (i := 63) (by decide +kernel) (by decide +kernel), na_mem (i := 218) (by decide +kernel) (by decide +kernel), by decide +kernel, by decide +kernel, by decide +kernel, by decide, Or.inr ⟨by decide, _, rfl, by decide +kernel⟩⟩
theorem fv_41 : Cond.instanceMethod (na_mi 41).1 ∈ na_Tg ∧ Cond.selects (na_mi 41).1.cls (na_mi 41).1 (na_mi 41).1 ∈ na_Tg ∧ Cond.initialized (na_mi 41).1.cls ∈ na_Tg ∧ Cond.code (na_mi 41).1 (na_mi 41).2.1 (na_mi 41).2.2.1 (na_mi 41).2.2.2.1 ∈ na_Tg ∧ (na_mi 41).1.cls ≠ "java/lang/invoke/MethodHandle" ∧ (na_mi 41).1.cls ≠ "java/lang/invoke/VarHandle" ∧ (parseMethodDescriptor (na_mi 41).1.desc).map (fun d => d.parameters.length) = some (3 - 1) ∧ 1 ≤ 3 ∧ ((3 = 9 ∧ (na_mi 41).1.cls = RJ0) ∨ (3 ≠ 9 ∧ ∃ q, vwCl[3]? = some q ∧ q.1 = (na_mi 41).1.cls)) := ⟨na_mem (i := 240) (by decide +kernel) (by decide +kernel), na_mem (i := 241) (by decide +kernel) (by decide +kernel), na_mem (i := 63) (by decide +kernel) (by decide +kernel), na_mem (i := 242) (by decide +kernel) (by decide +kernel), by decide +kernel, by decide +kernel, by decide +kernel, by decide, Or.inr ⟨by decide, _, rfl, by decide +kernel⟩⟩
theorem fv_42 : Cond.instanceMethod (na_mi 42).1 ∈ na_Tg ∧ Cond.selects (na_mi 42).1.cls (na_mi 42).1 (na_mi 42).1 ∈ na_Tg ∧ Cond.initialized (na_mi 42).1.cls ∈ na_Tg ∧ Cond.code (na_mi 42).1 (na_mi 42).2.1 (na_mi 42).2.2.1 (na_mi 42).2.2.2.1 ∈ na_Tg ∧ (na_mi 42).1.cls ≠ "java/lang/invoke/MethodHandle" ∧ (na_mi 42).1.cls ≠ "java/lang/invoke/VarHandle" ∧ (parseMethodDescriptor (na_mi 42).1.desc).map (fun d => d.parameters.length) = some (3 - 1) ∧ 1 ≤ 3 ∧ ((3 = 9 ∧ (na_mi 42).1.cls = RJ0) ∨ (3 ≠ 9 ∧ ∃ q, vwCl[3]? = some q ∧ q.1 = (na_mi 42).1.cls)) := ⟨na_mem (i := 263) (by decide +kernel) (by decide +kernel), na_mem (i := 264) (by decide +kernel) (by decide +kernel), na_mem (i := 63) (by decide +kernel) (by decide +kernel), na_mem (i := 265) (by decide +kernel) (by decide +kernel), by decide +kernel, by decide +kernel, by decide +kernel, by decide, Or.inr ⟨by decide, _, rfl, by decide +kernel⟩⟩
theorem fv_43 : Cond.instanceMethod (na_mi 43).1 ∈ na_Tg ∧ Cond.selects (na_mi 43).1.cls (na_mi 43).1 (na_mi 43).1 ∈ na_Tg ∧ Cond.initialized (na_mi 43).1.cls ∈ na_Tg ∧ Cond.code (na_mi 43).1 (na_mi 43).2.1 (na_mi 43).2.2.1 (na_mi 43).2.2.2.1 ∈ na_Tg ∧ (na_mi 43).1.cls ≠ "java/lang/invoke/MethodHandle" ∧ (na_mi 43).1.cls ≠ "java/lang/invoke/VarHandle" ∧ (parseMethodDescriptor (na_mi 43).1.desc).map (fun d => d.parameters.length) = some (2 - 1) ∧ 1 ≤ 2 ∧ ((3 = 9 ∧ (na_mi 43).1.cls = RJ0) ∨ (3 ≠ 9 ∧ ∃ q, vwCl[3]? = some q ∧ q.1 = (na_mi 43).1.cls)) := ⟨na_mem (i := 271) (by decide +kernel) (by decide +kernel), na_mem (i := 272) (by decide +kernel) (by decide +kernel), na_mem (i := 63) (by decide +kernel) (by decide +kernel), na_mem (i := 273) (by decide +kernel) (by decide +kernel), by decide +kernel, by decide +kernel, by decide +kernel, by decide, Or.inr ⟨by decide, _, rfl, by decide +kernel⟩⟩
theorem fv_44 : Cond.instanceMethod (na_mi 44).1 ∈ na_Tg ∧ Cond.selects (na_mi 44).1.cls (na_mi 44).1 (na_mi 44).1 ∈ na_Tg ∧ Cond.initialized (na_mi 44).1.cls ∈ na_Tg ∧ Cond.code (na_mi 44).1 (na_mi 44).2.1 (na_mi 44).2.2.1 (na_mi 44).2.2.2.1 ∈ na_Tg ∧ (na_mi 44).1.cls ≠ "java/lang/invoke/MethodHandle" ∧ (na_mi 44).1.cls ≠ "java/lang/invoke/VarHandle" ∧ (parseMethodDescriptor (na_mi 44).1.desc).map (fun d => d.parameters.length) = some (3 - 1) ∧ 1 ≤ 3 ∧ ((3 = 9 ∧ (na_mi 44).1.cls = RJ0) ∨ (3 ≠ 9 ∧ ∃ q, vwCl[3]? = some q ∧ q.1 = (na_mi 44).1.cls)) := ⟨na_mem (i := 275) (by decide +kernel) (by decide +kernel), na_mem (i := 276) (by decide +kernel) (by decide +kernel), na_mem (i := 63) (by decide +kernel) (by decide +kernel), na_mem (i := 277) (by decide +kernel) (by decide +kernel), by decide +kernel, by decide +kernel, by decide +kernel, by decide, Or.inr ⟨by decide, _, rfl, by decide +kernel⟩⟩
theorem fv_45 : Cond.instanceMethod (na_mi 45).1 ∈ na_Tg ∧ Cond.selects (na_mi 45).1.cls (na_mi 45).1 (na_mi 45).1 ∈ na_Tg ∧ Cond.initialized (na_mi 45).1.cls ∈ na_Tg ∧ Cond.code (na_mi 45).1 (na_mi 45).2.1 (na_mi 45).2.2.1 (na_mi 45).2.2.2.1 ∈ na_Tg ∧ (na_mi 45).1.cls ≠ "java/lang/invoke/MethodHandle" ∧ (na_mi 45).1.cls ≠ "java/lang/invoke/VarHandle" ∧ (parseMethodDescriptor (na_mi 45).1.desc).map (fun d => d.parameters.length) = some (3 - 1) ∧ 1 ≤ 3 ∧ ((3 = 9 ∧ (na_mi 45).1.cls = RJ0) ∨ (3 ≠ 9 ∧ ∃ q, vwCl[3]? = some q ∧ q.1 = (na_mi 45).1.cls)) := ⟨na_mem (i := 291) (by decide +kernel) (by decide +kernel), na_mem (i := 292) (by decide +kernel) (by decide +kernel), na_mem (i := 63) (by decide +kernel) (by decide +kernel), na_mem (i := 293) (by decide +kernel) (by decide +kernel), by decide +kernel, by decide +kernel, by decide +kernel, by decide, Or.inr ⟨by decide, _, rfl, by decide +kernel⟩⟩
theorem fv_46 : Cond.instanceMethod (na_mi 46).1 ∈ na_Tg ∧ Cond.selects (na_mi 46).1.cls (na_mi 46).1 (na_mi 46).1 ∈ na_Tg ∧ Cond.initialized (na_mi 46).1.cls ∈ na_Tg ∧ Cond.code (na_mi 46).1 (na_mi 46).2.1 (na_mi 46).2.2.1 (na_mi 46).2.2.2.1 ∈ na_Tg ∧ (na_mi 46).1.cls ≠ "java/lang/invoke/MethodHandle" ∧ (na_mi 46).1.cls ≠ "java/lang/invoke/VarHandle" ∧ (parseMethodDescriptor (na_mi 46).1.desc).map (fun d => d.parameters.length) = some (4 - 1) ∧ 1 ≤ 4 ∧ ((3 = 9 ∧ (na_mi 46).1.cls = RJ0) ∨ (3 ≠ 9 ∧ ∃ q, vwCl[3]? = some q ∧ q.1 = (na_mi 46).1.cls)) := ⟨na_mem (i := 304) (by decide +kernel) (by decide +kernel), na_mem (i := 305) (by decide +kernel) (by decide +kernel), na_mem (i := 63) (by decide +kernel) (by decide +kernel), na_mem (i := 306) (by decide +kernel) (by decide +kernel), by decide +kernel, by decide +kernel, by decide +kernel, by decide, Or.inr ⟨by decide, _, rfl, by decide +kernel⟩⟩
theorem fv_47 : Cond.instanceMethod (na_mi 47).1 ∈ na_Tg ∧ Cond.selects (na_mi 47).1.cls (na_mi 47).1 (na_mi 47).1 ∈ na_Tg ∧ Cond.initialized (na_mi 47).1.cls ∈ na_Tg ∧ Cond.code (na_mi 47).1 (na_mi 47).2.1 (na_mi 47).2.2.1 (na_mi 47).2.2.2.1 ∈ na_Tg ∧ (na_mi 47).1.cls ≠ "java/lang/invoke/MethodHandle" ∧ (na_mi 47).1.cls ≠ "java/lang/invoke/VarHandle" ∧ (parseMethodDescriptor (na_mi 47).1.desc).map (fun d => d.parameters.length) = some (3 - 1) ∧ 1 ≤ 3 ∧ ((3 = 9 ∧ (na_mi 47).1.cls = RJ0) ∨ (3 ≠ 9 ∧ ∃ q, vwCl[3]? = some q ∧ q.1 = (na_mi 47).1.cls)) := ⟨na_mem (i := 312) (by decide +kernel) (by decide +kernel), na_mem (i := 313) (by decide +kernel) (by decide +kernel), na_mem (i := 63) (by decide +kernel) (by decide +kernel), na_mem (i := 314) (by decide +kernel) (by decide +kernel), by decide +kernel, by decide +kernel, by decide +kernel, by decide, Or.inr ⟨by decide, _, rfl, by decide +kernel⟩⟩
theorem fv_48 : Cond.instanceMethod (na_mi 48).1 ∈ na_Tg ∧ Cond.selects (na_mi 48).1.cls (na_mi 48).1 (na_mi 48).1 ∈ na_Tg ∧ Cond.initialized (na_mi 48).1.cls ∈ na_Tg ∧ Cond.code (na_mi 48).1 (na_mi 48).2.1 (na_mi 48).2.2.1 (na_mi 48).2.2.2.1 ∈ na_Tg ∧ (na_mi 48).1.cls ≠ "java/lang/invoke/MethodHandle" ∧ (na_mi 48).1.cls ≠ "java/lang/invoke/VarHandle" ∧ (parseMethodDescriptor (na_mi 48).1.desc).map (fun d => d.parameters.length) = some (3 - 1) ∧ 1 ≤ 3 ∧ ((3 = 9 ∧ (na_mi 48).1.cls = RJ0) ∨ (3 ≠ 9 ∧ ∃ q, vwCl[3]? = some q ∧ q.1 = (na_mi 48).1.cls)) := ⟨na_mem (i := 316) (by decide +kernel) (by decide +kernel), na_mem (i := 317) (by decide +kernel) (by decide +kernel), na_mem (i := 63) (by decide +kernel) (by decide +kernel), na_mem (i := 318) (by decide +kernel) (by decide +kernel), by decide +kernel, by decide +kernel, by decide +kernel, by decide, Or.inr ⟨by decide, _, rfl, by decide +kernel⟩⟩
theorem fv_49 : Cond.instanceMethod (na_mi 49).1 ∈ na_Tg ∧ Cond.selects (na_mi 49).1.cls (na_mi 49).1 (na_mi 49).1 ∈ na_Tg ∧ Cond.initialized (na_mi 49).1.cls ∈ na_Tg ∧ Cond.code (na_mi 49).1 (na_mi 49).2.1 (na_mi 49).2.2.1 (na_mi 49).2.2.2.1 ∈ na_Tg ∧ (na_mi 49).1.cls ≠ "java/lang/invoke/MethodHandle" ∧ (na_mi 49).1.cls ≠ "java/lang/invoke/VarHandle" ∧ (parseMethodDescriptor (na_mi 49).1.desc).map (fun d => d.parameters.length) = some (2 - 1) ∧ 1 ≤ 2 ∧ ((3 = 9 ∧ (na_mi 49).1.cls = RJ0) ∨ (3 ≠ 9 ∧ ∃ q, vwCl[3]? = some q ∧ q.1 = (na_mi 49).1.cls)) := ⟨na_mem (i := 326) (by decide +kernel) (by decide +kernel), na_mem (i := 327) (by decide +kernel) (by decide +kernel), na_mem (i := 63) (by decide +kernel) (by decide +kernel), na_mem (i := 328) (by decide +kernel) (by decide +kernel), by decide +kernel, by decide +kernel, by decide +kernel, by decide, Or.inr ⟨by decide, _, rfl, by decide +kernel⟩⟩
theorem fv_50 : Cond.instanceMethod (na_mi 50).1 ∈ na_Tg ∧ Cond.selects (na_mi 50).1.cls (na_mi 50).1 (na_mi 50).1 ∈ na_Tg ∧ Cond.initialized (na_mi 50).1.cls ∈ na_Tg ∧ Cond.code (na_mi 50).1 (na_mi 50).2.1 (na_mi 50).2.2.1 (na_mi 50).2.2.2.1 ∈ na_Tg ∧ (na_mi 50).1.cls ≠ "java/lang/invoke/MethodHandle" ∧ (na_mi 50).1.cls ≠ "java/lang/invoke/VarHandle" ∧ (parseMethodDescriptor (na_mi 50).1.desc).map (fun d => d.parameters.length) = some (2 - 1) ∧ 1 ≤ 2 ∧ ((3 = 9 ∧ (na_mi 50).1.cls = RJ0) ∨ (3 ≠ 9 ∧ ∃ q, vwCl[3]? = some q ∧ q.1 = (na_mi 50).1.cls)) := ⟨na_mem (i := 338) (by decide +kernel) (by decide +kernel), na_mem (i := 339) (by decide +kernel) (by decide +kernel), na_mem (i := 63) (by decide +kernel) (by decide +kernel), na_mem (i := 340) (by decide +kernel) (by decide +kernel), by decide +kernel, by decide +kernel, by decide +kernel, by decide, Or.inr ⟨by decide, _, rfl, by decide +kernel⟩⟩
theorem fv_51 : Cond.instanceMethod (na_mi 51).1 ∈ na_Tg ∧ Cond.selects (na_mi 51).1.cls (na_mi 51).1 (na_mi 51).1 ∈ na_Tg ∧ Cond.initialized (na_mi 51).1.cls ∈ na_Tg ∧ Cond.code (na_mi 51).1 (na_mi 51).2.1 (na_mi 51).2.2.1 (na_mi 51).2.2.2.1 ∈ na_Tg ∧ (na_mi 51).1.cls ≠ "java/lang/invoke/MethodHandle" ∧ (na_mi 51).1.cls ≠ "java/lang/invoke/VarHandle" ∧ (parseMethodDescriptor (na_mi 51).1.desc).map (fun d => d.parameters.length) = some (2 - 1) ∧ 1 ≤ 2 ∧ ((3 = 9 ∧ (na_mi 51).1.cls = RJ0) ∨ (3 ≠ 9 ∧ ∃ q, vwCl[3]? = some q ∧ q.1 = (na_mi 51).1.cls)) := ⟨na_mem (i := 373) (by decide +kernel) (by decide +kernel), na_mem (i := 374) (by decide +kernel) (by decide +kernel), na_mem (i := 63) (by decide +kernel) (by decide +kernel), na_mem (i := 375) (by decide +kernel) (by decide +kernel), by decide +kernel, by decide +kernel, by decide +kernel, by decide, Or.inr ⟨by decide, _, rfl, by decide +kernel⟩⟩
theorem fv_52 : Cond.instanceMethod (na_mi 52).1 ∈ na_Tg ∧ Cond.selects (na_mi 52).1.cls (na_mi 52).1 (na_mi 52).1 ∈ na_Tg ∧ Cond.initialized (na_mi 52).1.cls ∈ na_Tg ∧ Cond.code (na_mi 52).1 (na_mi 52).2.1 (na_mi 52).2.2.1 (na_mi 52).2.2.2.1 ∈ na_Tg ∧ (na_mi 52).1.cls ≠ "java/lang/invoke/MethodHandle" ∧ (na_mi 52).1.cls ≠ "java/lang/invoke/VarHandle" ∧ (parseMethodDescriptor (na_mi 52).1.desc).map (fun d => d.parameters.length) = some (4 - 1) ∧ 1 ≤ 4 ∧ ((3 = 9 ∧ (na_mi 52).1.cls = RJ0) ∨ (3 ≠ 9 ∧ ∃ q, vwCl[3]? = some q ∧ q.1 = (na_mi 52).1.cls)) := ⟨na_mem (i := 381) (by decide +kernel) (by decide +kernel), na_mem (i := 382) (by decide +kernel) (by decide +kernel), na_mem (i := 63) (by decide +kernel) (by decide +kernel), na_mem (i := 383) (by decide +kernel) (by decide +kernel), by decide +kernel, by decide +kernel, by decide +kernel, by decide, Or.inr ⟨by decide, _, rfl, by decide +kernel⟩⟩
theorem fv_53 : Cond.instanceMethod (na_mi 53).1 ∈ na_Tg ∧ Cond.selects (na_mi 53).1.cls (na_mi 53).1 (na_mi 53).1 ∈ na_Tg ∧ Cond.initialized (na_mi 53).1.cls ∈ na_Tg ∧ Cond.code (na_mi 53).1 (na_mi 53).2.1 (na_mi 53).2.2.1 (na_mi 53).2.2.2.1 ∈ na_Tg ∧ (na_mi 53).1.cls ≠ "java/lang/invoke/MethodHandle" ∧ (na_mi 53).1.cls ≠ "java/lang/invoke/VarHandle" ∧ (parseMethodDescriptor (na_mi 53).1.desc).map (fun d => d.parameters.length) = some (2 - 1) ∧ 1 ≤ 2 ∧ ((3 = 9 ∧ (na_mi 53).1.cls = RJ0) ∨ (3 ≠ 9 ∧ ∃ q, vwCl[3]? = some q ∧ q.1 = (na_mi 53).1.cls)) := ⟨na_mem (i := 394) (by decide +kernel) (by decide +kernel), na_mem (i := 395) (by decide +kernel) (by decide +kernel), na_mem (i := 63) (by decide +kernel) (by decide +kernel), na_mem (i := 396) (by decide +kernel) (by decide +kernel), by decide +kernel, by decide +kernel, by decide +kernel, by decide, Or.inr ⟨by decide, _, rfl, by decide +kernel⟩⟩
theorem fv_54 : Cond.instanceMethod (na_mi 54).1 ∈ na_Tg ∧ Cond.selects (na_mi 54).1.cls (na_mi 54).1 (na_mi 54).1 ∈ na_Tg ∧ Cond.initialized (na_mi 54).1.cls ∈ na_Tg ∧ Cond.code (na_mi 54).1 (na_mi 54).2.1 (na_mi 54).2.2.1 (na_mi 54).2.2.2.1 ∈ na_Tg ∧ (na_mi 54).1.cls ≠ "java/lang/invoke/MethodHandle" ∧ (na_mi 54).1.cls ≠ "java/lang/invoke/VarHandle" ∧ (parseMethodDescriptor (na_mi 54).1.desc).map (fun d => d.parameters.length) = some (1 - 1) ∧ 1 ≤ 1 ∧ ((3 = 9 ∧ (na_mi 54).1.cls = RJ0) ∨ (3 ≠ 9 ∧ ∃ q, vwCl[3]? = some q ∧ q.1 = (na_mi 54).1.cls)) := ⟨na_mem (i := 403) (by decide +kernel) (by decide +kernel), na_mem (i := 404) (by decide +kernel) (by decide +kernel), na_mem (i := 63) (by decide +kernel) (by decide +kernel), na_mem (i := 405) (by decide +kernel) (by decide +kernel), by decide +kernel, by decide +kernel, by decide +kernel, by decide, Or.inr ⟨by decide, _, rfl, by decide +kernel⟩⟩
theorem fv_55 : Cond.instanceMethod (na_mi 55).1 ∈ na_Tg ∧ Cond.selects (na_mi 55).1.cls (na_mi 55).1 (na_mi 55).1 ∈ na_Tg ∧ Cond.initialized (na_mi 55).1.cls ∈ na_Tg ∧ Cond.code (na_mi 55).1 (na_mi 55).2.1 (na_mi 55).2.2.1 (na_mi 55).2.2.2.1 ∈ na_Tg ∧ (na_mi 55).1.cls ≠ "java/lang/invoke/MethodHandle" ∧ (na_mi 55).1.cls ≠ "java/lang/invoke/VarHandle" ∧ (parseMethodDescriptor (na_mi 55).1.desc).map (fun d => d.parameters.length) = some (1 - 1) ∧ 1 ≤ 1 ∧ ((3 = 9 ∧ (na_mi 55).1.cls = RJ0) ∨ (3 ≠ 9 ∧ ∃ q, vwCl[3]? = some q ∧ q.1 = (na_mi 55).1.cls)) := ⟨na_mem (i := 412) (by decide +kernel) (by decide +kernel), na_mem (i := 413) (by decide +kernel) (by decide +kernel), na_mem (i := 63) (by decide +kernel) (by decide +kernel), na_mem (i := 414) (by decide +kernel) (by decide +kernel), by decide +kernel, by decide +kernel, by decide +kernel, by decide, Or.inr ⟨by decide, _, rfl, by decide +kernel⟩⟩
theorem fv_56 : Cond.instanceMethod (na_mi 56).1 ∈ na_Tg ∧ Cond.selects (na_mi 56).1.cls (na_mi 56).1 (na_mi 56).1 ∈ na_Tg ∧ Cond.initialized (na_mi 56).1.cls ∈ na_Tg ∧ Cond.code (na_mi 56).1 (na_mi 56).2.1 (na_mi 56).2.2.1 (na_mi 56).2.2.2.1 ∈ na_Tg ∧ (na_mi 56).1.cls ≠ "java/lang/invoke/MethodHandle" ∧ (na_mi 56).1.cls ≠ "java/lang/invoke/VarHandle" ∧ (parseMethodDescriptor (na_mi 56).1.desc).map (fun d => d.parameters.length) = some (1 - 1) ∧ 1 ≤ 1 ∧ ((3 = 9 ∧ (na_mi 56).1.cls = RJ0) ∨ (3 ≠ 9 ∧ ∃ q, vwCl[3]? = some q ∧ q.1 = (na_mi 56).1.cls)) := ⟨na_mem (i := 416) (by decide +kernel) (by decide +kernel), na_mem (i := 417) (by decide +kernel) (by decide +kernel), na_mem (i := 63) (by decide +kernel) (by decide +kernel), na_mem (i := 418) (by decide +kernel) (by decide +kernel), by decide +kernel, by decide +kernel, by decide +kernel, by decide, Or.inr ⟨by decide, _, rfl, by decide +kernel⟩⟩
theorem fv_57 : Cond.instanceMethod (na_mi 57).1 ∈ na_Tg ∧ Cond.selects (na_mi 57).1.cls (na_mi 57).1 (na_mi 57).1 ∈ na_Tg ∧ Cond.initialized (na_mi 57).1.cls ∈ na_Tg ∧ Cond.code (na_mi 57).1 (na_mi 57).2.1 (na_mi 57).2.2.1 (na_mi 57).2.2.2.1 ∈ na_Tg ∧ (na_mi 57).1.cls ≠ "java/lang/invoke/MethodHandle" ∧ (na_mi 57).1.cls ≠ "java/lang/invoke/VarHandle" ∧ (parseMethodDescriptor (na_mi 57).1.desc).map (fun d => d.parameters.length) = some (2 - 1) ∧ 1 ≤ 2 ∧ ((3 = 9 ∧ (na_mi 57).1.cls = RJ0) ∨ (3 ≠ 9 ∧ ∃ q, vwCl[3]? = some q ∧ q.1 = (na_mi 57).1.cls)) := ⟨na_mem (i := 420) (by decide +kernel) (by decide +kernel), na_mem (i := 421) (by decide +kernel) (by decide +kernel), na_mem (i := 63) (by decide +kernel) (by decide +kernel), na_mem (i := 422) (by decide +kernel) (by decide +kernel), by decide +kernel, by decide +kernel, by decide +kernel, by decide, Or.inr ⟨by decide, _, rfl, by decide +kernel⟩⟩
theorem fv_58 : Cond.instanceMethod (na_mi 58).1 ∈ na_Tg ∧ Cond.selects (na_mi 58).1.cls (na_mi 58).1 (na_mi 58).1 ∈ na_Tg ∧ Cond.initialized (na_mi 58).1.cls ∈ na_Tg ∧ Cond.code (na_mi 58).1 (na_mi 58).2.1 (na_mi 58).2.2.1 (na_mi 58).2.2.2.1 ∈ na_Tg ∧ (na_mi 58).1.cls ≠ "java/lang/invoke/MethodHandle" ∧ (na_mi 58).1.cls ≠ "java/lang/invoke/VarHandle" ∧ (parseMethodDescriptor (na_mi 58).1.desc).map (fun d => d.parameters.length) = some (3 - 1) ∧ 1 ≤ 3 ∧ ((3 = 9 ∧ (na_mi 58).1.cls = RJ0) ∨ (3 ≠ 9 ∧ ∃ q, vwCl[3]? = some q ∧ q.1 = (na_mi 58).1.cls)) := ⟨na_mem (i := 436) (by decide +kernel) (by decide +kernel), na_mem (i := 437) (by decide +kernel) (by decide +kernel), na_mem (i := 63) (by decide +kernel) (by decide +kernel), na_mem (i := 438) (by decide +kernel) (by decide +kernel), by decide +kernel, by decide +kernel, by decide +kernel, by decide, Or.inr ⟨by decide, _, rfl, by decide +kernel⟩⟩
theorem fv_59 : Cond.instanceMethod (na_mi 59).1 ∈ na_Tg ∧ Cond.selects (na_mi 59).1.cls (na_mi 59).1 (na_mi 59).1 ∈ na_Tg ∧ Cond.initialized (na_mi 59).1.cls ∈ na_Tg ∧ Cond.code (na_mi 59).1 (na_mi 59).2.1 (na_mi 59).2.2.1 (na_mi 59).2.2.2.1 ∈ na_Tg ∧ (na_mi 59).1.cls ≠ "java/lang/invoke/MethodHandle" ∧ (na_mi 59).1.cls ≠ "java/lang/invoke/VarHandle" ∧ (parseMethodDescriptor (na_mi 59).1.desc).map (fun d => d.parameters.length) = some (4 - 1) ∧ 1 ≤ 4 ∧ ((3 = 9 ∧ (na_mi 59).1.cls = RJ0) ∨ (3 ≠ 9 ∧ ∃ q, vwCl[3]? = some q ∧ q.1 = (na_mi 59).1.cls)) := ⟨na_mem (i := 440) (by decide +kernel) (by decide +kernel), na_mem (i := 441) (by decide +kernel) (by decide +kernel), na_mem (i := 63) (by decide +kernel) (by decide +kernel), na_mem (i := 442) (by decide +kernel) (by decide +kernel), by decide +kernel, by decide +kernel, by decide +kernel, by decide, Or.inr ⟨by decide, _, rfl, by decide +kernel⟩⟩
theorem fv_60 : Cond.instanceMethod (na_mi 60).1 ∈ na_Tg ∧ Cond.selects (na_mi 60).1.cls (na_mi 60).1 (na_mi 60).1 ∈ na_Tg ∧ Cond.initialized (na_mi 60).1.cls ∈ na_Tg ∧ Cond.code (na_mi 60).1 (na_mi 60).2.1 (na_mi 60).2.2.1 (na_mi 60).2.2.2.1 ∈ na_Tg ∧ (na_mi 60).1.cls ≠ "java/lang/invoke/MethodHandle" ∧ (na_mi 60).1.cls ≠ "java/lang/invoke/VarHandle" ∧ (parseMethodDescriptor (na_mi 60).1.desc).map (fun d => d.parameters.length) = some (2 - 1) ∧ 1 ≤ 2 ∧ ((3 = 9 ∧ (na_mi 60).1.cls = RJ0) ∨ (3 ≠ 9 ∧ ∃ q, vwCl[3]? = some q ∧ q.1 = (na_mi 60).1.cls)) := ⟨na_mem (i := 449) (by decide +kernel) (by decide +kernel), na_mem (i := 450) (by decide +kernel) (by decide +kernel), na_mem (i := 63) (by decide +kernel) (by decide +kernel), na_mem (i := 451) (by decide +kernel) (by decide +kernel), by decide +kernel, by decide +kernel, by decide +kernel, by decide, Or.inr ⟨by decide, _, rfl, by decide +kernel⟩⟩
theorem fv_61 : Cond.instanceMethod (na_mi 61).1 ∈ na_Tg ∧ Cond.selects (na_mi 61).1.cls (na_mi 61).1 (na_mi 61).1 ∈ na_Tg ∧ Cond.initialized (na_mi 61).1.cls ∈ na_Tg ∧ Cond.code (na_mi 61).1 (na_mi 61).2.1 (na_mi 61).2.2.1 (na_mi 61).2.2.2.1 ∈ na_Tg ∧ (na_mi 61).1.cls ≠ "java/lang/invoke/MethodHandle" ∧ (na_mi 61).1.cls ≠ "java/lang/invoke/VarHandle" ∧ (parseMethodDescriptor (na_mi 61).1.desc).map (fun d => d.parameters.length) = some (3 - 1) ∧ 1 ≤ 3 ∧ ((3 = 9 ∧ (na_mi 61).1.cls = RJ0) ∨ (3 ≠ 9 ∧ ∃ q, vwCl[3]? = some q ∧ q.1 = (na_mi 61).1.cls)) := ⟨na_mem (i := 453) (by decide +kernel) (by decide +kernel), na_mem (i := 454) (by decide +kernel) (by decide +kernel), na_mem (i := 63) (by decide +kernel) (by decide +kernel), na_mem (i := 455) (by decide +kernel) (by decide +kernel), by decide +kernel, by decide +kernel, by decide +kernel, by decide, Or.inr ⟨by decide, _, rfl, by decide +kernel⟩⟩
theorem fv_62 : Cond.instanceMethod (na_mi 62).1 ∈ na_Tg ∧ Cond.selects (na_mi 62).1.cls (na_mi 62).1 (na_mi 62).1 ∈ na_Tg ∧ Cond.initialized (na_mi 62).1.cls ∈ na_Tg ∧ Cond.code (na_mi 62).1 (na_mi 62).2.1 (na_mi 62).2.2.1 (na_mi 62).2.2.2.1 ∈ na_Tg ∧ (na_mi 62).1.cls ≠ "java/lang/invoke/MethodHandle" ∧ (na_mi 62).1.cls ≠ "java/lang/invoke/VarHandle" ∧ (parseMethodDescriptor (na_mi 62).1.desc).map (fun d => d.parameters.length) = some (3 - 1) ∧ 1 ≤ 3 ∧ ((3 = 9 ∧ (na_mi 62).1.cls = RJ0) ∨ (3 ≠ 9 ∧ ∃ q, vwCl[3]? = some q ∧ q.1 = (na_mi 62).1.cls)) := ⟨na_mem (i := 457) (by decide +kernel) (by decide +kernel), na_mem (i := 458) (by decide +kernel) (by decide +kernel), na_mem (i := 63) (by decide +kernel) (by decide +kernel), na_mem (i := 459) (by decide +kernel) (by decide +kernel), by decide +kernel, by decide +kernel, by decide +kernel, by decide, Or.inr ⟨by decide, _, rfl, by decide +kernel⟩⟩
theorem fv_63 : Cond.instanceMethod (na_mi 63).1 ∈ na_Tg ∧ Cond.selects (na_mi 63).1.cls (na_mi 63).1 (na_mi 63).1 ∈ na_Tg ∧ Cond.initialized (na_mi 63).1.cls ∈ na_Tg ∧ Cond.code (na_mi 63).1 (na_mi 63).2.1 (na_mi 63).2.2.1 (na_mi 63).2.2.2.1 ∈ na_Tg ∧ (na_mi 63).1.cls ≠ "java/lang/invoke/MethodHandle" ∧ (na_mi 63).1.cls ≠ "java/lang/invoke/VarHandle" ∧ (parseMethodDescriptor (na_mi 63).1.desc).map (fun d => d.parameters.length) = some (3 - 1) ∧ 1 ≤ 3 ∧ ((3 = 9 ∧ (na_mi 63).1.cls = RJ0) ∨ (3 ≠ 9 ∧ ∃ q, vwCl[3]? = some q ∧ q.1 = (na_mi 63).1.cls)) := ⟨na_mem (i := 461) (by decide +kernel) (by decide +kernel), na_mem (i := 462) (by decide +kernel) (by decide +kernel), na_mem (i := 63) (by decide +kernel) (by decide +kernel), na_mem (i := 463) (by decide +kernel) (by decide +kernel), by decide +kernel, by decide +kernel, by decide +kernel, by decide, Or.inr ⟨by decide, _, rfl, by decide +kernel⟩⟩
theorem fv_64 : Cond.instanceMethod (na_mi 64).1 ∈ na_Tg ∧ Cond.selects (na_mi 64).1.cls (na_mi 64).1 (na_mi 64).1 ∈ na_Tg ∧ Cond.initialized (na_mi 64).1.cls ∈ na_Tg ∧ Cond.code (na_mi 64).1 (na_mi 64).2.1 (na_mi 64).2.2.1 (na_mi 64).2.2.2.1 ∈ na_Tg ∧ (na_mi 64).1.cls ≠ "java/lang/invoke/MethodHandle" ∧ (na_mi 64).1.cls ≠ "java/lang/invoke/VarHandle" ∧ (parseMethodDescriptor (na_mi 64).1.desc).map (fun d => d.parameters.length) = some (2 - 1) ∧ 1 ≤ 2 ∧ ((3 = 9 ∧ (na_mi 64).1.cls = RJ0) ∨ (3 ≠ 9 ∧ ∃ q, vwCl[3]? = some q ∧ q.1 = (na_mi 64).1.cls)) := ⟨na_mem (i := 477) (by decide +kernel) (by decide +kernel), na_mem (i := 478) (by decide +kernel) (by decide +kernel), na_mem (i := 63) (by decide +kernel) (by decide +kernel), na_mem (i := 479) (by decide +kernel) (by decide +kernel), by decide +kernel, by decide +kernel, by decide +kernel, by decide, Or.inr ⟨by decide, _, rfl, by decide +kernel⟩⟩
theorem fv_65 : Cond.instanceMethod (na_mi 65).1 ∈ na_Tg ∧ Cond.selects (na_mi 65).1.cls (na_mi 65).1 (na_mi 65).1 ∈ na_Tg ∧ Cond.initialized (na_mi 65).1.cls ∈ na_Tg ∧ Cond.code (na_mi 65).1 (na_mi 65).2.1 (na_mi 65).2.2.1 (na_mi 65).2.2.2.1 ∈ na_Tg ∧ (na_mi 65).1.cls ≠ "java/lang/invoke/MethodHandle" ∧ (na_mi 65).1.cls ≠ "java/lang/invoke/VarHandle" ∧ (parseMethodDescriptor (na_mi 65).1.desc).map (fun d => d.parameters.length) = some (2 - 1) ∧ 1 ≤ 2 ∧ ((3 = 9 ∧ (na_mi 65).1.cls = RJ0) ∨ (3 ≠ 9 ∧ ∃ q, vwCl[3]? = some q ∧ q.1 = (na_mi 65).1.cls)) := ⟨na_mem (i := 486) (by decide +kernel) (by decide +kernel), na_mem (i := 487) (by decide +kernel) (by decide +kernel), na_mem (i := 63) (by decide +kernel) (by decide +kernel), na_mem (i := 488) (by decide +kernel) (by decide +kernel), by decide +kernel, by decide +kernel, by decide +kernel, by decide, Or.inr ⟨by decide, _, rfl, by decide +kernel⟩⟩
theorem fv_66 : Cond.instanceMethod (na_mi 66).1 ∈ na_Tg ∧ Cond.selects (na_mi 66).1.cls (na_mi 66).1 (na_mi 66).1 ∈ na_Tg ∧ Cond.initialized (na_mi 66).1.cls ∈ na_Tg ∧ Cond.code (na_mi 66).1 (na_mi 66).2.1 (na_mi 66).2.2.1 (na_mi 66).2.2.2.1 ∈ na_Tg ∧ (na_mi 66).1.cls ≠ "java/lang/invoke/MethodHandle" ∧ (na_mi 66).1.cls ≠ "java/lang/invoke/VarHandle" ∧ (parseMethodDescriptor (na_mi 66).1.desc).map (fun d => d.parameters.length) = some (1 - 1) ∧ 1 ≤ 1 ∧ ((3 = 9 ∧ (na_mi 66).1.cls = RJ0) ∨ (3 ≠ 9 ∧ ∃ q, vwCl[3]? = some q ∧ q.1 = (na_mi 66).1.cls)) := ⟨na_mem (i := 490) (by decide +kernel) (by decide +kernel), na_mem (i := 491) (by decide +kernel) (by decide +kernel), na_mem (i := 63) (by decide +kernel) (by decide +kernel), na_mem (i := 492) (by decide +kernel) (by decide +kernel), by decide +kernel, by decide +kernel, by decide +kernel, by decide, Or.inr ⟨by decide, _, rfl, by decide +kernel⟩⟩
theorem fv_67 : Cond.instanceMethod (na_mi 67).1 ∈ na_Tg ∧ Cond.selects (na_mi 67).1.cls (na_mi 67).1 (na_mi 67).1 ∈ na_Tg ∧ Cond.initialized (na_mi 67).1.cls ∈ na_Tg ∧ Cond.code (na_mi 67).1 (na_mi 67).2.1 (na_mi 67).2.2.1 (na_mi 67).2.2.2.1 ∈ na_Tg ∧ (na_mi 67).1.cls ≠ "java/lang/invoke/MethodHandle" ∧ (na_mi 67).1.cls ≠ "java/lang/invoke/VarHandle" ∧ (parseMethodDescriptor (na_mi 67).1.desc).map (fun d => d.parameters.length) = some (4 - 1) ∧ 1 ≤ 4 ∧ ((3 = 9 ∧ (na_mi 67).1.cls = RJ0) ∨ (3 ≠ 9 ∧ ∃ q, vwCl[3]? = some q ∧ q.1 = (na_mi 67).1.cls)) := ⟨na_mem (i := 494) (by decide +kernel) (by decide +kernel), na_mem (i := 495) (by decide +kernel) (by decide +kernel), na_mem (i := 63) (by decide +kernel) (by decide +kernel), na_mem (i := 496) (by decide +kernel) (by decide +kernel), by decide +kernel, by decide +kernel, by decide +kernel, by decide, Or.inr ⟨by decide, _, rfl, by decide +kernel⟩⟩
theorem fv_68 : Cond.instanceMethod (na_mi 68).1 ∈ na_Tg ∧ Cond.selects (na_mi 68).1.cls (na_mi 68).1 (na_mi 68).1 ∈ na_Tg ∧ Cond.initialized (na_mi 68).1.cls ∈ na_Tg ∧ Cond.code (na_mi 68).1 (na_mi 68).2.1 (na_mi 68).2.2.1 (na_mi 68).2.2.2.1 ∈ na_Tg ∧ (na_mi 68).1.cls ≠ "java/lang/invoke/MethodHandle" ∧ (na_mi 68).1.cls ≠ "java/lang/invoke/VarHandle" ∧ (parseMethodDescriptor (na_mi 68).1.desc).map (fun d => d.parameters.length) = some (3 - 1) ∧ 1 ≤ 3 ∧ ((3 = 9 ∧ (na_mi 68).1.cls = RJ0) ∨ (3 ≠ 9 ∧ ∃ q, vwCl[3]? = some q ∧ q.1 = (na_mi 68).1.cls)) := ⟨na_mem (i := 498) (by decide +kernel) (by decide +kernel), na_mem (i := 499) (by decide +kernel) (by decide +kernel), na_mem (i := 63) (by decide +kernel) (by decide +kernel), na_mem (i := 500) (by decide +kernel) (by decide +kernel), by decide +kernel, by decide +kernel, by decide +kernel, by decide, Or.inr ⟨by decide, _, rfl, by decide +kernel⟩⟩
theorem fv_69 : Cond.instanceMethod (na_mi 69).1 ∈ na_Tg ∧ Cond.selects (na_mi 69).1.cls (na_mi 69).1 (na_mi 69).1 ∈ na_Tg ∧ Cond.initialized (na_mi 69).1.cls ∈ na_Tg ∧ Cond.code (na_mi 69).1 (na_mi 69).2.1 (na_mi 69).2.2.1 (na_mi 69).2.2.2.1 ∈ na_Tg ∧ (na_mi 69).1.cls ≠ "java/lang/invoke/MethodHandle" ∧ (na_mi 69).1.cls ≠ "java/lang/invoke/VarHandle" ∧ (parseMethodDescriptor (na_mi 69).1.desc).map (fun d => d.parameters.length) = some (1 - 1) ∧ 1 ≤ 1 ∧ ((3 = 9 ∧ (na_mi 69).1.cls = RJ0) ∨ (3 ≠ 9 ∧ ∃ q, vwCl[3]? = some q ∧ q.1 = (na_mi 69).1.cls)) := ⟨na_mem (i := 506) (by decide +kernel) (by decide +kernel), na_mem (i := 507) (by decide +kernel) (by decide +kernel), na_mem (i := 63) (by decide +kernel) (by decide +kernel), na_mem (i := 508) (by decide +kernel) (by decide +kernel), by decide +kernel, by decide +kernel, by decide +kernel, by decide, Or.inr ⟨by decide, _, rfl, by decide +kernel⟩⟩
theorem fv_70 : Cond.instanceMethod (na_mi 70).1 ∈ na_Tg ∧ Cond.selects (na_mi 70).1.cls (na_mi 70).1 (na_mi 70).1 ∈ na_Tg ∧ Cond.initialized (na_mi 70).1.cls ∈ na_Tg ∧ Cond.code (na_mi 70).1 (na_mi 70).2.1 (na_mi 70).2.2.1 (na_mi 70).2.2.2.1 ∈ na_Tg ∧ (na_mi 70).1.cls ≠ "java/lang/invoke/MethodHandle" ∧ (na_mi 70).1.cls ≠ "java/lang/invoke/VarHandle" ∧ (parseMethodDescriptor (na_mi 70).1.desc).map (fun d => d.parameters.length) = some (1 - 1) ∧ 1 ≤ 1 ∧ ((3 = 9 ∧ (na_mi 70).1.cls = RJ0) ∨ (3 ≠ 9 ∧ ∃ q, vwCl[3]? = some q ∧ q.1 = (na_mi 70).1.cls)) := ⟨na_mem (i := 510) (by decide +kernel) (by decide +kernel), na_mem (i := 511) (by decide +kernel) (by decide +kernel), na_mem (i := 63) (by decide +kernel) (by decide +kernel), na_mem (i := 512) (by decide +kernel) (by decide +kernel), by decide +kernel, by decide +kernel, by decide +kernel, by decide, Or.inr ⟨by decide, _, rfl, by decide +kernel⟩⟩
theorem fv_71 : Cond.instanceMethod (na_mi 71).1 ∈ na_Tg ∧ Cond.selects (na_mi 71).1.cls (na_mi 71).1 (na_mi 71).1 ∈ na_Tg ∧ Cond.initialized (na_mi 71).1.cls ∈ na_Tg ∧ Cond.code (na_mi 71).1 (na_mi 71).2.1 (na_mi 71).2.2.1 (na_mi 71).2.2.2.1 ∈ na_Tg ∧ (na_mi 71).1.cls ≠ "java/lang/invoke/MethodHandle" ∧ (na_mi 71).1.cls ≠ "java/lang/invoke/VarHandle" ∧ (parseMethodDescriptor (na_mi 71).1.desc).map (fun d => d.parameters.length) = some (4 - 1) ∧ 1 ≤ 4 ∧ ((3 = 9 ∧ (na_mi 71).1.cls = RJ0) ∨ (3 ≠ 9 ∧ ∃ q, vwCl[3]? = some q ∧ q.1 = (na_mi 71).1.cls)) := ⟨na_mem (i := 634) (by decide +kernel) (by decide +kernel), na_mem (i := 635) (by decide +kernel) (by decide +kernel), na_mem (i := 63) (by decide +kernel) (by decide +kernel), na_mem (i := 636) (by decide +kernel) (by decide +kernel), by decide +kernel, by decide +kernel, by decide +kernel, by decide, Or.inr ⟨by decide, _, rfl, by decide +kernel⟩⟩
theorem fv_72 : Cond.instanceMethod (na_mi 72).1 ∈ na_Tg ∧ Cond.selects (na_mi 72).1.cls (na_mi 72).1 (na_mi 72).1 ∈ na_Tg ∧ Cond.initialized (na_mi 72).1.cls ∈ na_Tg ∧ Cond.code (na_mi 72).1 (na_mi 72).2.1 (na_mi 72).2.2.1 (na_mi 72).2.2.2.1 ∈ na_Tg ∧ (na_mi 72).1.cls ≠ "java/lang/invoke/MethodHandle" ∧ (na_mi 72).1.cls ≠ "java/lang/invoke/VarHandle" ∧ (parseMethodDescriptor (na_mi 72).1.desc).map (fun d => d.parameters.length) = some (4 - 1) ∧ 1 ≤ 4 ∧ ((3 = 9 ∧ (na_mi 72).1.cls = RJ0) ∨ (3 ≠ 9 ∧ ∃ q, vwCl[3]? = some q ∧ q.1 = (na_mi 72).1.cls)) := ⟨na_mem (i := 646) (by decide +kernel) (by decide +kernel), na_mem (i := 647) (by decide +kernel) (by decide +kernel), na_mem (i := 63) (by decide +kernel) (by decide +kernel), na_mem (i := 648) (by decide +kernel) (by decide +kernel), by decide +kernel, by decide +kernel, by decide +kernel, by decide, Or.inr ⟨by decide, _, rfl, by decide +kernel⟩⟩
theorem fv_73 : Cond.instanceMethod (na_mi 73).1 ∈ na_Tg ∧ Cond.selects (na_mi 73).1.cls (na_mi 73).1 (na_mi 73).1 ∈ na_Tg ∧ Cond.initialized (na_mi 73).1.cls ∈ na_Tg ∧ Cond.code (na_mi 73).1 (na_mi 73).2.1 (na_mi 73).2.2.1 (na_mi 73).2.2.2.1 ∈ na_Tg ∧ (na_mi 73).1.cls ≠ "java/lang/invoke/MethodHandle" ∧ (na_mi 73).1.cls ≠ "java/lang/invoke/VarHandle" ∧ (parseMethodDescriptor (na_mi 73).1.desc).map (fun d => d.parameters.length) = some (6 - 1) ∧ 1 ≤ 6 ∧ ((3 = 9 ∧ (na_mi 73).1.cls = RJ0) ∨ (3 ≠ 9 ∧ ∃ q, vwCl[3]? = some q ∧ q.1 = (na_mi 73).1.cls)) := ⟨na_mem (i := 659) (by decide +kernel) (by decide +kernel), na_mem (i := 660) (by decide +kernel) (by decide +kernel), na_mem (i := 63) (by decide +kernel) (by decide +kernel), na_mem (i := 661) (by decide +kernel) (by decide +kernel), by decide +kernel, by decide +kernel, by decide +kernel, by decide, Or.inr ⟨by decide, _, rfl, by decide +kernel⟩⟩
theorem fv_74 : Cond.instanceMethod (na_mi 74).1 ∈ na_Tg ∧ Cond.selects (na_mi 74).1.cls (na_mi 74).1 (na_mi 74).1 ∈ na_Tg ∧ Cond.initialized (na_mi 74).1.cls ∈ na_Tg ∧ Cond.code (na_mi 74).1 (na_mi 74).2.1 (na_mi 74).2.2.1 (na_mi 74).2.2.2.1 ∈ na_Tg ∧ (na_mi 74).1.cls ≠ "java/lang/invoke/MethodHandle" ∧ (na_mi 74).1.cls ≠ "java/lang/invoke/VarHandle" ∧ (parseMethodDescriptor (na_mi 74).1.desc).map (fun d => d.parameters.length) = some (2 - 1) ∧ 1 ≤ 2 ∧ ((3 = 9 ∧ (na_mi 74).1.cls = RJ0) ∨ (3 ≠ 9 ∧ ∃ q, vwCl[3]? = some q ∧ q.1 = (na_mi 74).1.cls)) := ⟨na_mem (i := 668) (by decide +kernel) (by decide +kernel), na_mem (i := 669) (by decide +kernel) (by decide +kernel), na_mem (i := 63) (by decide +kernel) (by decide +kernel), na_mem (i := 670) (by decide +kernel) (by decide +kernel), by decide +kernel, by decide +kernel, by decide +kernel, by decide, Or.inr ⟨by decide, _, rfl, by decide +kernel⟩⟩
theorem fv_75 : Cond.instanceMethod (na_mi 75).1 ∈ na_Tg ∧ Cond.selects (na_mi 75).1.cls (na_mi 75).1 (na_mi 75).1 ∈ na_Tg ∧ Cond.initialized (na_mi 75).1.cls ∈ na_Tg ∧ Cond.code (na_mi 75).1 (na_mi 75).2.1 (na_mi 75).2.2.1 (na_mi 75).2.2.2.1 ∈ na_Tg ∧ (na_mi 75).1.cls ≠ "java/lang/invoke/MethodHandle" ∧ (na_mi 75).1.cls ≠ "java/lang/invoke/VarHandle" ∧ (parseMethodDescriptor (na_mi 75).1.desc).map (fun d => d.parameters.length) = some (3 - 1) ∧ 1 ≤ 3 ∧ ((3 = 9 ∧ (na_mi 75).1.cls = RJ0) ∨ (3 ≠ 9 ∧ ∃ q, vwCl[3]? = some q ∧ q.1 = (na_mi 75).1.cls)) := ⟨na_mem (i := 673) (by decide +kernel) (by decide +kernel), na_mem (i := 674) (by decide +kernel) (by decide +kernel), na_mem (i := 63) (by decide +kernel) (by decide +kernel), na_mem (i := 675) (by decide +kernel) (by decide +kernel), by decide +kernel, by decide +kernel, by decide +kernel, by decide, Or.inr ⟨by decide, _, rfl, by decide +kernel⟩⟩
theorem fv_76 : Cond.instanceMethod (na_mi 76).1 ∈ na_Tg ∧ Cond.selects (na_mi 76).1.cls (na_mi 76).1 (na_mi 76).1 ∈ na_Tg ∧ Cond.initialized (na_mi 76).1.cls ∈ na_Tg ∧ Cond.code (na_mi 76).1 (na_mi 76).2.1 (na_mi 76).2.2.1 (na_mi 76).2.2.2.1 ∈ na_Tg ∧ (na_mi 76).1.cls ≠ "java/lang/invoke/MethodHandle" ∧ (na_mi 76).1.cls ≠ "java/lang/invoke/VarHandle" ∧ (parseMethodDescriptor (na_mi 76).1.desc).map (fun d => d.parameters.length) = some (3 - 1) ∧ 1 ≤ 3 ∧ ((3 = 9 ∧ (na_mi 76).1.cls = RJ0) ∨ (3 ≠ 9 ∧ ∃ q, vwCl[3]? = some q ∧ q.1 = (na_mi 76).1.cls)) := ⟨na_mem (i := 677) (by decide +kernel) (by decide +kernel), na_mem (i := 678) (by decide +kernel) (by decide +kernel), na_mem (i := 63) (by decide +kernel) (by decide +kernel), na_mem (i := 679) (by decide +kernel) (by decide +kernel), by decide +kernel, by decide +kernel, by decide +kernel, by decide, Or.inr ⟨by decide, _, rfl, by decide +kernel⟩⟩
theorem fv_77 : Cond.instanceMethod (na_mi 77).1 ∈ na_Tg ∧ Cond.selects (na_mi 77).1.cls (na_mi 77).1 (na_mi 77).1 ∈ na_Tg ∧ Cond.initialized (na_mi 77).1.cls ∈ na_Tg ∧ Cond.code (na_mi 77).1 (na_mi 77).2.1 (na_mi 77).2.2.1 (na_mi 77).2.2.2.1 ∈ na_Tg ∧ (na_mi 77).1.cls ≠ "java/lang/invoke/MethodHandle" ∧ (na_mi 77).1.cls ≠ "java/lang/invoke/VarHandle" ∧ (parseMethodDescriptor (na_mi 77).1.desc).map (fun d => d.parameters.length) = some (1 - 1) ∧ 1 ≤ 1 ∧ ((3 = 9 ∧ (na_mi 77).1.cls = RJ0) ∨ (3 ≠ 9 ∧ ∃ q, vwCl[3]? = some q ∧ q.1 = (na_mi 77).1.cls)) := ⟨na_mem (i := 685) (by decide +kernel) (by decide +kernel), na_mem (i := 686) (by decide +kernel) (by decide +kernel), na_mem (i := 63) (by decide +kernel) (by decide +kernel), na_mem (i := 687) (by decide +kernel) (by decide +kernel), by decide +kernel, by decide +kernel, by decide +kernel, by decide, Or.inr ⟨by decide, _, rfl, by decide +kernel⟩⟩
theorem fv_78 : Cond.instanceMethod (na_mi 78).1 ∈ na_Tg ∧ Cond.selects (na_mi 78).1.cls (na_mi 78).1 (na_mi 78).1 ∈ na_Tg ∧ Cond.initialized (na_mi 78).1.cls ∈ na_Tg ∧ Cond.code (na_mi 78).1 (na_mi 78).2.1 (na_mi 78).2.2.1 (na_mi 78).2.2.2.1 ∈ na_Tg ∧ (na_mi 78).1.cls ≠ "java/lang/invoke/MethodHandle" ∧ (na_mi 78).1.cls ≠ "java/lang/invoke/VarHandle" ∧ (parseMethodDescriptor (na_mi 78).1.desc).map (fun d => d.parameters.length) = some (1 - 1) ∧ 1 ≤ 1 ∧ ((3 = 9 ∧ (na_mi 78).1.cls = RJ0) ∨ (3 ≠ 9 ∧ ∃ q, vwCl[3]? = some q ∧ q.1 = (na_mi 78).1.cls)) := ⟨na_mem (i := 689) (by decide +kernel) (by decide +kernel), na_mem (i := 690) (by decide +kernel) (by decide +kernel), na_mem (i := 63) (by decide +kernel) (by decide +kernel), na_mem (i := 691) (by decide +kernel) (by decide +kernel), by decide +kernel, by decide +kernel, by decide +kernel, by decide, Or.inr ⟨by decide, _, rfl, by decide +kernel⟩⟩
theorem fv_79 : Cond.instanceMethod (na_mi 79).1 ∈ na_Tg ∧ Cond.selects (na_mi 79).1.cls (na_mi 79).1 (na_mi 79).1 ∈ na_Tg ∧ Cond.initialized (na_mi 79).1.cls ∈ na_Tg ∧ Cond.code (na_mi 79).1 (na_mi 79).2.1 (na_mi 79).2.2.1 (na_mi 79).2.2.2.1 ∈ na_Tg ∧ (na_mi 79).1.cls ≠ "java/lang/invoke/MethodHandle" ∧ (na_mi 79).1.cls ≠ "java/lang/invoke/VarHandle" ∧ (parseMethodDescriptor (na_mi 79).1.desc).map (fun d => d.parameters.length) = some (1 - 1) ∧ 1 ≤ 1 ∧ ((3 = 9 ∧ (na_mi 79).1.cls = RJ0) ∨ (3 ≠ 9 ∧ ∃ q, vwCl[3]? = some q ∧ q.1 = (na_mi 79).1.cls)) := ⟨na_mem (i := 693) (by decide +kernel) (by decide +kernel), na_mem (i := 694) (by decide +kernel) (by decide +kernel), na_mem (i := 63) (by decide +kernel) (by decide +kernel), na_mem (i := 695) (by decide +kernel) (by decide +kernel), by decide +kernel, by decide +kernel, by decide +kernel, by decide, Or.inr ⟨by decide, _, rfl, by decide +kernel⟩⟩
theorem fv_80 : Cond.instanceMethod (na_mi 80).1 ∈ na_Tg ∧ Cond.selects (na_mi 80).1.cls (na_mi 80).1 (na_mi 80).1 ∈ na_Tg ∧ Cond.initialized (na_mi 80).1.cls ∈ na_Tg ∧ Cond.code (na_mi 80).1 (na_mi 80).2.1 (na_mi 80).2.2.1 (na_mi 80).2.2.2.1 ∈ na_Tg ∧ (na_mi 80).1.cls ≠ "java/lang/invoke/MethodHandle" ∧ (na_mi 80).1.cls ≠ "java/lang/invoke/VarHandle" ∧ (parseMethodDescriptor (na_mi 80).1.desc).map (fun d => d.parameters.length) = some (2 - 1) ∧ 1 ≤ 2 ∧ ((3 = 9 ∧ (na_mi 80).1.cls = RJ0) ∨ (3 ≠ 9 ∧ ∃ q, vwCl[3]? = some q ∧ q.1 = (na_mi 80).1.cls)) := ⟨na_mem (i := 697) (by decide +kernel) (by decide +kernel), na_mem (i := 698) (by decide +kernel) (by decide +kernel), na_mem (i := 63) (by decide +kernel) (by decide +kernel), na_mem (i := 699) (by decide +kernel) (by decide +kernel), by decide +kernel, by decide +kernel, by decide +kernel, by decide, Or.inr ⟨by decide, _, rfl, by decide +kernel⟩⟩
theorem fv_81 : Cond.instanceMethod (na_mi 81).1 ∈ na_Tg ∧ Cond.selects (na_mi 81).1.cls (na_mi 81).1 (na_mi 81).1 ∈ na_Tg ∧ Cond.initialized (na_mi 81).1.cls ∈ na_Tg ∧ Cond.code (na_mi 81).1 (na_mi 81).2.1 (na_mi 81).2.2.1 (na_mi 81).2.2.2.1 ∈ na_Tg ∧ (na_mi 81).1.cls ≠ "java/lang/invoke/MethodHandle" ∧ (na_mi 81).1.cls ≠ "java/lang/invoke/VarHandle" ∧ (parseMethodDescriptor (na_mi 81).1.desc).map (fun d => d.parameters.length) = some (2 - 1) ∧ 1 ≤ 2 ∧ ((3 = 9 ∧ (na_mi 81).1.cls = RJ0) ∨ (3 ≠ 9 ∧ ∃ q, vwCl[3]? = some q ∧ q.1 = (na_mi 81).1.cls)) := ⟨na_mem (i := 701) (by decide +kernel) (by decide +kernel), na_mem (i := 702) (by decide +kernel) (by decide +kernel), na_mem (i := 63) (by decide +kernel) (by decide +kernel), na_mem (i := 703) (by decide +kernel) (by decide +kernel), by decide +kernel, by decide +kernel, by decide +kernel, by decide, Or.inr ⟨by decide, _, rfl, by decide +kernel⟩⟩
theorem fv_82 : Cond.instanceMethod (na_mi 82).1 ∈ na_Tg ∧ Cond.selects (na_mi 82).1.cls (na_mi 82).1 (na_mi 82).1 ∈ na_Tg ∧ Cond.initialized (na_mi 82).1.cls ∈ na_Tg ∧ Cond.code (na_mi 82).1 (na_mi 82).2.1 (na_mi 82).2.2.1 (na_mi 82).2.2.2.1 ∈ na_Tg ∧ (na_mi 82).1.cls ≠ "java/lang/invoke/MethodHandle" ∧ (na_mi 82).1.cls ≠ "java/lang/invoke/VarHandle" ∧ (parseMethodDescriptor (na_mi 82).1.desc).map (fun d => d.parameters.length) = some (2 - 1) ∧ 1 ≤ 2 ∧ ((3 = 9 ∧ (na_mi 82).1.cls = RJ0) ∨ (3 ≠ 9 ∧ ∃ q, vwCl[3]? = some q ∧ q.1 = (na_mi 82).1.cls)) := ⟨na_mem (i := 230) (by decide +kernel) (by decide +kernel), na_mem (i := 0) (by decide +kernel) (by decide +kernel), na_mem (i := 63) (by decide +kernel) (by decide +kernel), na_mem (i := 231) (by decide +kernel) (by decide +kernel), by decide +kernel, by decide +kernel, by decide +kernel, by decide, Or.inr ⟨by decide, _, rfl, by decide +kernel⟩⟩
theorem fv_83 : Cond.instanceMethod (na_mi 83).1 ∈ na_Tg ∧ Cond.selects (na_mi 83).1.cls (na_mi 83).1 (na_mi 83).1 ∈ na_Tg ∧ Cond.initialized (na_mi 83).1.cls ∈ na_Tg ∧ Cond.code (na_mi 83).1 (na_mi 83).2.1 (na_mi 83).2.2.1 (na_mi 83).2.2.2.1 ∈ na_Tg ∧ (na_mi 83).1.cls ≠ "java/lang/invoke/MethodHandle" ∧ (na_mi 83).1.cls ≠ "java/lang/invoke/VarHandle" ∧ (parseMethodDescriptor (na_mi 83).1.desc).map (fun d => d.parameters.length) = some (2 - 1) ∧ 1 ≤ 2 ∧ ((3 = 9 ∧ (na_mi 83).1.cls = RJ0) ∨ (3 ≠ 9 ∧ ∃ q, vwCl[3]? = some q ∧ q.1 = (na_mi 83).1.cls)) := ⟨na_mem (i := 296) (by decide +kernel) (by decide +kernel), na_mem (i := 2) (by decide +kernel) (by decide +kernel), na_mem (i := 63) (by decide +kernel) (by decide +kernel), na_mem (i := 297) (by decide +kernel) (by decide +kernel), by decide +kernel, by decide +kernel, by decide +kernel, by decide, Or.inr ⟨by decide, _, rfl, by decide +kernel⟩⟩
theorem fv_84 : Cond.instanceMethod (na_mi 84).1 ∈ na_Tg ∧ Cond.selects (na_mi 84).1.cls (na_mi 84).1 (na_mi 84).1 ∈ na_Tg ∧ Cond.initialized (na_mi 84).1.cls ∈ na_Tg ∧ Cond.code (na_mi 84).1 (na_mi 84).2.1 (na_mi 84).2.2.1 (na_mi 84).2.2.2.1 ∈ na_Tg ∧ (na_mi 84).1.cls ≠ "java/lang/invoke/MethodHandle" ∧ (na_mi 84).1.cls ≠ "java/lang/invoke/VarHandle" ∧ (parseMethodDescriptor (na_mi 84).1.desc).map (fun d => d.parameters.length) = some (1 - 1) ∧ 1 ≤ 1 ∧ ((3 = 9 ∧ (na_mi 84).1.cls = RJ0) ∨ (3 ≠ 9 ∧ ∃ q, vwCl[3]? = some q ∧ q.1 = (na_mi 84).1.cls)) := ⟨na_mem (i := 386) (by decide +kernel) (by decide +kernel), na_mem (i := 7) (by decide +kernel) (by decide +kernel), na_mem (i := 63) (by decide +kernel) (by decide +kernel), na_mem (i := 387) (by decide +kernel) (by decide +kernel), by decide +kernel, by decide +kernel, by decide +kernel, by decide, Or.inr ⟨by decide, _, rfl, by decide +kernel⟩⟩
theorem fv_85 : Cond.instanceMethod (na_mi 85).1 ∈ na_Tg ∧ Cond.selects (na_mi 85).1.cls (na_mi 85).1 (na_mi 85).1 ∈ na_Tg ∧ Cond.initialized (na_mi 85).1.cls ∈ na_Tg ∧ Cond.code (na_mi 85).1 (na_mi 85).2.1 (na_mi 85).2.2.1 (na_mi 85).2.2.2.1 ∈ na_Tg ∧ (na_mi 85).1.cls ≠ "java/lang/invoke/MethodHandle" ∧ (na_mi 85).1.cls ≠ "java/lang/invoke/VarHandle" ∧ (parseMethodDescriptor (na_mi 85).1.desc).map (fun d => d.parameters.length) = some (5 - 1) ∧ 1 ≤ 5 ∧ ((3 = 9 ∧ (na_mi 85).1.cls = RJ0) ∨ (3 ≠ 9 ∧ ∃ q, vwCl[3]? = some q ∧ q.1 = (na_mi 85).1.cls)) := ⟨na_mem (i := 445) (by decide +kernel) (by decide +kernel), na_mem (i := 8) (by decide +kernel) (by decide +kernel), na_mem (i := 63) (by decide +kernel) (by decide +kernel), na_mem (i := 446) (by decide +kernel) (by decide +kernel), by decide +kernel, by decide +kernel, by decide +kernel, by decide, Or.inr ⟨by decide, _, rfl, by decide +kernel⟩⟩
theorem fs_86 : Cond.static (na_mi 86).1 ∈ na_Tg ∧ Cond.initialized (na_mi 86).1.cls ∈ na_Tg ∧ (na_ww (na_mi 86)).head? = some (.code (na_mi 86).1 (na_mi 86).2.1 (na_mi 86).2.2.1 (na_mi 86).2.2.2.1) ∧ Cond.code (na_mi 86).1 (na_mi 86).2.1 (na_mi 86).2.2.1 (na_mi 86).2.2.2.1 ∈ na_Tg ∧ (na_mi 86).1.cls ≠ "java/lang/invoke/MethodHandle" ∧ (na_mi 86).1.cls ≠ "java/lang/invoke/VarHandle" ∧ (parseMethodDescriptor (na_mi 86).1.desc).map (fun d => d.parameters.length) = some 3 := ⟨na_mem (i := 223) (by decide +kernel) (by decide +kernel), na_mem (i := 63) (by decide +kernel) (by decide +kernel), rfl, na_mem (i := 224) (by decide +kernel) (by decide +kernel), by decide +kernel, by decide +kernel, by decide +kernel⟩
theorem fs_87 : Cond.static (na_mi 87).1 ∈ na_Tg ∧ Cond.initialized (na_mi 87).1.cls ∈ na_Tg ∧ (na_ww (na_mi 87)).head? = some (.code (na_mi 87).1 (na_mi 87).2.1 (na_mi 87).2.2.1 (na_mi 87).2.2.2.1) ∧ Cond.code (na_mi 87).1 (na_mi 87).2.1 (na_mi 87).2.2.1 (na_mi 87).2.2.2.1 ∈ na_Tg ∧ (na_mi 87).1.cls ≠ "java/lang/invoke/MethodHandle" ∧ (na_mi 87).1.cls ≠ "java/lang/invoke/VarHandle" ∧ (parseMethodDescriptor (na_mi 87).1.desc).map (fun d => d.parameters.length) = some 1 := ⟨na_mem (i := 220) (by decide +kernel) (by decide +kernel), na_mem (i := 63) (by decide +kernel) (by decide +kernel), rfl, na_mem (i := 221) (by decide +kernel) (by decide +kernel), by decide +kernel, by decide +kernel, by decide +kernel⟩
theorem fs_88 : Cond.static (na_mi 88).1 ∈ na_Tg ∧ Cond.initialized (na_mi 88).1.cls ∈ na_Tg ∧ (na_ww (na_mi 88)).head? = some (.code (na_mi 88).1 (na_mi 88).2.1 (na_mi 88).2.2.1 (na_mi 88).2.2.2.1) ∧ Cond.code (na_mi 88).1 (na_mi 88).2.1 (na_mi 88).2.2.1 (na_mi 88).2.2.2.1 ∈ na_Tg ∧ (na_mi 88).1.cls ≠ "java/lang/invoke/MethodHandle" ∧ (na_mi 88).1.cls ≠ "java/lang/invoke/VarHandle" ∧ (parseMethodDescriptor (na_mi 88).1.desc).map (fun d => d.parameters.length) = some 1 := ⟨na_mem (i := 279) (by decide +kernel) (by decide +kernel), na_mem (i := 63) (by decide +kernel) (by decide +kernel), rfl, na_mem (i := 280) (by decide +kernel) (by decide +kernel), by decide +kernel, by decide +kernel, by decide +kernel⟩
theorem fs_89 : Cond.static (na_mi 89).1 ∈ na_Tg ∧ Cond.initialized (na_mi 89).1.cls ∈ na_Tg ∧ (na_ww (na_mi 89)).head? = some (.code (na_mi 89).1 (na_mi 89).2.1 (na_mi 89).2.2.1 (na_mi 89).2.2.2.1) ∧ Cond.code (na_mi 89).1 (na_mi 89).2.1 (na_mi 89).2.2.1 (na_mi 89).2.2.2.1 ∈ na_Tg ∧ (na_mi 89).1.cls ≠ "java/lang/invoke/MethodHandle" ∧ (na_mi 89).1.cls ≠ "java/lang/invoke/VarHandle" ∧ (parseMethodDescriptor (na_mi 89).1.desc).map (fun d => d.parameters.length) = some 1 := ⟨na_mem (i := 638) (by decide +kernel) (by decide +kernel), na_mem (i := 63) (by decide +kernel) (by decide +kernel), rfl, na_mem (i := 639) (by decide +kernel) (by decide +kernel), by decide +kernel, by decide +kernel, by decide +kernel⟩
theorem fs_90 : Cond.static (na_mi 90).1 ∈ na_Tg ∧ Cond.initialized (na_mi 90).1.cls ∈ na_Tg ∧ (na_ww (na_mi 90)).head? = some (.code (na_mi 90).1 (na_mi 90).2.1 (na_mi 90).2.2.1 (na_mi 90).2.2.2.1) ∧ Cond.code (na_mi 90).1 (na_mi 90).2.1 (na_mi 90).2.2.1 (na_mi 90).2.2.2.1 ∈ na_Tg ∧ (na_mi 90).1.cls ≠ "java/lang/invoke/MethodHandle" ∧ (na_mi 90).1.cls ≠ "java/lang/invoke/VarHandle" ∧ (parseMethodDescriptor (na_mi 90).1.desc).map (fun d => d.parameters.length) = some 2 := ⟨na_mem (i := 320) (by decide +kernel) (by decide +kernel), na_mem (i := 63) (by decide +kernel) (by decide +kernel), rfl, na_mem (i := 321) (by decide +kernel) (by decide +kernel), by decide +kernel, by decide +kernel, by decide +kernel⟩
theorem fs_91 : Cond.static (na_mi 91).1 ∈ na_Tg ∧ Cond.initialized (na_mi 91).1.cls ∈ na_Tg ∧ (na_ww (na_mi 91)).head? = some (.code (na_mi 91).1 (na_mi 91).2.1 (na_mi 91).2.2.1 (na_mi 91).2.2.2.1) ∧ Cond.code (na_mi 91).1 (na_mi 91).2.1 (na_mi 91).2.2.1 (na_mi 91).2.2.2.1 ∈ na_Tg ∧ (na_mi 91).1.cls ≠ "java/lang/invoke/MethodHandle" ∧ (na_mi 91).1.cls ≠ "java/lang/invoke/VarHandle" ∧ (parseMethodDescriptor (na_mi 91).1.desc).map (fun d => d.parameters.length) = some 2 := ⟨na_mem (i := 252) (by decide +kernel) (by decide +kernel), na_mem (i := 63) (by decide +kernel) (by decide +kernel), rfl, na_mem (i := 253) (by decide +kernel) (by decide +kernel), by decide +kernel, by decide +kernel, by decide +kernel⟩
theorem fs_92 : Cond.static (na_mi 92).1 ∈ na_Tg ∧ Cond.initialized (na_mi 92).1.cls ∈ na_Tg ∧ (na_ww (na_mi 92)).head? = some (.code (na_mi 92).1 (na_mi 92).2.1 (na_mi 92).2.2.1 (na_mi 92).2.2.2.1) ∧ Cond.code (na_mi 92).1 (na_mi 92).2.1 (na_mi 92).2.2.1 (na_mi 92).2.2.2.1 ∈ na_Tg ∧ (na_mi 92).1.cls ≠ "java/lang/invoke/MethodHandle" ∧ (na_mi 92).1.cls ≠ "java/lang/invoke/VarHandle" ∧ (parseMethodDescriptor (na_mi 92).1.desc).map (fun d => d.parameters.length) = some 3 := ⟨na_mem (i := 237) (by decide +kernel) (by decide +kernel), na_mem (i := 63) (by decide +kernel) (by decide +kernel), rfl, na_mem (i := 238) (by decide +kernel) (by decide +kernel), by decide +kernel, by decide +kernel, by decide +kernel⟩
theorem fs_93 : Cond.static (na_mi 93).1 ∈ na_Tg ∧ Cond.initialized (na_mi 93).1.cls ∈ na_Tg ∧ (na_ww (na_mi 93)).head? = some (.code (na_mi 93).1 (na_mi 93).2.1 (na_mi 93).2.2.1 (na_mi 93).2.2.2.1) ∧ Cond.code (na_mi 93).1 (na_mi 93).2.1 (na_mi 93).2.2.1 (na_mi 93).2.2.2.1 ∈ na_Tg ∧ (na_mi 93).1.cls ≠ "java/lang/invoke/MethodHandle" ∧ (na_mi 93).1.cls ≠ "java/lang/invoke/VarHandle" ∧ (parseMethodDescriptor (na_mi 93).1.desc).map (fun d => d.parameters.length) = some 2 := ⟨na_mem (i := 370) (by decide +kernel) (by decide +kernel), na_mem (i := 63) (by decide +kernel) (by decide +kernel), rfl, na_mem (i := 371) (by decide +kernel) (by decide +kernel), by decide +kernel, by decide +kernel, by decide +kernel⟩
theorem fs_94 : Cond.static (na_mi 94).1 ∈ na_Tg ∧ Cond.initialized (na_mi 94).1.cls ∈ na_Tg ∧ (na_ww (na_mi 94)).head? = some (.code (na_mi 94).1 (na_mi 94).2.1 (na_mi 94).2.2.1 (na_mi 94).2.2.2.1) ∧ Cond.code (na_mi 94).1 (na_mi 94).2.1 (na_mi 94).2.2.1 (na_mi 94).2.2.2.1 ∈ na_Tg ∧ (na_mi 94).1.cls ≠ "java/lang/invoke/MethodHandle" ∧ (na_mi 94).1.cls ≠ "java/lang/invoke/VarHandle" ∧ (parseMethodDescriptor (na_mi 94).1.desc).map (fun d => d.parameters.length) = some 3 := ⟨na_mem (i := 773) (by decide +kernel) (by decide +kernel), na_mem (i := 67) (by decide +kernel) (by decide +kernel), rfl, na_mem (i := 774) (by decide +kernel) (by decide +kernel), by decide +kernel, by decide +kernel, by decide +kernel⟩
theorem fv_95 : Cond.instanceMethod (na_mi 95).1 ∈ na_Tg ∧ Cond.selects (na_mi 95).1.cls (na_mi 95).1 (na_mi 95).1 ∈ na_Tg ∧ Cond.initialized (na_mi 95).1.cls ∈ na_Tg ∧ Cond.code (na_mi 95).1 (na_mi 95).2.1 (na_mi 95).2.2.1 (na_mi 95).2.2.2.1 ∈ na_Tg ∧ (na_mi 95).1.cls ≠ "java/lang/invoke/MethodHandle" ∧ (na_mi 95).1.cls ≠ "java/lang/invoke/VarHandle" ∧ (parseMethodDescriptor (na_mi 95).1.desc).map (fun d => d.parameters.length) = some (2 - 1) ∧ 1 ≤ 2 ∧ ((4 = 9 ∧ (na_mi 95).1.cls = RJ0) ∨ (4 ≠ 9 ∧ ∃ q, vwCl[4]? = some q ∧ q.1 = (na_mi 95).1.cls)) := ⟨na_mem (i := 781) (by decide +kernel) (by decide +kernel), na_mem (i := 19) (by decide +kernel) (by decide +kernel), na_mem (i := 67) (by decide +kernel) (by decide +kernel), na_mem (i := 782) (by decide +kernel) (by decide +kernel), by decide +kernel, by decide +kernel, by decide +kernel, by decide, Or.inr ⟨by decide, _, rfl, by decide +kernel⟩⟩
theorem fs_96 : Cond.static (na_mi 96).1 ∈ na_Tg ∧ Cond.initialized (na_mi 96).1.cls ∈ na_Tg ∧ (na_ww (na_mi 96)).head? = some (.code (na_mi 96).1 (na_mi 96).2.1 (na_mi 96).2.2.1 (na_mi 96).2.2.2.1) ∧ Cond.code (na_mi 96).1 (na_mi 96).2.1 (na_mi 96).2.2.1 (na_mi 96).2.2.2.1 ∈ na_Tg ∧ (na_mi 96).1.cls ≠ "java/lang/invoke/MethodHandle" ∧ (na_mi 96).1.cls ≠ "java/lang/invoke/VarHandle" ∧ (parseMethodDescriptor (na_mi 96).1.desc).map (fun d => d.parameters.length) = some 2 := ⟨na_mem (i := 890) (by decide +kernel) (by decide +kernel), na_mem (i := 67) (by decide +kernel) (by decide +kernel), rfl, na_mem (i := 891) (by decide +kernel) (by decide +kernel), by decide +kernel, by decide +kernel, by decide +kernel⟩
theorem fs_97 : Cond.static (na_mi 97).1 ∈ na_Tg ∧ Cond.initialized (na_mi 97).1.cls ∈ na_Tg ∧ (na_ww (na_mi 97)).head? = some (.code (na_mi 97).1 (na_mi 97).2.1 (na_mi 97).2.2.1 (na_mi 97).2.2.2.1) ∧ Cond.code (na_mi 97).1 (na_mi 97).2.1 (na_mi 97).2.2.1 (na_mi 97).2.2.2.1 ∈ na_Tg ∧ (na_mi 97).1.cls ≠ "java/lang/invoke/MethodHandle" ∧ (na_mi 97).1.cls ≠ "java/lang/invoke/VarHandle" ∧ (parseMethodDescriptor (na_mi 97).1.desc).map (fun d => d.parameters.length) = some 1 := ⟨na_mem (i := 969) (by decide +kernel) (by decide +kernel), na_mem (i := 67) (by decide +kernel) (by decide +kernel), rfl, na_mem (i := 970) (by decide +kernel) (by decide +kernel), by decide +kernel, by decide +kernel, by decide +kernel⟩
theorem fv_98 : Cond.instanceMethod (na_mi 98).1 ∈ na_Tg ∧ Cond.selects (na_mi 98).1.cls (na_mi 98).1 (na_mi 98).1 ∈ na_Tg ∧ Cond.initialized (na_mi 98).1.cls ∈ na_Tg ∧ Cond.code (na_mi 98).1 (na_mi 98).2.1 (na_mi 98).2.2.1 (na_mi 98).2.2.2.1 ∈ na_Tg ∧ (na_mi 98).1.cls ≠ "java/lang/invoke/MethodHandle" ∧ (na_mi 98).1.cls ≠ "java/lang/invoke/VarHandle" ∧ (parseMethodDescriptor (na_mi 98).1.desc).map (fun d => d.parameters.length) = some (3 - 1) ∧ 1 ≤ 3 ∧ ((4 = 9 ∧ (na_mi 98).1.cls = RJ0) ∨ (4 ≠ 9 ∧ ∃ q, vwCl[4]? = some q ∧ q.1 = (na_mi 98).1.cls)) := ⟨na_mem (i := 801) (by decide +kernel) (by decide +kernel), na_mem (i := 23) (by decide +kernel) (by decide +kernel), na_mem (i := 67) (by decide +kernel) (by decide +kernel), na_mem (i := 802) (by decide +kernel) (by decide +kernel), by decide +kernel, by decide +kernel, by decide +kernel, by decide, Or.inr ⟨by decide, _, rfl, by decide +kernel⟩⟩
theorem fv_99 : Cond.instanceMethod (na_mi 99).1 ∈ na_Tg ∧ Cond.selects (na_mi 99).1.cls (na_mi 99).1 (na_mi 99).1 ∈ na_Tg ∧ Cond.initialized (na_mi 99).1.cls ∈ na_Tg ∧ Cond.code (na_mi 99).1 (na_mi 99).2.1 (na_mi 99).2.2.1 (na_mi 99).2.2.2.1 ∈ na_Tg ∧ (na_mi 99).1.cls ≠ "java/lang/invoke/MethodHandle" ∧ (na_mi 99).1.cls ≠ "java/lang/invoke/VarHandle" ∧ (parseMethodDescriptor (na_mi 99).1.desc).map (fun d => d.parameters.length) = some (4 - 1) ∧ 1 ≤ 4 ∧ ((4 = 9 ∧ (na_mi 99).1.cls = RJ0) ∨ (4 ≠ 9 ∧ ∃ q, vwCl[4]? = some q ∧ q.1 = (na_mi 99).1.cls)) := ⟨na_mem (i := 841) (by decide +kernel) (by decide +kernel), na_mem (i := 29) (by decide +kernel) (by decide +kernel), na_mem (i := 67) (by decide +kernel) (by decide +kernel), na_mem (i := 842) (by decide +kernel) (by decide +kernel), by decide +kernel, by decide +kernel, by decide +kernel, by decide, Or.inr ⟨by decide, _, rfl, by decide +kernel⟩⟩
theorem fv_100 : Cond.instanceMethod (na_mi 100).1 ∈ na_Tg ∧ Cond.selects (na_mi 100).1.cls (na_mi 100).1 (na_mi 100).1 ∈ na_Tg ∧ Cond.initialized (na_mi 100).1.cls ∈ na_Tg ∧ Cond.code (na_mi 100).1 (na_mi 100).2.1 (na_mi 100).2.2.1 (na_mi 100).2.2.2.1 ∈ na_Tg ∧ (na_mi 100).1.cls ≠ "java/lang/invoke/MethodHandle" ∧ (na_mi 100).1.cls ≠ "java/lang/invoke/VarHandle" ∧ (parseMethodDescriptor (na_mi 100).1.desc).map (fun d => d.parameters.length) = some (3 - 1) ∧ 1 ≤ 3 ∧ ((4 = 9 ∧ (na_mi 100).1.cls = RJ0) ∨ (4 ≠ 9 ∧ ∃ q, vwCl[4]? = some q ∧ q.1 = (na_mi 100).1.cls)) := ⟨na_mem (i := 785) (by decide +kernel) (by decide +kernel), na_mem (i := 20) (by decide +kernel) (by decide +kernel), na_mem (i := 67) (by decide +kernel) (by decide +kernel), na_mem (i := 786) (by decide +kernel) (by decide +kernel), by decide +kernel, by decide +kernel, by decide +kernel, by decide, Or.inr ⟨by decide, _, rfl, by decide +kernel⟩⟩
theorem fv_101 : Cond.instanceMethod (na_mi 101).1 ∈ na_Tg ∧ Cond.selects (na_mi 101).1.cls (na_mi 101).1 (na_mi 101).1 ∈ na_Tg ∧ Cond.initialized (na_mi 101).1.cls ∈ na_Tg ∧ Cond.code (na_mi 101).1 (na_mi 101).2.1 (na_mi 101).2.2.1 (na_mi 101).2.2.2.1 ∈ na_Tg ∧ (na_mi 101).1.cls ≠ "java/lang/invoke/MethodHandle" ∧ (na_mi 101).1.cls ≠ "java/lang/invoke/VarHandle" ∧ (parseMethodDescriptor (na_mi 101).1.desc).map (fun d => d.parameters.length) = some (4 - 1) ∧ 1 ≤ 4 ∧ ((4 = 9 ∧ (na_mi 101).1.cls = RJ0) ∨ (4 ≠ 9 ∧ ∃ q, vwCl[4]? = some q ∧ q.1 = (na_mi 101).1.cls)) := ⟨na_mem (i := 789) (by decide +kernel) (by decide +kernel), na_mem (i := 21) (by decide +kernel) (by decide +kernel), na_mem (i := 67) (by decide +kernel) (by decide +kernel), na_mem (i := 790) (by decide +kernel) (by decide +kernel), by decide +kernel, by decide +kernel, by decide +kernel, by decide, Or.inr ⟨by decide, _, rfl, by decide +kernel⟩⟩
theorem fv_102 : Cond.instanceMethod (na_mi 102).1 ∈ na_Tg ∧ Cond.selects (na_mi 102).1.cls (na_mi 102).1 (na_mi 102).1 ∈ na_Tg ∧ Cond.initialized (na_mi 102).1.cls ∈ na_Tg ∧ Cond.code (na_mi 102).1 (na_mi 102).2.1 (na_mi 102).2.2.1 (na_mi 102).2.2.2.1 ∈ na_Tg ∧ (na_mi 102).1.cls ≠ "java/lang/invoke/MethodHandle" ∧ (na_mi 102).1.cls ≠ "java/lang/invoke/VarHandle" ∧ (parseMethodDescriptor (na_mi 102).1.desc).map (fun d => d.parameters.length) = some (2 - 1) ∧ 1 ≤ 2 ∧ ((4 = 9 ∧ (na_mi 102).1.cls = RJ0) ∨ (4 ≠ 9 ∧ ∃ q, vwCl[4]? = some q ∧ q.1 = (na_mi 102).1.cls)) := ⟨na_mem (i := 849) (by decide +kernel) (by decide +kernel), na_mem (i := 30) (by decide +kernel) (by decide +kernel), na_mem (i := 67) (by decide +kernel) (by decide +kernel), na_mem (i := 850) (by decide +kernel) (by decide +kernel), by decide +kernel, by decide +kernel, by decide +kernel, by decide, Or.inr ⟨by decide, _, rfl, by decide +kernel⟩⟩
theorem fs_103 : Cond.static (na_mi 103).1 ∈ na_Tg ∧ Cond.initialized (na_mi 103).1.cls ∈ na_Tg ∧ (na_ww (na_mi 103)).head? = some (.code (na_mi 103).1 (na_mi 103).2.1 (na_mi 103).2.2.1 (na_mi 103).2.2.2.1) ∧ Cond.code (na_mi 103).1 (na_mi 103).2.1 (na_mi 103).2.2.1 (na_mi 103).2.2.2.1 ∈ na_Tg ∧ (na_mi 103).1.cls ≠ "java/lang/invoke/MethodHandle" ∧ (na_mi 103).1.cls ≠ "java/lang/invoke/VarHandle" ∧ (parseMethodDescriptor (na_mi 103).1.desc).map (fun d => d.parameters.length) = some 1 := ⟨na_mem (i := 770) (by decide +kernel) (by decide +kernel), na_mem (i := 67) (by decide +kernel) (by decide +kernel), rfl, na_mem (i := 771) (by decide +kernel) (by decide +kernel), by decide +kernel, by decide +kernel, by decide +kernel⟩
theorem fs_104 : Cond.static (na_mi 104).1 ∈ na_Tg ∧ Cond.initialized (na_mi 104).1.cls ∈ na_Tg ∧ (na_ww (na_mi 104)).head? = some (.code (na_mi 104).1 (na_mi 104).2.1 (na_mi 104).2.2.1 (na_mi 104).2.2.2.1) ∧ Cond.code (na_mi 104).1 (na_mi 104).2.1 (na_mi 104).2.2.1 (na_mi 104).2.2.2.1 ∈ na_Tg ∧ (na_mi 104).1.cls ≠ "java/lang/invoke/MethodHandle" ∧ (na_mi 104).1.cls ≠ "java/lang/invoke/VarHandle" ∧ (parseMethodDescriptor (na_mi 104).1.desc).map (fun d => d.parameters.length) = some 1 := ⟨na_mem (i := 832) (by decide +kernel) (by decide +kernel), na_mem (i := 67) (by decide +kernel) (by decide +kernel), rfl, na_mem (i := 833) (by decide +kernel) (by decide +kernel), by decide +kernel, by decide +kernel, by decide +kernel⟩
theorem fs_105 : Cond.static (na_mi 105).1 ∈ na_Tg ∧ Cond.initialized (na_mi 105).1.cls ∈ na_Tg ∧ (na_ww (na_mi 105)).head? = some (.code (na_mi 105).1 (na_mi 105).2.1 (na_mi 105).2.2.1 (na_mi 105).2.2.2.1) ∧ Cond.code (na_mi 105).1 (na_mi 105).2.1 (na_mi 105).2.2.1 (na_mi 105).2.2.2.1 ∈ na_Tg ∧ (na_mi 105).1.cls ≠ "java/lang/invoke/MethodHandle" ∧ (na_mi 105).1.cls ≠ "java/lang/invoke/VarHandle" ∧ (parseMethodDescriptor (na_mi 105).1.desc).map (fun d => d.parameters.length) = some 1 := ⟨na_mem (i := 962) (by decide +kernel) (by decide +kernel), na_mem (i := 67) (by decide +kernel) (by decide +kernel), rfl, na_mem (i := 963) (by decide +kernel) (by decide +kernel), by decide +kernel, by decide +kernel, by decide +kernel⟩
theorem fs_106 : Cond.static (na_mi 106).1 ∈ na_Tg ∧ Cond.initialized (na_mi 106).1.cls ∈ na_Tg ∧ (na_ww (na_mi 106)).head? = some (.code (na_mi 106).1 (na_mi 106).2.1 (na_mi 106).2.2.1 (na_mi 106).2.2.2.1) ∧ Cond.code (na_mi 106).1 (na_mi 106).2.1 (na_mi 106).2.2.1 (na_mi 106).2.2.2.1 ∈ na_Tg ∧ (na_mi 106).1.cls ≠ "java/lang/invoke/MethodHandle" ∧ (na_mi 106).1.cls ≠ "java/lang/invoke/VarHandle" ∧ (parseMethodDescriptor (na_mi 106).1.desc).map (fun d => d.parameters.length) = some 2 := ⟨na_mem (i := 776) (by decide +kernel) (by decide +kernel), na_mem (i := 67) (by decide +kernel) (by decide +kernel), rfl, na_mem (i := 777) (by decide +kernel) (by decide +kernel), by decide +kernel, by decide +kernel, by decide +kernel⟩
theorem fv_107 : Cond.instanceMethod (na_mi 107).1 ∈ na_Tg ∧ Cond.selects (na_mi 107).1.cls (na_mi 107).1 (na_mi 107).1 ∈ na_Tg ∧ Cond.initialized (na_mi 107).1.cls ∈ na_Tg ∧ Cond.code (na_mi 107).1 (na_mi 107).2.1 (na_mi 107).2.2.1 (na_mi 107).2.2.2.1 ∈ na_Tg ∧ (na_mi 107).1.cls ≠ "java/lang/invoke/MethodHandle" ∧ (na_mi 107).1.cls ≠ "java/lang/invoke/VarHandle" ∧ (parseMethodDescriptor (na_mi 107).1.desc).map (fun d => d.parameters.length) = some (4 - 1) ∧ 1 ≤ 4 ∧ ((4 = 9 ∧ (na_mi 107).1.cls = RJ0) ∨ (4 ≠ 9 ∧ ∃ q, vwCl[4]? = some q ∧ q.1 = (na_mi 107).1.cls)) := ⟨na_mem (i := 766) (by decide +kernel) (by decide +kernel), na_mem (i := 767) (by decide +kernel) (by decide +kernel), na_mem (i := 67) (by decide +kernel) (by decide +kernel), na_mem (i := 768) (by decide +kernel) (by decide +kernel), by decide +kernel, by decide +kernel, by decide +kernel, by decide, Or.inr ⟨by decide, _, rfl, by decide +kernel⟩⟩
theorem fv_108 : Cond.instanceMethod (na_mi 108).1 ∈ na_Tg ∧ Cond.selects (na_mi 108).1.cls (na_mi 108).1 (na_mi 108).1 ∈ na_Tg ∧ Cond.initialized (na_mi 108).1.cls ∈ na_Tg ∧ Cond.code (na_mi 108).1 (na_mi 108).2.1 (na_mi 108).2.2.1 (na_mi 108).2.2.2.1 ∈ na_Tg ∧ (na_mi 108).1.cls ≠ "java/lang/invoke/MethodHandle" ∧ (na_mi 108).1.cls ≠ "java/lang/invoke/VarHandle" ∧ (parseMethodDescriptor (na_mi 108).1.desc).map (fun d => d.parameters.length) = some (2 - 1) ∧ 1 ≤ 2 ∧ ((4 = 9 ∧ (na_mi 108).1.cls = RJ0) ∨ (4 ≠ 9 ∧ ∃ q, vwCl[4]? = some q ∧ q.1 = (na_mi 108).1.cls)) := ⟨na_mem (i := 797) (by decide +kernel) (by decide +kernel), na_mem (i := 22) (by decide +kernel) (by decide +kernel), na_mem (i := 67) (by decide +kernel) (by decide +kernel), na_mem (i := 798) (by decide +kernel) (by decide +kernel), by decide +kernel, by decide +kernel, by decide +kernel, by decide, Or.inr ⟨by decide, _, rfl, by decide +kernel⟩⟩
theorem fv_109 : Cond.instanceMethod (na_mi 109).1 ∈ na_Tg ∧ Cond.selects (na_mi 109).1.cls (na_mi 109).1 (na_mi 109).1 ∈ na_Tg ∧ Cond.initialized (na_mi 109).1.cls ∈ na_Tg ∧ Cond.code (na_mi 109).1 (na_mi 109).2.1 (na_mi 109).2.2.1 (na_mi 109).2.2.2.1 ∈ na_Tg ∧ (na_mi 109).1.cls ≠ "java/lang/invoke/MethodHandle" ∧ (na_mi 109).1.cls ≠ "java/lang/invoke/VarHandle" ∧ (parseMethodDescriptor (na_mi 109).1.desc).map (fun d => d.parameters.length) = some (2 - 1) ∧ 1 ≤ 2 ∧ ((4 = 9 ∧ (na_mi 109).1.cls = RJ0) ∨ (4 ≠ 9 ∧ ∃ q, vwCl[4]? = some q ∧ q.1 = (na_mi 109).1.cls)) := ⟨na_mem (i := 805) (by decide +kernel) (by decide +kernel), na_mem (i := 24) (by decide +kernel) (by decide +kernel), na_mem (i := 67) (by decide +kernel) (by decide +kernel), na_mem (i := 806) (by decide +kernel) (by decide +kernel), by decide +kernel, by decide +kernel, by decide +kernel, by decide, Or.inr ⟨by decide, _, rfl, by decide +kernel⟩⟩
theorem fv_110 : Cond.instanceMethod (na_mi 110).1 ∈ na_Tg ∧ Cond.selects (na_mi 110).1.cls (na_mi 110).1 (na_mi 110).1 ∈ na_Tg ∧ Cond.initialized (na_mi 110).1.cls ∈ na_Tg ∧ Cond.code (na_mi 110).1 (na_mi 110).2.1 (na_mi 110).2.2.1 (na_mi 110).2.2.2.1 ∈ na_Tg ∧ (na_mi 110).1.cls ≠ "java/lang/invoke/MethodHandle" ∧ (na_mi 110).1.cls ≠ "java/lang/invoke/VarHandle" ∧ (parseMethodDescriptor (na_mi 110).1.desc).map (fun d => d.parameters.length) = some (3 - 1) ∧ 1 ≤ 3 ∧ ((4 = 9 ∧ (na_mi 110).1.cls = RJ0) ∨ (4 ≠ 9 ∧ ∃ q, vwCl[4]? = some q ∧ q.1 = (na_mi 110).1.cls)) := ⟨na_mem (i := 792) (by decide +kernel) (by decide +kernel), na_mem (i := 793) (by decide +kernel) (by decide +kernel), na_mem (i := 67) (by decide +kernel) (by decide +kernel), na_mem (i := 794) (by decide +kernel) (by decide +kernel), by decide +kernel, by decide +kernel, by decide +kernel, by decide, Or.inr ⟨by decide, _, rfl, by decide +kernel⟩⟩
theorem fv_111 : Cond.instanceMethod (na_mi 111).1 ∈ na_Tg ∧ Cond.selects (na_mi 111).1.cls (na_mi 111).1 (na_mi 111).1 ∈ na_Tg ∧ Cond.initialized (na_mi 111).1.cls ∈ na_Tg ∧ Cond.code (na_mi 111).1 (na_mi 111).2.1 (na_mi 111).2.2.1 (na_mi 111).2.2.2.1 ∈ na_Tg ∧ (na_mi 111).1.cls ≠ "java/lang/invoke/MethodHandle" ∧ (na_mi 111).1.cls ≠ "java/lang/invoke/VarHandle" ∧ (parseMethodDescriptor (na_mi 111).1.desc).map (fun d => d.parameters.length) = some (3 - 1) ∧ 1 ≤ 3 ∧ ((4 = 9 ∧ (na_mi 111).1.cls = RJ0) ∨ (4 ≠ 9 ∧ ∃ q, vwCl[4]? = some q ∧ q.1 = (na_mi 111).1.cls)) := ⟨na_mem (i := 821) (by decide +kernel) (by decide +kernel), na_mem (i := 27) (by decide +kernel) (by decide +kernel), na_mem (i := 67) (by decide +kernel) (by decide +kernel), na_mem (i := 822) (by decide +kernel) (by decide +kernel), by decide +kernel, by decide +kernel, by decide +kernel, by decide, Or.inr ⟨by decide, _, rfl, by decide +kernel⟩⟩
theorem fv_112 : Cond.instanceMethod (na_mi 112).1 ∈ na_Tg ∧ Cond.selects (na_mi 112).1.cls (na_mi 112).1 (na_mi 112).1 ∈ na_Tg ∧ Cond.initialized (na_mi 112).1.cls ∈ na_Tg ∧ Cond.code (na_mi 112).1 (na_mi 112).2.1 (na_mi 112).2.2.1 (na_mi 112).2.2.2.1 ∈ na_Tg ∧ (na_mi 112).1.cls ≠ "java/lang/invoke/MethodHandle" ∧ (na_mi 112).1.cls ≠ "java/lang/invoke/VarHandle" ∧ (parseMethodDescriptor (na_mi 112).1.desc).map (fun d => d.parameters.length) = some (3 - 1) ∧ 1 ≤ 3 ∧ ((4 = 9 ∧ (na_mi 112).1.cls = RJ0) ∨ (4 ≠ 9 ∧ ∃ q, vwCl[4]? = some q ∧ q.1 = (na_mi 112).1.cls)) := ⟨na_mem (i := 816) (by decide +kernel) (by decide +kernel), na_mem (i := 817) (by decide +kernel) (by decide +kernel), na_mem (i := 67) (by decide +kernel) (by decide +kernel), na_mem (i := 818) (by decide +kernel) (by decide +kernel), by decide +kernel, by decide +kernel, by decide +kernel, by decide, Or.inr ⟨by decide, _, rfl, by decide +kernel⟩⟩
theorem fv_113 : Cond.instanceMethod (na_mi 113).1 ∈ na_Tg ∧ Cond.selects (na_mi 113).1.cls (na_mi 113).1 (na_mi 113).1 ∈ na_Tg ∧ Cond.initialized (na_mi 113).1.cls ∈ na_Tg ∧ Cond.code (na_mi 113).1 (na_mi 113).2.1 (na_mi 113).2.2.1 (na_mi 113).2.2.2.1 ∈ na_Tg ∧ (na_mi 113).1.cls ≠ "java/lang/invoke/MethodHandle" ∧ (na_mi 113).1.cls ≠ "java/lang/invoke/VarHandle" ∧ (parseMethodDescriptor (na_mi 113).1.desc).map (fun d => d.parameters.length) = some (2 - 1) ∧ 1 ≤ 2 ∧ ((4 = 9 ∧ (na_mi 113).1.cls = RJ0) ∨ (4 ≠ 9 ∧ ∃ q, vwCl[4]? = some q ∧ q.1 = (na_mi 113).1.cls)) := ⟨na_mem (i := 824) (by decide +kernel) (by decide +kernel), na_mem (i := 825) (by decide +kernel) (by decide +kernel), na_mem (i := 67) (by decide +kernel) (by decide +kernel), na_mem (i := 826) (by decide +kernel) (by decide +kernel), by decide +kernel, by decide +kernel, by decide +kernel, by decide, Or.inr ⟨by decide, _, rfl, by decide +kernel⟩⟩
theorem fv_114 : Cond.instanceMethod (na_mi 114).1 ∈ na_Tg ∧ Cond.selects (na_mi 114).1.cls (na_mi 114).1 (na_mi 114).1 ∈ na_Tg ∧ Cond.initialized (na_mi 114).1.cls ∈ na_Tg ∧ Cond.code (na_mi 114).1 (na_mi 114).2.1 (na_mi 114).2.2.1 (na_mi 114).2.2.2.1 ∈ na_Tg ∧ (na_mi 114).1.cls ≠ "java/lang/invoke/MethodHandle" ∧ (na_mi 114).1.cls ≠ "java/lang/invoke/VarHandle" ∧ (parseMethodDescriptor (na_mi 114).1.desc).map (fun d => d.parameters.length) = some (4 - 1) ∧ 1 ≤ 4 ∧ ((4 = 9 ∧ (na_mi 114).1.cls = RJ0) ∨ (4 ≠ 9 ∧ ∃ q, vwCl[4]? = some q ∧ q.1 = (na_mi 114).1.cls)) := ⟨na_mem (i := 837) (by decide +kernel) (by decide +kernel), na_mem (i := 28) (by decide +kernel) (by decide +kernel), na_mem (i := 67) (by decide +kernel) (by decide +kernel), na_mem (i := 838) (by decide +kernel) (by decide +kernel), by decide +kernel, by decide +kernel, by decide +kernel, by decide, Or.inr ⟨by decide, _, rfl, by decide +kernel⟩⟩
theorem fv_115 : Cond.instanceMethod (na_mi 115).1 ∈ na_Tg ∧ Cond.selects (na_mi 115).1.cls (na_mi 115).1 (na_mi 115).1 ∈ na_Tg ∧ Cond.initialized (na_mi 115).1.cls ∈ na_Tg ∧ Cond.code (na_mi 115).1 (na_mi 115).2.1 (na_mi 115).2.2.1 (na_mi 115).2.2.2.1 ∈ na_Tg ∧ (na_mi 115).1.cls ≠ "java/lang/invoke/MethodHandle" ∧ (na_mi 115).1.cls ≠ "java/lang/invoke/VarHandle" ∧ (parseMethodDescriptor (na_mi 115).1.desc).map (fun d => d.parameters.length) = some (3 - 1) ∧ 1 ≤ 3 ∧ ((4 = 9 ∧ (na_mi 115).1.cls = RJ0) ∨ (4 ≠ 9 ∧ ∃ q, vwCl[4]? = some q ∧ q.1 = (na_mi 115).1.cls)) := ⟨na_mem (i := 828) (by decide +kernel) (by decide +kernel), na_mem (i := 829) (by decide +kernel) (by decide +kernel), na_mem (i := 67) (by decide +kernel) (by decide +kernel), na_mem (i := 830) (by decide +kernel) (by decide +kernel), by decide +kernel, by decide +kernel, by decide +kernel, by decide, Or.inr ⟨by decide, _, rfl, by decide +kernel⟩⟩
theorem fv_116 : Cond.instanceMethod (na_mi 116).1 ∈ na_Tg ∧ Cond.selects (na_mi 116).1.cls (na_mi 116).1 (na_mi 116).1 ∈ na_Tg ∧ Cond.initialized (na_mi 116).1.cls ∈ na_Tg ∧ Cond.code (na_mi 116).1 (na_mi 116).2.1 (na_mi 116).2.2.1 (na_mi 116).2.2.2.1 ∈ na_Tg ∧ (na_mi 116).1.cls ≠ "java/lang/invoke/MethodHandle" ∧ (na_mi 116).1.cls ≠ "java/lang/invoke/VarHandle" ∧ (parseMethodDescriptor (na_mi 116).1.desc).map (fun d => d.parameters.length) = some (2 - 1) ∧ 1 ≤ 2 ∧ ((4 = 9 ∧ (na_mi 116).1.cls = RJ0) ∨ (4 ≠ 9 ∧ ∃ q, vwCl[4]? = some q ∧ q.1 = (na_mi 116).1.cls)) := ⟨na_mem (i := 813) (by decide +kernel) (by decide +kernel), na_mem (i := 26) (by decide +kernel) (by decide +kernel), na_mem (i := 67) (by decide +kernel) (by decide +kernel), na_mem (i := 814) (by decide +kernel) (by decide +kernel), by decide +kernel, by decide +kernel, by decide +kernel, by decide, Or.inr ⟨by decide, _, rfl, by decide +kernel⟩⟩
theorem fv_117 : Cond.instanceMethod (na_mi 117).1 ∈ na_Tg ∧ Cond.selects (na_mi 117).1.cls (na_mi 117).1 (na_mi 117).1 ∈ na_Tg ∧ Cond.initialized (na_mi 117).1.cls ∈ na_Tg ∧ Cond.code (na_mi 117).1 (na_mi 117).2.1 (na_mi 117).2.2.1 (na_mi 117).2.2.2.1 ∈ na_Tg ∧ (na_mi 117).1.cls ≠ "java/lang/invoke/MethodHandle" ∧ (na_mi 117).1.cls ≠ "java/lang/invoke/VarHandle" ∧ (parseMethodDescriptor (na_mi 117).1.desc).map (fun d => d.parameters.length) = some (2 - 1) ∧ 1 ≤ 2 ∧ ((4 = 9 ∧ (na_mi 117).1.cls = RJ0) ∨ (4 ≠ 9 ∧ ∃ q, vwCl[4]? = some q ∧ q.1 = (na_mi 117).1.cls)) := ⟨na_mem (i := 809) (by decide +kernel) (by decide +kernel), na_mem (i := 25) (by decide +kernel) (by decide +kernel), na_mem (i := 67) (by decide +kernel) (by decide +kernel), na_mem (i := 810) (by decide +kernel) (by decide +kernel), by decide +kernel, by decide +kernel, by decide +kernel, by decide, Or.inr ⟨by decide, _, rfl, by decide +kernel⟩⟩
theorem fv_118 : Cond.instanceMethod (na_mi 118).1 ∈ na_Tg ∧ Cond.selects (na_mi 118).1.cls (na_mi 118).1 (na_mi 118).1 ∈ na_Tg ∧ Cond.initialized (na_mi 118).1.cls ∈ na_Tg ∧ Cond.code (na_mi 118).1 (na_mi 118).2.1 (na_mi 118).2.2.1 (na_mi 118).2.2.2.1 ∈ na_Tg ∧ (na_mi 118).1.cls ≠ "java/lang/invoke/MethodHandle" ∧ (na_mi 118).1.cls ≠ "java/lang/invoke/VarHandle" ∧ (parseMethodDescriptor (na_mi 118).1.desc).map (fun d => d.parameters.length) = some (3 - 1) ∧ 1 ≤ 3 ∧ ((4 = 9 ∧ (na_mi 118).1.cls = RJ0) ∨ (4 ≠ 9 ∧ ∃ q, vwCl[4]? = some q ∧ q.1 = (na_mi 118).1.cls)) := ⟨na_mem (i := 844) (by decide +kernel) (by decide +kernel), na_mem (i := 845) (by decide +kernel) (by decide +kernel), na_mem (i := 67) (by decide +kernel) (by decide +kernel), na_mem (i := 846) (by decide +kernel) (by decide +kernel), by decide +kernel, by decide +kernel, by decide +kernel, by decide, Or.inr ⟨by decide, _, rfl, by decide +kernel⟩⟩
theorem fv_119 : Cond.instanceMethod (na_mi 119).1 ∈ na_Tg ∧ Cond.selects (na_mi 119).1.cls (na_mi 119).1 (na_mi 119).1 ∈ na_Tg ∧ Cond.initialized (na_mi 119).1.cls ∈ na_Tg ∧ Cond.code (na_mi 119).1 (na_mi 119).2.1 (na_mi 119).2.2.1 (na_mi 119).2.2.2.1 ∈ na_Tg ∧ (na_mi 119).1.cls ≠ "java/lang/invoke/MethodHandle" ∧ (na_mi 119).1.cls ≠ "java/lang/invoke/VarHandle" ∧ (parseMethodDescriptor (na_mi 119).1.desc).map (fun d => d.parameters.length) = some (4 - 1) ∧ 1 ≤ 4 ∧ ((4 = 9 ∧ (na_mi 119).1.cls = RJ0) ∨ (4 ≠ 9 ∧ ∃ q, vwCl[4]? = some q ∧ q.1 = (na_mi 119).1.cls)) := ⟨na_mem (i := 852) (by decide +kernel) (by decide +kernel), na_mem (i := 853) (by decide +kernel) (by decide +kernel), na_mem (i := 67) (by decide +kernel) (by decide +kernel), na_mem (i := 854) (by decide +kernel) (by decide +kernel), by decide +kernel, by decide +kernel, by decide +kernel, by decide, Or.inr ⟨by decide, _, rfl, by decide +kernel⟩⟩
theorem fv_120 : Cond.instanceMethod (na_mi 120).1 ∈ na_Tg ∧ Cond.selects (na_mi 120).1.cls (na_mi 120).1 (na_mi 120).1 ∈ na_Tg ∧ Cond.initialized (na_mi 120).1.cls ∈ na_Tg ∧ Cond.code (na_mi 120).1 (na_mi 120).2.1 (na_mi 120).2.2.1 (na_mi 120).2.2.2.1 ∈ na_Tg ∧ (na_mi 120).1.cls ≠ "java/lang/invoke/MethodHandle" ∧ (na_mi 120).1.cls ≠ "java/lang/invoke/VarHandle" ∧ (parseMethodDescriptor (na_mi 120).1.desc).map (fun d => d.parameters.length) = some (3 - 1) ∧ 1 ≤ 3 ∧ ((4 = 9 ∧ (na_mi 120).1.cls = RJ0) ∨ (4 ≠ 9 ∧ ∃ q, vwCl[4]? = some q ∧ q.1 = (na_mi 120).1.cls)) := ⟨na_mem (i := 856) (by decide +kernel) (by decide +kernel), na_mem (i := 857) (by decide +kernel) (by decide +kernel), na_mem (i := 67) (by decide +kernel) (by decide +kernel), na_mem (i := 858) (by decide +kernel) (by decide +kernel), by decide +kernel, by decide +kernel, by decide +kernel, by decide, Or.inr ⟨by decide, _, rfl, by decide +kernel⟩⟩
theorem fv_121 : Cond.instanceMethod (na_mi 121).1 ∈ na_Tg ∧ Cond.selects (na_mi 121).1.cls (na_mi 121).1 (na_mi 121).1 ∈ na_Tg ∧ Cond.initialized (na_mi 121).1.cls ∈ na_Tg ∧ Cond.code (na_mi 121).1 (na_mi 121).2.1 (na_mi 121).2.2.1 (na_mi 121).2.2.2.1 ∈ na_Tg ∧ (na_mi 121).1.cls ≠ "java/lang/invoke/MethodHandle" ∧ (na_mi 121).1.cls ≠ "java/lang/invoke/VarHandle" ∧ (parseMethodDescriptor (na_mi 121).1.desc).map (fun d => d.parameters.length) = some (3 - 1) ∧ 1 ≤ 3 ∧ ((4 = 9 ∧ (na_mi 121).1.cls = RJ0) ∨ (4 ≠ 9 ∧ ∃ q, vwCl[4]? = some q ∧ q.1 = (na_mi 121).1.cls)) := ⟨na_mem (i := 860) (by decide +kernel) (by decide +kernel), na_mem (i := 861) (by decide +kernel) (by decide +kernel), na_mem (i := 67) (by decide +kernel) (by decide +kernel), na_mem (i := 862) (by decide +kernel) (by decide +kernel), by decide +kernel, by decide +kernel, by decide +kernel, by decide, Or.inr ⟨by decide, _, rfl, by decide +kernel⟩⟩
theorem fv_122 : Cond.instanceMethod (na_mi 122).1 ∈ na_Tg ∧ Cond.selects (na_mi 122).1.cls (na_mi 122).1 (na_mi 122).1 ∈ na_Tg ∧ Cond.initialized (na_mi 122).1.cls ∈ na_Tg ∧ Cond.code (na_mi 122).1 (na_mi 122).2.1 (na_mi 122).2.2.1 (na_mi 122).2.2.2.1 ∈ na_Tg ∧ (na_mi 122).1.cls ≠ "java/lang/invoke/MethodHandle" ∧ (na_mi 122).1.cls ≠ "java/lang/invoke/VarHandle" ∧ (parseMethodDescriptor (na_mi 122).1.desc).map (fun d => d.parameters.length) = some (2 - 1) ∧ 1 ≤ 2 ∧ ((4 = 9 ∧ (na_mi 122).1.cls = RJ0) ∨ (4 ≠ 9 ∧ ∃ q, vwCl[4]? = some q ∧ q.1 = (na_mi 122).1.cls)) := ⟨na_mem (i := 870) (by decide +kernel) (by decide +kernel), na_mem (i := 31) (by decide +kernel) (by decide +kernel), na_mem (i := 67) (by decide +kernel) (by decide +kernel), na_mem (i := 871) (by decide +kernel) (by decide +kernel), by decide +kernel, by decide +kernel, by decide +kernel, by decide, Or.inr ⟨by decide, _, rfl, by decide +kernel⟩⟩
theorem fv_123 : Cond.instanceMethod (na_mi 123).1 ∈ na_Tg ∧ Cond.selects (na_mi 123).1.cls (na_mi 123).1 (na_mi 123).1 ∈ na_Tg ∧ Cond.initialized (na_mi 123).1.cls ∈ na_Tg ∧ Cond.code (na_mi 123).1 (na_mi 123).2.1 (na_mi 123).2.2.1 (na_mi 123).2.2.2.1 ∈ na_Tg ∧ (na_mi 123).1.cls ≠ "java/lang/invoke/MethodHandle" ∧ (na_mi 123).1.cls ≠ "java/lang/invoke/VarHandle" ∧ (parseMethodDescriptor (na_mi 123).1.desc).map (fun d => d.parameters.length) = some (2 - 1) ∧ 1 ≤ 2 ∧ ((4 = 9 ∧ (na_mi 123).1.cls = RJ0) ∨ (4 ≠ 9 ∧ ∃ q, vwCl[4]? = some q ∧ q.1 = (na_mi 123).1.cls)) := ⟨na_mem (i := 865) (by decide +kernel) (by decide +kernel), na_mem (i := 866) (by decide +kernel) (by decide +kernel), na_mem (i := 67) (by decide +kernel) (by decide +kernel), na_mem (i := 867) (by decide +kernel) (by decide +kernel), by decide +kernel, by decide +kernel, by decide +kernel, by decide, Or.inr ⟨by decide, _, rfl, by decide +kernel⟩⟩
theorem fv_124 : Cond.instanceMethod (na_mi 124).1 ∈ na_Tg ∧ Cond.selects (na_mi 124).1.cls (na_mi 124).1 (na_mi 124).1 ∈ na_Tg ∧ Cond.initialized (na_mi 124).1.cls ∈ na_Tg ∧ Cond.code (na_mi 124).1 (na_mi 124).2.1 (na_mi 124).2.2.1 (na_mi 124).2.2.2.1 ∈ na_Tg ∧ (na_mi 124).1.cls ≠ "java/lang/invoke/MethodHandle" ∧ (na_mi 124).1.cls ≠ "java/lang/invoke/VarHandle" ∧ (parseMethodDescriptor (na_mi 124).1.desc).map (fun d => d.parameters.length) = some (2 - 1) ∧ 1 ≤ 2 ∧ ((4 = 9 ∧ (na_mi 124).1.cls = RJ0) ∨ (4 ≠ 9 ∧ ∃ q, vwCl[4]? = some q ∧ q.1 = (na_mi 124).1.cls)) := ⟨na_mem (i := 883) (by decide +kernel) (by decide +kernel), na_mem (i := 33) (by decide +kernel) (by decide +kernel), na_mem (i := 67) (by decide +kernel) (by decide +kernel), na_mem (i := 884) (by decide +kernel) (by decide +kernel), by decide +kernel, by decide +kernel, by decide +kernel, by decide, Or.inr ⟨by decide, _, rfl, by decide +kernel⟩⟩
theorem fv_125 : Cond.instanceMethod (na_mi 125).1 ∈ na_Tg ∧ Cond.selects (na_mi 125).1.cls (na_mi 125).1 (na_mi 125).1 ∈ na_Tg ∧ Cond.initialized (na_mi 125).1.cls ∈ na_Tg ∧ Cond.code (na_mi 125).1 (na_mi 125).2.1 (na_mi 125).2.2.1 (na_mi 125).2.2.2.1 ∈ na_Tg ∧ (na_mi 125).1.cls ≠ "java/lang/invoke/MethodHandle" ∧ (na_mi 125).1.cls ≠ "java/lang/invoke/VarHandle" ∧ (parseMethodDescriptor (na_mi 125).1.desc).map (fun d => d.parameters.length) = some (2 - 1) ∧ 1 ≤ 2 ∧ ((4 = 9 ∧ (na_mi 125).1.cls = RJ0) ∨ (4 ≠ 9 ∧ ∃ q, vwCl[4]? = some q ∧ q.1 = (na_mi 125).1.cls)) := ⟨na_mem (i := 887) (by decide +kernel) (by decide +kernel), na_mem (i := 34) (by decide +kernel) (by decide +kernel), na_mem (i := 67) (by decide +kernel) (by decide +kernel), na_mem (i := 888) (by decide +kernel) (by decide +kernel), by decide +kernel, by decide +kernel, by decide +kernel, by decide, Or.inr ⟨by decide, _, rfl, by decide +kernel⟩⟩
theorem fv_126 : Cond.instanceMethod (na_mi 126).1 ∈ na_Tg ∧ Cond.selects (na_mi 126).1.cls (na_mi 126).1 (na_mi 126).1 ∈ na_Tg ∧ Cond.initialized (na_mi 126).1.cls ∈ na_Tg ∧ Cond.code (na_mi 126).1 (na_mi 126).2.1 (na_mi 126).2.2.1 (na_mi 126).2.2.2.1 ∈ na_Tg ∧ (na_mi 126).1.cls ≠ "java/lang/invoke/MethodHandle" ∧ (na_mi 126).1.cls ≠ "java/lang/invoke/VarHandle" ∧ (parseMethodDescriptor (na_mi 126).1.desc).map (fun d => d.parameters.length) = some (2 - 1) ∧ 1 ≤ 2 ∧ ((4 = 9 ∧ (na_mi 126).1.cls = RJ0) ∨ (4 ≠ 9 ∧ ∃ q, vwCl[4]? = some q ∧ q.1 = (na_mi 126).1.cls)) := ⟨na_mem (i := 894) (by decide +kernel) (by decide +kernel), na_mem (i := 35) (by decide +kernel) (by decide +kernel), na_mem (i := 67) (by decide +kernel) (by decide +kernel), na_mem (i := 895) (by decide +kernel) (by decide +kernel), by decide +kernel, by decide +kernel, by decide +kernel, by decide, Or.inr ⟨by decide, _, rfl, by decide +kernel⟩⟩
theorem fv_127 : Cond.instanceMethod (na_mi 127).1 ∈ na_Tg ∧ Cond.selects (na_mi 127).1.cls (na_mi 127).1 (na_mi 127).1 ∈ na_Tg ∧ Cond.initialized (na_mi 127).1.cls ∈ na_Tg ∧ Cond.code (na_mi 127).1 (na_mi 127).2.1 (na_mi 127).2.2.1 (na_mi 127).2.2.2.1 ∈ na_Tg ∧ (na_mi 127).1.cls ≠ "java/lang/invoke/MethodHandle" ∧ (na_mi 127).1.cls ≠ "java/lang/invoke/VarHandle" ∧ (parseMethodDescriptor (na_mi 127).1.desc).map (fun d => d.parameters.length) = some (2 - 1) ∧ 1 ≤ 2 ∧ ((4 = 9 ∧ (na_mi 127).1.cls = RJ0) ∨ (4 ≠ 9 ∧ ∃ q, vwCl[4]? = some q ∧ q.1 = (na_mi 127).1.cls)) := ⟨na_mem (i := 898) (by decide +kernel) (by decide +kernel), na_mem (i := 36) (by decide +kernel) (by decide +kernel), na_mem (i := 67) (by decide +kernel) (by decide +kernel), na_mem (i := 899) (by decide +kernel) (by decide +kernel), by decide +kernel, by decide +kernel, by decide +kernel, by decide, Or.inr ⟨by decide, _, rfl, by decide +kernel⟩⟩
theorem fv_128 : Cond.instanceMethod (na_mi 128).1 ∈ na_Tg ∧ Cond.selects (na_mi 128).1.cls (na_mi 128).1 (na_mi 128).1 ∈ na_Tg ∧ Cond.initialized (na_mi 128).1.cls ∈ na_Tg ∧ Cond.code (na_mi 128).1 (na_mi 128).2.1 (na_mi 128).2.2.1 (na_mi 128).2.2.2.1 ∈ na_Tg ∧ (na_mi 128).1.cls ≠ "java/lang/invoke/MethodHandle" ∧ (na_mi 128).1.cls ≠ "java/lang/invoke/VarHandle" ∧ (parseMethodDescriptor (na_mi 128).1.desc).map (fun d => d.parameters.length) = some (1 - 1) ∧ 1 ≤ 1 ∧ ((4 = 9 ∧ (na_mi 128).1.cls = RJ0) ∨ (4 ≠ 9 ∧ ∃ q, vwCl[4]? = some q ∧ q.1 = (na_mi 128).1.cls)) := ⟨na_mem (i := 879) (by decide +kernel) (by decide +kernel), na_mem (i := 32) (by decide +kernel) (by decide +kernel), na_mem (i := 67) (by decide +kernel) (by decide +kernel), na_mem (i := 880) (by decide +kernel) (by decide +kernel), by decide +kernel, by decide +kernel, by decide +kernel, by decide, Or.inr ⟨by decide, _, rfl, by decide +kernel⟩⟩
theorem fv_129 : Cond.instanceMethod (na_mi 129).1 ∈ na_Tg ∧ Cond.selects (na_mi 129).1.cls (na_mi 129).1 (na_mi 129).1 ∈ na_Tg ∧ Cond.initialized (na_mi 129).1.cls ∈ na_Tg ∧ Cond.code (na_mi 129).1 (na_mi 129).2.1 (na_mi 129).2.2.1 (na_mi 129).2.2.2.1 ∈ na_Tg ∧ (na_mi 129).1.cls ≠ "java/lang/invoke/MethodHandle" ∧ (na_mi 129).1.cls ≠ "java/lang/invoke/VarHandle" ∧ (parseMethodDescriptor (na_mi 129).1.desc).map (fun d => d.parameters.length) = some (2 - 1) ∧ 1 ≤ 2 ∧ ((4 = 9 ∧ (na_mi 129).1.cls = RJ0) ∨ (4 ≠ 9 ∧ ∃ q, vwCl[4]? = some q ∧ q.1 = (na_mi 129).1.cls)) := ⟨na_mem (i := 902) (by decide +kernel) (by decide +kernel), na_mem (i := 37) (by decide +kernel) (by decide +kernel), na_mem (i := 67) (by decide +kernel) (by decide +kernel), na_mem (i := 903) (by decide +kernel) (by decide +kernel), by decide +kernel, by decide +kernel, by decide +kernel, by decide, Or.inr ⟨by decide, _, rfl, by decide +kernel⟩⟩
theorem fv_130 : Cond.instanceMethod (na_mi 130).1 ∈ na_Tg ∧ Cond.selects (na_mi 130).1.cls (na_mi 130).1 (na_mi 130).1 ∈ na_Tg ∧ Cond.initialized (na_mi 130).1.cls ∈ na_Tg ∧ Cond.code (na_mi 130).1 (na_mi 130).2.1 (na_mi 130).2.2.1 (na_mi 130).2.2.2.1 ∈ na_Tg ∧ (na_mi 130).1.cls ≠ "java/lang/invoke/MethodHandle" ∧ (na_mi 130).1.cls ≠ "java/lang/invoke/VarHandle" ∧ (parseMethodDescriptor (na_mi 130).1.desc).map (fun d => d.parameters.length) = some (1 - 1) ∧ 1 ≤ 1 ∧ ((4 = 9 ∧ (na_mi 130).1.cls = RJ0) ∨ (4 ≠ 9 ∧ ∃ q, vwCl[4]? = some q ∧ q.1 = (na_mi 130).1.cls)) := ⟨na_mem (i := 910) (by decide +kernel) (by decide +kernel), na_mem (i := 38) (by decide +kernel) (by decide +kernel), na_mem (i := 67) (by decide +kernel) (by decide +kernel), na_mem (i := 911) (by decide +kernel) (by decide +kernel), by decide +kernel, by decide +kernel, by decide +kernel, by decide, Or.inr ⟨by decide, _, rfl, by decide +kernel⟩⟩
theorem fv_131 : Cond.instanceMethod (na_mi 131).1 ∈ na_Tg ∧ Cond.selects (na_mi 131).1.cls (na_mi 131).1 (na_mi 131).1 ∈ na_Tg ∧ Cond.initialized (na_mi 131).1.cls ∈ na_Tg ∧ Cond.code (na_mi 131).1 (na_mi 131).2.1 (na_mi 131).2.2.1 (na_mi 131).2.2.2.1 ∈ na_Tg ∧ (na_mi 131).1.cls ≠ "java/lang/invoke/MethodHandle" ∧ (na_mi 131).1.cls ≠ "java/lang/invoke/VarHandle" ∧ (parseMethodDescriptor (na_mi 131).1.desc).map (fun d => d.parameters.length) = some (1 - 1) ∧ 1 ≤ 1 ∧ ((4 = 9 ∧ (na_mi 131).1.cls = RJ0) ∨ (4 ≠ 9 ∧ ∃ q, vwCl[4]? = some q ∧ q.1 = (na_mi 131).1.cls)) := ⟨na_mem (i := 914) (by decide +kernel) (by decide +kernel), na_mem (i := 39) (by decide +kernel) (by decide +kernel), na_mem (i := 67) (by decide +kernel) (by decide +kernel), na_mem (i := 915) (by decide +kernel) (by decide +kernel), by decide +kernel, by decide +kernel, by decide +kernel, by decide, Or.inr ⟨by decide, _, rfl, by decide +kernel⟩⟩
theorem fv_132 : Cond.instanceMethod (na_mi 132).1 ∈ na_Tg ∧ Cond.selects (na_mi 132).1.cls (na_mi 132).1 (na_mi 132).1 ∈ na_Tg ∧ Cond.initialized (na_mi 132).1.cls ∈ na_Tg ∧ Cond.code (na_mi 132).1 (na_mi 132).2.1 (na_mi 132).2.2.1 (na_mi 132).2.2.2.1 ∈ na_Tg ∧ (na_mi 132).1.cls ≠ "java/lang/invoke/MethodHandle" ∧ (na_mi 132).1.cls ≠ "java/lang/invoke/VarHandle" ∧ (parseMethodDescriptor (na_mi 132).1.desc).map (fun d => d.parameters.length) = some (2 - 1) ∧ 1 ≤ 2 ∧ ((4 = 9 ∧ (na_mi 132).1.cls = RJ0) ∨ (4 ≠ 9 ∧ ∃ q, vwCl[4]? = some q ∧ q.1 = (na_mi 132).1.cls)) := ⟨na_mem (i := 873) (by decide +kernel) (by decide +kernel), na_mem (i := 874) (by decide +kernel) (by decide +kernel), na_mem (i := 67) (by decide +kernel) (by decide +kernel), na_mem (i := 875) (by decide +kernel) (by decide +kernel), by decide +kernel, by decide +kernel, by decide +kernel, by decide, Or.inr ⟨by decide, _, rfl, by decide +kernel⟩⟩
theorem fv_133 : Cond.instanceMethod (na_mi 133).1 ∈ na_Tg ∧ Cond.selects (na_mi 133).1.cls (na_mi 133).1 (na_mi 133).1 ∈ na_Tg ∧ Cond.initialized (na_mi 133).1.cls ∈ na_Tg ∧ Cond.code (na_mi 133).1 (na_mi 133).2.1 (na_mi 133).2.2.1 (na_mi 133).2.2.2.1 ∈ na_Tg ∧ (na_mi 133).1.cls ≠ "java/lang/invoke/MethodHandle" ∧ (na_mi 133).1.cls ≠ "java/lang/invoke/VarHandle" ∧ (parseMethodDescriptor (na_mi 133).1.desc).map (fun d => d.parameters.length) = some (2 - 1) ∧ 1 ≤ 2 ∧ ((4 = 9 ∧ (na_mi 133).1.cls = RJ0) ∨ (4 ≠ 9 ∧ ∃ q, vwCl[4]? = some q ∧ q.1 = (na_mi 133).1.cls)) := ⟨na_mem (i := 905) (by decide +kernel) (by decide +kernel), na_mem (i := 906) (by decide +kernel) (by decide +kernel), na_mem (i := 67) (by decide +kernel) (by decide +kernel), na_mem (i := 907) (by decide +kernel) (by decide +kernel), by decide +kernel, by decide +kernel, by decide +kernel, by decide, Or.inr ⟨by decide, _, rfl, by decide +kernel⟩⟩
theorem fv_134 : Cond.instanceMethod (na_mi 134).1 ∈ na_Tg ∧ Cond.selects (na_mi 134).1.cls (na_mi 134).1 (na_mi 134).1 ∈ na_Tg ∧ Cond.initialized (na_mi 134).1.cls ∈ na_Tg ∧ Cond.code (na_mi 134).1 (na_mi 134).2.1 (na_mi 134).2.2.1 (na_mi 134).2.2.2.1 ∈ na_Tg ∧ (na_mi 134).1.cls ≠ "java/lang/invoke/MethodHandle" ∧ (na_mi 134).1.cls ≠ "java/lang/invoke/VarHandle" ∧ (parseMethodDescriptor (na_mi 134).1.desc).map (fun d => d.parameters.length) = some (2 - 1) ∧ 1 ≤ 2 ∧ ((4 = 9 ∧ (na_mi 134).1.cls = RJ0) ∨ (4 ≠ 9 ∧ ∃ q, vwCl[4]? = some q ∧ q.1 = (na_mi 134).1.cls)) := ⟨na_mem (i := 926) (by decide +kernel) (by decide +kernel), na_mem (i := 41) (by decide +kernel) (by decide +kernel), na_mem (i := 67) (by decide +kernel) (by decide +kernel), na_mem (i := 927) (by decide +kernel) (by decide +kernel), by decide +kernel, by decide +kernel, by decide +kernel, by decide, Or.inr ⟨by decide, _, rfl, by decide +kernel⟩⟩
theorem fv_135 : Cond.instanceMethod (na_mi 135).1 ∈ na_Tg ∧ Cond.selects (na_mi 135).1.cls (na_mi 135).1 (na_mi 135).1 ∈ na_Tg ∧ Cond.initialized (na_mi 135).1.cls ∈ na_Tg ∧ Cond.code (na_mi 135).1 (na_mi 135).2.1 (na_mi 135).2.2.1 (na_mi 135).2.2.2.1 ∈ na_Tg ∧ (na_mi 135).1.cls ≠ "java/lang/invoke/MethodHandle" ∧ (na_mi 135).1.cls ≠ "java/lang/invoke/VarHandle" ∧ (parseMethodDescriptor (na_mi 135).1.desc).map (fun d => d.parameters.length) = some (4 - 1) ∧ 1 ≤ 4 ∧ ((4 = 9 ∧ (na_mi 135).1.cls = RJ0) ∨ (4 ≠ 9 ∧ ∃ q, vwCl[4]? = some q ∧ q.1 = (na_mi 135).1.cls)) := ⟨na_mem (i := 917) (by decide +kernel) (by decide +kernel), na_mem (i := 918) (by decide +kernel) (by decide +kernel), na_mem (i := 67) (by decide +kernel) (by decide +kernel), na_mem (i := 919) (by decide +kernel) (by decide +kernel), by decide +kernel, by decide +kernel, by decide +kernel, by decide, Or.inr ⟨by decide, _, rfl, by decide +kernel⟩⟩
theorem fv_136 : Cond.instanceMethod (na_mi 136).1 ∈ na_Tg ∧ Cond.selects (na_mi 136).1.cls (na_mi 136).1 (na_mi 136).1 ∈ na_Tg ∧ Cond.initialized (na_mi 136).1.cls ∈ na_Tg ∧ Cond.code (na_mi 136).1 (na_mi 136).2.1 (na_mi 136).2.2.1 (na_mi 136).2.2.2.1 ∈ na_Tg ∧ (na_mi 136).1.cls ≠ "java/lang/invoke/MethodHandle" ∧ (na_mi 136).1.cls ≠ "java/lang/invoke/VarHandle" ∧ (parseMethodDescriptor (na_mi 136).1.desc).map (fun d => d.parameters.length) = some (2 - 1) ∧ 1 ≤ 2 ∧ ((4 = 9 ∧ (na_mi 136).1.cls = RJ0) ∨ (4 ≠ 9 ∧ ∃ q, vwCl[4]? = some q ∧ q.1 = (na_mi 136).1.cls)) := ⟨na_mem (i := 934) (by decide +kernel) (by decide +kernel), na_mem (i := 42) (by decide +kernel) (by decide +kernel), na_mem (i := 67) (by decide +kernel) (by decide +kernel), na_mem (i := 935) (by decide +kernel) (by decide +kernel), by decide +kernel, by decide +kernel, by decide +kernel, by decide, Or.inr ⟨by decide, _, rfl, by decide +kernel⟩⟩
theorem fv_137 : Cond.instanceMethod (na_mi 137).1 ∈ na_Tg ∧ Cond.selects (na_mi 137).1.cls (na_mi 137).1 (na_mi 137).1 ∈ na_Tg ∧ Cond.initialized (na_mi 137).1.cls ∈ na_Tg ∧ Cond.code (na_mi 137).1 (na_mi 137).2.1 (na_mi 137).2.2.1 (na_mi 137).2.2.2.1 ∈ na_Tg ∧ (na_mi 137).1.cls ≠ "java/lang/invoke/MethodHandle" ∧ (na_mi 137).1.cls ≠ "java/lang/invoke/VarHandle" ∧ (parseMethodDescriptor (na_mi 137).1.desc).map (fun d => d.parameters.length) = some (2 - 1) ∧ 1 ≤ 2 ∧ ((4 = 9 ∧ (na_mi 137).1.cls = RJ0) ∨ (4 ≠ 9 ∧ ∃ q, vwCl[4]? = some q ∧ q.1 = (na_mi 137).1.cls)) := ⟨na_mem (i := 929) (by decide +kernel) (by decide +kernel), na_mem (i := 930) (by decide +kernel) (by decide +kernel), na_mem (i := 67) (by decide +kernel) (by decide +kernel), na_mem (i := 931) (by decide +kernel) (by decide +kernel), by decide +kernel, by decide +kernel, by decide +kernel, by decide, Or.inr ⟨by decide, _, rfl, by decide +kernel⟩⟩
theorem fv_138 : Cond.instanceMethod (na_mi 138).1 ∈ na_Tg ∧ Cond.selects (na_mi 138).1.cls (na_mi 138).1 (na_mi 138).1 ∈ na_Tg ∧ Cond.initialized (na_mi 138).1.cls ∈ na_Tg ∧ Cond.code (na_mi 138).1 (na_mi 138).2.1 (na_mi 138).2.2.1 (na_mi 138).2.2.2.1 ∈ na_Tg ∧ (na_mi 138).1.cls ≠ "java/lang/invoke/MethodHandle" ∧ (na_mi 138).1.cls ≠ "java/lang/invoke/VarHandle" ∧ (parseMethodDescriptor (na_mi 138).1.desc).map (fun d => d.parameters.length) = some (1 - 1) ∧ 1 ≤ 1 ∧ ((4 = 9 ∧ (na_mi 138).1.cls = RJ0) ∨ (4 ≠ 9 ∧ ∃ q, vwCl[4]? = some q ∧ q.1 = (na_mi 138).1.cls)) := ⟨na_mem (i := 943) (by decide +kernel) (by decide +kernel), na_mem (i := 43) (by decide +kernel) (by decide +kernel), na_mem (i := 67) (by decide +kernel) (by decide +kernel), na_mem (i := 944) (by decide +kernel) (by decide +kernel), by decide +kernel, by decide +kernel, by decide +kernel, by decide, Or.inr ⟨by decide, _, rfl, by decide +kernel⟩⟩
theorem fv_139 : Cond.instanceMethod (na_mi 139).1 ∈ na_Tg ∧ Cond.selects (na_mi 139).1.cls (na_mi 139).1 (na_mi 139).1 ∈ na_Tg ∧ Cond.initialized (na_mi 139).1.cls ∈ na_Tg ∧ Cond.code (na_mi 139).1 (na_mi 139).2.1 (na_mi 139).2.2.1 (na_mi 139).2.2.2.1 ∈ na_Tg ∧ (na_mi 139).1.cls ≠ "java/lang/invoke/MethodHandle" ∧ (na_mi 139).1.cls ≠ "java/lang/invoke/VarHandle" ∧ (parseMethodDescriptor (na_mi 139).1.desc).map (fun d => d.parameters.length) = some (1 - 1) ∧ 1 ≤ 1 ∧ ((4 = 9 ∧ (na_mi 139).1.cls = RJ0) ∨ (4 ≠ 9 ∧ ∃ q, vwCl[4]? = some q ∧ q.1 = (na_mi 139).1.cls)) := ⟨na_mem (i := 938) (by decide +kernel) (by decide +kernel), na_mem (i := 939) (by decide +kernel) (by decide +kernel), na_mem (i := 67) (by decide +kernel) (by decide +kernel), na_mem (i := 940) (by decide +kernel) (by decide +kernel), by decide +kernel, by decide +kernel, by decide +kernel, by decide, Or.inr ⟨by decide, _, rfl, by decide +kernel⟩⟩
theorem fv_140 : Cond.instanceMethod (na_mi 140).1 ∈ na_Tg ∧ Cond.selects (na_mi 140).1.cls (na_mi 140).1 (na_mi 140).1 ∈ na_Tg ∧ Cond.initialized (na_mi 140).1.cls ∈ na_Tg ∧ Cond.code (na_mi 140).1 (na_mi 140).2.1 (na_mi 140).2.2.1 (na_mi 140).2.2.2.1 ∈ na_Tg ∧ (na_mi 140).1.cls ≠ "java/lang/invoke/MethodHandle" ∧ (na_mi 140).1.cls ≠ "java/lang/invoke/VarHandle" ∧ (parseMethodDescriptor (na_mi 140).1.desc).map (fun d => d.parameters.length) = some (1 - 1) ∧ 1 ≤ 1 ∧ ((4 = 9 ∧ (na_mi 140).1.cls = RJ0) ∨ (4 ≠ 9 ∧ ∃ q, vwCl[4]? = some q ∧ q.1 = (na_mi 140).1.cls)) := ⟨na_mem (i := 951) (by decide +kernel) (by decide +kernel), na_mem (i := 44) (by decide +kernel) (by decide +kernel), na_mem (i := 67) (by decide +kernel) (by decide +kernel), na_mem (i := 952) (by decide +kernel) (by decide +kernel), by decide +kernel, by decide +kernel, by decide +kernel, by decide, Or.inr ⟨by decide, _, rfl, by decide +kernel⟩⟩
theorem fv_141 : Cond.instanceMethod (na_mi 141).1 ∈ na_Tg ∧ Cond.selects (na_mi 141).1.cls (na_mi 141).1 (na_mi 141).1 ∈ na_Tg ∧ Cond.initialized (na_mi 141).1.cls ∈ na_Tg ∧ Cond.code (na_mi 141).1 (na_mi 141).2.1 (na_mi 141).2.2.1 (na_mi 141).2.2.2.1 ∈ na_Tg ∧ (na_mi 141).1.cls ≠ "java/lang/invoke/MethodHandle" ∧ (na_mi 141).1.cls ≠ "java/lang/invoke/VarHandle" ∧ (parseMethodDescriptor (na_mi 141).1.desc).map (fun d => d.parameters.length) = some (1 - 1) ∧ 1 ≤ 1 ∧ ((4 = 9 ∧ (na_mi 141).1.cls = RJ0) ∨ (4 ≠ 9 ∧ ∃ q, vwCl[4]? = some q ∧ q.1 = (na_mi 141).1.cls)) := ⟨na_mem (i := 946) (by decide +kernel) (by decide +kernel), na_mem (i := 947) (by decide +kernel) (by decide +kernel), na_mem (i := 67) (by decide +kernel) (by decide +kernel), na_mem (i := 948) (by decide +kernel) (by decide +kernel), by decide +kernel, by decide +kernel, by decide +kernel, by decide, Or.inr ⟨by decide, _, rfl, by decide +kernel⟩⟩
theorem fv_142 : Cond.instanceMethod (na_mi 142).1 ∈ na_Tg ∧ Cond.selects (na_mi 142).1.cls (na_mi 142).1 (na_mi 142).1 ∈ na_Tg ∧ Cond.initialized (na_mi 142).1.cls ∈ na_Tg ∧ Cond.code (na_mi 142).1 (na_mi 142).2.1 (na_mi 142).2.2.1 (na_mi 142).2.2.2.1 ∈ na_Tg ∧ (na_mi 142).1.cls ≠ "java/lang/invoke/MethodHandle" ∧ (na_mi 142).1.cls ≠ "java/lang/invoke/VarHandle" ∧ (parseMethodDescriptor (na_mi 142).1.desc).map (fun d => d.parameters.length) = some (1 - 1) ∧ 1 ≤ 1 ∧ ((4 = 9 ∧ (na_mi 142).1.cls = RJ0) ∨ (4 ≠ 9 ∧ ∃ q, vwCl[4]? = some q ∧ q.1 = (na_mi 142).1.cls)) := ⟨na_mem (i := 954) (by decide +kernel) (by decide +kernel), na_mem (i := 955) (by decide +kernel) (by decide +kernel), na_mem (i := 67) (by decide +kernel) (by decide +kernel), na_mem (i := 956) (by decide +kernel) (by decide +kernel), by decide +kernel, by decide +kernel, by decide +kernel, by decide, Or.inr ⟨by decide, _, rfl, by decide +kernel⟩⟩
theorem fv_143 : Cond.instanceMethod (na_mi 143).1 ∈ na_Tg ∧ Cond.selects (na_mi 143).1.cls (na_mi 143).1 (na_mi 143).1 ∈ na_Tg ∧ Cond.initialized (na_mi 143).1.cls ∈ na_Tg ∧ Cond.code (na_mi 143).1 (na_mi 143).2.1 (na_mi 143).2.2.1 (na_mi 143).2.2.2.1 ∈ na_Tg ∧ (na_mi 143).1.cls ≠ "java/lang/invoke/MethodHandle" ∧ (na_mi 143).1.cls ≠ "java/lang/invoke/VarHandle" ∧ (parseMethodDescriptor (na_mi 143).1.desc).map (fun d => d.parameters.length) = some (2 - 1) ∧ 1 ≤ 2 ∧ ((4 = 9 ∧ (na_mi 143).1.cls = RJ0) ∨ (4 ≠ 9 ∧ ∃ q, vwCl[4]? = some q ∧ q.1 = (na_mi 143).1.cls)) := ⟨na_mem (i := 966) (by decide +kernel) (by decide +kernel), na_mem (i := 45) (by decide +kernel) (by decide +kernel), na_mem (i := 67) (by decide +kernel) (by decide +kernel), na_mem (i := 967) (by decide +kernel) (by decide +kernel), by decide +kernel, by decide +kernel, by decide +kernel, by decide, Or.inr ⟨by decide, _, rfl, by decide +kernel⟩⟩
theorem fv_144 : Cond.instanceMethod (na_mi 144).1 ∈ na_Tg ∧ Cond.selects (na_mi 144).1.cls (na_mi 144).1 (na_mi 144).1 ∈ na_Tg ∧ Cond.initialized (na_mi 144).1.cls ∈ na_Tg ∧ Cond.code (na_mi 144).1 (na_mi 144).2.1 (na_mi 144).2.2.1 (na_mi 144).2.2.2.1 ∈ na_Tg ∧ (na_mi 144).1.cls ≠ "java/lang/invoke/MethodHandle" ∧ (na_mi 144).1.cls ≠ "java/lang/invoke/VarHandle" ∧ (parseMethodDescriptor (na_mi 144).1.desc).map (fun d => d.parameters.length) = some (2 - 1) ∧ 1 ≤ 2 ∧ ((4 = 9 ∧ (na_mi 144).1.cls = RJ0) ∨ (4 ≠ 9 ∧ ∃ q, vwCl[4]? = some q ∧ q.1 = (na_mi 144).1.cls)) := ⟨na_mem (i := 958) (by decide +kernel) (by decide +kernel), na_mem (i := 959) (by decide +kernel) (by decide +kernel), na_mem (i := 67) (by decide +kernel) (by decide +kernel), na_mem (i := 960) (by decide +kernel) (by decide +kernel), by decide +kernel, by decide +kernel, by decide +kernel, by decide, Or.inr ⟨by decide, _, rfl, by decide +kernel⟩⟩
theorem fv_145 : Cond.instanceMethod (na_mi 145).1 ∈ na_Tg ∧ Cond.selects (na_mi 145).1.cls (na_mi 145).1 (na_mi 145).1 ∈ na_Tg ∧ Cond.initialized (na_mi 145).1.cls ∈ na_Tg ∧ Cond.code (na_mi 145).1 (na_mi 145).2.1 (na_mi 145).2.2.1 (na_mi 145).2.2.2.1 ∈ na_Tg ∧ (na_mi 145).1.cls ≠ "java/lang/invoke/MethodHandle" ∧ (na_mi 145).1.cls ≠ "java/lang/invoke/VarHandle" ∧ (parseMethodDescriptor (na_mi 145).1.desc).map (fun d => d.parameters.length) = some (2 - 1) ∧ 1 ≤ 2 ∧ ((4 = 9 ∧ (na_mi 145).1.cls = RJ0) ∨ (4 ≠ 9 ∧ ∃ q, vwCl[4]? = some q ∧ q.1 = (na_mi 145).1.cls)) := ⟨na_mem (i := 977) (by decide +kernel) (by decide +kernel), na_mem (i := 46) (by decide +kernel) (by decide +kernel), na_mem (i := 67) (by decide +kernel) (by decide +kernel), na_mem (i := 978) (by decide +kernel) (by decide +kernel), by decide +kernel, by decide +kernel, by decide +kernel, by decide, Or.inr ⟨by decide, _, rfl, by decide +kernel⟩⟩
theorem fv_146 : Cond.instanceMethod (na_mi 146).1 ∈ na_Tg ∧ Cond.selects (na_mi 146).1.cls (na_mi 146).1 (na_mi 146).1 ∈ na_Tg ∧ Cond.initialized (na_mi 146).1.cls ∈ na_Tg ∧ Cond.code (na_mi 146).1 (na_mi 146).2.1 (na_mi 146).2.2.1 (na_mi 146).2.2.2.1 ∈ na_Tg ∧ (na_mi 146).1.cls ≠ "java/lang/invoke/MethodHandle" ∧ (na_mi 146).1.cls ≠ "java/lang/invoke/VarHandle" ∧ (parseMethodDescriptor (na_mi 146).1.desc).map (fun d => d.parameters.length) = some (3 - 1) ∧ 1 ≤ 3 ∧ ((4 = 9 ∧ (na_mi 146).1.cls = RJ0) ∨ (4 ≠ 9 ∧ ∃ q, vwCl[4]? = some q ∧ q.1 = (na_mi 146).1.cls)) := ⟨na_mem (i := 972) (by decide +kernel) (by decide +kernel), na_mem (i := 973) (by decide +kernel) (by decide +kernel), na_mem (i := 67) (by decide +kernel) (by decide +kernel), na_mem (i := 974) (by decide +kernel) (by decide +kernel), by decide +kernel, by decide +kernel, by decide +kernel, by decide, Or.inr ⟨by decide, _, rfl, by decide +kernel⟩⟩
theorem fv_147 : Cond.instanceMethod (na_mi 147).1 ∈ na_Tg ∧ Cond.selects (na_mi 147).1.cls (na_mi 147).1 (na_mi 147).1 ∈ na_Tg ∧ Cond.initialized (na_mi 147).1.cls ∈ na_Tg ∧ Cond.code (na_mi 147).1 (na_mi 147).2.1 (na_mi 147).2.2.1 (na_mi 147).2.2.2.1 ∈ na_Tg ∧ (na_mi 147).1.cls ≠ "java/lang/invoke/MethodHandle" ∧ (na_mi 147).1.cls ≠ "java/lang/invoke/VarHandle" ∧ (parseMethodDescriptor (na_mi 147).1.desc).map (fun d => d.parameters.length) = some (4 - 1) ∧ 1 ≤ 4 ∧ ((4 = 9 ∧ (na_mi 147).1.cls = RJ0) ∨ (4 ≠ 9 ∧ ∃ q, vwCl[4]? = some q ∧ q.1 = (na_mi 147).1.cls)) := ⟨na_mem (i := 980) (by decide +kernel) (by decide +kernel), na_mem (i := 981) (by decide +kernel) (by decide +kernel), na_mem (i := 67) (by decide +kernel) (by decide +kernel), na_mem (i := 982) (by decide +kernel) (by decide +kernel), by decide +kernel, by decide +kernel, by decide +kernel, by decide, Or.inr ⟨by decide, _, rfl, by decide +kernel⟩⟩
theorem fv_148 : Cond.instanceMethod (na_mi 148).1 ∈ na_Tg ∧ Cond.selects (na_mi 148).1.cls (na_mi 148).1 (na_mi 148).1 ∈ na_Tg ∧ Cond.initialized (na_mi 148).1.cls ∈ na_Tg ∧ Cond.code (na_mi 148).1 (na_mi 148).2.1 (na_mi 148).2.2.1 (na_mi 148).2.2.2.1 ∈ na_Tg ∧ (na_mi 148).1.cls ≠ "java/lang/invoke/MethodHandle" ∧ (na_mi 148).1.cls ≠ "java/lang/invoke/VarHandle" ∧ (parseMethodDescriptor (na_mi 148).1.desc).map (fun d => d.parameters.length) = some (2 - 1) ∧ 1 ≤ 2 ∧ ((4 = 9 ∧ (na_mi 148).1.cls = RJ0) ∨ (4 ≠ 9 ∧ ∃ q, vwCl[4]? = some q ∧ q.1 = (na_mi 148).1.cls)) := ⟨na_mem (i := 984) (by decide +kernel) (by decide +kernel), na_mem (i := 985) (by decide +kernel) (by decide +kernel), na_mem (i := 67) (by decide +kernel) (by decide +kernel), na_mem (i := 986) (by decide +kernel) (by decide +kernel), by decide +kernel, by decide +kernel, by decide +kernel, by decide, Or.inr ⟨by decide, _, rfl, by decide +kernel⟩⟩
theorem fv_149 : Cond.instanceMethod (na_mi 149).1 ∈ na_Tg ∧ Cond.selects (na_mi 149).1.cls (na_mi 149).1 (na_mi 149).1 ∈ na_Tg ∧ Cond.initialized (na_mi 149).1.cls ∈ na_Tg ∧ Cond.code (na_mi 149).1 (na_mi 149).2.1 (na_mi 149).2.2.1 (na_mi 149).2.2.2.1 ∈ na_Tg ∧ (na_mi 149).1.cls ≠ "java/lang/invoke/MethodHandle" ∧ (na_mi 149).1.cls ≠ "java/lang/invoke/VarHandle" ∧ (parseMethodDescriptor (na_mi 149).1.desc).map (fun d => d.parameters.length) = some (3 - 1) ∧ 1 ≤ 3 ∧ ((4 = 9 ∧ (na_mi 149).1.cls = RJ0) ∨ (4 ≠ 9 ∧ ∃ q, vwCl[4]? = some q ∧ q.1 = (na_mi 149).1.cls)) := ⟨na_mem (i := 988) (by decide +kernel) (by decide +kernel), na_mem (i := 989) (by decide +kernel) (by decide +kernel), na_mem (i := 67) (by decide +kernel) (by decide +kernel), na_mem (i := 990) (by decide +kernel) (by decide +kernel), by decide +kernel, by decide +kernel, by decide +kernel, by decide, Or.inr ⟨by decide, _, rfl, by decide +kernel⟩⟩
theorem fv_150 : Cond.instanceMethod (na_mi 150).1 ∈ na_Tg ∧ Cond.selects (na_mi 150).1.cls (na_mi 150).1 (na_mi 150).1 ∈ na_Tg ∧ Cond.initialized (na_mi 150).1.cls ∈ na_Tg ∧ Cond.code (na_mi 150).1 (na_mi 150).2.1 (na_mi 150).2.2.1 (na_mi 150).2.2.2.1 ∈ na_Tg ∧ (na_mi 150).1.cls ≠ "java/lang/invoke/MethodHandle" ∧ (na_mi 150).1.cls ≠ "java/lang/invoke/VarHandle" ∧ (parseMethodDescriptor (na_mi 150).1.desc).map (fun d => d.parameters.length) = some (3 - 1) ∧ 1 ≤ 3 ∧ ((4 = 9 ∧ (na_mi 150).1.cls = RJ0) ∨ (4 ≠ 9 ∧ ∃ q, vwCl[4]? = some q ∧ q.1 = (na_mi 150).1.cls)) := ⟨na_mem (i := 992) (by decide +kernel) (by decide +kernel), na_mem (i := 993) (by decide +kernel) (by decide +kernel), na_mem (i := 67) (by decide +kernel) (by decide +kernel), na_mem (i := 994) (by decide +kernel) (by decide +kernel), by decide +kernel, by decide +kernel, by decide +kernel, by decide, Or.inr ⟨by decide, _, rfl, by decide +kernel⟩⟩
theorem fs_151 : Cond.static (na_mi 151).1 ∈ na_Tg ∧ Cond.initialized (na_mi 151).1.cls ∈ na_Tg ∧ (na_ww (na_mi 151)).head? = some (.code (na_mi 151).1 (na_mi 151).2.1 (na_mi 151).2.2.1 (na_mi 151).2.2.2.1) ∧ Cond.code (na_mi 151).1 (na_mi 151).2.1 (na_mi 151).2.2.1 (na_mi 151).2.2.2.1 ∈ na_Tg ∧ (na_mi 151).1.cls ≠ "java/lang/invoke/MethodHandle" ∧ (na_mi 151).1.cls ≠ "java/lang/invoke/VarHandle" ∧ (parseMethodDescriptor (na_mi 151).1.desc).map (fun d => d.parameters.length) = some 1 := ⟨na_mem (i := 1004) (by decide +kernel) (by decide +kernel), na_mem (i := 67) (by decide +kernel) (by decide +kernel), rfl, na_mem (i := 1005) (by decide +kernel) (by decide +kernel), by decide +kernel, by decide +kernel, by decide +kernel⟩
theorem fv_152 : Cond.instanceMethod (na_mi 152).1 ∈ na_Tg ∧ Cond.selects (na_mi 152).1.cls (na_mi 152).1 (na_mi 152).1 ∈ na_Tg ∧ Cond.initialized (na_mi 152).1.cls ∈ na_Tg ∧ Cond.code (na_mi 152).1 (na_mi 152).2.1 (na_mi 152).2.2.1 (na_mi 152).2.2.2.1 ∈ na_Tg ∧ (na_mi 152).1.cls ≠ "java/lang/invoke/MethodHandle" ∧ (na_mi 152).1.cls ≠ "java/lang/invoke/VarHandle" ∧ (parseMethodDescriptor (na_mi 152).1.desc).map (fun d => d.parameters.length) = some (2 - 1) ∧ 1 ≤ 2 ∧ ((4 = 9 ∧ (na_mi 152).1.cls = RJ0) ∨ (4 ≠ 9 ∧ ∃ q, vwCl[4]? = some q ∧ q.1 = (na_mi 152).1.cls)) := ⟨na_mem (i := 1001) (by decide +kernel) (by decide +kernel), na_mem (i := 47) (by decide +kernel) (by decide +kernel), na_mem (i := 67) (by decide +kernel) (by decide +kernel), na_mem (i := 1002) (by decide +kernel) (by decide +kernel), by decide +kernel, by decide +kernel, by decide +kernel, by decide, Or.inr ⟨by decide, _, rfl, by decide +kernel⟩⟩
theorem fv_153 : Cond.instanceMethod (na_mi 153).1 ∈ na_Tg ∧ Cond.selects (na_mi 153).1.cls (na_mi 153).1 (na_mi 153).1 ∈ na_Tg ∧ Cond.initialized (na_mi 153).1.cls ∈ na_Tg ∧ Cond.code (na_mi 153).1 (na_mi 153).2.1 (na_mi 153).2.2.1 (na_mi 153).2.2.2.1 ∈ na_Tg ∧ (na_mi 153).1.cls ≠ "java/lang/invoke/MethodHandle" ∧ (na_mi 153).1.cls ≠ "java/lang/invoke/VarHandle" ∧ (parseMethodDescriptor (na_mi 153).1.desc).map (fun d => d.parameters.length) = some (3 - 1) ∧ 1 ≤ 3 ∧ ((4 = 9 ∧ (na_mi 153).1.cls = RJ0) ∨ (4 ≠ 9 ∧ ∃ q, vwCl[4]? = some q ∧ q.1 = (na_mi 153).1.cls)) := ⟨na_mem (i := 996) (by decide +kernel) (by decide +kernel), na_mem (i := 997) (by decide +kernel) (by decide +kernel), na_mem (i := 67) (by decide +kernel) (by decide +kernel), na_mem (i := 998) (by decide +kernel) (by decide +kernel), by decide +kernel, by decide +kernel, by decide +kernel, by decide, Or.inr ⟨by decide, _, rfl, by decide +kernel⟩⟩
theorem fv_154 : Cond.instanceMethod (na_mi 154).1 ∈ na_Tg ∧ Cond.selects (na_mi 154).1.cls (na_mi 154).1 (na_mi 154).1 ∈ na_Tg ∧ Cond.initialized (na_mi 154).1.cls ∈ na_Tg ∧ Cond.code (na_mi 154).1 (na_mi 154).2.1 (na_mi 154).2.2.1 (na_mi 154).2.2.2.1 ∈ na_Tg ∧ (na_mi 154).1.cls ≠ "java/lang/invoke/MethodHandle" ∧ (na_mi 154).1.cls ≠ "java/lang/invoke/VarHandle" ∧ (parseMethodDescriptor (na_mi 154).1.desc).map (fun d => d.parameters.length) = some (2 - 1) ∧ 1 ≤ 2 ∧ ((4 = 9 ∧ (na_mi 154).1.cls = RJ0) ∨ (4 ≠ 9 ∧ ∃ q, vwCl[4]? = some q ∧ q.1 = (na_mi 154).1.cls)) := ⟨na_mem (i := 1014) (by decide +kernel) (by decide +kernel), na_mem (i := 48) (by decide +kernel) (by decide +kernel), na_mem (i := 67) (by decide +kernel) (by decide +kernel), na_mem (i := 1015) (by decide +kernel) (by decide +kernel), by decide +kernel, by decide +kernel, by decide +kernel, by decide, Or.inr ⟨by decide, _, rfl, by decide +kernel⟩⟩
theorem fv_155 : Cond.instanceMethod (na_mi 155).1 ∈ na_Tg ∧ Cond.selects (na_mi 155).1.cls (na_mi 155).1 (na_mi 155).1 ∈ na_Tg ∧ Cond.initialized (na_mi 155).1.cls ∈ na_Tg ∧ Cond.code (na_mi 155).1 (na_mi 155).2.1 (na_mi 155).2.2.1 (na_mi 155).2.2.2.1 ∈ na_Tg ∧ (na_mi 155).1.cls ≠ "java/lang/invoke/MethodHandle" ∧ (na_mi 155).1.cls ≠ "java/lang/invoke/VarHandle" ∧ (parseMethodDescriptor (na_mi 155).1.desc).map (fun d => d.parameters.length) = some (2 - 1) ∧ 1 ≤ 2 ∧ ((4 = 9 ∧ (na_mi 155).1.cls = RJ0) ∨ (4 ≠ 9 ∧ ∃ q, vwCl[4]? = some q ∧ q.1 = (na_mi 155).1.cls)) := ⟨na_mem (i := 1008) (by decide +kernel) (by decide +kernel), na_mem (i := 1009) (by decide +kernel) (by decide +kernel), na_mem (i := 67) (by decide +kernel) (by decide +kernel), na_mem (i := 1010) (by decide +kernel) (by decide +kernel), by decide +kernel, by decide +kernel, by decide +kernel, by decide, Or.inr ⟨by decide, _, rfl, by decide +kernel⟩⟩
theorem fv_156 : Cond.instanceMethod (na_mi 156).1 ∈ na_Tg ∧ Cond.selects (na_mi 156).1.cls (na_mi 156).1 (na_mi 156).1 ∈ na_Tg ∧ Cond.initialized (na_mi 156).1.cls ∈ na_Tg ∧ Cond.code (na_mi 156).1 (na_mi 156).2.1 (na_mi 156).2.2.1 (na_mi 156).2.2.2.1 ∈ na_Tg ∧ (na_mi 156).1.cls ≠ "java/lang/invoke/MethodHandle" ∧ (na_mi 156).1.cls ≠ "java/lang/invoke/VarHandle" ∧ (parseMethodDescriptor (na_mi 156).1.desc).map (fun d => d.parameters.length) = some (2 - 1) ∧ 1 ≤ 2 ∧ ((4 = 9 ∧ (na_mi 156).1.cls = RJ0) ∨ (4 ≠ 9 ∧ ∃ q, vwCl[4]? = some q ∧ q.1 = (na_mi 156).1.cls)) := ⟨na_mem (i := 1017) (by decide +kernel) (by decide +kernel), na_mem (i := 1018) (by decide +kernel) (by decide +kernel), na_mem (i := 67) (by decide +kernel) (by decide +kernel), na_mem (i := 1019) (by decide +kernel) (by decide +kernel), by decide +kernel, by decide +kernel, by decide +kernel, by decide, Or.inr ⟨by decide, _, rfl, by decide +kernel⟩⟩
theorem fv_157 : Cond.instanceMethod (na_mi 157).1 ∈ na_Tg ∧ Cond.selects (na_mi 157).1.cls (na_mi 157).1 (na_mi 157).1 ∈ na_Tg ∧ Cond.initialized (na_mi 157).1.cls ∈ na_Tg ∧ Cond.code (na_mi 157).1 (na_mi 157).2.1 (na_mi 157).2.2.1 (na_mi 157).2.2.2.1 ∈ na_Tg ∧ (na_mi 157).1.cls ≠ "java/lang/invoke/MethodHandle" ∧ (na_mi 157).1.cls ≠ "java/lang/invoke/VarHandle" ∧ (parseMethodDescriptor (na_mi 157).1.desc).map (fun d => d.parameters.length) = some (1 - 1) ∧ 1 ≤ 1 ∧ ((4 = 9 ∧ (na_mi 157).1.cls = RJ0) ∨ (4 ≠ 9 ∧ ∃ q, vwCl[4]? = some q ∧ q.1 = (na_mi 157).1.cls)) := ⟨na_mem (i := 1021) (by decide +kernel) (by decide +kernel), na_mem (i := 1022) (by decide +kernel) (by decide +kernel), na_mem (i := 67) (by decide +kernel) (by decide +kernel), na_mem (i := 1023) (by decide +kernel) (by decide +kernel), by decide +kernel, by decide +kernel, by decide +kernel, by decide, Or.inr ⟨by decide, _, rfl, by decide +kernel⟩⟩
theorem fv_158 : Cond.instanceMethod (na_mi 158).1 ∈ na_Tg ∧ Cond.selects (na_mi 158).1.cls (na_mi 158).1 (na_mi 158).1 ∈ na_Tg ∧ Cond.initialized (na_mi 158).1.cls ∈ na_Tg ∧ Cond.code (na_mi 158).1 (na_mi 158).2.1 (na_mi 158).2.2.1 (na_mi 158).2.2.2.1 ∈ na_Tg ∧ (na_mi 158).1.cls ≠ "java/lang/invoke/MethodHandle" ∧ (na_mi 158).1.cls ≠ "java/lang/invoke/VarHandle" ∧ (parseMethodDescriptor (na_mi 158).1.desc).map (fun d => d.parameters.length) = some (4 - 1) ∧ 1 ≤ 4 ∧ ((4 = 9 ∧ (na_mi 158).1.cls = RJ0) ∨ (4 ≠ 9 ∧ ∃ q, vwCl[4]? = some q ∧ q.1 = (na_mi 158).1.cls)) := ⟨na_mem (i := 1025) (by decide +kernel) (by decide +kernel), na_mem (i := 1026) (by decide +kernel) (by decide +kernel), na_mem (i := 67) (by decide +kernel) (by decide +kernel), na_mem (i := 1027) (by decide +kernel) (by decide +kernel), by decide +kernel, by decide +kernel, by decide +kernel, by decide, Or.inr ⟨by decide, _, rfl, by decide +kernel⟩⟩
theorem fv_159 : Cond.instanceMethod (na_mi 159).1 ∈ na_Tg ∧ Cond.selects (na_mi 159).1.cls (na_mi 159).1 (na_mi 159).1 ∈ na_Tg ∧ Cond.initialized (na_mi 159).1.cls ∈ na_Tg ∧ Cond.code (na_mi 159).1 (na_mi 159).2.1 (na_mi 159).2.2.1 (na_mi 159).2.2.2.1 ∈ na_Tg ∧ (na_mi 159).1.cls ≠ "java/lang/invoke/MethodHandle" ∧ (na_mi 159).1.cls ≠ "java/lang/invoke/VarHandle" ∧ (parseMethodDescriptor (na_mi 159).1.desc).map (fun d => d.parameters.length) = some (3 - 1) ∧ 1 ≤ 3 ∧ ((4 = 9 ∧ (na_mi 159).1.cls = RJ0) ∨ (4 ≠ 9 ∧ ∃ q, vwCl[4]? = some q ∧ q.1 = (na_mi 159).1.cls)) := ⟨na_mem (i := 1029) (by decide +kernel) (by decide +kernel), na_mem (i := 1030) (by decide +kernel) (by decide +kernel), na_mem (i := 67) (by decide +kernel) (by decide +kernel), na_mem (i := 1031) (by decide +kernel) (by decide +kernel), by decide +kernel, by decide +kernel, by decide +kernel, by decide, Or.inr ⟨by decide, _, rfl, by decide +kernel⟩⟩
theorem fv_160 : Cond.instanceMethod (na_mi 160).1 ∈ na_Tg ∧ Cond.selects (na_mi 160).1.cls (na_mi 160).1 (na_mi 160).1 ∈ na_Tg ∧ Cond.initialized (na_mi 160).1.cls ∈ na_Tg ∧ Cond.code (na_mi 160).1 (na_mi 160).2.1 (na_mi 160).2.2.1 (na_mi 160).2.2.2.1 ∈ na_Tg ∧ (na_mi 160).1.cls ≠ "java/lang/invoke/MethodHandle" ∧ (na_mi 160).1.cls ≠ "java/lang/invoke/VarHandle" ∧ (parseMethodDescriptor (na_mi 160).1.desc).map (fun d => d.parameters.length) = some (1 - 1) ∧ 1 ≤ 1 ∧ ((4 = 9 ∧ (na_mi 160).1.cls = RJ0) ∨ (4 ≠ 9 ∧ ∃ q, vwCl[4]? = some q ∧ q.1 = (na_mi 160).1.cls)) := ⟨na_mem (i := 1033) (by decide +kernel) (by decide +kernel), na_mem (i := 1034) (by decide +kernel) (by decide +kernel), na_mem (i := 67) (by decide +kernel) (by decide +kernel), na_mem (i := 1035) (by decide +kernel) (by decide +kernel), by decide +kernel, by decide +kernel, by decide +kernel, by decide, Or.inr ⟨by decide, _, rfl, by decide +kernel⟩⟩
theorem fv_161 : Cond.instanceMethod (na_mi 161).1 ∈ na_Tg ∧ Cond.selects (na_mi 161).1.cls (na_mi 161).1 (na_mi 161).1 ∈ na_Tg ∧ Cond.initialized (na_mi 161).1.cls ∈ na_Tg ∧ Cond.code (na_mi 161).1 (na_mi 161).2.1 (na_mi 161).2.2.1 (na_mi 161).2.2.2.1 ∈ na_Tg ∧ (na_mi 161).1.cls ≠ "java/lang/invoke/MethodHandle" ∧ (na_mi 161).1.cls ≠ "java/lang/invoke/VarHandle" ∧ (parseMethodDescriptor (na_mi 161).1.desc).map (fun d => d.parameters.length) = some (2 - 1) ∧ 1 ≤ 2 ∧ ((4 = 9 ∧ (na_mi 161).1.cls = RJ0) ∨ (4 ≠ 9 ∧ ∃ q, vwCl[4]? = some q ∧ q.1 = (na_mi 161).1.cls)) := ⟨na_mem (i := 1046) (by decide +kernel) (by decide +kernel), na_mem (i := 50) (by decide +kernel) (by decide +kernel), na_mem (i := 67) (by decide +kernel) (by decide +kernel), na_mem (i := 1047) (by decide +kernel) (by decide +kernel), by decide +kernel, by decide +kernel, by decide +kernel, by decide, Or.inr ⟨by decide, _, rfl, by decide +kernel⟩⟩
theorem fs_162 : Cond.static (na_mi 162).1 ∈ na_Tg ∧ Cond.initialized (na_mi 162).1.cls ∈ na_Tg ∧ (na_ww (na_mi 162)).head? = some (.code (na_mi 162).1 (na_mi 162).2.1 (na_mi 162).2.2.1 (na_mi 162).2.2.2.1) ∧ Cond.code (na_mi 162).1 (na_mi 162).2.1 (na_mi 162).2.2.1 (na_mi 162).2.2.2.1 ∈ na_Tg ∧ (na_mi 162).1.cls ≠ "java/lang/invoke/MethodHandle" ∧ (na_mi 162).1.cls ≠ "java/lang/invoke/VarHandle" ∧ (parseMethodDescriptor (na_mi 162).1.desc).map (fun d => d.parameters.length) = some 1 := ⟨na_mem (i := 1049) (by decide +kernel) (by decide +kernel), na_mem (i := 67) (by decide +kernel) (by decide +kernel), rfl, na_mem (i := 1050) (by decide +kernel) (by decide +kernel), by decide +kernel, by decide +kernel, by decide +kernel⟩
theorem fs_163 : Cond.static (na_mi 163).1 ∈ na_Tg ∧ Cond.initialized (na_mi 163).1.cls ∈ na_Tg ∧ (na_ww (na_mi 163)).head? = some (.code (na_mi 163).1 (na_mi 163).2.1 (na_mi 163).2.2.1 (na_mi 163).2.2.2.1) ∧ Cond.code (na_mi 163).1 (na_mi 163).2.1 (na_mi 163).2.2.1 (na_mi 163).2.2.2.1 ∈ na_Tg ∧ (na_mi 163).1.cls ≠ "java/lang/invoke/MethodHandle" ∧ (na_mi 163).1.cls ≠ "java/lang/invoke/VarHandle" ∧ (parseMethodDescriptor (na_mi 163).1.desc).map (fun d => d.parameters.length) = some 1 := ⟨na_mem (i := 1052) (by decide +kernel) (by decide +kernel), na_mem (i := 67) (by decide +kernel) (by decide +kernel), rfl, na_mem (i := 1053) (by decide +kernel) (by decide +kernel), by decide +kernel, by decide +kernel, by decide +kernel⟩
theorem fv_164 : Cond.instanceMethod (na_mi 164).1 ∈ na_Tg ∧ Cond.selects (na_mi 164).1.cls (na_mi 164).1 (na_mi 164).1 ∈ na_Tg ∧ Cond.initialized (na_mi 164).1.cls ∈ na_Tg ∧ Cond.code (na_mi 164).1 (na_mi 164).2.1 (na_mi 164).2.2.1 (na_mi 164).2.2.2.1 ∈ na_Tg ∧ (na_mi 164).1.cls ≠ "java/lang/invoke/MethodHandle" ∧ (na_mi 164).1.cls ≠ "java/lang/invoke/VarHandle" ∧ (parseMethodDescriptor (na_mi 164).1.desc).map (fun d => d.parameters.length) = some (1 - 1) ∧ 1 ≤ 1 ∧ ((4 = 9 ∧ (na_mi 164).1.cls = RJ0) ∨ (4 ≠ 9 ∧ ∃ q, vwCl[4]? = some q ∧ q.1 = (na_mi 164).1.cls)) := ⟨na_mem (i := 1042) (by decide +kernel) (by decide +kernel), na_mem (i := 49) (by decide +kernel) (by decide +kernel), na_mem (i := 67) (by decide +kernel) (by decide +kernel), na_mem (i := 1043) (by decide +kernel) (by decide +kernel), by decide +kernel, by decide +kernel, by decide +kernel, by decide, Or.inr ⟨by decide, _, rfl, by decide +kernel⟩⟩
theorem fv_165 : Cond.instanceMethod (na_mi 165).1 ∈ na_Tg ∧ Cond.selects (na_mi 165).1.cls (na_mi 165).1 (na_mi 165).1 ∈ na_Tg ∧ Cond.initialized (na_mi 165).1.cls ∈ na_Tg ∧ Cond.code (na_mi 165).1 (na_mi 165).2.1 (na_mi 165).2.2.1 (na_mi 165).2.2.2.1 ∈ na_Tg ∧ (na_mi 165).1.cls ≠ "java/lang/invoke/MethodHandle" ∧ (na_mi 165).1.cls ≠ "java/lang/invoke/VarHandle" ∧ (parseMethodDescriptor (na_mi 165).1.desc).map (fun d => d.parameters.length) = some (2 - 1) ∧ 1 ≤ 2 ∧ ((4 = 9 ∧ (na_mi 165).1.cls = RJ0) ∨ (4 ≠ 9 ∧ ∃ q, vwCl[4]? = some q ∧ q.1 = (na_mi 165).1.cls)) := ⟨na_mem (i := 1068) (by decide +kernel) (by decide +kernel), na_mem (i := 53) (by decide +kernel) (by decide +kernel), na_mem (i := 67) (by decide +kernel) (by decide +kernel), na_mem (i := 1069) (by decide +kernel) (by decide +kernel), by decide +kernel, by decide +kernel, by decide +kernel, by decide, Or.inr ⟨by decide, _, rfl, by decide +kernel⟩⟩
theorem fv_166 : Cond.instanceMethod (na_mi 166).1 ∈ na_Tg ∧ Cond.selects (na_mi 166).1.cls (na_mi 166).1 (na_mi 166).1 ∈ na_Tg ∧ Cond.initialized (na_mi 166).1.cls ∈ na_Tg ∧ Cond.code (na_mi 166).1 (na_mi 166).2.1 (na_mi 166).2.2.1 (na_mi 166).2.2.2.1 ∈ na_Tg ∧ (na_mi 166).1.cls ≠ "java/lang/invoke/MethodHandle" ∧ (na_mi 166).1.cls ≠ "java/lang/invoke/VarHandle" ∧ (parseMethodDescriptor (na_mi 166).1.desc).map (fun d => d.parameters.length) = some (1 - 1) ∧ 1 ≤ 1 ∧ ((4 = 9 ∧ (na_mi 166).1.cls = RJ0) ∨ (4 ≠ 9 ∧ ∃ q, vwCl[4]? = some q ∧ q.1 = (na_mi 166).1.cls)) := ⟨na_mem (i := 1063) (by decide +kernel) (by decide +kernel), na_mem (i := 52) (by decide +kernel) (by decide +kernel), na_mem (i := 67) (by decide +kernel) (by decide +kernel), na_mem (i := 1064) (by decide +kernel) (by decide +kernel), by decide +kernel, by decide +kernel, by decide +kernel, by decide, Or.inr ⟨by decide, _, rfl, by decide +kernel⟩⟩
theorem fv_167 : Cond.instanceMethod (na_mi 167).1 ∈ na_Tg ∧ Cond.selects (na_mi 167).1.cls (na_mi 167).1 (na_mi 167).1 ∈ na_Tg ∧ Cond.initialized (na_mi 167).1.cls ∈ na_Tg ∧ Cond.code (na_mi 167).1 (na_mi 167).2.1 (na_mi 167).2.2.1 (na_mi 167).2.2.2.1 ∈ na_Tg ∧ (na_mi 167).1.cls ≠ "java/lang/invoke/MethodHandle" ∧ (na_mi 167).1.cls ≠ "java/lang/invoke/VarHandle" ∧ (parseMethodDescriptor (na_mi 167).1.desc).map (fun d => d.parameters.length) = some (3 - 1) ∧ 1 ≤ 3 ∧ ((4 = 9 ∧ (na_mi 167).1.cls = RJ0) ∨ (4 ≠ 9 ∧ ∃ q, vwCl[4]? = some q ∧ q.1 = (na_mi 167).1.cls)) := ⟨na_mem (i := 1082) (by decide +kernel) (by decide +kernel), na_mem (i := 55) (by decide +kernel) (by decide +kernel), na_mem (i := 67) (by decide +kernel) (by decide +kernel), na_mem (i := 1083) (by decide +kernel) (by decide +kernel), by decide +kernel, by decide +kernel, by decide +kernel, by decide, Or.inr ⟨by decide, _, rfl, by decide +kernel⟩⟩
theorem fv_168 : Cond.instanceMethod (na_mi 168).1 ∈ na_Tg ∧ Cond.selects (na_mi 168).1.cls (na_mi 168).1 (na_mi 168).1 ∈ na_Tg ∧ Cond.initialized (na_mi 168).1.cls ∈ na_Tg ∧ Cond.code (na_mi 168).1 (na_mi 168).2.1 (na_mi 168).2.2.1 (na_mi 168).2.2.2.1 ∈ na_Tg ∧ (na_mi 168).1.cls ≠ "java/lang/invoke/MethodHandle" ∧ (na_mi 168).1.cls ≠ "java/lang/invoke/VarHandle" ∧ (parseMethodDescriptor (na_mi 168).1.desc).map (fun d => d.parameters.length) = some (5 - 1) ∧ 1 ≤ 5 ∧ ((4 = 9 ∧ (na_mi 168).1.cls = RJ0) ∨ (4 ≠ 9 ∧ ∃ q, vwCl[4]? = some q ∧ q.1 = (na_mi 168).1.cls)) := ⟨na_mem (i := 1087) (by decide +kernel) (by decide +kernel), na_mem (i := 56) (by decide +kernel) (by decide +kernel), na_mem (i := 67) (by decide +kernel) (by decide +kernel), na_mem (i := 1088) (by decide +kernel) (by decide +kernel), by decide +kernel, by decide +kernel, by decide +kernel, by decide, Or.inr ⟨by decide, _, rfl, by decide +kernel⟩⟩
theorem fv_169 : Cond.instanceMethod (na_mi 169).1 ∈ na_Tg ∧ Cond.selects (na_mi 169).1.cls (na_mi 169).1 (na_mi 169).1 ∈ na_Tg ∧ Cond.initialized (na_mi 169).1.cls ∈ na_Tg ∧ Cond.code (na_mi 169).1 (na_mi 169).2.1 (na_mi 169).2.2.1 (na_mi 169).2.2.2.1 ∈ na_Tg ∧ (na_mi 169).1.cls ≠ "java/lang/invoke/MethodHandle" ∧ (na_mi 169).1.cls ≠ "java/lang/invoke/VarHandle" ∧ (parseMethodDescriptor (na_mi 169).1.desc).map (fun d => d.parameters.length) = some (2 - 1) ∧ 1 ≤ 2 ∧ ((4 = 9 ∧ (na_mi 169).1.cls = RJ0) ∨ (4 ≠ 9 ∧ ∃ q, vwCl[4]? = some q ∧ q.1 = (na_mi 169).1.cls)) := ⟨na_mem (i := 1077) (by decide +kernel) (by decide +kernel), na_mem (i := 54) (by decide +kernel) (by decide +kernel), na_mem (i := 67) (by decide +kernel) (by decide +kernel), na_mem (i := 1078) (by decide +kernel) (by decide +kernel), by decide +kernel, by decide +kernel, by decide +kernel, by decide, Or.inr ⟨by decide, _, rfl, by decide +kernel⟩⟩
theorem fv_170 : Cond.instanceMethod (na_mi 170).1 ∈ na_Tg ∧ Cond.selects (na_mi 170).1.cls (na_mi 170).1 (na_mi 170).1 ∈ na_Tg ∧ Cond.initialized (na_mi 170).1.cls ∈ na_Tg ∧ Cond.code (na_mi 170).1 (na_mi 170).2.1 (na_mi 170).2.2.1 (na_mi 170).2.2.2.1 ∈ na_Tg ∧ (na_mi 170).1.cls ≠ "java/lang/invoke/MethodHandle" ∧ (na_mi 170).1.cls ≠ "java/lang/invoke/VarHandle" ∧ (parseMethodDescriptor (na_mi 170).1.desc).map (fun d => d.parameters.length) = some (1 - 1) ∧ 1 ≤ 1 ∧ ((4 = 9 ∧ (na_mi 170).1.cls = RJ0) ∨ (4 ≠ 9 ∧ ∃ q, vwCl[4]? = some q ∧ q.1 = (na_mi 170).1.cls)) := ⟨na_mem (i := 1092) (by decide +kernel) (by decide +kernel), na_mem (i := 57) (by decide +kernel) (by decide +kernel), na_mem (i := 67) (by decide +kernel) (by decide +kernel), na_mem (i := 1093) (by decide +kernel) (by decide +kernel), by decide +kernel, by decide +kernel, by decide +kernel, by decide, Or.inr ⟨by decide, _, rfl, by decide +kernel⟩⟩
theorem fv_171 : Cond.instanceMethod (na_mi 171).1 ∈ na_Tg ∧ Cond.selects (na_mi 171).1.cls (na_mi 171).1 (na_mi 171).1 ∈ na_Tg ∧ Cond.initialized (na_mi 171).1.cls ∈ na_Tg ∧ Cond.code (na_mi 171).1 (na_mi 171).2.1 (na_mi 171).2.2.1 (na_mi 171).2.2.2.1 ∈ na_Tg ∧ (na_mi 171).1.cls ≠ "java/lang/invoke/MethodHandle" ∧ (na_mi 171).1.cls ≠ "java/lang/invoke/VarHandle" ∧ (parseMethodDescriptor (na_mi 171).1.desc).map (fun d => d.parameters.length) = some (2 - 1) ∧ 1 ≤ 2 ∧ ((4 = 9 ∧ (na_mi 171).1.cls = RJ0) ∨ (4 ≠ 9 ∧ ∃ q, vwCl[4]? = some q ∧ q.1 = (na_mi 171).1.cls)) := ⟨na_mem (i := 1101) (by decide +kernel) (by decide +kernel), na_mem (i := 58) (by decide +kernel) (by decide +kernel), na_mem (i := 67) (by decide +kernel) (by decide +kernel), na_mem (i := 1102) (by decide +kernel) (by decide +kernel), by decide +kernel, by decide +kernel, by decide +kernel, by decide, Or.inr ⟨by decide, _, rfl, by decide +kernel⟩⟩
theorem fv_172 : Cond.instanceMethod (na_mi 172).1 ∈ na_Tg ∧ Cond.selects (na_mi 172).1.cls (na_mi 172).1 (na_mi 172).1 ∈ na_Tg ∧ Cond.initialized (na_mi 172).1.cls ∈ na_Tg ∧ Cond.code (na_mi 172).1 (na_mi 172).2.1 (na_mi 172).2.2.1 (na_mi 172).2.2.2.1 ∈ na_Tg ∧ (na_mi 172).1.cls ≠ "java/lang/invoke/MethodHandle" ∧ (na_mi 172).1.cls ≠ "java/lang/invoke/VarHandle" ∧ (parseMethodDescriptor (na_mi 172).1.desc).map (fun d => d.parameters.length) = some (1 - 1) ∧ 1 ≤ 1 ∧ ((4 = 9 ∧ (na_mi 172).1.cls = RJ0) ∨ (4 ≠ 9 ∧ ∃ q, vwCl[4]? = some q ∧ q.1 = (na_mi 172).1.cls)) := ⟨na_mem (i := 1059) (by decide +kernel) (by decide +kernel), na_mem (i := 51) (by decide +kernel) (by decide +kernel), na_mem (i := 67) (by decide +kernel) (by decide +kernel), na_mem (i := 1060) (by decide +kernel) (by decide +kernel), by decide +kernel, by decide +kernel, by decide +kernel, by decide, Or.inr ⟨by decide, _, rfl, by decide +kernel⟩⟩
theorem fv_173 : Cond.instanceMethod (na_mi 173).1 ∈ na_Tg ∧ Cond.selects (na_mi 173).1.cls (na_mi 173).1 (na_mi 173).1 ∈ na_Tg ∧ Cond.initialized (na_mi 173).1.cls ∈ na_Tg ∧ Cond.code (na_mi 173).1 (na_mi 173).2.1 (na_mi 173).2.2.1 (na_mi 173).2.2.2.1 ∈ na_Tg ∧ (na_mi 173).1.cls ≠ "java/lang/invoke/MethodHandle" ∧ (na_mi 173).1.cls ≠ "java/lang/invoke/VarHandle" ∧ (parseMethodDescriptor (na_mi 173).1.desc).map (fun d => d.parameters.length) = some (1 - 1) ∧ 1 ≤ 1 ∧ ((4 = 9 ∧ (na_mi 173).1.cls = RJ0) ∨ (4 ≠ 9 ∧ ∃ q, vwCl[4]? = some q ∧ q.1 = (na_mi 173).1.cls)) := ⟨na_mem (i := 1037) (by decide +kernel) (by decide +kernel), na_mem (i := 1038) (by decide +kernel) (by decide +kernel), na_mem (i := 67) (by decide +kernel) (by decide +kernel), na_mem (i := 1039) (by decide +kernel) (by decide +kernel), by decide +kernel, by decide +kernel, by decide +kernel, by decide, Or.inr ⟨by decide, _, rfl, by decide +kernel⟩⟩
theorem fs_174 : Cond.static (na_mi 174).1 ∈ na_Tg ∧ Cond.initialized (na_mi 174).1.cls ∈ na_Tg ∧ (na_ww (na_mi 174)).head? = some (.code (na_mi 174).1 (na_mi 174).2.1 (na_mi 174).2.2.1 (na_mi 174).2.2.2.1) ∧ Cond.code (na_mi 174).1 (na_mi 174).2.1 (na_mi 174).2.2.1 (na_mi 174).2.2.2.1 ∈ na_Tg ∧ (na_mi 174).1.cls ≠ "java/lang/invoke/MethodHandle" ∧ (na_mi 174).1.cls ≠ "java/lang/invoke/VarHandle" ∧ (parseMethodDescriptor (na_mi 174).1.desc).map (fun d => d.parameters.length) = some 1 := ⟨na_mem (i := 1111) (by decide +kernel) (by decide +kernel), na_mem (i := 67) (by decide +kernel) (by decide +kernel), rfl, na_mem (i := 1112) (by decide +kernel) (by decide +kernel), by decide +kernel, by decide +kernel, by decide +kernel⟩
theorem fs_175 : Cond.static (na_mi 175).1 ∈ na_Tg ∧ Cond.initialized (na_mi 175).1.cls ∈ na_Tg ∧ (na_ww (na_mi 175)).head? = some (.code (na_mi 175).1 (na_mi 175).2.1 (na_mi 175).2.2.1 (na_mi 175).2.2.2.1) ∧ Cond.code (na_mi 175).1 (na_mi 175).2.1 (na_mi 175).2.2.1 (na_mi 175).2.2.2.1 ∈ na_Tg ∧ (na_mi 175).1.cls ≠ "java/lang/invoke/MethodHandle" ∧ (na_mi 175).1.cls ≠ "java/lang/invoke/VarHandle" ∧ (parseMethodDescriptor (na_mi 175).1.desc).map (fun d => d.parameters.length) = some 2 := ⟨na_mem (i := 1120) (by decide +kernel) (by decide +kernel), na_mem (i := 67) (by decide +kernel) (by decide +kernel), rfl, na_mem (i := 1121) (by decide +kernel) (by decide +kernel), by decide +kernel, by decide +kernel, by decide +kernel⟩
theorem fv_176 : Cond.instanceMethod (na_mi 176).1 ∈ na_Tg ∧ Cond.selects (na_mi 176).1.cls (na_mi 176).1 (na_mi 176).1 ∈ na_Tg ∧ Cond.initialized (na_mi 176).1.cls ∈ na_Tg ∧ Cond.code (na_mi 176).1 (na_mi 176).2.1 (na_mi 176).2.2.1 (na_mi 176).2.2.2.1 ∈ na_Tg ∧ (na_mi 176).1.cls ≠ "java/lang/invoke/MethodHandle" ∧ (na_mi 176).1.cls ≠ "java/lang/invoke/VarHandle" ∧ (parseMethodDescriptor (na_mi 176).1.desc).map (fun d => d.parameters.length) = some (4 - 1) ∧ 1 ≤ 4 ∧ ((4 = 9 ∧ (na_mi 176).1.cls = RJ0) ∨ (4 ≠ 9 ∧ ∃ q, vwCl[4]? = some q ∧ q.1 = (na_mi 176).1.cls)) := ⟨na_mem (i := 1107) (by decide +kernel) (by decide +kernel), na_mem (i := 1108) (by decide +kernel) (by decide +kernel), na_mem (i := 67) (by decide +kernel) (by decide +kernel), na_mem (i := 1109) (by decide +kernel) (by decide +kernel), by decide +kernel, by decide +kernel, by decide +kernel, by decide, Or.inr ⟨by decide, _, rfl, by decide +kernel⟩⟩
theorem fv_177 : Cond.instanceMethod (na_mi 177).1 ∈ na_Tg ∧ Cond.selects (na_mi 177).1.cls (na_mi 177).1 (na_mi 177).1 ∈ na_Tg ∧ Cond.initialized (na_mi 177).1.cls ∈ na_Tg ∧ Cond.code (na_mi 177).1 (na_mi 177).2.1 (na_mi 177).2.2.1 (na_mi 177).2.2.2.1 ∈ na_Tg ∧ (na_mi 177).1.cls ≠ "java/lang/invoke/MethodHandle" ∧ (na_mi 177).1.cls ≠ "java/lang/invoke/VarHandle" ∧ (parseMethodDescriptor (na_mi 177).1.desc).map (fun d => d.parameters.length) = some (4 - 1) ∧ 1 ≤ 4 ∧ ((4 = 9 ∧ (na_mi 177).1.cls = RJ0) ∨ (4 ≠ 9 ∧ ∃ q, vwCl[4]? = some q ∧ q.1 = (na_mi 177).1.cls)) := ⟨na_mem (i := 1115) (by decide +kernel) (by decide +kernel), na_mem (i := 1116) (by decide +kernel) (by decide +kernel), na_mem (i := 67) (by decide +kernel) (by decide +kernel), na_mem (i := 1117) (by decide +kernel) (by decide +kernel), by decide +kernel, by decide +kernel, by decide +kernel, by decide, Or.inr ⟨by decide, _, rfl, by decide +kernel⟩⟩
theorem fv_178 : Cond.instanceMethod (na_mi 178).1 ∈ na_Tg ∧ Cond.selects (na_mi 178).1.cls (na_mi 178).1 (na_mi 178).1 ∈ na_Tg ∧ Cond.initialized (na_mi 178).1.cls ∈ na_Tg ∧ Cond.code (na_mi 178).1 (na_mi 178).2.1 (na_mi 178).2.2.1 (na_mi 178).2.2.2.1 ∈ na_Tg ∧ (na_mi 178).1.cls ≠ "java/lang/invoke/MethodHandle" ∧ (na_mi 178).1.cls ≠ "java/lang/invoke/VarHandle" ∧ (parseMethodDescriptor (na_mi 178).1.desc).map (fun d => d.parameters.length) = some (4 - 1) ∧ 1 ≤ 4 ∧ ((4 = 9 ∧ (na_mi 178).1.cls = RJ0) ∨ (4 ≠ 9 ∧ ∃ q, vwCl[4]? = some q ∧ q.1 = (na_mi 178).1.cls)) := ⟨na_mem (i := 1128) (by decide +kernel) (by decide +kernel), na_mem (i := 59) (by decide +kernel) (by decide +kernel), na_mem (i := 67) (by decide +kernel) (by decide +kernel), na_mem (i := 1129) (by decide +kernel) (by decide +kernel), by decide +kernel, by decide +kernel, by decide +kernel, by decide, Or.inr ⟨by decide, _, rfl, by decide +kernel⟩⟩
theorem fv_179 : Cond.instanceMethod (na_mi 179).1 ∈ na_Tg ∧ Cond.selects (na_mi 179).1.cls (na_mi 179).1 (na_mi 179).1 ∈ na_Tg ∧ Cond.initialized (na_mi 179).1.cls ∈ na_Tg ∧ Cond.code (na_mi 179).1 (na_mi 179).2.1 (na_mi 179).2.2.1 (na_mi 179).2.2.2.1 ∈ na_Tg ∧ (na_mi 179).1.cls ≠ "java/lang/invoke/MethodHandle" ∧ (na_mi 179).1.cls ≠ "java/lang/invoke/VarHandle" ∧ (parseMethodDescriptor (na_mi 179).1.desc).map (fun d => d.parameters.length) = some (6 - 1) ∧ 1 ≤ 6 ∧ ((4 = 9 ∧ (na_mi 179).1.cls = RJ0) ∨ (4 ≠ 9 ∧ ∃ q, vwCl[4]? = some q ∧ q.1 = (na_mi 179).1.cls)) := ⟨na_mem (i := 1123) (by decide +kernel) (by decide +kernel), na_mem (i := 1124) (by decide +kernel) (by decide +kernel), na_mem (i := 67) (by decide +kernel) (by decide +kernel), na_mem (i := 1125) (by decide +kernel) (by decide +kernel), by decide +kernel, by decide +kernel, by decide +kernel, by decide, Or.inr ⟨by decide, _, rfl, by decide +kernel⟩⟩
theorem fv_180 : Cond.instanceMethod (na_mi 180).1 ∈ na_Tg ∧ Cond.selects (na_mi 180).1.cls (na_mi 180).1 (na_mi 180).1 ∈ na_Tg ∧ Cond.initialized (na_mi 180).1.cls ∈ na_Tg ∧ Cond.code (na_mi 180).1 (na_mi 180).2.1 (na_mi 180).2.2.1 (na_mi 180).2.2.2.1 ∈ na_Tg ∧ (na_mi 180).1.cls ≠ "java/lang/invoke/MethodHandle" ∧ (na_mi 180).1.cls ≠ "java/lang/invoke/VarHandle" ∧ (parseMethodDescriptor (na_mi 180).1.desc).map (fun d => d.parameters.length) = some (2 - 1) ∧ 1 ≤ 2 ∧ ((4 = 9 ∧ (na_mi 180).1.cls = RJ0) ∨ (4 ≠ 9 ∧ ∃ q, vwCl[4]? = some q ∧ q.1 = (na_mi 180).1.cls)) := ⟨na_mem (i := 1136) (by decide +kernel) (by decide +kernel), na_mem (i := 60) (by decide +kernel) (by decide +kernel), na_mem (i := 67) (by decide +kernel) (by decide +kernel), na_mem (i := 1137) (by decide +kernel) (by decide +kernel), by decide +kernel, by decide +kernel, by decide +kernel, by decide, Or.inr ⟨by decide, _, rfl, by decide +kernel⟩⟩
theorem fv_181 : Cond.instanceMethod (na_mi 181).1 ∈ na_Tg ∧ Cond.selects (na_mi 181).1.cls (na_mi 181).1 (na_mi 181).1 ∈ na_Tg ∧ Cond.initialized (na_mi 181).1.cls ∈ na_Tg ∧ Cond.code (na_mi 181).1 (na_mi 181).2.1 (na_mi 181).2.2.1 (na_mi 181).2.2.2.1 ∈ na_Tg ∧ (na_mi 181).1.cls ≠ "java/lang/invoke/MethodHandle" ∧ (na_mi 181).1.cls ≠ "java/lang/invoke/VarHandle" ∧ (parseMethodDescriptor (na_mi 181).1.desc).map (fun d => d.parameters.length) = some (2 - 1) ∧ 1 ≤ 2 ∧ ((4 = 9 ∧ (na_mi 181).1.cls = RJ0) ∨ (4 ≠ 9 ∧ ∃ q, vwCl[4]? = some q ∧ q.1 = (na_mi 181).1.cls)) := ⟨na_mem (i := 1131) (by decide +kernel) (by decide +kernel), na_mem (i := 1132) (by decide +kernel) (by decide +kernel), na_mem (i := 67) (by decide +kernel) (by decide +kernel), na_mem (i := 1133) (by decide +kernel) (by decide +kernel), by decide +kernel, by decide +kernel, by decide +kernel, by decide, Or.inr ⟨by decide, _, rfl, by decide +kernel⟩⟩
theorem fv_182 : Cond.instanceMethod (na_mi 182).1 ∈ na_Tg ∧ Cond.selects (na_mi 182).1.cls (na_mi 182).1 (na_mi 182).1 ∈ na_Tg ∧ Cond.initialized (na_mi 182).1.cls ∈ na_Tg ∧ Cond.code (na_mi 182).1 (na_mi 182).2.1 (na_mi 182).2.2.1 (na_mi 182).2.2.2.1 ∈ na_Tg ∧ (na_mi 182).1.cls ≠ "java/lang/invoke/MethodHandle" ∧ (na_mi 182).1.cls ≠ "java/lang/invoke/VarHandle" ∧ (parseMethodDescriptor (na_mi 182).1.desc).map (fun d => d.parameters.length) = some (3 - 1) ∧ 1 ≤ 3 ∧ ((4 = 9 ∧ (na_mi 182).1.cls = RJ0) ∨ (4 ≠ 9 ∧ ∃ q, vwCl[4]? = some q ∧ q.1 = (na_mi 182).1.cls)) := ⟨na_mem (i := 1140) (by decide +kernel) (by decide +kernel), na_mem (i := 1141) (by decide +kernel) (by decide +kernel), na_mem (i := 67) (by decide +kernel) (by decide +kernel), na_mem (i := 1142) (by decide +kernel) (by decide +kernel), by decide +kernel, by decide +kernel, by decide +kernel, by decide, Or.inr ⟨by decide, _, rfl, by decide +kernel⟩⟩
theorem fv_183 : Cond.instanceMethod (na_mi 183).1 ∈ na_Tg ∧ Cond.selects (na_mi 183).1.cls (na_mi 183).1 (na_mi 183).1 ∈ na_Tg ∧ Cond.initialized (na_mi 183).1.cls ∈ na_Tg ∧ Cond.code (na_mi 183).1 (na_mi 183).2.1 (na_mi 183).2.2.1 (na_mi 183).2.2.2.1 ∈ na_Tg ∧ (na_mi 183).1.cls ≠ "java/lang/invoke/MethodHandle" ∧ (na_mi 183).1.cls ≠ "java/lang/invoke/VarHandle" ∧ (parseMethodDescriptor (na_mi 183).1.desc).map (fun d => d.parameters.length) = some (3 - 1) ∧ 1 ≤ 3 ∧ ((4 = 9 ∧ (na_mi 183).1.cls = RJ0) ∨ (4 ≠ 9 ∧ ∃ q, vwCl[4]? = some q ∧ q.1 = (na_mi 183).1.cls)) := ⟨na_mem (i := 1149) (by decide +kernel) (by decide +kernel), na_mem (i := 61) (by decide +kernel) (by decide +kernel), na_mem (i := 67) (by decide +kernel) (by decide +kernel), na_mem (i := 1150) (by decide +kernel) (by decide +kernel), by decide +kernel, by decide +kernel, by decide +kernel, by decide, Or.inr ⟨by decide, _, rfl, by decide +kernel⟩⟩
theorem fv_184 : Cond.instanceMethod (na_mi 184).1 ∈ na_Tg ∧ Cond.selects (na_mi 184).1.cls (na_mi 184).1 (na_mi 184).1 ∈ na_Tg ∧ Cond.initialized (na_mi 184).1.cls ∈ na_Tg ∧ Cond.code (na_mi 184).1 (na_mi 184).2.1 (na_mi 184).2.2.1 (na_mi 184).2.2.2.1 ∈ na_Tg ∧ (na_mi 184).1.cls ≠ "java/lang/invoke/MethodHandle" ∧ (na_mi 184).1.cls ≠ "java/lang/invoke/VarHandle" ∧ (parseMethodDescriptor (na_mi 184).1.desc).map (fun d => d.parameters.length) = some (3 - 1) ∧ 1 ≤ 3 ∧ ((4 = 9 ∧ (na_mi 184).1.cls = RJ0) ∨ (4 ≠ 9 ∧ ∃ q, vwCl[4]? = some q ∧ q.1 = (na_mi 184).1.cls)) := ⟨na_mem (i := 1144) (by decide +kernel) (by decide +kernel), na_mem (i := 1145) (by decide +kernel) (by decide +kernel), na_mem (i := 67) (by decide +kernel) (by decide +kernel), na_mem (i := 1146) (by decide +kernel) (by decide +kernel), by decide +kernel, by decide +kernel, by decide +kernel, by decide, Or.inr ⟨by decide, _, rfl, by decide +kernel⟩⟩
theorem fv_185 : Cond.instanceMethod (na_mi 185).1 ∈ na_Tg ∧ Cond.selects (na_mi 185).1.cls (na_mi 185).1 (na_mi 185).1 ∈ na_Tg ∧ Cond.initialized (na_mi 185).1.cls ∈ na_Tg ∧ Cond.code (na_mi 185).1 (na_mi 185).2.1 (na_mi 185).2.2.1 (na_mi 185).2.2.2.1 ∈ na_Tg ∧ (na_mi 185).1.cls ≠ "java/lang/invoke/MethodHandle" ∧ (na_mi 185).1.cls ≠ "java/lang/invoke/VarHandle" ∧ (parseMethodDescriptor (na_mi 185).1.desc).map (fun d => d.parameters.length) = some (3 - 1) ∧ 1 ≤ 3 ∧ ((4 = 9 ∧ (na_mi 185).1.cls = RJ0) ∨ (4 ≠ 9 ∧ ∃ q, vwCl[4]? = some q ∧ q.1 = (na_mi 185).1.cls)) := ⟨na_mem (i := 922) (by decide +kernel) (by decide +kernel), na_mem (i := 40) (by decide +kernel) (by decide +kernel), na_mem (i := 67) (by decide +kernel) (by decide +kernel), na_mem (i := 923) (by decide +kernel) (by decide +kernel), by decide +kernel, by decide +kernel, by decide +kernel, by decide, Or.inr ⟨by decide, _, rfl, by decide +kernel⟩⟩
theorem fv_186 : Cond.instanceMethod (na_mi 186).1 ∈ na_Tg ∧ Cond.selects (na_mi 186).1.cls (na_mi 186).1 (na_mi 186).1 ∈ na_Tg ∧ Cond.initialized (na_mi 186).1.cls ∈ na_Tg ∧ Cond.code (na_mi 186).1 (na_mi 186).2.1 (na_mi 186).2.2.1 (na_mi 186).2.2.2.1 ∈ na_Tg ∧ (na_mi 186).1.cls ≠ "java/lang/invoke/MethodHandle" ∧ (na_mi 186).1.cls ≠ "java/lang/invoke/VarHandle" ∧ (parseMethodDescriptor (na_mi 186).1.desc).map (fun d => d.parameters.length) = some (1 - 1) ∧ 1 ≤ 1 ∧ ((4 = 9 ∧ (na_mi 186).1.cls = RJ0) ∨ (4 ≠ 9 ∧ ∃ q, vwCl[4]? = some q ∧ q.1 = (na_mi 186).1.cls)) := ⟨na_mem (i := 1152) (by decide +kernel) (by decide +kernel), na_mem (i := 1153) (by decide +kernel) (by decide +kernel), na_mem (i := 67) (by decide +kernel) (by decide +kernel), na_mem (i := 1154) (by decide +kernel) (by decide +kernel), by decide +kernel, by decide +kernel, by decide +kernel, by decide, Or.inr ⟨by decide, _, rfl, by decide +kernel⟩⟩
theorem fv_187 : Cond.instanceMethod (na_mi 187).1 ∈ na_Tg ∧ Cond.selects (na_mi 187).1.cls (na_mi 187).1 (na_mi 187).1 ∈ na_Tg ∧ Cond.initialized (na_mi 187).1.cls ∈ na_Tg ∧ Cond.code (na_mi 187).1 (na_mi 187).2.1 (na_mi 187).2.2.1 (na_mi 187).2.2.2.1 ∈ na_Tg ∧ (na_mi 187).1.cls ≠ "java/lang/invoke/MethodHandle" ∧ (na_mi 187).1.cls ≠ "java/lang/invoke/VarHandle" ∧ (parseMethodDescriptor (na_mi 187).1.desc).map (fun d => d.parameters.length) = some (1 - 1) ∧ 1 ≤ 1 ∧ ((4 = 9 ∧ (na_mi 187).1.cls = RJ0) ∨ (4 ≠ 9 ∧ ∃ q, vwCl[4]? = some q ∧ q.1 = (na_mi 187).1.cls)) := ⟨na_mem (i := 1156) (by decide +kernel) (by decide +kernel), na_mem (i := 1157) (by decide +kernel) (by decide +kernel), na_mem (i := 67) (by decide +kernel) (by decide +kernel), na_mem (i := 1158) (by decide +kernel) (by decide +kernel), by decide +kernel, by decide +kernel, by decide +kernel, by decide, Or.inr ⟨by decide, _, rfl, by decide +kernel⟩⟩
theorem fv_188 : Cond.instanceMethod (na_mi 188).1 ∈ na_Tg ∧ Cond.selects (na_mi 188).1.cls (na_mi 188).1 (na_mi 188).1 ∈ na_Tg ∧ Cond.initialized (na_mi 188).1.cls ∈ na_Tg ∧ Cond.code (na_mi 188).1 (na_mi 188).2.1 (na_mi 188).2.2.1 (na_mi 188).2.2.2.1 ∈ na_Tg ∧ (na_mi 188).1.cls ≠ "java/lang/invoke/MethodHandle" ∧ (na_mi 188).1.cls ≠ "java/lang/invoke/VarHandle" ∧ (parseMethodDescriptor (na_mi 188).1.desc).map (fun d => d.parameters.length) = some (1 - 1) ∧ 1 ≤ 1 ∧ ((4 = 9 ∧ (na_mi 188).1.cls = RJ0) ∨ (4 ≠ 9 ∧ ∃ q, vwCl[4]? = some q ∧ q.1 = (na_mi 188).1.cls)) := ⟨na_mem (i := 1160) (by decide +kernel) (by decide +kernel), na_mem (i := 1161) (by decide +kernel) (by decide +kernel), na_mem (i := 67) (by decide +kernel) (by decide +kernel), na_mem (i := 1162) (by decide +kernel) (by decide +kernel), by decide +kernel, by decide +kernel, by decide +kernel, by decide, Or.inr ⟨by decide, _, rfl, by decide +kernel⟩⟩
theorem fv_189 : Cond.instanceMethod (na_mi 189).1 ∈ na_Tg ∧ Cond.selects (na_mi 189).1.cls (na_mi 189).1 (na_mi 189).1 ∈ na_Tg ∧ Cond.initialized (na_mi 189).1.cls ∈ na_Tg ∧ Cond.code (na_mi 189).1 (na_mi 189).2.1 (na_mi 189).2.2.1 (na_mi 189).2.2.2.1 ∈ na_Tg ∧ (na_mi 189).1.cls ≠ "java/lang/invoke/MethodHandle" ∧ (na_mi 189).1.cls ≠ "java/lang/invoke/VarHandle" ∧ (parseMethodDescriptor (na_mi 189).1.desc).map (fun d => d.parameters.length) = some (2 - 1) ∧ 1 ≤ 2 ∧ ((4 = 9 ∧ (na_mi 189).1.cls = RJ0) ∨ (4 ≠ 9 ∧ ∃ q, vwCl[4]? = some q ∧ q.1 = (na_mi 189).1.cls)) := ⟨na_mem (i := 1164) (by decide +kernel) (by decide +kernel), na_mem (i := 1165) (by decide +kernel) (by decide +kernel), na_mem (i := 67) (by decide +kernel) (by decide +kernel), na_mem (i := 1166) (by decide +kernel) (by decide +kernel), by decide +kernel, by decide +kernel, by decide +kernel, by decide, Or.inr ⟨by decide, _, rfl, by decide +kernel⟩⟩
theorem fv_190 : Cond.instanceMethod (na_mi 190).1 ∈ na_Tg ∧ Cond.selects (na_mi 190).1.cls (na_mi 190).1 (na_mi 190).1 ∈ na_Tg ∧ Cond.initialized (na_mi 190).1.cls ∈ na_Tg ∧ Cond.code (na_mi 190).1 (na_mi 190).2.1 (na_mi 190).2.2.1 (na_mi 190).2.2.2.1 ∈ na_Tg ∧ (na_mi 190).1.cls ≠ "java/lang/invoke/MethodHandle" ∧ (na_mi 190).1.cls ≠ "java/lang/invoke/VarHandle" ∧ (parseMethodDescriptor (na_mi 190).1.desc).map (fun d => d.parameters.length) = some (2 - 1) ∧ 1 ≤ 2 ∧ ((4 = 9 ∧ (na_mi 190).1.cls = RJ0) ∨ (4 ≠ 9 ∧ ∃ q, vwCl[4]? = some q ∧ q.1 = (na_mi 190).1.cls)) := ⟨na_mem (i := 1168) (by decide +kernel) (by decide +kernel), na_mem (i := 1169) (by decide +kernel) (by decide +kernel), na_mem (i := 67) (by decide +kernel) (by decide +kernel), na_mem (i := 1170) (by decide +kernel) (by decide +kernel), by decide +kernel, by decide +kernel, by decide +kernel, by decide, Or.inr ⟨by decide, _, rfl, by decide +kernel⟩⟩
theorem fs_191 : Cond.static (na_mi 191).1 ∈ na_Tg ∧ Cond.initialized (na_mi 191).1.cls ∈ na_Tg ∧ (na_ww (na_mi 191)).head? = some (.code (na_mi 191).1 (na_mi 191).2.1 (na_mi 191).2.2.1 (na_mi 191).2.2.2.1) ∧ Cond.code (na_mi 191).1 (na_mi 191).2.1 (na_mi 191).2.2.1 (na_mi 191).2.2.2.1 ∈ na_Tg ∧ (na_mi 191).1.cls ≠ "java/lang/invoke/MethodHandle" ∧ (na_mi 191).1.cls ≠ "java/lang/invoke/VarHandle" ∧ (parseMethodDescriptor (na_mi 191).1.desc).map (fun d => d.parameters.length) = some 1 := ⟨na_mem (i := 408) (by decide +kernel) (by decide +kernel), na_mem (i := 70) (by decide +kernel) (by decide +kernel), rfl, na_mem (i := 409) (by decide +kernel) (by decide +kernel), by decide +kernel, by decide +kernel, by decide +kernel⟩
theorem fs_192 : Cond.static (na_mi 192).1 ∈ na_Tg ∧ Cond.initialized (na_mi 192).1.cls ∈ na_Tg ∧ (na_ww (na_mi 192)).head? = some (.code (na_mi 192).1 (na_mi 192).2.1 (na_mi 192).2.2.1 (na_mi 192).2.2.2.1) ∧ Cond.code (na_mi 192).1 (na_mi 192).2.1 (na_mi 192).2.2.1 (na_mi 192).2.2.2.1 ∈ na_Tg ∧ (na_mi 192).1.cls ≠ "java/lang/invoke/MethodHandle" ∧ (na_mi 192).1.cls ≠ "java/lang/invoke/VarHandle" ∧ (parseMethodDescriptor (na_mi 192).1.desc).map (fun d => d.parameters.length) = some 1 := ⟨na_mem (i := 430) (by decide +kernel) (by decide +kernel), na_mem (i := 70) (by decide +kernel) (by decide +kernel), rfl, na_mem (i := 431) (by decide +kernel) (by decide +kernel), by decide +kernel, by decide +kernel, by decide +kernel⟩
theorem fv_193 : Cond.instanceMethod (na_mi 193).1 ∈ na_Tg ∧ Cond.selects (na_mi 193).1.cls (na_mi 193).1 (na_mi 193).1 ∈ na_Tg ∧ Cond.initialized (na_mi 193).1.cls ∈ na_Tg ∧ Cond.code (na_mi 193).1 (na_mi 193).2.1 (na_mi 193).2.2.1 (na_mi 193).2.2.2.1 ∈ na_Tg ∧ (na_mi 193).1.cls ≠ "java/lang/invoke/MethodHandle" ∧ (na_mi 193).1.cls ≠ "java/lang/invoke/VarHandle" ∧ (parseMethodDescriptor (na_mi 193).1.desc).map (fun d => d.parameters.length) = some (1 - 1) ∧ 1 ≤ 1 ∧ ((9 = 9 ∧ (na_mi 193).1.cls = RJ0) ∨ (9 ≠ 9 ∧ ∃ q, vwCl[9]? = some q ∧ q.1 = (na_mi 193).1.cls)) := ⟨na_mem (i := 538) (by decide +kernel) (by decide +kernel), na_mem (i := 539) (by decide +kernel) (by decide +kernel), na_mem (i := 71) (by decide +kernel) (by decide +kernel), na_mem (i := 540) (by decide +kernel) (by decide +kernel), by decide +kernel, by decide +kernel, by decide +kernel, by decide, Or.inl ⟨rfl, by decide +kernel⟩⟩
theorem fv_194 : Cond.instanceMethod (na_mi 194).1 ∈ na_Tg ∧ Cond.selects (na_mi 194).1.cls (na_mi 194).1 (na_mi 194).1 ∈ na_Tg ∧ Cond.initialized (na_mi 194).1.cls ∈ na_Tg ∧ Cond.code (na_mi 194).1 (na_mi 194).2.1 (na_mi 194).2.2.1 (na_mi 194).2.2.2.1 ∈ na_Tg ∧ (na_mi 194).1.cls ≠ "java/lang/invoke/MethodHandle" ∧ (na_mi 194).1.cls ≠ "java/lang/invoke/VarHandle" ∧ (parseMethodDescriptor (na_mi 194).1.desc).map (fun d => d.parameters.length) = some (2 - 1) ∧ 1 ≤ 2 ∧ ((9 = 9 ∧ (na_mi 194).1.cls = RJ0) ∨ (9 ≠ 9 ∧ ∃ q, vwCl[9]? = some q ∧ q.1 = (na_mi 194).1.cls)) := ⟨na_mem (i := 548) (by decide +kernel) (by decide +kernel), na_mem (i := 549) (by decide +kernel) (by decide +kernel), na_mem (i := 71) (by decide +kernel) (by decide +kernel), na_mem (i := 550) (by decide +kernel) (by decide +kernel), by decide +kernel, by decide +kernel, by decide +kernel, by decide, Or.inl ⟨rfl, by decide +kernel⟩⟩
theorem fv_195 : Cond.instanceMethod (na_mi 195).1 ∈ na_Tg ∧ Cond.selects (na_mi 195).1.cls (na_mi 195).1 (na_mi 195).1 ∈ na_Tg ∧ Cond.initialized (na_mi 195).1.cls ∈ na_Tg ∧ Cond.code (na_mi 195).1 (na_mi 195).2.1 (na_mi 195).2.2.1 (na_mi 195).2.2.2.1 ∈ na_Tg ∧ (na_mi 195).1.cls ≠ "java/lang/invoke/MethodHandle" ∧ (na_mi 195).1.cls ≠ "java/lang/invoke/VarHandle" ∧ (parseMethodDescriptor (na_mi 195).1.desc).map (fun d => d.parameters.length) = some (1 - 1) ∧ 1 ≤ 1 ∧ ((9 = 9 ∧ (na_mi 195).1.cls = RJ0) ∨ (9 ≠ 9 ∧ ∃ q, vwCl[9]? = some q ∧ q.1 = (na_mi 195).1.cls)) := ⟨na_mem (i := 542) (by decide +kernel) (by decide +kernel), na_mem (i := 543) (by decide +kernel) (by decide +kernel), na_mem (i := 71) (by decide +kernel) (by decide +kernel), na_mem (i := 544) (by decide +kernel) (by decide +kernel), by decide +kernel, by decide +kernel, by decide +kernel, by decide, Or.inl ⟨rfl, by decide +kernel⟩⟩
theorem fv_196 : Cond.instanceMethod (na_mi 196).1 ∈ na_Tg ∧ Cond.selects (na_mi 196).1.cls (na_mi 196).1 (na_mi 196).1 ∈ na_Tg ∧ Cond.initialized (na_mi 196).1.cls ∈ na_Tg ∧ Cond.code (na_mi 196).1 (na_mi 196).2.1 (na_mi 196).2.2.1 (na_mi 196).2.2.2.1 ∈ na_Tg ∧ (na_mi 196).1.cls ≠ "java/lang/invoke/MethodHandle" ∧ (na_mi 196).1.cls ≠ "java/lang/invoke/VarHandle" ∧ (parseMethodDescriptor (na_mi 196).1.desc).map (fun d => d.parameters.length) = some (1 - 1) ∧ 1 ≤ 1 ∧ ((9 = 9 ∧ (na_mi 196).1.cls = RJ0) ∨ (9 ≠ 9 ∧ ∃ q, vwCl[9]? = some q ∧ q.1 = (na_mi 196).1.cls)) := ⟨na_mem (i := 552) (by decide +kernel) (by decide +kernel), na_mem (i := 553) (by decide +kernel) (by decide +kernel), na_mem (i := 71) (by decide +kernel) (by decide +kernel), na_mem (i := 554) (by decide +kernel) (by decide +kernel), by decide +kernel, by decide +kernel, by decide +kernel, by decide, Or.inl ⟨rfl, by decide +kernel⟩⟩
theorem fs_197 : Cond.static (na_mi 197).1 ∈ na_Tg ∧ Cond.initialized (na_mi 197).1.cls ∈ na_Tg ∧ (na_ww (na_mi 197)).head? = some (.code (na_mi 197).1 (na_mi 197).2.1 (na_mi 197).2.2.1 (na_mi 197).2.2.2.1) ∧ Cond.code (na_mi 197).1 (na_mi 197).2.1 (na_mi 197).2.2.1 (na_mi 197).2.2.2.1 ∈ na_Tg ∧ (na_mi 197).1.cls ≠ "java/lang/invoke/MethodHandle" ∧ (na_mi 197).1.cls ≠ "java/lang/invoke/VarHandle" ∧ (parseMethodDescriptor (na_mi 197).1.desc).map (fun d => d.parameters.length) = some 2 := ⟨na_mem (i := 559) (by decide +kernel) (by decide +kernel), na_mem (i := 71) (by decide +kernel) (by decide +kernel), rfl, na_mem (i := 560) (by decide +kernel) (by decide +kernel), by decide +kernel, by decide +kernel, by decide +kernel⟩
theorem fs_198 : Cond.static (na_mi 198).1 ∈ na_Tg ∧ Cond.initialized (na_mi 198).1.cls ∈ na_Tg ∧ (na_ww (na_mi 198)).head? = some (.code (na_mi 198).1 (na_mi 198).2.1 (na_mi 198).2.2.1 (na_mi 198).2.2.2.1) ∧ Cond.code (na_mi 198).1 (na_mi 198).2.1 (na_mi 198).2.2.1 (na_mi 198).2.2.2.1 ∈ na_Tg ∧ (na_mi 198).1.cls ≠ "java/lang/invoke/MethodHandle" ∧ (na_mi 198).1.cls ≠ "java/lang/invoke/VarHandle" ∧ (parseMethodDescriptor (na_mi 198).1.desc).map (fun d => d.parameters.length) = some 2 := ⟨na_mem (i := 556) (by decide +kernel) (by decide +kernel), na_mem (i := 72) (by decide +kernel) (by decide +kernel), rfl, na_mem (i := 557) (by decide +kernel) (by decide +kernel), by decide +kernel, by decide +kernel, by decide +kernel⟩
theorem fs_199 : Cond.static (na_mi 199).1 ∈ na_Tg ∧ Cond.initialized (na_mi 199).1.cls ∈ na_Tg ∧ (na_ww (na_mi 199)).head? = some (.code (na_mi 199).1 (na_mi 199).2.1 (na_mi 199).2.2.1 (na_mi 199).2.2.2.1) ∧ Cond.code (na_mi 199).1 (na_mi 199).2.1 (na_mi 199).2.2.1 (na_mi 199).2.2.2.1 ∈ na_Tg ∧ (na_mi 199).1.cls ≠ "java/lang/invoke/MethodHandle" ∧ (na_mi 199).1.cls ≠ "java/lang/invoke/VarHandle" ∧ (parseMethodDescriptor (na_mi 199).1.desc).map (fun d => d.parameters.length) = some 3 := ⟨na_mem (i := 564) (by decide +kernel) (by decide +kernel), na_mem (i := 73) (by decide +kernel) (by decide +kernel), rfl, na_mem (i := 565) (by decide +kernel) (by decide +kernel), by decide +kernel, by decide +kernel, by decide +kernel⟩
theorem fw_0 : ∀ w ∈ u_ws RX0 TX0 13, w ∈ na_Tg := by
  have h : u_ws RX0 TX0 13 = [116, 118, 120, 122, 124, 126, 128, 130, 132, 134, 136, 138, 140].filterMap (fun i => lw_tbl[i]?) := by decide +kernel
  have hg : (u_ws RX0 TX0 13).all goodWord = true := by decide +kernel
  intro w hw
  have h2 := List.all_eq_true.mp hg w hw
  rw [h] at hw
  obtain ⟨i, -, hi⟩ := List.mem_filterMap.mp hw
  exact na_mem hi h2
theorem fw_1 : ∀ w ∈ u_ws RX1 TX1 3, w ∈ na_Tg := by
  have h : u_ws RX1 TX1 3 = [185, 187, 189].filterMap (fun i => lw_tbl[i]?) := by decide +kernel
  have hg : (u_ws RX1 TX1 3).all goodWord = true := by decide +kernel
  intro w hw
  have h2 := List.all_eq_true.mp hg w hw
  rw [h] at hw
  obtain ⟨i, -, hi⟩ := List.mem_filterMap.mp hw
  exact na_mem hi h2
theorem fw_2 : ∀ w ∈ u_ws RX2 TX2 6, w ∈ na_Tg := by
  have h : u_ws RX2 TX2 6 = [157, 159, 161, 163, 165, 167].filterMap (fun i => lw_tbl[i]?) := by decide +kernel
  have hg : (u_ws RX2 TX2 6).all goodWord = true := by decide +kernel
  intro w hw
  have h2 := List.all_eq_true.mp hg w hw
  rw [h] at hw
  obtain ⟨i, -, hi⟩ := List.mem_filterMap.mp hw
  exact na_mem hi h2
theorem fw_3 : ∀ w ∈ u_ws RX3 TX3 7, w ∈ na_Tg := by
  have h : u_ws RX3 TX3 7 = [200, 202, 204, 206, 208, 210, 212].filterMap (fun i => lw_tbl[i]?) := by decide +kernel
  have hg : (u_ws RX3 TX3 7).all goodWord = true := by decide +kernel
  intro w hw
  have h2 := List.all_eq_true.mp hg w hw
  rw [h] at hw
  obtain ⟨i, -, hi⟩ := List.mem_filterMap.mp hw
  exact na_mem hi h2
theorem fw_4 : ∀ w ∈ u_ws RX4 TX4 18, w ∈ na_Tg := by
  have h : u_ws RX4 TX4 18 = [728, 730, 732, 734, 736, 738, 740, 742, 744, 746, 748, 750, 752, 754, 756, 758, 760, 762].filterMap (fun i => lw_tbl[i]?) := by decide +kernel
  have hg : (u_ws RX4 TX4 18).all goodWord = true := by decide +kernel
  intro w hw
  have h2 := List.all_eq_true.mp hg w hw
  rw [h] at hw
  obtain ⟨i, -, hi⟩ := List.mem_filterMap.mp hw
  exact na_mem hi h2
end
section
/-! what each linking instruction is linked to (by program) -/
abbrev Lk : Type := Instr × List Nat × Int32 × Int64
def na_isl : Instr → Bool
  | .ldc _ => true
  | .ldc_w _ => true
  | .ldc2_w _ => true
  | .getfield _ => true
  | .putfield _ => true
  | .getstatic _ => true
  | .invokestatic _ => true
  | .invokevirtual _ => true
  | _ => false
def na_lks (L : List Lk) (P : List En) : Bool := P.all fun e => !(na_isl e.2.2.1) || L.any fun q => decide (q = e.2.2)
theorem na_lks_s {own : String} {L : List Lk} {P : List En} (hL : ∀ q ∈ L, na_lk own q.1 q.2.1 q.2.2.1 q.2.2.2) (h : na_lks L P = true) : ∀ e ∈ P, na_lk own e.2.2.1 e.2.2.2.1 e.2.2.2.2.1 e.2.2.2.2.2 := by
  intro e he
  have h1 := List.all_eq_true.mp h e he
  simp only [Bool.or_eq_true, Bool.not_eq_true', List.any_eq_true, decide_eq_true_eq] at h1
  rcases h1 with h1 | ⟨q, h1, h2⟩
  · obtain ⟨pc, len, i, hh, v, w⟩ := e
    cases i <;> first | trivial | cases h1
  · have h3 := hL q h1
    rw [h2] at h3
    exact h3
def Llk_RX0 : List Lk := [(.invokevirtual 39, [1, 2, 0], 0, 0),
  (.invokestatic 43, [999], 0, 0),
  (.getfield 49, [0, 4], 0, 0),
  (.putfield 49, [0, 4, 0], 0, 0),
  (.getfield 53, [0, 5], 0, 0),
  (.putfield 53, [0, 5, 0], 0, 0),
  (.getfield 56, [0, 6], 0, 0),
  (.putfield 56, [0, 6, 0], 0, 0),
  (.getfield 59, [0, 7], 0, 0),
  (.putfield 59, [0, 7, 0], 0, 0),
  (.invokevirtual 62, [2, 2, 0], 0, 0),
  (.getfield 9, [0, 0], 0, 0),
  (.getfield 15, [0, 1], 0, 0),
  (.getfield 18, [0, 2], 0, 0),
  (.getfield 21, [0, 3], 0, 0),
  (.getfield 24, [0, 8], 0, 0),
  (.getfield 27, [0, 9], 0, 0),
  (.getfield 30, [0, 10], 0, 0),
  (.getfield 33, [0, 11], 0, 0),
  (.getfield 36, [0, 12], 0, 0),
  (.invokestatic 65, [91, 2], 0, 0),
  (.invokevirtual 69, [12, 2, 0], 0, 0),
  (.invokestatic 73, [996], 0, 0),
  (.invokevirtual 79, [13, 2, 0], 0, 0),
  (.invokevirtual 82, [15, 1, 0], 0, 0),
  (.invokevirtual 86, [16, 1, 0], 0, 0),
  (.invokevirtual 89, [17, 1, 0], 0, 0),
  (.invokevirtual 92, [18, 1, 0], 0, 0),
  (.invokevirtual 95, [19, 1, 0], 0, 0),
  (.invokestatic 98, [997], 0, 0),
  (.invokevirtual 101, [14, 2, 0], 0, 0),
  (.invokevirtual 105, [8, 1, 0], 0, 0),
  (.invokestatic 108, [192, 1], 0, 0),
  (.getfield 113, [1, 2], 0, 0),
  (.getfield 118, [1, 0], 0, 0)]
theorem lk_RX0_0 : na_lk RX0 (.invokevirtual 39) [1, 2, 0] 0 0 := ⟨na_mem (i := 392) (by decide +kernel) (by decide +kernel), fv_1⟩
theorem lk_RX0_1 : na_lk RX0 (.invokestatic 43) [999] 0 0 := na_mem (i := 334) (by decide +kernel) (by decide +kernel)
theorem lk_RX0_2 : na_lk RX0 (.getfield 49) [0, 4] 0 0 := ⟨RX0, TX0, 13, rfl, fw_0, by decide, na_mem (i := 97) (by decide +kernel) (by decide +kernel)⟩
theorem lk_RX0_3 : na_lk RX0 (.putfield 49) [0, 4, 0] 0 0 := ⟨RX0, TX0, 13, tyX0, rfl, fw_0, tyX0_ok, nmX0, by decide, na_mem (i := 97) (by decide +kernel) (by decide +kernel), rfl, Or.inl ⟨rfl, rfl⟩⟩
theorem lk_RX0_4 : na_lk RX0 (.getfield 53) [0, 5] 0 0 := ⟨RX0, TX0, 13, rfl, fw_0, by decide, na_mem (i := 99) (by decide +kernel) (by decide +kernel)⟩
theorem lk_RX0_5 : na_lk RX0 (.putfield 53) [0, 5, 0] 0 0 := ⟨RX0, TX0, 13, tyX0, rfl, fw_0, tyX0_ok, nmX0, by decide, na_mem (i := 99) (by decide +kernel) (by decide +kernel), rfl, Or.inl ⟨rfl, rfl⟩⟩
theorem lk_RX0_6 : na_lk RX0 (.getfield 56) [0, 6] 0 0 := ⟨RX0, TX0, 13, rfl, fw_0, by decide, na_mem (i := 102) (by decide +kernel) (by decide +kernel)⟩
theorem lk_RX0_7 : na_lk RX0 (.putfield 56) [0, 6, 0] 0 0 := ⟨RX0, TX0, 13, tyX0, rfl, fw_0, tyX0_ok, nmX0, by decide, na_mem (i := 102) (by decide +kernel) (by decide +kernel), rfl, Or.inl ⟨rfl, rfl⟩⟩
theorem lk_RX0_8 : na_lk RX0 (.getfield 59) [0, 7] 0 0 := ⟨RX0, TX0, 13, rfl, fw_0, by decide, na_mem (i := 104) (by decide +kernel) (by decide +kernel)⟩
theorem lk_RX0_9 : na_lk RX0 (.putfield 59) [0, 7, 0] 0 0 := ⟨RX0, TX0, 13, tyX0, rfl, fw_0, tyX0_ok, nmX0, by decide, na_mem (i := 104) (by decide +kernel) (by decide +kernel), rfl, Or.inl ⟨rfl, rfl⟩⟩
theorem lk_RX0_10 : na_lk RX0 (.invokevirtual 62) [2, 2, 0] 0 0 := ⟨na_mem (i := 333) (by decide +kernel) (by decide +kernel), fv_2⟩
theorem lk_RX0_11 : na_lk RX0 (.getfield 9) [0, 0] 0 0 := ⟨RX0, TX0, 13, rfl, fw_0, by decide, na_mem (i := 89) (by decide +kernel) (by decide +kernel)⟩
theorem lk_RX0_12 : na_lk RX0 (.getfield 15) [0, 1] 0 0 := ⟨RX0, TX0, 13, rfl, fw_0, by decide, na_mem (i := 91) (by decide +kernel) (by decide +kernel)⟩
theorem lk_RX0_13 : na_lk RX0 (.getfield 18) [0, 2] 0 0 := ⟨RX0, TX0, 13, rfl, fw_0, by decide, na_mem (i := 93) (by decide +kernel) (by decide +kernel)⟩
theorem lk_RX0_14 : na_lk RX0 (.getfield 21) [0, 3] 0 0 := ⟨RX0, TX0, 13, rfl, fw_0, by decide, na_mem (i := 95) (by decide +kernel) (by decide +kernel)⟩
theorem lk_RX0_15 : na_lk RX0 (.getfield 24) [0, 8] 0 0 := ⟨RX0, TX0, 13, rfl, fw_0, by decide, na_mem (i := 106) (by decide +kernel) (by decide +kernel)⟩
theorem lk_RX0_16 : na_lk RX0 (.getfield 27) [0, 9] 0 0 := ⟨RX0, TX0, 13, rfl, fw_0, by decide, na_mem (i := 108) (by decide +kernel) (by decide +kernel)⟩
theorem lk_RX0_17 : na_lk RX0 (.getfield 30) [0, 10] 0 0 := ⟨RX0, TX0, 13, rfl, fw_0, by decide, na_mem (i := 110) (by decide +kernel) (by decide +kernel)⟩
theorem lk_RX0_18 : na_lk RX0 (.getfield 33) [0, 11] 0 0 := ⟨RX0, TX0, 13, rfl, fw_0, by decide, na_mem (i := 112) (by decide +kernel) (by decide +kernel)⟩
theorem lk_RX0_19 : na_lk RX0 (.getfield 36) [0, 12] 0 0 := ⟨RX0, TX0, 13, rfl, fw_0, by decide, na_mem (i := 114) (by decide +kernel) (by decide +kernel)⟩
theorem lk_RX0_20 : na_lk RX0 (.invokestatic 65) [91, 2] 0 0 := ⟨Or.inr (Or.inl ⟨rfl, rfl, rfl⟩), fs_91⟩
theorem lk_RX0_21 : na_lk RX0 (.invokevirtual 69) [12, 2, 0] 0 0 := ⟨na_mem (i := 254) (by decide +kernel) (by decide +kernel), fv_12⟩
theorem lk_RX0_22 : na_lk RX0 (.invokestatic 73) [996] 0 0 := na_mem (i := 469) (by decide +kernel) (by decide +kernel)
theorem lk_RX0_23 : na_lk RX0 (.invokevirtual 79) [13, 2, 0] 0 0 := ⟨na_mem (i := 258) (by decide +kernel) (by decide +kernel), fv_13⟩
theorem lk_RX0_24 : na_lk RX0 (.invokevirtual 82) [15, 1, 0] 0 0 := ⟨na_mem (i := 346) (by decide +kernel) (by decide +kernel), fv_15⟩
theorem lk_RX0_25 : na_lk RX0 (.invokevirtual 86) [16, 1, 0] 0 0 := ⟨na_mem (i := 350) (by decide +kernel) (by decide +kernel), fv_16⟩
theorem lk_RX0_26 : na_lk RX0 (.invokevirtual 89) [17, 1, 0] 0 0 := ⟨na_mem (i := 357) (by decide +kernel) (by decide +kernel), fv_17⟩
theorem lk_RX0_27 : na_lk RX0 (.invokevirtual 92) [18, 1, 0] 0 0 := ⟨na_mem (i := 361) (by decide +kernel) (by decide +kernel), fv_18⟩
theorem lk_RX0_28 : na_lk RX0 (.invokevirtual 95) [19, 1, 0] 0 0 := ⟨na_mem (i := 365) (by decide +kernel) (by decide +kernel), fv_19⟩
theorem lk_RX0_29 : na_lk RX0 (.invokestatic 98) [997] 0 0 := na_mem (i := 354) (by decide +kernel) (by decide +kernel)
theorem lk_RX0_30 : na_lk RX0 (.invokevirtual 101) [14, 2, 0] 0 0 := ⟨na_mem (i := 427) (by decide +kernel) (by decide +kernel), fv_14⟩
theorem lk_RX0_31 : na_lk RX0 (.invokevirtual 105) [8, 1, 0] 0 0 := ⟨na_mem (i := 428) (by decide +kernel) (by decide +kernel), fv_8⟩
theorem lk_RX0_32 : na_lk RX0 (.invokestatic 108) [192, 1] 0 0 := ⟨Or.inl (na_mem (i := 429) (by decide +kernel) (by decide +kernel)), fs_192⟩
theorem lk_RX0_33 : na_lk RX0 (.getfield 113) [1, 2] 0 0 := ⟨RX1, TX1, 3, rfl, fw_1, by decide, na_mem (i := 183) (by decide +kernel) (by decide +kernel)⟩
theorem lk_RX0_34 : na_lk RX0 (.getfield 118) [1, 0] 0 0 := ⟨RX1, TX1, 3, rfl, fw_1, by decide, na_mem (i := 178) (by decide +kernel) (by decide +kernel)⟩
theorem lk_RX0 : ∀ q ∈ Llk_RX0, na_lk RX0 q.1 q.2.1 q.2.2.1 q.2.2.2 := List.forall_mem_cons.mpr ⟨lk_RX0_0, List.forall_mem_cons.mpr ⟨lk_RX0_1, List.forall_mem_cons.mpr ⟨lk_RX0_2, List.forall_mem_cons.mpr ⟨lk_RX0_3, List.forall_mem_cons.mpr ⟨lk_RX0_4, List.forall_mem_cons.mpr ⟨lk_RX0_5, List.forall_mem_cons.mpr ⟨lk_RX0_6, List.forall_mem_cons.mpr ⟨lk_RX0_7, List.forall_mem_cons.mpr ⟨lk_RX0_8, List.forall_mem_cons.mpr ⟨lk_RX0_9, List.forall_mem_cons.mpr ⟨lk_RX0_10, List.forall_mem_cons.mpr ⟨lk_RX0_11, List.forall_mem_cons.mpr ⟨lk_RX0_12, List.forall_mem_cons.mpr ⟨lk_RX0_13, List.forall_mem_cons.mpr ⟨lk_RX0_14, List.forall_mem_cons.mpr ⟨lk_RX0_15, List.forall_mem_cons.mpr ⟨lk_RX0_16, List.forall_mem_cons.mpr ⟨lk_RX0_17, List.forall_mem_cons.mpr ⟨lk_RX0_18, List.forall_mem_cons.mpr ⟨lk_RX0_19, List.forall_mem_cons.mpr ⟨lk_RX0_20, List.forall_mem_cons.mpr ⟨lk_RX0_21, List.forall_mem_cons.mpr ⟨lk_RX0_22, List.forall_mem_cons.mpr ⟨lk_RX0_23, List.forall_mem_cons.mpr ⟨lk_RX0_24, List.forall_mem_cons.mpr ⟨lk_RX0_25, List.forall_mem_cons.mpr ⟨lk_RX0_26, List.forall_mem_cons.mpr ⟨lk_RX0_27, List.forall_mem_cons.mpr ⟨lk_RX0_28, List.forall_mem_cons.mpr ⟨lk_RX0_29, List.forall_mem_cons.mpr ⟨lk_RX0_30, List.forall_mem_cons.mpr ⟨lk_RX0_31, List.forall_mem_cons.mpr ⟨lk_RX0_32, List.forall_mem_cons.mpr ⟨lk_RX0_33, List.forall_mem_cons.mpr ⟨lk_RX0_34, fun _ h => absurd h List.not_mem_nil⟩⟩⟩⟩⟩⟩⟩⟩⟩⟩⟩⟩⟩⟩⟩⟩⟩⟩⟩⟩⟩⟩⟩⟩⟩⟩⟩⟩⟩⟩⟩⟩⟩⟩⟩
def Llk_RX1 : List Lk := [(.getfield 15, [1, 1], 0, 0),
  (.putfield 15, [1, 1, 0], 0, 0),
  (.putfield 19, [1, 2, 0], 0, 0),
  (.getfield 19, [1, 2], 0, 0),
  (.getfield 9, [1, 0], 0, 0)]
theorem lk_RX1_0 : na_lk RX1 (.getfield 15) [1, 1] 0 0 := ⟨RX1, TX1, 3, rfl, fw_1, by decide, na_mem (i := 180) (by decide +kernel) (by decide +kernel)⟩
theorem lk_RX1_1 : na_lk RX1 (.putfield 15) [1, 1, 0] 0 0 := ⟨RX1, TX1, 3, tyX1, rfl, fw_1, tyX1_ok, nmX1, by decide, na_mem (i := 180) (by decide +kernel) (by decide +kernel), rfl, Or.inl ⟨rfl, rfl⟩⟩
theorem lk_RX1_2 : na_lk RX1 (.putfield 19) [1, 2, 0] 0 0 := ⟨RX1, TX1, 3, tyX1, rfl, fw_1, tyX1_ok, nmX1, by decide, na_mem (i := 182) (by decide +kernel) (by decide +kernel), rfl, Or.inl ⟨rfl, rfl⟩⟩
theorem lk_RX1_3 : na_lk RX1 (.getfield 19) [1, 2] 0 0 := ⟨RX1, TX1, 3, rfl, fw_1, by decide, na_mem (i := 182) (by decide +kernel) (by decide +kernel)⟩
theorem lk_RX1_4 : na_lk RX1 (.getfield 9) [1, 0] 0 0 := ⟨RX1, TX1, 3, rfl, fw_1, by decide, na_mem (i := 177) (by decide +kernel) (by decide +kernel)⟩
theorem lk_RX1 : ∀ q ∈ Llk_RX1, na_lk RX1 q.1 q.2.1 q.2.2.1 q.2.2.2 := List.forall_mem_cons.mpr ⟨lk_RX1_0, List.forall_mem_cons.mpr ⟨lk_RX1_1, List.forall_mem_cons.mpr ⟨lk_RX1_2, List.forall_mem_cons.mpr ⟨lk_RX1_3, List.forall_mem_cons.mpr ⟨lk_RX1_4, fun _ h => absurd h List.not_mem_nil⟩⟩⟩⟩⟩
def Llk_RX2 : List Lk := [(.getfield 9, [2, 0], 0, 0),
  (.getfield 15, [2, 1], 0, 0),
  (.putfield 15, [2, 1, 0], 0, 0),
  (.putfield 19, [2, 4, 0], 0, 0),
  (.invokevirtual 22, [38, 1, 2], 0, 0),
  (.invokevirtual 25, [29, 2, 2], 0, 0),
  (.getfield 29, [2, 3], 0, 0),
  (.getfield 32, [2, 2], 0, 0),
  (.invokevirtual 35, [30, 1, 2], 0, 0),
  (.invokevirtual 39, [31, 3, 2], 0, 0),
  (.ldc 43, [8], 0, 0),
  (.invokevirtual 45, [36, 2, 2], 0, 0),
  (.invokevirtual 49, [32, 2, 2], 0, 0),
  (.ldc 52, [13], 0, 0),
  (.invokevirtual 54, [34, 3, 2], 0, 0),
  (.ldc 57, [14], 0, 0),
  (.ldc 59, [15], 0, 0),
  (.invokevirtual 61, [35, 3, 2], 0, 0),
  (.ldc 64, [16], 0, 0),
  (.ldc 66, [0], 0, 0),
  (.ldc 68, [1], 0, 0),
  (.ldc 70, [2], 0, 0),
  (.ldc 72, [3], 0, 0),
  (.ldc 74, [4], 0, 0),
  (.ldc 76, [5], 0, 0),
  (.invokevirtual 78, [4, 1, 0], 0, 0),
  (.ldc 84, [6], 0, 0),
  (.invokevirtual 86, [37, 3, 2], 0, 0),
  (.getfield 90, [2, 5], 0, 0),
  (.ldc 93, [7], 0, 0),
  (.invokevirtual 95, [5, 4, 0], 0, 0),
  (.ldc 99, [9], 0, 0),
  (.invokevirtual 101, [33, 5, 2], 0, 0),
  (.ldc 105, [10], 0, 0),
  (.ldc 107, [11], 0, 0),
  (.ldc 109, [12], 0, 0),
  (.getstatic 111, [0], 0, 0),
  (.invokevirtual 114, [1, 2, 0], 0, 0),
  (.invokevirtual 118, [3, 3, 0], 0, 0),
  (.putfield 122, [0, 5, 0], 0, 0),
  (.getfield 19, [2, 4], 0, 0),
  (.invokevirtual 124, [193, 1, 9], 0, 0),
  (.invokevirtual 128, [194, 2, 9], 0, 0),
  (.putfield 90, [2, 5, 0], 0, 0),
  (.invokestatic 132, [997], 0, 0),
  (.invokestatic 137, [86, 3], 0, 0),
  (.putfield 29, [2, 3, 0], 0, 0),
  (.putfield 32, [2, 2, 0], 0, 0),
  (.invokestatic 141, [39, 1], 0, 0)]
theorem lk_RX2_0 : na_lk RX2 (.getfield 9) [2, 0] 0 0 := ⟨RX2, TX2, 6, rfl, fw_2, by decide, na_mem (i := 150) (by decide +kernel) (by decide +kernel)⟩
theorem lk_RX2_1 : na_lk RX2 (.getfield 15) [2, 1] 0 0 := ⟨RX2, TX2, 6, rfl, fw_2, by decide, na_mem (i := 151) (by decide +kernel) (by decide +kernel)⟩
theorem lk_RX2_2 : na_lk RX2 (.putfield 15) [2, 1, 0] 0 0 := ⟨RX2, TX2, 6, tyX2, rfl, fw_2, tyX2_ok, nmX2, by decide, na_mem (i := 151) (by decide +kernel) (by decide +kernel), rfl, Or.inl ⟨rfl, rfl⟩⟩
theorem lk_RX2_3 : na_lk RX2 (.putfield 19) [2, 4, 0] 0 0 := ⟨RX2, TX2, 6, tyX2, rfl, fw_2, tyX2_ok, nmX2, by decide, na_mem (i := 155) (by decide +kernel) (by decide +kernel), rfl, Or.inl ⟨rfl, rfl⟩⟩
theorem lk_RX2_4 : na_lk RX2 (.invokevirtual 22) [38, 1, 2] 0 0 := ⟨na_mem (i := 517) (by decide +kernel) (by decide +kernel), fv_38⟩
theorem lk_RX2_5 : na_lk RX2 (.invokevirtual 25) [29, 2, 2] 0 0 := ⟨na_mem (i := 524) (by decide +kernel) (by decide +kernel), fv_29⟩
theorem lk_RX2_6 : na_lk RX2 (.getfield 29) [2, 3] 0 0 := ⟨RX2, TX2, 6, rfl, fw_2, by decide, na_mem (i := 154) (by decide +kernel) (by decide +kernel)⟩
theorem lk_RX2_7 : na_lk RX2 (.getfield 32) [2, 2] 0 0 := ⟨RX2, TX2, 6, rfl, fw_2, by decide, na_mem (i := 153) (by decide +kernel) (by decide +kernel)⟩
theorem lk_RX2_8 : na_lk RX2 (.invokevirtual 35) [30, 1, 2] 0 0 := ⟨na_mem (i := 528) (by decide +kernel) (by decide +kernel), fv_30⟩
theorem lk_RX2_9 : na_lk RX2 (.invokevirtual 39) [31, 3, 2] 0 0 := ⟨na_mem (i := 590) (by decide +kernel) (by decide +kernel), fv_31⟩
theorem lk_RX2_10 : na_lk RX2 (.ldc 43) [8] 0 0 := ⟨rfl, _, rfl, rfl⟩
theorem lk_RX2_11 : na_lk RX2 (.invokevirtual 45) [36, 2, 2] 0 0 := ⟨na_mem (i := 533) (by decide +kernel) (by decide +kernel), fv_36⟩
theorem lk_RX2_12 : na_lk RX2 (.invokevirtual 49) [32, 2, 2] 0 0 := ⟨na_mem (i := 605) (by decide +kernel) (by decide +kernel), fv_32⟩
theorem lk_RX2_13 : na_lk RX2 (.ldc 52) [13] 0 0 := ⟨rfl, _, rfl, rfl⟩
theorem lk_RX2_14 : na_lk RX2 (.invokevirtual 54) [34, 3, 2] 0 0 := ⟨na_mem (i := 620) (by decide +kernel) (by decide +kernel), fv_34⟩
theorem lk_RX2_15 : na_lk RX2 (.ldc 57) [14] 0 0 := ⟨rfl, _, rfl, rfl⟩
theorem lk_RX2_16 : na_lk RX2 (.ldc 59) [15] 0 0 := ⟨rfl, _, rfl, rfl⟩
theorem lk_RX2_17 : na_lk RX2 (.invokevirtual 61) [35, 3, 2] 0 0 := ⟨na_mem (i := 627) (by decide +kernel) (by decide +kernel), fv_35⟩
theorem lk_RX2_18 : na_lk RX2 (.ldc 64) [16] 0 0 := ⟨rfl, _, rfl, rfl⟩
theorem lk_RX2_19 : na_lk RX2 (.ldc 66) [0] 0 0 := ⟨rfl, _, rfl, rfl⟩
theorem lk_RX2_20 : na_lk RX2 (.ldc 68) [1] 0 0 := ⟨rfl, _, rfl, rfl⟩
theorem lk_RX2_21 : na_lk RX2 (.ldc 70) [2] 0 0 := ⟨rfl, _, rfl, rfl⟩
theorem lk_RX2_22 : na_lk RX2 (.ldc 72) [3] 0 0 := ⟨rfl, _, rfl, rfl⟩
theorem lk_RX2_23 : na_lk RX2 (.ldc 74) [4] 0 0 := ⟨rfl, _, rfl, rfl⟩
theorem lk_RX2_24 : na_lk RX2 (.ldc 76) [5] 0 0 := ⟨rfl, _, rfl, rfl⟩
theorem lk_RX2_25 : na_lk RX2 (.invokevirtual 78) [4, 1, 0] 0 0 := ⟨na_mem (i := 594) (by decide +kernel) (by decide +kernel), fv_4⟩
theorem lk_RX2_26 : na_lk RX2 (.ldc 84) [6] 0 0 := ⟨rfl, _, rfl, rfl⟩
theorem lk_RX2_27 : na_lk RX2 (.invokevirtual 86) [37, 3, 2] 0 0 := ⟨na_mem (i := 596) (by decide +kernel) (by decide +kernel), fv_37⟩
theorem lk_RX2_28 : na_lk RX2 (.getfield 90) [2, 5] 0 0 := ⟨RX2, TX2, 6, rfl, fw_2, by decide, na_mem (i := 156) (by decide +kernel) (by decide +kernel)⟩
theorem lk_RX2_29 : na_lk RX2 (.ldc 93) [7] 0 0 := ⟨rfl, _, rfl, rfl⟩
theorem lk_RX2_30 : na_lk RX2 (.invokevirtual 95) [5, 4, 0] 0 0 := ⟨na_mem (i := 603) (by decide +kernel) (by decide +kernel), fv_5⟩
theorem lk_RX2_31 : na_lk RX2 (.ldc 99) [9] 0 0 := ⟨rfl, _, rfl, rfl⟩
theorem lk_RX2_32 : na_lk RX2 (.invokevirtual 101) [33, 5, 2] 0 0 := ⟨na_mem (i := 610) (by decide +kernel) (by decide +kernel), fv_33⟩
theorem lk_RX2_33 : na_lk RX2 (.ldc 105) [10] 0 0 := ⟨rfl, _, rfl, rfl⟩
theorem lk_RX2_34 : na_lk RX2 (.ldc 107) [11] 0 0 := ⟨rfl, _, rfl, rfl⟩
theorem lk_RX2_35 : na_lk RX2 (.ldc 109) [12] 0 0 := ⟨rfl, _, rfl, rfl⟩
theorem lk_RX2_36 : na_lk RX2 (.getstatic 111) [0] 0 0 := ⟨_, rfl, Or.inr ⟨rfl, rfl, rfl, rfl, rfl⟩⟩
theorem lk_RX2_37 : na_lk RX2 (.invokevirtual 114) [1, 2, 0] 0 0 := ⟨na_mem (i := 615) (by decide +kernel) (by decide +kernel), fv_1⟩
theorem lk_RX2_38 : na_lk RX2 (.invokevirtual 118) [3, 3, 0] 0 0 := ⟨na_mem (i := 624) (by decide +kernel) (by decide +kernel), fv_3⟩
theorem lk_RX2_39 : na_lk RX2 (.putfield 122) [0, 5, 0] 0 0 := ⟨RX0, TX0, 13, tyX0, rfl, fw_0, tyX0_ok, nmX0, by decide, na_mem (i := 101) (by decide +kernel) (by decide +kernel), rfl, Or.inl ⟨rfl, rfl⟩⟩
theorem lk_RX2_40 : na_lk RX2 (.getfield 19) [2, 4] 0 0 := ⟨RX2, TX2, 6, rfl, fw_2, by decide, na_mem (i := 155) (by decide +kernel) (by decide +kernel)⟩
theorem lk_RX2_41 : na_lk RX2 (.invokevirtual 124) [193, 1, 9] 0 0 := ⟨na_mem (i := 537) (by decide +kernel) (by decide +kernel), fv_193⟩
theorem lk_RX2_42 : na_lk RX2 (.invokevirtual 128) [194, 2, 9] 0 0 := ⟨na_mem (i := 547) (by decide +kernel) (by decide +kernel), fv_194⟩
theorem lk_RX2_43 : na_lk RX2 (.putfield 90) [2, 5, 0] 0 0 := ⟨RX2, TX2, 6, tyX2, rfl, fw_2, tyX2_ok, nmX2, by decide, na_mem (i := 156) (by decide +kernel) (by decide +kernel), rfl, Or.inl ⟨rfl, rfl⟩⟩
theorem lk_RX2_44 : na_lk RX2 (.invokestatic 132) [997] 0 0 := na_mem (i := 600) (by decide +kernel) (by decide +kernel)
theorem lk_RX2_45 : na_lk RX2 (.invokestatic 137) [86, 3] 0 0 := ⟨Or.inr (Or.inr ⟨rfl, rfl, rfl⟩), fs_86⟩
theorem lk_RX2_46 : na_lk RX2 (.putfield 29) [2, 3, 0] 0 0 := ⟨RX2, TX2, 6, tyX2, rfl, fw_2, tyX2_ok, nmX2, by decide, na_mem (i := 154) (by decide +kernel) (by decide +kernel), rfl, Or.inl ⟨rfl, rfl⟩⟩
theorem lk_RX2_47 : na_lk RX2 (.putfield 32) [2, 2, 0] 0 0 := ⟨RX2, TX2, 6, tyX2, rfl, fw_2, tyX2_ok, nmX2, by decide, na_mem (i := 153) (by decide +kernel) (by decide +kernel), rfl, Or.inl ⟨rfl, rfl⟩⟩
theorem lk_RX2_48 : na_lk RX2 (.invokestatic 141) [39, 1] 0 0 := ⟨Or.inl (na_mem (i := 521) (by decide +kernel) (by decide +kernel)), fs_39⟩
theorem lk_RX2 : ∀ q ∈ Llk_RX2, na_lk RX2 q.1 q.2.1 q.2.2.1 q.2.2.2 := List.forall_mem_cons.mpr ⟨lk_RX2_0, List.forall_mem_cons.mpr ⟨lk_RX2_1, List.forall_mem_cons.mpr ⟨lk_RX2_2, List.forall_mem_cons.mpr ⟨lk_RX2_3, List.forall_mem_cons.mpr ⟨lk_RX2_4, List.forall_mem_cons.mpr ⟨lk_RX2_5, List.forall_mem_cons.mpr ⟨lk_RX2_6, List.forall_mem_cons.mpr ⟨lk_RX2_7, List.forall_mem_cons.mpr ⟨lk_RX2_8, List.forall_mem_cons.mpr ⟨lk_RX2_9, List.forall_mem_cons.mpr ⟨lk_RX2_10, List.forall_mem_cons.mpr ⟨lk_RX2_11, List.forall_mem_cons.mpr ⟨lk_RX2_12, List.forall_mem_cons.mpr ⟨lk_RX2_13, List.forall_mem_cons.mpr ⟨lk_RX2_14, List.forall_mem_cons.mpr ⟨lk_RX2_15, List.forall_mem_cons.mpr ⟨lk_RX2_16, List.forall_mem_cons.mpr ⟨lk_RX2_17, List.forall_mem_cons.mpr ⟨lk_RX2_18, List.forall_mem_cons.mpr ⟨lk_RX2_19, List.forall_mem_cons.mpr ⟨lk_RX2_20, List.forall_mem_cons.mpr ⟨lk_RX2_21, List.forall_mem_cons.mpr ⟨lk_RX2_22, List.forall_mem_cons.mpr ⟨lk_RX2_23, List.forall_mem_cons.mpr ⟨lk_RX2_24, List.forall_mem_cons.mpr ⟨lk_RX2_25, List.forall_mem_cons.mpr ⟨lk_RX2_26, List.forall_mem_cons.mpr ⟨lk_RX2_27, List.forall_mem_cons.mpr ⟨lk_RX2_28, List.forall_mem_cons.mpr ⟨lk_RX2_29, List.forall_mem_cons.mpr ⟨lk_RX2_30, List.forall_mem_cons.mpr ⟨lk_RX2_31, List.forall_mem_cons.mpr ⟨lk_RX2_32, List.forall_mem_cons.mpr ⟨lk_RX2_33, List.forall_mem_cons.mpr ⟨lk_RX2_34, List.forall_mem_cons.mpr ⟨lk_RX2_35, List.forall_mem_cons.mpr ⟨lk_RX2_36, List.forall_mem_cons.mpr ⟨lk_RX2_37, List.forall_mem_cons.mpr ⟨lk_RX2_38, List.forall_mem_cons.mpr ⟨lk_RX2_39, List.forall_mem_cons.mpr ⟨lk_RX2_40, List.forall_mem_cons.mpr ⟨lk_RX2_41, List.forall_mem_cons.mpr ⟨lk_RX2_42, List.forall_mem_cons.mpr ⟨lk_RX2_43, List.forall_mem_cons.mpr ⟨lk_RX2_44, List.forall_mem_cons.mpr ⟨lk_RX2_45, List.forall_mem_cons.mpr ⟨lk_RX2_46, List.forall_mem_cons.mpr ⟨lk_RX2_47, List.forall_mem_cons.mpr ⟨lk_RX2_48, fun _ h => absurd h List.not_mem_nil⟩⟩⟩⟩⟩⟩⟩⟩⟩⟩⟩⟩⟩⟩⟩⟩⟩⟩⟩⟩⟩⟩⟩⟩⟩⟩⟩⟩⟩⟩⟩⟩⟩⟩⟩⟩⟩⟩⟩⟩⟩⟩⟩⟩⟩⟩⟩⟩⟩
def Llk_RX3 : List Lk := [(.invokestatic 40, [87, 1], 0, 0),
  (.invokestatic 44, [86, 3], 0, 0),
  (.getstatic 48, [0], 0, 0),
  (.ldc 51, [], (-1000000001), 0),
  (.invokevirtual 52, [82, 2, 3], 0, 0),
  (.getfield 12, [3, 0], 0, 0),
  (.invokevirtual 56, [1, 2, 0], 0, 0),
  (.invokestatic 60, [92, 3], 0, 0),
  (.invokevirtual 64, [7, 2, 0], 0, 0),
  (.invokevirtual 67, [9, 2, 0], 0, 0),
  (.invokevirtual 70, [3, 3, 0], 0, 0),
  (.getfield 74, [0, 5], 0, 0),
  (.putfield 74, [0, 5, 0], 0, 0),
  (.invokestatic 78, [88, 1], 0, 0),
  (.invokevirtual 81, [4, 1, 0], 0, 0),
  (.ldc 85, [], (-1000000002), 0),
  (.invokevirtual 86, [5, 4, 0], 0, 0),
  (.invokevirtual 90, [83, 2, 3], 0, 0),
  (.invokevirtual 93, [12, 2, 0], 0, 0),
  (.invokevirtual 96, [2, 2, 0], 0, 0),
  (.getstatic 99, [1], 0, 0),
  (.getstatic 102, [2], 0, 0),
  (.getfield 105, [0, 8], 0, 0),
  (.invokestatic 108, [90, 2], 0, 0),
  (.ldc 112, [], (-1000000003), 0),
  (.getfield 113, [0, 10], 0, 0),
  (.getfield 116, [0, 11], 0, 0),
  (.invokevirtual 119, [6, 2, 0], 0, 0),
  (.getfield 123, [0, 6], 0, 0),
  (.ldc 126, [], (-1000000005), 0),
  (.invokevirtual 127, [14, 2, 0], 0, 0),
  (.getfield 130, [0, 0], 0, 0),
  (.invokestatic 133, [93, 2], 0, 0),
  (.getfield 137, [0, 1], 0, 0),
  (.getfield 140, [0, 2], 0, 0),
  (.invokevirtual 143, [8, 1, 0], 0, 0),
  (.getfield 147, [0, 4], 0, 0),
  (.invokevirtual 150, [84, 1, 3], 0, 0),
  (.getfield 154, [0, 12], 0, 0),
  (.invokevirtual 157, [20, 3, 0], 0, 0),
  (.ldc 160, [], (-1000000004), 0),
  (.invokevirtual 161, [15, 1, 0], 0, 0),
  (.invokestatic 164, [191, 1], 0, 0),
  (.putfield 147, [0, 4, 0], 0, 0),
  (.invokevirtual 169, [21, 2, 0], 0, 0),
  (.invokevirtual 172, [85, 5, 3], 0, 0),
  (.getfield 176, [0, 9], 0, 0),
  (.getfield 19, [3, 2], 0, 0),
  (.getfield 179, [0, 7], 0, 0),
  (.invokestatic 182, [91, 2], 0, 0),
  (.invokevirtual 185, [10, 2, 0], 0, 0),
  (.invokestatic 188, [996], 0, 0),
  (.invokestatic 193, [192, 1], 0, 0),
  (.getstatic 196, [4], 0, 0),
  (.ldc 199, [], 99999, 0),
  (.invokevirtual 200, [11, 2, 0], 0, 0),
  (.getfield 203, [0, 3], 0, 0),
  (.getfield 25, [3, 4], 0, 0),
  (.getfield 206, [2, 1], 0, 0),
  (.invokevirtual 209, [27, 3, 2], 0, 0),
  (.putfield 206, [2, 1, 0], 0, 0),
  (.invokevirtual 213, [28, 2, 2], 0, 0),
  (.invokevirtual 217, [0, 2, 0], 0, 0),
  (.invokestatic 221, [89, 1], 0, 0),
  (.ldc 224, [], (-1000000007), 0),
  (.getfield 31, [3, 5], 0, 0),
  (.invokevirtual 225, [24, 3, 1], 0, 0),
  (.getfield 228, [1, 2], 0, 0),
  (.invokevirtual 229, [23, 1, 1], 0, 0),
  (.ldc 232, [], (-1000000006), 0),
  (.getfield 233, [1, 0], 0, 0),
  (.invokevirtual 237, [25, 3, 1], 0, 0),
  (.getfield 241, [1, 1], 0, 0),
  (.invokevirtual 244, [26, 3, 1], 0, 0),
  (.invokestatic 247, [999], 0, 0),
  (.ldc2_w 253, [], 0, 9999),
  (.invokevirtual 255, [22, 3, 0], 0, 0),
  (.getfield 16, [3, 1], 0, 0),
  (.putfield 259, [3, 3, 1], 0, 0),
  (.getfield 259, [3, 3], 0, 0),
  (.getfield 35, [3, 6], 0, 0),
  (.invokestatic 263, [997], 0, 0),
  (.getstatic 266, [3], 0, 0)]
theorem lk_RX3_0 : na_lk RX3 (.invokestatic 40) [87, 1] 0 0 := ⟨Or.inl (na_mem (i := 219) (by decide +kernel) (by decide +kernel)), fs_87⟩
theorem lk_RX3_1 : na_lk RX3 (.invokestatic 44) [86, 3] 0 0 := ⟨Or.inl (na_mem (i := 222) (by decide +kernel) (by decide +kernel)), fs_86⟩
theorem lk_RX3_2 : na_lk RX3 (.getstatic 48) [0] 0 0 := ⟨_, rfl, Or.inl (na_mem (i := 225) (by decide +kernel) (by decide +kernel))⟩
theorem lk_RX3_3 : na_lk RX3 (.ldc 51) [] (-1000000001) 0 := na_mem (i := 227) (by decide +kernel) (by decide +kernel)
theorem lk_RX3_4 : na_lk RX3 (.invokevirtual 52) [82, 2, 3] 0 0 := ⟨na_mem (i := 228) (by decide +kernel) (by decide +kernel), fv_82⟩
theorem lk_RX3_5 : na_lk RX3 (.getfield 12) [3, 0] 0 0 := ⟨RX3, TX3, 7, rfl, fw_3, by decide, na_mem (i := 193) (by decide +kernel) (by decide +kernel)⟩
theorem lk_RX3_6 : na_lk RX3 (.invokevirtual 56) [1, 2, 0] 0 0 := ⟨na_mem (i := 232) (by decide +kernel) (by decide +kernel), fv_1⟩
theorem lk_RX3_7 : na_lk RX3 (.invokestatic 60) [92, 3] 0 0 := ⟨Or.inl (na_mem (i := 236) (by decide +kernel) (by decide +kernel)), fs_92⟩
theorem lk_RX3_8 : na_lk RX3 (.invokevirtual 64) [7, 2, 0] 0 0 := ⟨na_mem (i := 243) (by decide +kernel) (by decide +kernel), fv_7⟩
theorem lk_RX3_9 : na_lk RX3 (.invokevirtual 67) [9, 2, 0] 0 0 := ⟨na_mem (i := 247) (by decide +kernel) (by decide +kernel), fv_9⟩
theorem lk_RX3_10 : na_lk RX3 (.invokevirtual 70) [3, 3, 0] 0 0 := ⟨na_mem (i := 266) (by decide +kernel) (by decide +kernel), fv_3⟩
theorem lk_RX3_11 : na_lk RX3 (.getfield 74) [0, 5] 0 0 := ⟨RX0, TX0, 13, rfl, fw_0, by decide, na_mem (i := 100) (by decide +kernel) (by decide +kernel)⟩
theorem lk_RX3_12 : na_lk RX3 (.putfield 74) [0, 5, 0] 0 0 := ⟨RX0, TX0, 13, tyX0, rfl, fw_0, tyX0_ok, nmX0, by decide, na_mem (i := 100) (by decide +kernel) (by decide +kernel), rfl, Or.inl ⟨rfl, rfl⟩⟩
theorem lk_RX3_13 : na_lk RX3 (.invokestatic 78) [88, 1] 0 0 := ⟨Or.inl (na_mem (i := 278) (by decide +kernel) (by decide +kernel)), fs_88⟩
theorem lk_RX3_14 : na_lk RX3 (.invokevirtual 81) [4, 1, 0] 0 0 := ⟨na_mem (i := 281) (by decide +kernel) (by decide +kernel), fv_4⟩
theorem lk_RX3_15 : na_lk RX3 (.ldc 85) [] (-1000000002) 0 := na_mem (i := 285) (by decide +kernel) (by decide +kernel)
theorem lk_RX3_16 : na_lk RX3 (.invokevirtual 86) [5, 4, 0] 0 0 := ⟨na_mem (i := 286) (by decide +kernel) (by decide +kernel), fv_5⟩
theorem lk_RX3_17 : na_lk RX3 (.invokevirtual 90) [83, 2, 3] 0 0 := ⟨na_mem (i := 294) (by decide +kernel) (by decide +kernel), fv_83⟩
theorem lk_RX3_18 : na_lk RX3 (.invokevirtual 93) [12, 2, 0] 0 0 := ⟨na_mem (i := 298) (by decide +kernel) (by decide +kernel), fv_12⟩
theorem lk_RX3_19 : na_lk RX3 (.invokevirtual 96) [2, 2, 0] 0 0 := ⟨na_mem (i := 299) (by decide +kernel) (by decide +kernel), fv_2⟩
theorem lk_RX3_20 : na_lk RX3 (.getstatic 99) [1] 0 0 := ⟨_, rfl, Or.inl (na_mem (i := 307) (by decide +kernel) (by decide +kernel))⟩
theorem lk_RX3_21 : na_lk RX3 (.getstatic 102) [2] 0 0 := ⟨_, rfl, Or.inl (na_mem (i := 309) (by decide +kernel) (by decide +kernel))⟩
theorem lk_RX3_22 : na_lk RX3 (.getfield 105) [0, 8] 0 0 := ⟨RX0, TX0, 13, rfl, fw_0, by decide, na_mem (i := 107) (by decide +kernel) (by decide +kernel)⟩
theorem lk_RX3_23 : na_lk RX3 (.invokestatic 108) [90, 2] 0 0 := ⟨Or.inl (na_mem (i := 319) (by decide +kernel) (by decide +kernel)), fs_90⟩
theorem lk_RX3_24 : na_lk RX3 (.ldc 112) [] (-1000000003) 0 := na_mem (i := 324) (by decide +kernel) (by decide +kernel)
theorem lk_RX3_25 : na_lk RX3 (.getfield 113) [0, 10] 0 0 := ⟨RX0, TX0, 13, rfl, fw_0, by decide, na_mem (i := 111) (by decide +kernel) (by decide +kernel)⟩
theorem lk_RX3_26 : na_lk RX3 (.getfield 116) [0, 11] 0 0 := ⟨RX0, TX0, 13, rfl, fw_0, by decide, na_mem (i := 113) (by decide +kernel) (by decide +kernel)⟩
theorem lk_RX3_27 : na_lk RX3 (.invokevirtual 119) [6, 2, 0] 0 0 := ⟨na_mem (i := 329) (by decide +kernel) (by decide +kernel), fv_6⟩
theorem lk_RX3_28 : na_lk RX3 (.getfield 123) [0, 6] 0 0 := ⟨RX0, TX0, 13, rfl, fw_0, by decide, na_mem (i := 103) (by decide +kernel) (by decide +kernel)⟩
theorem lk_RX3_29 : na_lk RX3 (.ldc 126) [] (-1000000005) 0 := na_mem (i := 341) (by decide +kernel) (by decide +kernel)
theorem lk_RX3_30 : na_lk RX3 (.invokevirtual 127) [14, 2, 0] 0 0 := ⟨na_mem (i := 342) (by decide +kernel) (by decide +kernel), fv_14⟩
theorem lk_RX3_31 : na_lk RX3 (.getfield 130) [0, 0] 0 0 := ⟨RX0, TX0, 13, rfl, fw_0, by decide, na_mem (i := 90) (by decide +kernel) (by decide +kernel)⟩
theorem lk_RX3_32 : na_lk RX3 (.invokestatic 133) [93, 2] 0 0 := ⟨Or.inl (na_mem (i := 369) (by decide +kernel) (by decide +kernel)), fs_93⟩
theorem lk_RX3_33 : na_lk RX3 (.getfield 137) [0, 1] 0 0 := ⟨RX0, TX0, 13, rfl, fw_0, by decide, na_mem (i := 92) (by decide +kernel) (by decide +kernel)⟩
theorem lk_RX3_34 : na_lk RX3 (.getfield 140) [0, 2] 0 0 := ⟨RX0, TX0, 13, rfl, fw_0, by decide, na_mem (i := 94) (by decide +kernel) (by decide +kernel)⟩
theorem lk_RX3_35 : na_lk RX3 (.invokevirtual 143) [8, 1, 0] 0 0 := ⟨na_mem (i := 376) (by decide +kernel) (by decide +kernel), fv_8⟩
theorem lk_RX3_36 : na_lk RX3 (.getfield 147) [0, 4] 0 0 := ⟨RX0, TX0, 13, rfl, fw_0, by decide, na_mem (i := 98) (by decide +kernel) (by decide +kernel)⟩
theorem lk_RX3_37 : na_lk RX3 (.invokevirtual 150) [84, 1, 3] 0 0 := ⟨na_mem (i := 384) (by decide +kernel) (by decide +kernel), fv_84⟩
theorem lk_RX3_38 : na_lk RX3 (.getfield 154) [0, 12] 0 0 := ⟨RX0, TX0, 13, rfl, fw_0, by decide, na_mem (i := 115) (by decide +kernel) (by decide +kernel)⟩
theorem lk_RX3_39 : na_lk RX3 (.invokevirtual 157) [20, 3, 0] 0 0 := ⟨na_mem (i := 397) (by decide +kernel) (by decide +kernel), fv_20⟩
theorem lk_RX3_40 : na_lk RX3 (.ldc 160) [] (-1000000004) 0 := na_mem (i := 401) (by decide +kernel) (by decide +kernel)
theorem lk_RX3_41 : na_lk RX3 (.invokevirtual 161) [15, 1, 0] 0 0 := ⟨na_mem (i := 406) (by decide +kernel) (by decide +kernel), fv_15⟩
theorem lk_RX3_42 : na_lk RX3 (.invokestatic 164) [191, 1] 0 0 := ⟨Or.inl (na_mem (i := 407) (by decide +kernel) (by decide +kernel)), fs_191⟩
theorem lk_RX3_43 : na_lk RX3 (.putfield 147) [0, 4, 0] 0 0 := ⟨RX0, TX0, 13, tyX0, rfl, fw_0, tyX0_ok, nmX0, by decide, na_mem (i := 98) (by decide +kernel) (by decide +kernel), rfl, Or.inl ⟨rfl, rfl⟩⟩
theorem lk_RX3_44 : na_lk RX3 (.invokevirtual 169) [21, 2, 0] 0 0 := ⟨na_mem (i := 423) (by decide +kernel) (by decide +kernel), fv_21⟩
theorem lk_RX3_45 : na_lk RX3 (.invokevirtual 172) [85, 5, 3] 0 0 := ⟨na_mem (i := 443) (by decide +kernel) (by decide +kernel), fv_85⟩
theorem lk_RX3_46 : na_lk RX3 (.getfield 176) [0, 9] 0 0 := ⟨RX0, TX0, 13, rfl, fw_0, by decide, na_mem (i := 109) (by decide +kernel) (by decide +kernel)⟩
theorem lk_RX3_47 : na_lk RX3 (.getfield 19) [3, 2] 0 0 := ⟨RX3, TX3, 7, rfl, fw_3, by decide, na_mem (i := 195) (by decide +kernel) (by decide +kernel)⟩
theorem lk_RX3_48 : na_lk RX3 (.getfield 179) [0, 7] 0 0 := ⟨RX0, TX0, 13, rfl, fw_0, by decide, na_mem (i := 105) (by decide +kernel) (by decide +kernel)⟩
theorem lk_RX3_49 : na_lk RX3 (.invokestatic 182) [91, 2] 0 0 := ⟨Or.inl (na_mem (i := 464) (by decide +kernel) (by decide +kernel)), fs_91⟩
theorem lk_RX3_50 : na_lk RX3 (.invokevirtual 185) [10, 2, 0] 0 0 := ⟨na_mem (i := 465) (by decide +kernel) (by decide +kernel), fv_10⟩
theorem lk_RX3_51 : na_lk RX3 (.invokestatic 188) [996] 0 0 := na_mem (i := 472) (by decide +kernel) (by decide +kernel)
theorem lk_RX3_52 : na_lk RX3 (.invokestatic 193) [192, 1] 0 0 := ⟨Or.inl (na_mem (i := 473) (by decide +kernel) (by decide +kernel)), fs_192⟩
theorem lk_RX3_53 : na_lk RX3 (.getstatic 196) [4] 0 0 := ⟨_, rfl, Or.inl (na_mem (i := 474) (by decide +kernel) (by decide +kernel))⟩
theorem lk_RX3_54 : na_lk RX3 (.ldc 199) [] 99999 0 := na_mem (i := 480) (by decide +kernel) (by decide +kernel)
theorem lk_RX3_55 : na_lk RX3 (.invokevirtual 200) [11, 2, 0] 0 0 := ⟨na_mem (i := 481) (by decide +kernel) (by decide +kernel), fv_11⟩
theorem lk_RX3_56 : na_lk RX3 (.getfield 203) [0, 3] 0 0 := ⟨RX0, TX0, 13, rfl, fw_0, by decide, na_mem (i := 96) (by decide +kernel) (by decide +kernel)⟩
theorem lk_RX3_57 : na_lk RX3 (.getfield 25) [3, 4] 0 0 := ⟨RX3, TX3, 7, rfl, fw_3, by decide, na_mem (i := 197) (by decide +kernel) (by decide +kernel)⟩
theorem lk_RX3_58 : na_lk RX3 (.getfield 206) [2, 1] 0 0 := ⟨RX2, TX2, 6, rfl, fw_2, by decide, na_mem (i := 152) (by decide +kernel) (by decide +kernel)⟩
theorem lk_RX3_59 : na_lk RX3 (.invokevirtual 209) [27, 3, 2] 0 0 := ⟨na_mem (i := 501) (by decide +kernel) (by decide +kernel), fv_27⟩
theorem lk_RX3_60 : na_lk RX3 (.putfield 206) [2, 1, 0] 0 0 := ⟨RX2, TX2, 6, tyX2, rfl, fw_2, tyX2_ok, nmX2, by decide, na_mem (i := 152) (by decide +kernel) (by decide +kernel), rfl, Or.inl ⟨rfl, rfl⟩⟩
theorem lk_RX3_61 : na_lk RX3 (.invokevirtual 213) [28, 2, 2] 0 0 := ⟨na_mem (i := 513) (by decide +kernel) (by decide +kernel), fv_28⟩
theorem lk_RX3_62 : na_lk RX3 (.invokevirtual 217) [0, 2, 0] 0 0 := ⟨na_mem (i := 388) (by decide +kernel) (by decide +kernel), fv_0⟩
theorem lk_RX3_63 : na_lk RX3 (.invokestatic 221) [89, 1] 0 0 := ⟨Or.inl (na_mem (i := 637) (by decide +kernel) (by decide +kernel)), fs_89⟩
theorem lk_RX3_64 : na_lk RX3 (.ldc 224) [] (-1000000007) 0 := na_mem (i := 640) (by decide +kernel) (by decide +kernel)
theorem lk_RX3_65 : na_lk RX3 (.getfield 31) [3, 5] 0 0 := ⟨RX3, TX3, 7, rfl, fw_3, by decide, na_mem (i := 198) (by decide +kernel) (by decide +kernel)⟩
theorem lk_RX3_66 : na_lk RX3 (.invokevirtual 225) [24, 3, 1] 0 0 := ⟨na_mem (i := 641) (by decide +kernel) (by decide +kernel), fv_24⟩
theorem lk_RX3_67 : na_lk RX3 (.getfield 228) [1, 2] 0 0 := ⟨RX1, TX1, 3, rfl, fw_1, by decide, na_mem (i := 184) (by decide +kernel) (by decide +kernel)⟩
theorem lk_RX3_68 : na_lk RX3 (.invokevirtual 229) [23, 1, 1] 0 0 := ⟨na_mem (i := 649) (by decide +kernel) (by decide +kernel), fv_23⟩
theorem lk_RX3_69 : na_lk RX3 (.ldc 232) [] (-1000000006) 0 := na_mem (i := 653) (by decide +kernel) (by decide +kernel)
theorem lk_RX3_70 : na_lk RX3 (.getfield 233) [1, 0] 0 0 := ⟨RX1, TX1, 3, rfl, fw_1, by decide, na_mem (i := 179) (by decide +kernel) (by decide +kernel)⟩
theorem lk_RX3_71 : na_lk RX3 (.invokevirtual 237) [25, 3, 1] 0 0 := ⟨na_mem (i := 654) (by decide +kernel) (by decide +kernel), fv_25⟩
theorem lk_RX3_72 : na_lk RX3 (.getfield 241) [1, 1] 0 0 := ⟨RX1, TX1, 3, rfl, fw_1, by decide, na_mem (i := 181) (by decide +kernel) (by decide +kernel)⟩
theorem lk_RX3_73 : na_lk RX3 (.invokevirtual 244) [26, 3, 1] 0 0 := ⟨na_mem (i := 662) (by decide +kernel) (by decide +kernel), fv_26⟩
theorem lk_RX3_74 : na_lk RX3 (.invokestatic 247) [999] 0 0 := na_mem (i := 666) (by decide +kernel) (by decide +kernel)
theorem lk_RX3_75 : na_lk RX3 (.ldc2_w 253) [] 0 9999 := na_mem (i := 671) (by decide +kernel) (by decide +kernel)
theorem lk_RX3_76 : na_lk RX3 (.invokevirtual 255) [22, 3, 0] 0 0 := ⟨na_mem (i := 680) (by decide +kernel) (by decide +kernel), fv_22⟩
theorem lk_RX3_77 : na_lk RX3 (.getfield 16) [3, 1] 0 0 := ⟨RX3, TX3, 7, rfl, fw_3, by decide, na_mem (i := 194) (by decide +kernel) (by decide +kernel)⟩
theorem lk_RX3_78 : na_lk RX3 (.putfield 259) [3, 3, 1] 0 0 := ⟨RX3, TX3, 7, tyX3, rfl, fw_3, tyX3_ok, nmX3, by decide, na_mem (i := 196) (by decide +kernel) (by decide +kernel), rfl, Or.inr (Or.inl ⟨rfl, rfl⟩)⟩
theorem lk_RX3_79 : na_lk RX3 (.getfield 259) [3, 3] 0 0 := ⟨RX3, TX3, 7, rfl, fw_3, by decide, na_mem (i := 196) (by decide +kernel) (by decide +kernel)⟩
theorem lk_RX3_80 : na_lk RX3 (.getfield 35) [3, 6] 0 0 := ⟨RX3, TX3, 7, rfl, fw_3, by decide, na_mem (i := 199) (by decide +kernel) (by decide +kernel)⟩
theorem lk_RX3_81 : na_lk RX3 (.invokestatic 263) [997] 0 0 := na_mem (i := 447) (by decide +kernel) (by decide +kernel)
theorem lk_RX3_82 : na_lk RX3 (.getstatic 266) [3] 0 0 := ⟨_, rfl, Or.inl (na_mem (i := 322) (by decide +kernel) (by decide +kernel))⟩
theorem lk_RX3 : ∀ q ∈ Llk_RX3, na_lk RX3 q.1 q.2.1 q.2.2.1 q.2.2.2 := List.forall_mem_cons.mpr ⟨lk_RX3_0, List.forall_mem_cons.mpr ⟨lk_RX3_1, List.forall_mem_cons.mpr ⟨lk_RX3_2, List.forall_mem_cons.mpr ⟨lk_RX3_3, List.forall_mem_cons.mpr ⟨lk_RX3_4, List.forall_mem_cons.mpr ⟨lk_RX3_5, List.forall_mem_cons.mpr ⟨lk_RX3_6, List.forall_mem_cons.mpr ⟨lk_RX3_7, List.forall_mem_cons.mpr ⟨lk_RX3_8, List.forall_mem_cons.mpr ⟨lk_RX3_9, List.forall_mem_cons.mpr ⟨lk_RX3_10, List.forall_mem_cons.mpr ⟨lk_RX3_11, List.forall_mem_cons.mpr ⟨lk_RX3_12, List.forall_mem_cons.mpr ⟨lk_RX3_13, List.forall_mem_cons.mpr ⟨lk_RX3_14, List.forall_mem_cons.mpr ⟨lk_RX3_15, List.forall_mem_cons.mpr ⟨lk_RX3_16, List.forall_mem_cons.mpr ⟨lk_RX3_17, List.forall_mem_cons.mpr ⟨lk_RX3_18, List.forall_mem_cons.mpr ⟨lk_RX3_19, List.forall_mem_cons.mpr ⟨lk_RX3_20, List.forall_mem_cons.mpr ⟨lk_RX3_21, List.forall_mem_cons.mpr ⟨lk_RX3_22, List.forall_mem_cons.mpr ⟨lk_RX3_23, List.forall_mem_cons.mpr ⟨lk_RX3_24, List.forall_mem_cons.mpr ⟨lk_RX3_25, List.forall_mem_cons.mpr ⟨lk_RX3_26, List.forall_mem_cons.mpr ⟨lk_RX3_27, List.forall_mem_cons.mpr ⟨lk_RX3_28, List.forall_mem_cons.mpr ⟨lk_RX3_29, List.forall_mem_cons.mpr ⟨lk_RX3_30, List.forall_mem_cons.mpr ⟨lk_RX3_31, List.forall_mem_cons.mpr ⟨lk_RX3_32, List.forall_mem_cons.mpr ⟨lk_RX3_33, List.forall_mem_cons.mpr ⟨lk_RX3_34, List.forall_mem_cons.mpr ⟨lk_RX3_35, List.forall_mem_cons.mpr ⟨lk_RX3_36, List.forall_mem_cons.mpr ⟨lk_RX3_37, List.forall_mem_cons.mpr ⟨lk_RX3_38, List.forall_mem_cons.mpr ⟨lk_RX3_39, List.forall_mem_cons.mpr ⟨lk_RX3_40, List.forall_mem_cons.mpr ⟨lk_RX3_41, List.forall_mem_cons.mpr ⟨lk_RX3_42, List.forall_mem_cons.mpr ⟨lk_RX3_43, List.forall_mem_cons.mpr ⟨lk_RX3_44, List.forall_mem_cons.mpr ⟨lk_RX3_45, List.forall_mem_cons.mpr ⟨lk_RX3_46, List.forall_mem_cons.mpr ⟨lk_RX3_47, List.forall_mem_cons.mpr ⟨lk_RX3_48, List.forall_mem_cons.mpr ⟨lk_RX3_49, List.forall_mem_cons.mpr ⟨lk_RX3_50, List.forall_mem_cons.mpr ⟨lk_RX3_51, List.forall_mem_cons.mpr ⟨lk_RX3_52, List.forall_mem_cons.mpr ⟨lk_RX3_53, List.forall_mem_cons.mpr ⟨lk_RX3_54, List.forall_mem_cons.mpr ⟨lk_RX3_55, List.forall_mem_cons.mpr ⟨lk_RX3_56, List.forall_mem_cons.mpr ⟨lk_RX3_57, List.forall_mem_cons.mpr ⟨lk_RX3_58, List.forall_mem_cons.mpr ⟨lk_RX3_59, List.forall_mem_cons.mpr ⟨lk_RX3_60, List.forall_mem_cons.mpr ⟨lk_RX3_61, List.forall_mem_cons.mpr ⟨lk_RX3_62, List.forall_mem_cons.mpr ⟨lk_RX3_63, List.forall_mem_cons.mpr ⟨lk_RX3_64, List.forall_mem_cons.mpr ⟨lk_RX3_65, List.forall_mem_cons.mpr ⟨lk_RX3_66, List.forall_mem_cons.mpr ⟨lk_RX3_67, List.forall_mem_cons.mpr ⟨lk_RX3_68, List.forall_mem_cons.mpr ⟨lk_RX3_69, List.forall_mem_cons.mpr ⟨lk_RX3_70, List.forall_mem_cons.mpr ⟨lk_RX3_71, List.forall_mem_cons.mpr ⟨lk_RX3_72, List.forall_mem_cons.mpr ⟨lk_RX3_73, List.forall_mem_cons.mpr ⟨lk_RX3_74, List.forall_mem_cons.mpr ⟨lk_RX3_75, List.forall_mem_cons.mpr ⟨lk_RX3_76, List.forall_mem_cons.mpr ⟨lk_RX3_77, List.forall_mem_cons.mpr ⟨lk_RX3_78, List.forall_mem_cons.mpr ⟨lk_RX3_79, List.forall_mem_cons.mpr ⟨lk_RX3_80, List.forall_mem_cons.mpr ⟨lk_RX3_81, List.forall_mem_cons.mpr ⟨lk_RX3_82, fun _ h => absurd h List.not_mem_nil⟩⟩⟩⟩⟩⟩⟩⟩⟩⟩⟩⟩⟩⟩⟩⟩⟩⟩⟩⟩⟩⟩⟩⟩⟩⟩⟩⟩⟩⟩⟩⟩⟩⟩⟩⟩⟩⟩⟩⟩⟩⟩⟩⟩⟩⟩⟩⟩⟩⟩⟩⟩⟩⟩⟩⟩⟩⟩⟩⟩⟩⟩⟩⟩⟩⟩⟩⟩⟩⟩⟩⟩⟩⟩⟩⟩⟩⟩⟩⟩⟩⟩⟩
def Llk_RX4 : List Lk := [(.getfield 13, [4, 1], 0, 0),
  (.ldc 41, [], (-1000000001), 0),
  (.getfield 7, [4, 0], 0, 0),
  (.invokestatic 42, [94, 3], 0, 0),
  (.invokestatic 46, [103, 1], 0, 0),
  (.invokestatic 50, [106, 2], 0, 0),
  (.invokevirtual 54, [95, 2, 4], 0, 0),
  (.invokevirtual 58, [100, 3, 4], 0, 0),
  (.invokevirtual 62, [101, 4, 4], 0, 0),
  (.invokevirtual 66, [98, 3, 4], 0, 0),
  (.invokevirtual 69, [117, 2, 4], 0, 0),
  (.invokevirtual 72, [108, 2, 4], 0, 0),
  (.invokevirtual 75, [109, 2, 4], 0, 0),
  (.invokevirtual 78, [111, 3, 4], 0, 0),
  (.invokevirtual 82, [99, 4, 4], 0, 0),
  (.invokestatic 85, [104, 1], 0, 0),
  (.ldc 88, [], (-1000000002), 0),
  (.invokevirtual 89, [114, 4, 4], 0, 0),
  (.invokevirtual 92, [116, 2, 4], 0, 0),
  (.invokevirtual 95, [102, 2, 4], 0, 0),
  (.ldc 98, [], (-1000000003), 0),
  (.invokevirtual 99, [122, 2, 4], 0, 0),
  (.invokevirtual 103, [124, 2, 4], 0, 0),
  (.invokevirtual 106, [125, 2, 4], 0, 0),
  (.invokestatic 109, [96, 2], 0, 0),
  (.invokevirtual 112, [126, 2, 4], 0, 0),
  (.invokevirtual 115, [127, 2, 4], 0, 0),
  (.ldc 118, [], (-1000000005), 0),
  (.invokevirtual 119, [128, 1, 4], 0, 0),
  (.invokevirtual 122, [129, 2, 4], 0, 0),
  (.invokevirtual 125, [130, 1, 4], 0, 0),
  (.invokevirtual 129, [131, 1, 4], 0, 0),
  (.getfield 16, [4, 2], 0, 0),
  (.invokevirtual 132, [185, 3, 4], 0, 0),
  (.invokevirtual 136, [134, 2, 4], 0, 0),
  (.invokevirtual 139, [136, 2, 4], 0, 0),
  (.ldc 142, [], (-1000000004), 0),
  (.invokevirtual 143, [138, 1, 4], 0, 0),
  (.invokevirtual 146, [140, 1, 4], 0, 0),
  (.invokestatic 149, [97, 1], 0, 0),
  (.invokestatic 152, [105, 1], 0, 0),
  (.invokevirtual 155, [143, 2, 4], 0, 0),
  (.invokevirtual 158, [145, 2, 4], 0, 0),
  (.invokevirtual 161, [152, 2, 4], 0, 0),
  (.invokestatic 164, [151, 1], 0, 0),
  (.ldc2_w 168, [], 0, 720),
  (.ldc 170, [], 99999, 0),
  (.invokevirtual 171, [154, 2, 4], 0, 0),
  (.getfield 174, [4, 4], 0, 0),
  (.getfield 19, [4, 3], 0, 0),
  (.putfield 174, [4, 4, 0], 0, 0),
  (.getfield 178, [4, 7], 0, 0),
  (.putfield 181, [4, 6, 0], 0, 0),
  (.getfield 181, [4, 6], 0, 0),
  (.invokevirtual 184, [161, 2, 4], 0, 0),
  (.putfield 178, [4, 7, 0], 0, 0),
  (.invokestatic 187, [162, 1], 0, 0),
  (.invokestatic 190, [163, 1], 0, 0),
  (.putfield 193, [4, 5, 0], 0, 0),
  (.putfield 196, [4, 8, 2], 0, 0),
  (.getfield 193, [4, 5], 0, 0),
  (.putfield 200, [4, 9, 0], 0, 0),
  (.ldc2_w 203, [], 0, 27),
  (.getfield 196, [4, 8], 0, 0),
  (.ldc2_w 205, [], 0, 96),
  (.ldc2_w 207, [], 0, (-1)),
  (.getfield 200, [4, 9], 0, 0),
  (.ldc2_w 209, [], 0, 232608281),
  (.invokevirtual 211, [165, 2, 4], 0, 0),
  (.ldc2_w 215, [], 0, 58204971),
  (.ldc2_w 217, [], 0, 7535943612),
  (.ldc2_w 219, [], 0, 123002136),
  (.ldc2_w 221, [], 0, 1762983),
  (.ldc2_w 223, [], 0, 1810648800),
  (.getfield 225, [4, 10], 0, 0),
  (.putfield 225, [4, 10, 1], 0, 0),
  (.invokevirtual 229, [164, 1, 4], 0, 0),
  (.invokevirtual 232, [167, 3, 4], 0, 0),
  (.ldc2_w 235, [], 0, 257),
  (.ldc2_w 237, [], 0, 279346),
  (.invokevirtual 239, [168, 5, 4], 0, 0),
  (.ldc2_w 243, [], 0, 990),
  (.ldc2_w 245, [], 0, 3554408),
  (.ldc2_w 247, [], 0, 125150),
  (.ldc2_w 249, [], 0, 10811306),
  (.invokevirtual 251, [166, 1, 4], 0, 0),
  (.invokevirtual 254, [169, 2, 4], 0, 0),
  (.ldc2_w 257, [], 0, 365647),
  (.invokevirtual 259, [170, 1, 4], 0, 0),
  (.ldc2_w 262, [], 0, 307058),
  (.invokevirtual 264, [171, 2, 4], 0, 0),
  (.ldc2_w 267, [], 0, 380396),
  (.ldc2_w 269, [], 0, 70312),
  (.ldc2_w 271, [], 0, 262768),
  (.getfield 38, [4, 16], 0, 0),
  (.invokevirtual 273, [172, 1, 4], 0, 0),
  (.invokestatic 276, [174, 1], 0, 0),
  (.ldc_w 279, [], (-1000000007), 0),
  (.getfield 22, [4, 11], 0, 0),
  (.getfield 25, [4, 12], 0, 0),
  (.getfield 28, [4, 13], 0, 0),
  (.ldc_w 280, [], (-1000000006), 0),
  (.invokestatic 281, [175, 2], 0, 0),
  (.invokevirtual 285, [178, 4, 4], 0, 0),
  (.getfield 32, [4, 14], 0, 0),
  (.invokevirtual 288, [180, 2, 4], 0, 0),
  (.ldc2_w 291, [], 0, 9999),
  (.invokevirtual 293, [183, 3, 4], 0, 0),
  (.getfield 35, [4, 15], 0, 0),
  (.putfield 296, [4, 17, 1], 0, 0),
  (.getfield 296, [4, 17], 0, 0)]
theorem lk_RX4_0 : na_lk RX4 (.getfield 13) [4, 1] 0 0 := ⟨RX4, TX4, 18, rfl, fw_4, by decide, na_mem (i := 711) (by decide +kernel) (by decide +kernel)⟩
theorem lk_RX4_1 : na_lk RX4 (.ldc 41) [] (-1000000001) 0 := na_mem (i := 778) (by decide +kernel) (by decide +kernel)
theorem lk_RX4_2 : na_lk RX4 (.getfield 7) [4, 0] 0 0 := ⟨RX4, TX4, 18, rfl, fw_4, by decide, na_mem (i := 710) (by decide +kernel) (by decide +kernel)⟩
theorem lk_RX4_3 : na_lk RX4 (.invokestatic 42) [94, 3] 0 0 := ⟨Or.inl (na_mem (i := 772) (by decide +kernel) (by decide +kernel)), fs_94⟩
theorem lk_RX4_4 : na_lk RX4 (.invokestatic 46) [103, 1] 0 0 := ⟨Or.inl (na_mem (i := 769) (by decide +kernel) (by decide +kernel)), fs_103⟩
theorem lk_RX4_5 : na_lk RX4 (.invokestatic 50) [106, 2] 0 0 := ⟨Or.inl (na_mem (i := 775) (by decide +kernel) (by decide +kernel)), fs_106⟩
theorem lk_RX4_6 : na_lk RX4 (.invokevirtual 54) [95, 2, 4] 0 0 := ⟨na_mem (i := 779) (by decide +kernel) (by decide +kernel), fv_95⟩
theorem lk_RX4_7 : na_lk RX4 (.invokevirtual 58) [100, 3, 4] 0 0 := ⟨na_mem (i := 783) (by decide +kernel) (by decide +kernel), fv_100⟩
theorem lk_RX4_8 : na_lk RX4 (.invokevirtual 62) [101, 4, 4] 0 0 := ⟨na_mem (i := 787) (by decide +kernel) (by decide +kernel), fv_101⟩
theorem lk_RX4_9 : na_lk RX4 (.invokevirtual 66) [98, 3, 4] 0 0 := ⟨na_mem (i := 799) (by decide +kernel) (by decide +kernel), fv_98⟩
theorem lk_RX4_10 : na_lk RX4 (.invokevirtual 69) [117, 2, 4] 0 0 := ⟨na_mem (i := 807) (by decide +kernel) (by decide +kernel), fv_117⟩
theorem lk_RX4_11 : na_lk RX4 (.invokevirtual 72) [108, 2, 4] 0 0 := ⟨na_mem (i := 795) (by decide +kernel) (by decide +kernel), fv_108⟩
theorem lk_RX4_12 : na_lk RX4 (.invokevirtual 75) [109, 2, 4] 0 0 := ⟨na_mem (i := 803) (by decide +kernel) (by decide +kernel), fv_109⟩
theorem lk_RX4_13 : na_lk RX4 (.invokevirtual 78) [111, 3, 4] 0 0 := ⟨na_mem (i := 819) (by decide +kernel) (by decide +kernel), fv_111⟩
theorem lk_RX4_14 : na_lk RX4 (.invokevirtual 82) [99, 4, 4] 0 0 := ⟨na_mem (i := 839) (by decide +kernel) (by decide +kernel), fv_99⟩
theorem lk_RX4_15 : na_lk RX4 (.invokestatic 85) [104, 1] 0 0 := ⟨Or.inl (na_mem (i := 831) (by decide +kernel) (by decide +kernel)), fs_104⟩
theorem lk_RX4_16 : na_lk RX4 (.ldc 88) [] (-1000000002) 0 := na_mem (i := 834) (by decide +kernel) (by decide +kernel)
theorem lk_RX4_17 : na_lk RX4 (.invokevirtual 89) [114, 4, 4] 0 0 := ⟨na_mem (i := 835) (by decide +kernel) (by decide +kernel), fv_114⟩
theorem lk_RX4_18 : na_lk RX4 (.invokevirtual 92) [116, 2, 4] 0 0 := ⟨na_mem (i := 811) (by decide +kernel) (by decide +kernel), fv_116⟩
theorem lk_RX4_19 : na_lk RX4 (.invokevirtual 95) [102, 2, 4] 0 0 := ⟨na_mem (i := 847) (by decide +kernel) (by decide +kernel), fv_102⟩
theorem lk_RX4_20 : na_lk RX4 (.ldc 98) [] (-1000000003) 0 := na_mem (i := 863) (by decide +kernel) (by decide +kernel)
theorem lk_RX4_21 : na_lk RX4 (.invokevirtual 99) [122, 2, 4] 0 0 := ⟨na_mem (i := 868) (by decide +kernel) (by decide +kernel), fv_122⟩
theorem lk_RX4_22 : na_lk RX4 (.invokevirtual 103) [124, 2, 4] 0 0 := ⟨na_mem (i := 881) (by decide +kernel) (by decide +kernel), fv_124⟩
theorem lk_RX4_23 : na_lk RX4 (.invokevirtual 106) [125, 2, 4] 0 0 := ⟨na_mem (i := 885) (by decide +kernel) (by decide +kernel), fv_125⟩
theorem lk_RX4_24 : na_lk RX4 (.invokestatic 109) [96, 2] 0 0 := ⟨Or.inl (na_mem (i := 889) (by decide +kernel) (by decide +kernel)), fs_96⟩
theorem lk_RX4_25 : na_lk RX4 (.invokevirtual 112) [126, 2, 4] 0 0 := ⟨na_mem (i := 892) (by decide +kernel) (by decide +kernel), fv_126⟩
theorem lk_RX4_26 : na_lk RX4 (.invokevirtual 115) [127, 2, 4] 0 0 := ⟨na_mem (i := 896) (by decide +kernel) (by decide +kernel), fv_127⟩
theorem lk_RX4_27 : na_lk RX4 (.ldc 118) [] (-1000000005) 0 := na_mem (i := 876) (by decide +kernel) (by decide +kernel)
theorem lk_RX4_28 : na_lk RX4 (.invokevirtual 119) [128, 1, 4] 0 0 := ⟨na_mem (i := 877) (by decide +kernel) (by decide +kernel), fv_128⟩
theorem lk_RX4_29 : na_lk RX4 (.invokevirtual 122) [129, 2, 4] 0 0 := ⟨na_mem (i := 900) (by decide +kernel) (by decide +kernel), fv_129⟩
theorem lk_RX4_30 : na_lk RX4 (.invokevirtual 125) [130, 1, 4] 0 0 := ⟨na_mem (i := 908) (by decide +kernel) (by decide +kernel), fv_130⟩
theorem lk_RX4_31 : na_lk RX4 (.invokevirtual 129) [131, 1, 4] 0 0 := ⟨na_mem (i := 912) (by decide +kernel) (by decide +kernel), fv_131⟩
theorem lk_RX4_32 : na_lk RX4 (.getfield 16) [4, 2] 0 0 := ⟨RX4, TX4, 18, rfl, fw_4, by decide, na_mem (i := 712) (by decide +kernel) (by decide +kernel)⟩
theorem lk_RX4_33 : na_lk RX4 (.invokevirtual 132) [185, 3, 4] 0 0 := ⟨na_mem (i := 920) (by decide +kernel) (by decide +kernel), fv_185⟩
theorem lk_RX4_34 : na_lk RX4 (.invokevirtual 136) [134, 2, 4] 0 0 := ⟨na_mem (i := 924) (by decide +kernel) (by decide +kernel), fv_134⟩
theorem lk_RX4_35 : na_lk RX4 (.invokevirtual 139) [136, 2, 4] 0 0 := ⟨na_mem (i := 932) (by decide +kernel) (by decide +kernel), fv_136⟩
theorem lk_RX4_36 : na_lk RX4 (.ldc 142) [] (-1000000004) 0 := na_mem (i := 936) (by decide +kernel) (by decide +kernel)
theorem lk_RX4_37 : na_lk RX4 (.invokevirtual 143) [138, 1, 4] 0 0 := ⟨na_mem (i := 941) (by decide +kernel) (by decide +kernel), fv_138⟩
theorem lk_RX4_38 : na_lk RX4 (.invokevirtual 146) [140, 1, 4] 0 0 := ⟨na_mem (i := 949) (by decide +kernel) (by decide +kernel), fv_140⟩
theorem lk_RX4_39 : na_lk RX4 (.invokestatic 149) [97, 1] 0 0 := ⟨Or.inl (na_mem (i := 968) (by decide +kernel) (by decide +kernel)), fs_97⟩
theorem lk_RX4_40 : na_lk RX4 (.invokestatic 152) [105, 1] 0 0 := ⟨Or.inl (na_mem (i := 961) (by decide +kernel) (by decide +kernel)), fs_105⟩
theorem lk_RX4_41 : na_lk RX4 (.invokevirtual 155) [143, 2, 4] 0 0 := ⟨na_mem (i := 964) (by decide +kernel) (by decide +kernel), fv_143⟩
theorem lk_RX4_42 : na_lk RX4 (.invokevirtual 158) [145, 2, 4] 0 0 := ⟨na_mem (i := 975) (by decide +kernel) (by decide +kernel), fv_145⟩
theorem lk_RX4_43 : na_lk RX4 (.invokevirtual 161) [152, 2, 4] 0 0 := ⟨na_mem (i := 999) (by decide +kernel) (by decide +kernel), fv_152⟩
theorem lk_RX4_44 : na_lk RX4 (.invokestatic 164) [151, 1] 0 0 := ⟨Or.inl (na_mem (i := 1003) (by decide +kernel) (by decide +kernel)), fs_151⟩
theorem lk_RX4_45 : na_lk RX4 (.ldc2_w 168) [] 0 720 := na_mem (i := 1006) (by decide +kernel) (by decide +kernel)
theorem lk_RX4_46 : na_lk RX4 (.ldc 170) [] 99999 0 := na_mem (i := 1011) (by decide +kernel) (by decide +kernel)
theorem lk_RX4_47 : na_lk RX4 (.invokevirtual 171) [154, 2, 4] 0 0 := ⟨na_mem (i := 1012) (by decide +kernel) (by decide +kernel), fv_154⟩
theorem lk_RX4_48 : na_lk RX4 (.getfield 174) [4, 4] 0 0 := ⟨RX4, TX4, 18, rfl, fw_4, by decide, na_mem (i := 714) (by decide +kernel) (by decide +kernel)⟩
theorem lk_RX4_49 : na_lk RX4 (.getfield 19) [4, 3] 0 0 := ⟨RX4, TX4, 18, rfl, fw_4, by decide, na_mem (i := 713) (by decide +kernel) (by decide +kernel)⟩
theorem lk_RX4_50 : na_lk RX4 (.putfield 174) [4, 4, 0] 0 0 := ⟨RX4, TX4, 18, tyX4, rfl, fw_4, tyX4_ok, nmX4, by decide, na_mem (i := 714) (by decide +kernel) (by decide +kernel), rfl, Or.inl ⟨rfl, rfl⟩⟩
theorem lk_RX4_51 : na_lk RX4 (.getfield 178) [4, 7] 0 0 := ⟨RX4, TX4, 18, rfl, fw_4, by decide, na_mem (i := 717) (by decide +kernel) (by decide +kernel)⟩
theorem lk_RX4_52 : na_lk RX4 (.putfield 181) [4, 6, 0] 0 0 := ⟨RX4, TX4, 18, tyX4, rfl, fw_4, tyX4_ok, nmX4, by decide, na_mem (i := 716) (by decide +kernel) (by decide +kernel), rfl, Or.inl ⟨rfl, rfl⟩⟩
theorem lk_RX4_53 : na_lk RX4 (.getfield 181) [4, 6] 0 0 := ⟨RX4, TX4, 18, rfl, fw_4, by decide, na_mem (i := 716) (by decide +kernel) (by decide +kernel)⟩
theorem lk_RX4_54 : na_lk RX4 (.invokevirtual 184) [161, 2, 4] 0 0 := ⟨na_mem (i := 1044) (by decide +kernel) (by decide +kernel), fv_161⟩
theorem lk_RX4_55 : na_lk RX4 (.putfield 178) [4, 7, 0] 0 0 := ⟨RX4, TX4, 18, tyX4, rfl, fw_4, tyX4_ok, nmX4, by decide, na_mem (i := 717) (by decide +kernel) (by decide +kernel), rfl, Or.inl ⟨rfl, rfl⟩⟩
theorem lk_RX4_56 : na_lk RX4 (.invokestatic 187) [162, 1] 0 0 := ⟨Or.inl (na_mem (i := 1048) (by decide +kernel) (by decide +kernel)), fs_162⟩
theorem lk_RX4_57 : na_lk RX4 (.invokestatic 190) [163, 1] 0 0 := ⟨Or.inl (na_mem (i := 1051) (by decide +kernel) (by decide +kernel)), fs_163⟩
theorem lk_RX4_58 : na_lk RX4 (.putfield 193) [4, 5, 0] 0 0 := ⟨RX4, TX4, 18, tyX4, rfl, fw_4, tyX4_ok, nmX4, by decide, na_mem (i := 715) (by decide +kernel) (by decide +kernel), rfl, Or.inl ⟨rfl, rfl⟩⟩
theorem lk_RX4_59 : na_lk RX4 (.putfield 196) [4, 8, 2] 0 0 := ⟨RX4, TX4, 18, tyX4, rfl, fw_4, tyX4_ok, nmX4, by decide, na_mem (i := 718) (by decide +kernel) (by decide +kernel), rfl, Or.inr (Or.inr ⟨rfl, rfl⟩)⟩
theorem lk_RX4_60 : na_lk RX4 (.getfield 193) [4, 5] 0 0 := ⟨RX4, TX4, 18, rfl, fw_4, by decide, na_mem (i := 715) (by decide +kernel) (by decide +kernel)⟩
theorem lk_RX4_61 : na_lk RX4 (.putfield 200) [4, 9, 0] 0 0 := ⟨RX4, TX4, 18, tyX4, rfl, fw_4, tyX4_ok, nmX4, by decide, na_mem (i := 719) (by decide +kernel) (by decide +kernel), rfl, Or.inl ⟨rfl, rfl⟩⟩
theorem lk_RX4_62 : na_lk RX4 (.ldc2_w 203) [] 0 27 := na_mem (i := 1054) (by decide +kernel) (by decide +kernel)
theorem lk_RX4_63 : na_lk RX4 (.getfield 196) [4, 8] 0 0 := ⟨RX4, TX4, 18, rfl, fw_4, by decide, na_mem (i := 718) (by decide +kernel) (by decide +kernel)⟩
theorem lk_RX4_64 : na_lk RX4 (.ldc2_w 205) [] 0 96 := na_mem (i := 1055) (by decide +kernel) (by decide +kernel)
theorem lk_RX4_65 : na_lk RX4 (.ldc2_w 207) [] 0 (-1) := na_mem (i := 1056) (by decide +kernel) (by decide +kernel)
theorem lk_RX4_66 : na_lk RX4 (.getfield 200) [4, 9] 0 0 := ⟨RX4, TX4, 18, rfl, fw_4, by decide, na_mem (i := 719) (by decide +kernel) (by decide +kernel)⟩
theorem lk_RX4_67 : na_lk RX4 (.ldc2_w 209) [] 0 232608281 := na_mem (i := 1065) (by decide +kernel) (by decide +kernel)
theorem lk_RX4_68 : na_lk RX4 (.invokevirtual 211) [165, 2, 4] 0 0 := ⟨na_mem (i := 1066) (by decide +kernel) (by decide +kernel), fv_165⟩
theorem lk_RX4_69 : na_lk RX4 (.ldc2_w 215) [] 0 58204971 := na_mem (i := 1070) (by decide +kernel) (by decide +kernel)
theorem lk_RX4_70 : na_lk RX4 (.ldc2_w 217) [] 0 7535943612 := na_mem (i := 1071) (by decide +kernel) (by decide +kernel)
theorem lk_RX4_71 : na_lk RX4 (.ldc2_w 219) [] 0 123002136 := na_mem (i := 1072) (by decide +kernel) (by decide +kernel)
theorem lk_RX4_72 : na_lk RX4 (.ldc2_w 221) [] 0 1762983 := na_mem (i := 1073) (by decide +kernel) (by decide +kernel)
theorem lk_RX4_73 : na_lk RX4 (.ldc2_w 223) [] 0 1810648800 := na_mem (i := 1074) (by decide +kernel) (by decide +kernel)
theorem lk_RX4_74 : na_lk RX4 (.getfield 225) [4, 10] 0 0 := ⟨RX4, TX4, 18, rfl, fw_4, by decide, na_mem (i := 720) (by decide +kernel) (by decide +kernel)⟩
theorem lk_RX4_75 : na_lk RX4 (.putfield 225) [4, 10, 1] 0 0 := ⟨RX4, TX4, 18, tyX4, rfl, fw_4, tyX4_ok, nmX4, by decide, na_mem (i := 720) (by decide +kernel) (by decide +kernel), rfl, Or.inr (Or.inl ⟨rfl, rfl⟩)⟩
theorem lk_RX4_76 : na_lk RX4 (.invokevirtual 229) [164, 1, 4] 0 0 := ⟨na_mem (i := 1040) (by decide +kernel) (by decide +kernel), fv_164⟩
theorem lk_RX4_77 : na_lk RX4 (.invokevirtual 232) [167, 3, 4] 0 0 := ⟨na_mem (i := 1080) (by decide +kernel) (by decide +kernel), fv_167⟩
theorem lk_RX4_78 : na_lk RX4 (.ldc2_w 235) [] 0 257 := na_mem (i := 1079) (by decide +kernel) (by decide +kernel)
theorem lk_RX4_79 : na_lk RX4 (.ldc2_w 237) [] 0 279346 := na_mem (i := 1084) (by decide +kernel) (by decide +kernel)
theorem lk_RX4_80 : na_lk RX4 (.invokevirtual 239) [168, 5, 4] 0 0 := ⟨na_mem (i := 1085) (by decide +kernel) (by decide +kernel), fv_168⟩
theorem lk_RX4_81 : na_lk RX4 (.ldc2_w 243) [] 0 990 := na_mem (i := 1094) (by decide +kernel) (by decide +kernel)
theorem lk_RX4_82 : na_lk RX4 (.ldc2_w 245) [] 0 3554408 := na_mem (i := 1095) (by decide +kernel) (by decide +kernel)
theorem lk_RX4_83 : na_lk RX4 (.ldc2_w 247) [] 0 125150 := na_mem (i := 1096) (by decide +kernel) (by decide +kernel)
theorem lk_RX4_84 : na_lk RX4 (.ldc2_w 249) [] 0 10811306 := na_mem (i := 1097) (by decide +kernel) (by decide +kernel)
theorem lk_RX4_85 : na_lk RX4 (.invokevirtual 251) [166, 1, 4] 0 0 := ⟨na_mem (i := 1061) (by decide +kernel) (by decide +kernel), fv_166⟩
theorem lk_RX4_86 : na_lk RX4 (.invokevirtual 254) [169, 2, 4] 0 0 := ⟨na_mem (i := 1075) (by decide +kernel) (by decide +kernel), fv_169⟩
theorem lk_RX4_87 : na_lk RX4 (.ldc2_w 257) [] 0 365647 := na_mem (i := 1089) (by decide +kernel) (by decide +kernel)
theorem lk_RX4_88 : na_lk RX4 (.invokevirtual 259) [170, 1, 4] 0 0 := ⟨na_mem (i := 1090) (by decide +kernel) (by decide +kernel), fv_170⟩
theorem lk_RX4_89 : na_lk RX4 (.ldc2_w 262) [] 0 307058 := na_mem (i := 1098) (by decide +kernel) (by decide +kernel)
theorem lk_RX4_90 : na_lk RX4 (.invokevirtual 264) [171, 2, 4] 0 0 := ⟨na_mem (i := 1099) (by decide +kernel) (by decide +kernel), fv_171⟩
theorem lk_RX4_91 : na_lk RX4 (.ldc2_w 267) [] 0 380396 := na_mem (i := 1103) (by decide +kernel) (by decide +kernel)
theorem lk_RX4_92 : na_lk RX4 (.ldc2_w 269) [] 0 70312 := na_mem (i := 1104) (by decide +kernel) (by decide +kernel)
theorem lk_RX4_93 : na_lk RX4 (.ldc2_w 271) [] 0 262768 := na_mem (i := 1105) (by decide +kernel) (by decide +kernel)
theorem lk_RX4_94 : na_lk RX4 (.getfield 38) [4, 16] 0 0 := ⟨RX4, TX4, 18, rfl, fw_4, by decide, na_mem (i := 726) (by decide +kernel) (by decide +kernel)⟩
theorem lk_RX4_95 : na_lk RX4 (.invokevirtual 273) [172, 1, 4] 0 0 := ⟨na_mem (i := 1057) (by decide +kernel) (by decide +kernel), fv_172⟩
theorem lk_RX4_96 : na_lk RX4 (.invokestatic 276) [174, 1] 0 0 := ⟨Or.inl (na_mem (i := 1110) (by decide +kernel) (by decide +kernel)), fs_174⟩
theorem lk_RX4_97 : na_lk RX4 (.ldc_w 279) [] (-1000000007) 0 := na_mem (i := 1113) (by decide +kernel) (by decide +kernel)
theorem lk_RX4_98 : na_lk RX4 (.getfield 22) [4, 11] 0 0 := ⟨RX4, TX4, 18, rfl, fw_4, by decide, na_mem (i := 721) (by decide +kernel) (by decide +kernel)⟩
theorem lk_RX4_99 : na_lk RX4 (.getfield 25) [4, 12] 0 0 := ⟨RX4, TX4, 18, rfl, fw_4, by decide, na_mem (i := 722) (by decide +kernel) (by decide +kernel)⟩
theorem lk_RX4_100 : na_lk RX4 (.getfield 28) [4, 13] 0 0 := ⟨RX4, TX4, 18, rfl, fw_4, by decide, na_mem (i := 723) (by decide +kernel) (by decide +kernel)⟩
theorem lk_RX4_101 : na_lk RX4 (.ldc_w 280) [] (-1000000006) 0 := na_mem (i := 1118) (by decide +kernel) (by decide +kernel)
theorem lk_RX4_102 : na_lk RX4 (.invokestatic 281) [175, 2] 0 0 := ⟨Or.inl (na_mem (i := 1119) (by decide +kernel) (by decide +kernel)), fs_175⟩
theorem lk_RX4_103 : na_lk RX4 (.invokevirtual 285) [178, 4, 4] 0 0 := ⟨na_mem (i := 1126) (by decide +kernel) (by decide +kernel), fv_178⟩
theorem lk_RX4_104 : na_lk RX4 (.getfield 32) [4, 14] 0 0 := ⟨RX4, TX4, 18, rfl, fw_4, by decide, na_mem (i := 724) (by decide +kernel) (by decide +kernel)⟩
theorem lk_RX4_105 : na_lk RX4 (.invokevirtual 288) [180, 2, 4] 0 0 := ⟨na_mem (i := 1134) (by decide +kernel) (by decide +kernel), fv_180⟩
theorem lk_RX4_106 : na_lk RX4 (.ldc2_w 291) [] 0 9999 := na_mem (i := 1138) (by decide +kernel) (by decide +kernel)
theorem lk_RX4_107 : na_lk RX4 (.invokevirtual 293) [183, 3, 4] 0 0 := ⟨na_mem (i := 1147) (by decide +kernel) (by decide +kernel), fv_183⟩
theorem lk_RX4_108 : na_lk RX4 (.getfield 35) [4, 15] 0 0 := ⟨RX4, TX4, 18, rfl, fw_4, by decide, na_mem (i := 725) (by decide +kernel) (by decide +kernel)⟩
theorem lk_RX4_109 : na_lk RX4 (.putfield 296) [4, 17, 1] 0 0 := ⟨RX4, TX4, 18, tyX4, rfl, fw_4, tyX4_ok, nmX4, by decide, na_mem (i := 727) (by decide +kernel) (by decide +kernel), rfl, Or.inr (Or.inl ⟨rfl, rfl⟩)⟩
theorem lk_RX4_110 : na_lk RX4 (.getfield 296) [4, 17] 0 0 := ⟨RX4, TX4, 18, rfl, fw_4, by decide, na_mem (i := 727) (by decide +kernel) (by decide +kernel)⟩
theorem lk_RX4 : ∀ q ∈ Llk_RX4, na_lk RX4 q.1 q.2.1 q.2.2.1 q.2.2.2 := List.forall_mem_cons.mpr ⟨lk_RX4_0, List.forall_mem_cons.mpr ⟨lk_RX4_1, List.forall_mem_cons.mpr ⟨lk_RX4_2, List.forall_mem_cons.mpr ⟨lk_RX4_3, List.forall_mem_cons.mpr ⟨lk_RX4_4, List.forall_mem_cons.mpr ⟨lk_RX4_5, List.forall_mem_cons.mpr ⟨lk_RX4_6, List.forall_mem_cons.mpr ⟨lk_RX4_7, List.forall_mem_cons.mpr ⟨lk_RX4_8, List.forall_mem_cons.mpr ⟨lk_RX4_9, List.forall_mem_cons.mpr ⟨lk_RX4_10, List.forall_mem_cons.mpr ⟨lk_RX4_11, List.forall_mem_cons.mpr ⟨lk_RX4_12, List.forall_mem_cons.mpr ⟨lk_RX4_13, List.forall_mem_cons.mpr ⟨lk_RX4_14, List.forall_mem_cons.mpr ⟨lk_RX4_15, List.forall_mem_cons.mpr ⟨lk_RX4_16, List.forall_mem_cons.mpr ⟨lk_RX4_17, List.forall_mem_cons.mpr ⟨lk_RX4_18, List.forall_mem_cons.mpr ⟨lk_RX4_19, List.forall_mem_cons.mpr ⟨lk_RX4_20, List.forall_mem_cons.mpr ⟨lk_RX4_21, List.forall_mem_cons.mpr ⟨lk_RX4_22, List.forall_mem_cons.mpr ⟨lk_RX4_23, List.forall_mem_cons.mpr ⟨lk_RX4_24, List.forall_mem_cons.mpr ⟨lk_RX4_25, List.forall_mem_cons.mpr ⟨lk_RX4_26, List.forall_mem_cons.mpr ⟨lk_RX4_27, List.forall_mem_cons.mpr ⟨lk_RX4_28, List.forall_mem_cons.mpr ⟨lk_RX4_29, List.forall_mem_cons.mpr ⟨lk_RX4_30, List.forall_mem_cons.mpr ⟨lk_RX4_31, List.forall_mem_cons.mpr ⟨lk_RX4_32, List.forall_mem_cons.mpr ⟨lk_RX4_33, List.forall_mem_cons.mpr ⟨lk_RX4_34, List.forall_mem_cons.mpr ⟨lk_RX4_35, List.forall_mem_cons.mpr ⟨lk_RX4_36, List.forall_mem_cons.mpr ⟨lk_RX4_37, List.forall_mem_cons.mpr ⟨lk_RX4_38, List.forall_mem_cons.mpr ⟨lk_RX4_39, List.forall_mem_cons.mpr ⟨lk_RX4_40, List.forall_mem_cons.mpr ⟨lk_RX4_41, List.forall_mem_cons.mpr ⟨lk_RX4_42, List.forall_mem_cons.mpr ⟨lk_RX4_43, List.forall_mem_cons.mpr ⟨lk_RX4_44, List.forall_mem_cons.mpr ⟨lk_RX4_45, List.forall_mem_cons.mpr ⟨lk_RX4_46, List.forall_mem_cons.mpr ⟨lk_RX4_47, List.forall_mem_cons.mpr ⟨lk_RX4_48, List.forall_mem_cons.mpr ⟨lk_RX4_49, List.forall_mem_cons.mpr ⟨lk_RX4_50, List.forall_mem_cons.mpr ⟨lk_RX4_51, List.forall_mem_cons.mpr ⟨lk_RX4_52, List.forall_mem_cons.mpr ⟨lk_RX4_53, List.forall_mem_cons.mpr ⟨lk_RX4_54, List.forall_mem_cons.mpr ⟨lk_RX4_55, List.forall_mem_cons.mpr ⟨lk_RX4_56, List.forall_mem_cons.mpr ⟨lk_RX4_57, List.forall_mem_cons.mpr ⟨lk_RX4_58, List.forall_mem_cons.mpr ⟨lk_RX4_59, List.forall_mem_cons.mpr ⟨lk_RX4_60, List.forall_mem_cons.mpr ⟨lk_RX4_61, List.forall_mem_cons.mpr ⟨lk_RX4_62, List.forall_mem_cons.mpr ⟨lk_RX4_63, List.forall_mem_cons.mpr ⟨lk_RX4_64, List.forall_mem_cons.mpr ⟨lk_RX4_65, List.forall_mem_cons.mpr ⟨lk_RX4_66, List.forall_mem_cons.mpr ⟨lk_RX4_67, List.forall_mem_cons.mpr ⟨lk_RX4_68, List.forall_mem_cons.mpr ⟨lk_RX4_69, List.forall_mem_cons.mpr ⟨lk_RX4_70, List.forall_mem_cons.mpr ⟨lk_RX4_71, List.forall_mem_cons.mpr ⟨lk_RX4_72, List.forall_mem_cons.mpr ⟨lk_RX4_73, List.forall_mem_cons.mpr ⟨lk_RX4_74, List.forall_mem_cons.mpr ⟨lk_RX4_75, List.forall_mem_cons.mpr ⟨lk_RX4_76, List.forall_mem_cons.mpr ⟨lk_RX4_77, List.forall_mem_cons.mpr ⟨lk_RX4_78, List.forall_mem_cons.mpr ⟨lk_RX4_79, List.forall_mem_cons.mpr ⟨lk_RX4_80, List.forall_mem_cons.mpr ⟨lk_RX4_81, List.forall_mem_cons.mpr ⟨lk_RX4_82, List.forall_mem_cons.mpr ⟨lk_RX4_83, List.forall_mem_cons.mpr ⟨lk_RX4_84, List.forall_mem_cons.mpr ⟨lk_RX4_85, List.forall_mem_cons.mpr ⟨lk_RX4_86, List.forall_mem_cons.mpr ⟨lk_RX4_87, List.forall_mem_cons.mpr ⟨lk_RX4_88, List.forall_mem_cons.mpr ⟨lk_RX4_89, List.forall_mem_cons.mpr ⟨lk_RX4_90, List.forall_mem_cons.mpr ⟨lk_RX4_91, List.forall_mem_cons.mpr ⟨lk_RX4_92, List.forall_mem_cons.mpr ⟨lk_RX4_93, List.forall_mem_cons.mpr ⟨lk_RX4_94, List.forall_mem_cons.mpr ⟨lk_RX4_95, List.forall_mem_cons.mpr ⟨lk_RX4_96, List.forall_mem_cons.mpr ⟨lk_RX4_97, List.forall_mem_cons.mpr ⟨lk_RX4_98, List.forall_mem_cons.mpr ⟨lk_RX4_99, List.forall_mem_cons.mpr ⟨lk_RX4_100, List.forall_mem_cons.mpr ⟨lk_RX4_101, List.forall_mem_cons.mpr ⟨lk_RX4_102, List.forall_mem_cons.mpr ⟨lk_RX4_103, List.forall_mem_cons.mpr ⟨lk_RX4_104, List.forall_mem_cons.mpr ⟨lk_RX4_105, List.forall_mem_cons.mpr ⟨lk_RX4_106, List.forall_mem_cons.mpr ⟨lk_RX4_107, List.forall_mem_cons.mpr ⟨lk_RX4_108, List.forall_mem_cons.mpr ⟨lk_RX4_109, List.forall_mem_cons.mpr ⟨lk_RX4_110, fun _ h => absurd h List.not_mem_nil⟩⟩⟩⟩⟩⟩⟩⟩⟩⟩⟩⟩⟩⟩⟩⟩⟩⟩⟩⟩⟩⟩⟩⟩⟩⟩⟩⟩⟩⟩⟩⟩⟩⟩⟩⟩⟩⟩⟩⟩⟩⟩⟩⟩⟩⟩⟩⟩⟩⟩⟩⟩⟩⟩⟩⟩⟩⟩⟩⟩⟩⟩⟩⟩⟩⟩⟩⟩⟩⟩⟩⟩⟩⟩⟩⟩⟩⟩⟩⟩⟩⟩⟩⟩⟩⟩⟩⟩⟩⟩⟩⟩⟩⟩⟩⟩⟩⟩⟩⟩⟩⟩⟩⟩⟩⟩⟩⟩⟩⟩⟩
def Llk_RJ6 : List Lk := [(.ldc_w 264, [], 65536, 0),
  (.ldc_w 265, [], 1431655765, 0),
  (.ldc_w 266, [], 858993459, 0),
  (.ldc_w 267, [], 252645135, 0)]
theorem lk_RJ6_0 : na_lk RJ6 (.ldc_w 264) [] 65536 0 := na_mem (i := 410) (by decide +kernel) (by decide +kernel)
theorem lk_RJ6_1 : na_lk RJ6 (.ldc_w 265) [] 1431655765 0 := na_mem (i := 432) (by decide +kernel) (by decide +kernel)
theorem lk_RJ6_2 : na_lk RJ6 (.ldc_w 266) [] 858993459 0 := na_mem (i := 433) (by decide +kernel) (by decide +kernel)
theorem lk_RJ6_3 : na_lk RJ6 (.ldc_w 267) [] 252645135 0 := na_mem (i := 434) (by decide +kernel) (by decide +kernel)
theorem lk_RJ6 : ∀ q ∈ Llk_RJ6, na_lk RJ6 q.1 q.2.1 q.2.2.1 q.2.2.2 := List.forall_mem_cons.mpr ⟨lk_RJ6_0, List.forall_mem_cons.mpr ⟨lk_RJ6_1, List.forall_mem_cons.mpr ⟨lk_RJ6_2, List.forall_mem_cons.mpr ⟨lk_RJ6_3, fun _ h => absurd h List.not_mem_nil⟩⟩⟩⟩
def Llk_RJ0 : List Lk := [(.getfield 9, [9, 1], 0, 0),
  (.invokevirtual 335, [195, 1, 9], 0, 0),
  (.invokevirtual 492, [196, 1, 9], 0, 0),
  (.invokestatic 495, [198, 2], 0, 0),
  (.invokestatic 498, [998], 0, 0),
  (.getstatic 38, [5], 0, 0),
  (.getfield 15, [9, 0], 0, 0),
  (.getstatic 1053, [6], 0, 0),
  (.invokestatic 1059, [199, 3], 0, 0)]
theorem lk_RJ0_0 : na_lk RJ0 (.getfield 9) [9, 1] 0 0 := ⟨fun h => absurd h (by decide), fun h => na_mem (i := 1172) (by decide +kernel) (by decide +kernel)⟩
theorem lk_RJ0_1 : na_lk RJ0 (.invokevirtual 335) [195, 1, 9] 0 0 := ⟨na_mem (i := 541) (by decide +kernel) (by decide +kernel), fv_195⟩
theorem lk_RJ0_2 : na_lk RJ0 (.invokevirtual 492) [196, 1, 9] 0 0 := ⟨na_mem (i := 551) (by decide +kernel) (by decide +kernel), fv_196⟩
theorem lk_RJ0_3 : na_lk RJ0 (.invokestatic 495) [198, 2] 0 0 := ⟨Or.inl (na_mem (i := 555) (by decide +kernel) (by decide +kernel)), fs_198⟩
theorem lk_RJ0_4 : na_lk RJ0 (.invokestatic 498) [998] 0 0 := trivial
theorem lk_RJ0_5 : na_lk RJ0 (.getstatic 38) [5] 0 0 := ⟨_, rfl, Or.inl (na_mem (i := 545) (by decide +kernel) (by decide +kernel))⟩
theorem lk_RJ0_6 : na_lk RJ0 (.getfield 15) [9, 0] 0 0 := ⟨fun h => na_mem (i := 1173) (by decide +kernel) (by decide +kernel), fun h => absurd h (by decide)⟩
theorem lk_RJ0_7 : na_lk RJ0 (.getstatic 1053) [6] 0 0 := ⟨_, rfl, Or.inl (na_mem (i := 561) (by decide +kernel) (by decide +kernel))⟩
theorem lk_RJ0_8 : na_lk RJ0 (.invokestatic 1059) [199, 3] 0 0 := ⟨Or.inl (na_mem (i := 563) (by decide +kernel) (by decide +kernel)), fs_199⟩
theorem lk_RJ0 : ∀ q ∈ Llk_RJ0, na_lk RJ0 q.1 q.2.1 q.2.2.1 q.2.2.2 := List.forall_mem_cons.mpr ⟨lk_RJ0_0, List.forall_mem_cons.mpr ⟨lk_RJ0_1, List.forall_mem_cons.mpr ⟨lk_RJ0_2, List.forall_mem_cons.mpr ⟨lk_RJ0_3, List.forall_mem_cons.mpr ⟨lk_RJ0_4, List.forall_mem_cons.mpr ⟨lk_RJ0_5, List.forall_mem_cons.mpr ⟨lk_RJ0_6, List.forall_mem_cons.mpr ⟨lk_RJ0_7, List.forall_mem_cons.mpr ⟨lk_RJ0_8, fun _ h => absurd h List.not_mem_nil⟩⟩⟩⟩⟩⟩⟩⟩⟩
def Llk_RJ1 : List Lk := [(.invokestatic 9, [197, 2], 0, 0)]
theorem lk_RJ1_0 : na_lk RJ1 (.invokestatic 9) [197, 2] 0 0 := ⟨Or.inl (na_mem (i := 558) (by decide +kernel) (by decide +kernel)), fs_197⟩
theorem lk_RJ1 : ∀ q ∈ Llk_RJ1, na_lk RJ1 q.1 q.2.1 q.2.2.1 q.2.2.2 := List.forall_mem_cons.mpr ⟨lk_RJ1_0, fun _ h => absurd h List.not_mem_nil⟩
def Llk_RJ3 : List Lk := [(.invokestatic 95, [998], 0, 0)]
theorem lk_RJ3_0 : na_lk RJ3 (.invokestatic 95) [998] 0 0 := trivial
theorem lk_RJ3 : ∀ q ∈ Llk_RJ3, na_lk RJ3 q.1 q.2.1 q.2.2.1 q.2.2.2 := List.forall_mem_cons.mpr ⟨lk_RJ3_0, fun _ h => absurd h List.not_mem_nil⟩
def Llk_RL : List Lk := [(.invokevirtual 13, [40, 4, 3], 0, 0),
  (.invokevirtual 17, [107, 4, 4], 0, 0),
  (.invokevirtual 18, [41, 3, 3], 0, 0),
  (.invokevirtual 22, [110, 3, 4], 0, 0),
  (.invokevirtual 23, [42, 3, 3], 0, 0),
  (.invokevirtual 26, [112, 3, 4], 0, 0),
  (.invokevirtual 27, [43, 2, 3], 0, 0),
  (.invokevirtual 31, [113, 2, 4], 0, 0),
  (.invokevirtual 32, [44, 3, 3], 0, 0),
  (.invokevirtual 35, [115, 3, 4], 0, 0),
  (.invokevirtual 36, [45, 3, 3], 0, 0),
  (.invokevirtual 39, [118, 3, 4], 0, 0),
  (.invokevirtual 40, [46, 4, 3], 0, 0),
  (.invokevirtual 43, [119, 4, 4], 0, 0),
  (.invokevirtual 44, [47, 3, 3], 0, 0),
  (.invokevirtual 47, [120, 3, 4], 0, 0),
  (.invokevirtual 48, [48, 3, 3], 0, 0),
  (.invokevirtual 51, [121, 3, 4], 0, 0),
  (.invokevirtual 52, [49, 2, 3], 0, 0),
  (.invokevirtual 55, [123, 2, 4], 0, 0),
  (.invokevirtual 56, [50, 2, 3], 0, 0),
  (.invokevirtual 59, [132, 2, 4], 0, 0),
  (.invokevirtual 60, [51, 2, 3], 0, 0),
  (.invokevirtual 63, [133, 2, 4], 0, 0),
  (.invokevirtual 64, [52, 4, 3], 0, 0),
  (.invokevirtual 67, [135, 4, 4], 0, 0),
  (.invokevirtual 68, [53, 2, 3], 0, 0),
  (.invokevirtual 71, [137, 2, 4], 0, 0),
  (.invokevirtual 72, [54, 1, 3], 0, 0),
  (.invokevirtual 76, [139, 1, 4], 0, 0),
  (.invokevirtual 77, [55, 1, 3], 0, 0),
  (.invokevirtual 80, [141, 1, 4], 0, 0),
  (.invokevirtual 81, [56, 1, 3], 0, 0),
  (.invokevirtual 84, [142, 1, 4], 0, 0),
  (.invokevirtual 85, [57, 2, 3], 0, 0),
  (.invokevirtual 88, [144, 2, 4], 0, 0),
  (.invokevirtual 89, [58, 3, 3], 0, 0),
  (.invokevirtual 92, [146, 3, 4], 0, 0),
  (.invokevirtual 93, [59, 4, 3], 0, 0),
  (.invokevirtual 96, [147, 4, 4], 0, 0),
  (.invokevirtual 97, [60, 2, 3], 0, 0),
  (.invokevirtual 100, [148, 2, 4], 0, 0),
  (.invokevirtual 101, [61, 3, 3], 0, 0),
  (.invokevirtual 104, [149, 3, 4], 0, 0),
  (.invokevirtual 105, [62, 3, 3], 0, 0),
  (.invokevirtual 108, [150, 3, 4], 0, 0),
  (.invokevirtual 109, [63, 3, 3], 0, 0),
  (.invokevirtual 113, [153, 3, 4], 0, 0),
  (.invokevirtual 114, [64, 2, 3], 0, 0),
  (.invokevirtual 117, [155, 2, 4], 0, 0),
  (.invokevirtual 118, [65, 2, 3], 0, 0),
  (.invokevirtual 121, [156, 2, 4], 0, 0),
  (.invokevirtual 122, [66, 1, 3], 0, 0),
  (.invokevirtual 125, [157, 1, 4], 0, 0),
  (.invokevirtual 126, [67, 4, 3], 0, 0),
  (.invokevirtual 129, [158, 4, 4], 0, 0),
  (.invokevirtual 130, [68, 3, 3], 0, 0),
  (.invokevirtual 133, [159, 3, 4], 0, 0),
  (.invokevirtual 134, [69, 1, 3], 0, 0),
  (.invokevirtual 137, [160, 1, 4], 0, 0),
  (.invokevirtual 138, [70, 1, 3], 0, 0),
  (.invokevirtual 141, [173, 1, 4], 0, 0),
  (.invokevirtual 142, [71, 4, 3], 0, 0),
  (.invokevirtual 145, [176, 4, 4], 0, 0),
  (.ldc2_w 146, [], 0, 4294967295),
  (.invokevirtual 148, [72, 4, 3], 0, 0),
  (.invokevirtual 152, [177, 4, 4], 0, 0),
  (.invokevirtual 153, [73, 6, 3], 0, 0),
  (.invokevirtual 157, [179, 6, 4], 0, 0),
  (.invokevirtual 158, [74, 2, 3], 0, 0),
  (.invokevirtual 161, [181, 2, 4], 0, 0),
  (.invokevirtual 162, [75, 3, 3], 0, 0),
  (.invokevirtual 165, [182, 3, 4], 0, 0),
  (.invokevirtual 166, [76, 3, 3], 0, 0),
  (.invokevirtual 169, [184, 3, 4], 0, 0),
  (.invokevirtual 170, [77, 1, 3], 0, 0),
  (.invokevirtual 173, [186, 1, 4], 0, 0),
  (.invokevirtual 174, [78, 1, 3], 0, 0),
  (.invokevirtual 177, [187, 1, 4], 0, 0),
  (.invokevirtual 178, [79, 1, 3], 0, 0),
  (.invokevirtual 181, [188, 1, 4], 0, 0),
  (.invokevirtual 182, [80, 2, 3], 0, 0),
  (.invokevirtual 185, [189, 2, 4], 0, 0),
  (.invokevirtual 186, [81, 2, 3], 0, 0),
  (.invokevirtual 189, [190, 2, 4], 0, 0)]
theorem lk_RL_0 : na_lk RL (.invokevirtual 13) [40, 4, 3] 0 0 := ⟨na_mem (i := 215) (by decide +kernel) (by decide +kernel), fv_40⟩
theorem lk_RL_1 : na_lk RL (.invokevirtual 17) [107, 4, 4] 0 0 := ⟨na_mem (i := 765) (by decide +kernel) (by decide +kernel), fv_107⟩
theorem lk_RL_2 : na_lk RL (.invokevirtual 18) [41, 3, 3] 0 0 := ⟨na_mem (i := 239) (by decide +kernel) (by decide +kernel), fv_41⟩
theorem lk_RL_3 : na_lk RL (.invokevirtual 22) [110, 3, 4] 0 0 := ⟨na_mem (i := 791) (by decide +kernel) (by decide +kernel), fv_110⟩
theorem lk_RL_4 : na_lk RL (.invokevirtual 23) [42, 3, 3] 0 0 := ⟨na_mem (i := 262) (by decide +kernel) (by decide +kernel), fv_42⟩
theorem lk_RL_5 : na_lk RL (.invokevirtual 26) [112, 3, 4] 0 0 := ⟨na_mem (i := 815) (by decide +kernel) (by decide +kernel), fv_112⟩
theorem lk_RL_6 : na_lk RL (.invokevirtual 27) [43, 2, 3] 0 0 := ⟨na_mem (i := 270) (by decide +kernel) (by decide +kernel), fv_43⟩
theorem lk_RL_7 : na_lk RL (.invokevirtual 31) [113, 2, 4] 0 0 := ⟨na_mem (i := 823) (by decide +kernel) (by decide +kernel), fv_113⟩
theorem lk_RL_8 : na_lk RL (.invokevirtual 32) [44, 3, 3] 0 0 := ⟨na_mem (i := 274) (by decide +kernel) (by decide +kernel), fv_44⟩
theorem lk_RL_9 : na_lk RL (.invokevirtual 35) [115, 3, 4] 0 0 := ⟨na_mem (i := 827) (by decide +kernel) (by decide +kernel), fv_115⟩
theorem lk_RL_10 : na_lk RL (.invokevirtual 36) [45, 3, 3] 0 0 := ⟨na_mem (i := 290) (by decide +kernel) (by decide +kernel), fv_45⟩
theorem lk_RL_11 : na_lk RL (.invokevirtual 39) [118, 3, 4] 0 0 := ⟨na_mem (i := 843) (by decide +kernel) (by decide +kernel), fv_118⟩
theorem lk_RL_12 : na_lk RL (.invokevirtual 40) [46, 4, 3] 0 0 := ⟨na_mem (i := 303) (by decide +kernel) (by decide +kernel), fv_46⟩
theorem lk_RL_13 : na_lk RL (.invokevirtual 43) [119, 4, 4] 0 0 := ⟨na_mem (i := 851) (by decide +kernel) (by decide +kernel), fv_119⟩
theorem lk_RL_14 : na_lk RL (.invokevirtual 44) [47, 3, 3] 0 0 := ⟨na_mem (i := 311) (by decide +kernel) (by decide +kernel), fv_47⟩
theorem lk_RL_15 : na_lk RL (.invokevirtual 47) [120, 3, 4] 0 0 := ⟨na_mem (i := 855) (by decide +kernel) (by decide +kernel), fv_120⟩
theorem lk_RL_16 : na_lk RL (.invokevirtual 48) [48, 3, 3] 0 0 := ⟨na_mem (i := 315) (by decide +kernel) (by decide +kernel), fv_48⟩
theorem lk_RL_17 : na_lk RL (.invokevirtual 51) [121, 3, 4] 0 0 := ⟨na_mem (i := 859) (by decide +kernel) (by decide +kernel), fv_121⟩
theorem lk_RL_18 : na_lk RL (.invokevirtual 52) [49, 2, 3] 0 0 := ⟨na_mem (i := 325) (by decide +kernel) (by decide +kernel), fv_49⟩
theorem lk_RL_19 : na_lk RL (.invokevirtual 55) [123, 2, 4] 0 0 := ⟨na_mem (i := 864) (by decide +kernel) (by decide +kernel), fv_123⟩
theorem lk_RL_20 : na_lk RL (.invokevirtual 56) [50, 2, 3] 0 0 := ⟨na_mem (i := 337) (by decide +kernel) (by decide +kernel), fv_50⟩
theorem lk_RL_21 : na_lk RL (.invokevirtual 59) [132, 2, 4] 0 0 := ⟨na_mem (i := 872) (by decide +kernel) (by decide +kernel), fv_132⟩
theorem lk_RL_22 : na_lk RL (.invokevirtual 60) [51, 2, 3] 0 0 := ⟨na_mem (i := 372) (by decide +kernel) (by decide +kernel), fv_51⟩
theorem lk_RL_23 : na_lk RL (.invokevirtual 63) [133, 2, 4] 0 0 := ⟨na_mem (i := 904) (by decide +kernel) (by decide +kernel), fv_133⟩
theorem lk_RL_24 : na_lk RL (.invokevirtual 64) [52, 4, 3] 0 0 := ⟨na_mem (i := 380) (by decide +kernel) (by decide +kernel), fv_52⟩
theorem lk_RL_25 : na_lk RL (.invokevirtual 67) [135, 4, 4] 0 0 := ⟨na_mem (i := 916) (by decide +kernel) (by decide +kernel), fv_135⟩
theorem lk_RL_26 : na_lk RL (.invokevirtual 68) [53, 2, 3] 0 0 := ⟨na_mem (i := 393) (by decide +kernel) (by decide +kernel), fv_53⟩
theorem lk_RL_27 : na_lk RL (.invokevirtual 71) [137, 2, 4] 0 0 := ⟨na_mem (i := 928) (by decide +kernel) (by decide +kernel), fv_137⟩
theorem lk_RL_28 : na_lk RL (.invokevirtual 72) [54, 1, 3] 0 0 := ⟨na_mem (i := 402) (by decide +kernel) (by decide +kernel), fv_54⟩
theorem lk_RL_29 : na_lk RL (.invokevirtual 76) [139, 1, 4] 0 0 := ⟨na_mem (i := 937) (by decide +kernel) (by decide +kernel), fv_139⟩
theorem lk_RL_30 : na_lk RL (.invokevirtual 77) [55, 1, 3] 0 0 := ⟨na_mem (i := 411) (by decide +kernel) (by decide +kernel), fv_55⟩
theorem lk_RL_31 : na_lk RL (.invokevirtual 80) [141, 1, 4] 0 0 := ⟨na_mem (i := 945) (by decide +kernel) (by decide +kernel), fv_141⟩
theorem lk_RL_32 : na_lk RL (.invokevirtual 81) [56, 1, 3] 0 0 := ⟨na_mem (i := 415) (by decide +kernel) (by decide +kernel), fv_56⟩
theorem lk_RL_33 : na_lk RL (.invokevirtual 84) [142, 1, 4] 0 0 := ⟨na_mem (i := 953) (by decide +kernel) (by decide +kernel), fv_142⟩
theorem lk_RL_34 : na_lk RL (.invokevirtual 85) [57, 2, 3] 0 0 := ⟨na_mem (i := 419) (by decide +kernel) (by decide +kernel), fv_57⟩
theorem lk_RL_35 : na_lk RL (.invokevirtual 88) [144, 2, 4] 0 0 := ⟨na_mem (i := 957) (by decide +kernel) (by decide +kernel), fv_144⟩
theorem lk_RL_36 : na_lk RL (.invokevirtual 89) [58, 3, 3] 0 0 := ⟨na_mem (i := 435) (by decide +kernel) (by decide +kernel), fv_58⟩
theorem lk_RL_37 : na_lk RL (.invokevirtual 92) [146, 3, 4] 0 0 := ⟨na_mem (i := 971) (by decide +kernel) (by decide +kernel), fv_146⟩
theorem lk_RL_38 : na_lk RL (.invokevirtual 93) [59, 4, 3] 0 0 := ⟨na_mem (i := 439) (by decide +kernel) (by decide +kernel), fv_59⟩
theorem lk_RL_39 : na_lk RL (.invokevirtual 96) [147, 4, 4] 0 0 := ⟨na_mem (i := 979) (by decide +kernel) (by decide +kernel), fv_147⟩
theorem lk_RL_40 : na_lk RL (.invokevirtual 97) [60, 2, 3] 0 0 := ⟨na_mem (i := 448) (by decide +kernel) (by decide +kernel), fv_60⟩
theorem lk_RL_41 : na_lk RL (.invokevirtual 100) [148, 2, 4] 0 0 := ⟨na_mem (i := 983) (by decide +kernel) (by decide +kernel), fv_148⟩
theorem lk_RL_42 : na_lk RL (.invokevirtual 101) [61, 3, 3] 0 0 := ⟨na_mem (i := 452) (by decide +kernel) (by decide +kernel), fv_61⟩
theorem lk_RL_43 : na_lk RL (.invokevirtual 104) [149, 3, 4] 0 0 := ⟨na_mem (i := 987) (by decide +kernel) (by decide +kernel), fv_149⟩
theorem lk_RL_44 : na_lk RL (.invokevirtual 105) [62, 3, 3] 0 0 := ⟨na_mem (i := 456) (by decide +kernel) (by decide +kernel), fv_62⟩
theorem lk_RL_45 : na_lk RL (.invokevirtual 108) [150, 3, 4] 0 0 := ⟨na_mem (i := 991) (by decide +kernel) (by decide +kernel), fv_150⟩
theorem lk_RL_46 : na_lk RL (.invokevirtual 109) [63, 3, 3] 0 0 := ⟨na_mem (i := 460) (by decide +kernel) (by decide +kernel), fv_63⟩
theorem lk_RL_47 : na_lk RL (.invokevirtual 113) [153, 3, 4] 0 0 := ⟨na_mem (i := 995) (by decide +kernel) (by decide +kernel), fv_153⟩
theorem lk_RL_48 : na_lk RL (.invokevirtual 114) [64, 2, 3] 0 0 := ⟨na_mem (i := 476) (by decide +kernel) (by decide +kernel), fv_64⟩
theorem lk_RL_49 : na_lk RL (.invokevirtual 117) [155, 2, 4] 0 0 := ⟨na_mem (i := 1007) (by decide +kernel) (by decide +kernel), fv_155⟩
theorem lk_RL_50 : na_lk RL (.invokevirtual 118) [65, 2, 3] 0 0 := ⟨na_mem (i := 485) (by decide +kernel) (by decide +kernel), fv_65⟩
theorem lk_RL_51 : na_lk RL (.invokevirtual 121) [156, 2, 4] 0 0 := ⟨na_mem (i := 1016) (by decide +kernel) (by decide +kernel), fv_156⟩
theorem lk_RL_52 : na_lk RL (.invokevirtual 122) [66, 1, 3] 0 0 := ⟨na_mem (i := 489) (by decide +kernel) (by decide +kernel), fv_66⟩
theorem lk_RL_53 : na_lk RL (.invokevirtual 125) [157, 1, 4] 0 0 := ⟨na_mem (i := 1020) (by decide +kernel) (by decide +kernel), fv_157⟩
theorem lk_RL_54 : na_lk RL (.invokevirtual 126) [67, 4, 3] 0 0 := ⟨na_mem (i := 493) (by decide +kernel) (by decide +kernel), fv_67⟩
theorem lk_RL_55 : na_lk RL (.invokevirtual 129) [158, 4, 4] 0 0 := ⟨na_mem (i := 1024) (by decide +kernel) (by decide +kernel), fv_158⟩
theorem lk_RL_56 : na_lk RL (.invokevirtual 130) [68, 3, 3] 0 0 := ⟨na_mem (i := 497) (by decide +kernel) (by decide +kernel), fv_68⟩
theorem lk_RL_57 : na_lk RL (.invokevirtual 133) [159, 3, 4] 0 0 := ⟨na_mem (i := 1028) (by decide +kernel) (by decide +kernel), fv_159⟩
theorem lk_RL_58 : na_lk RL (.invokevirtual 134) [69, 1, 3] 0 0 := ⟨na_mem (i := 505) (by decide +kernel) (by decide +kernel), fv_69⟩
theorem lk_RL_59 : na_lk RL (.invokevirtual 137) [160, 1, 4] 0 0 := ⟨na_mem (i := 1032) (by decide +kernel) (by decide +kernel), fv_160⟩
theorem lk_RL_60 : na_lk RL (.invokevirtual 138) [70, 1, 3] 0 0 := ⟨na_mem (i := 509) (by decide +kernel) (by decide +kernel), fv_70⟩
theorem lk_RL_61 : na_lk RL (.invokevirtual 141) [173, 1, 4] 0 0 := ⟨na_mem (i := 1036) (by decide +kernel) (by decide +kernel), fv_173⟩
theorem lk_RL_62 : na_lk RL (.invokevirtual 142) [71, 4, 3] 0 0 := ⟨na_mem (i := 633) (by decide +kernel) (by decide +kernel), fv_71⟩
theorem lk_RL_63 : na_lk RL (.invokevirtual 145) [176, 4, 4] 0 0 := ⟨na_mem (i := 1106) (by decide +kernel) (by decide +kernel), fv_176⟩
theorem lk_RL_64 : na_lk RL (.ldc2_w 146) [] 0 4294967295 := na_mem (i := 1171) (by decide +kernel) (by decide +kernel)
theorem lk_RL_65 : na_lk RL (.invokevirtual 148) [72, 4, 3] 0 0 := ⟨na_mem (i := 645) (by decide +kernel) (by decide +kernel), fv_72⟩
theorem lk_RL_66 : na_lk RL (.invokevirtual 152) [177, 4, 4] 0 0 := ⟨na_mem (i := 1114) (by decide +kernel) (by decide +kernel), fv_177⟩
theorem lk_RL_67 : na_lk RL (.invokevirtual 153) [73, 6, 3] 0 0 := ⟨na_mem (i := 658) (by decide +kernel) (by decide +kernel), fv_73⟩
theorem lk_RL_68 : na_lk RL (.invokevirtual 157) [179, 6, 4] 0 0 := ⟨na_mem (i := 1122) (by decide +kernel) (by decide +kernel), fv_179⟩
theorem lk_RL_69 : na_lk RL (.invokevirtual 158) [74, 2, 3] 0 0 := ⟨na_mem (i := 667) (by decide +kernel) (by decide +kernel), fv_74⟩
theorem lk_RL_70 : na_lk RL (.invokevirtual 161) [181, 2, 4] 0 0 := ⟨na_mem (i := 1130) (by decide +kernel) (by decide +kernel), fv_181⟩
theorem lk_RL_71 : na_lk RL (.invokevirtual 162) [75, 3, 3] 0 0 := ⟨na_mem (i := 672) (by decide +kernel) (by decide +kernel), fv_75⟩
theorem lk_RL_72 : na_lk RL (.invokevirtual 165) [182, 3, 4] 0 0 := ⟨na_mem (i := 1139) (by decide +kernel) (by decide +kernel), fv_182⟩
theorem lk_RL_73 : na_lk RL (.invokevirtual 166) [76, 3, 3] 0 0 := ⟨na_mem (i := 676) (by decide +kernel) (by decide +kernel), fv_76⟩
theorem lk_RL_74 : na_lk RL (.invokevirtual 169) [184, 3, 4] 0 0 := ⟨na_mem (i := 1143) (by decide +kernel) (by decide +kernel), fv_184⟩
theorem lk_RL_75 : na_lk RL (.invokevirtual 170) [77, 1, 3] 0 0 := ⟨na_mem (i := 684) (by decide +kernel) (by decide +kernel), fv_77⟩
theorem lk_RL_76 : na_lk RL (.invokevirtual 173) [186, 1, 4] 0 0 := ⟨na_mem (i := 1151) (by decide +kernel) (by decide +kernel), fv_186⟩
theorem lk_RL_77 : na_lk RL (.invokevirtual 174) [78, 1, 3] 0 0 := ⟨na_mem (i := 688) (by decide +kernel) (by decide +kernel), fv_78⟩
theorem lk_RL_78 : na_lk RL (.invokevirtual 177) [187, 1, 4] 0 0 := ⟨na_mem (i := 1155) (by decide +kernel) (by decide +kernel), fv_187⟩
theorem lk_RL_79 : na_lk RL (.invokevirtual 178) [79, 1, 3] 0 0 := ⟨na_mem (i := 692) (by decide +kernel) (by decide +kernel), fv_79⟩
theorem lk_RL_80 : na_lk RL (.invokevirtual 181) [188, 1, 4] 0 0 := ⟨na_mem (i := 1159) (by decide +kernel) (by decide +kernel), fv_188⟩
theorem lk_RL_81 : na_lk RL (.invokevirtual 182) [80, 2, 3] 0 0 := ⟨na_mem (i := 696) (by decide +kernel) (by decide +kernel), fv_80⟩
theorem lk_RL_82 : na_lk RL (.invokevirtual 185) [189, 2, 4] 0 0 := ⟨na_mem (i := 1163) (by decide +kernel) (by decide +kernel), fv_189⟩
theorem lk_RL_83 : na_lk RL (.invokevirtual 186) [81, 2, 3] 0 0 := ⟨na_mem (i := 700) (by decide +kernel) (by decide +kernel), fv_81⟩
theorem lk_RL_84 : na_lk RL (.invokevirtual 189) [190, 2, 4] 0 0 := ⟨na_mem (i := 1167) (by decide +kernel) (by decide +kernel), fv_190⟩
theorem lk_RL : ∀ q ∈ Llk_RL, na_lk RL q.1 q.2.1 q.2.2.1 q.2.2.2 := List.forall_mem_cons.mpr ⟨lk_RL_0, List.forall_mem_cons.mpr ⟨lk_RL_1, List.forall_mem_cons.mpr ⟨lk_RL_2, List.forall_mem_cons.mpr ⟨lk_RL_3, List.forall_mem_cons.mpr ⟨lk_RL_4, List.forall_mem_cons.mpr ⟨lk_RL_5, List.forall_mem_cons.mpr ⟨lk_RL_6, List.forall_mem_cons.mpr ⟨lk_RL_7, List.forall_mem_cons.mpr ⟨lk_RL_8, List.forall_mem_cons.mpr ⟨lk_RL_9, List.forall_mem_cons.mpr ⟨lk_RL_10, List.forall_mem_cons.mpr ⟨lk_RL_11, List.forall_mem_cons.mpr ⟨lk_RL_12, List.forall_mem_cons.mpr ⟨lk_RL_13, List.forall_mem_cons.mpr ⟨lk_RL_14, List.forall_mem_cons.mpr ⟨lk_RL_15, List.forall_mem_cons.mpr ⟨lk_RL_16, List.forall_mem_cons.mpr ⟨lk_RL_17, List.forall_mem_cons.mpr ⟨lk_RL_18, List.forall_mem_cons.mpr ⟨lk_RL_19, List.forall_mem_cons.mpr ⟨lk_RL_20, List.forall_mem_cons.mpr ⟨lk_RL_21, List.forall_mem_cons.mpr ⟨lk_RL_22, List.forall_mem_cons.mpr ⟨lk_RL_23, List.forall_mem_cons.mpr ⟨lk_RL_24, List.forall_mem_cons.mpr ⟨lk_RL_25, List.forall_mem_cons.mpr ⟨lk_RL_26, List.forall_mem_cons.mpr ⟨lk_RL_27, List.forall_mem_cons.mpr ⟨lk_RL_28, List.forall_mem_cons.mpr ⟨lk_RL_29, List.forall_mem_cons.mpr ⟨lk_RL_30, List.forall_mem_cons.mpr ⟨lk_RL_31, List.forall_mem_cons.mpr ⟨lk_RL_32, List.forall_mem_cons.mpr ⟨lk_RL_33, List.forall_mem_cons.mpr ⟨lk_RL_34, List.forall_mem_cons.mpr ⟨lk_RL_35, List.forall_mem_cons.mpr ⟨lk_RL_36, List.forall_mem_cons.mpr ⟨lk_RL_37, List.forall_mem_cons.mpr ⟨lk_RL_38, List.forall_mem_cons.mpr ⟨lk_RL_39, List.forall_mem_cons.mpr ⟨lk_RL_40, List.forall_mem_cons.mpr ⟨lk_RL_41, List.forall_mem_cons.mpr ⟨lk_RL_42, List.forall_mem_cons.mpr ⟨lk_RL_43, List.forall_mem_cons.mpr ⟨lk_RL_44, List.forall_mem_cons.mpr ⟨lk_RL_45, List.forall_mem_cons.mpr ⟨lk_RL_46, List.forall_mem_cons.mpr ⟨lk_RL_47, List.forall_mem_cons.mpr ⟨lk_RL_48, List.forall_mem_cons.mpr ⟨lk_RL_49, List.forall_mem_cons.mpr ⟨lk_RL_50, List.forall_mem_cons.mpr ⟨lk_RL_51, List.forall_mem_cons.mpr ⟨lk_RL_52, List.forall_mem_cons.mpr ⟨lk_RL_53, List.forall_mem_cons.mpr ⟨lk_RL_54, List.forall_mem_cons.mpr ⟨lk_RL_55, List.forall_mem_cons.mpr ⟨lk_RL_56, List.forall_mem_cons.mpr ⟨lk_RL_57, List.forall_mem_cons.mpr ⟨lk_RL_58, List.forall_mem_cons.mpr ⟨lk_RL_59, List.forall_mem_cons.mpr ⟨lk_RL_60, List.forall_mem_cons.mpr ⟨lk_RL_61, List.forall_mem_cons.mpr ⟨lk_RL_62, List.forall_mem_cons.mpr ⟨lk_RL_63, List.forall_mem_cons.mpr ⟨lk_RL_64, List.forall_mem_cons.mpr ⟨lk_RL_65, List.forall_mem_cons.mpr ⟨lk_RL_66, List.forall_mem_cons.mpr ⟨lk_RL_67, List.forall_mem_cons.mpr ⟨lk_RL_68, List.forall_mem_cons.mpr ⟨lk_RL_69, List.forall_mem_cons.mpr ⟨lk_RL_70, List.forall_mem_cons.mpr ⟨lk_RL_71, List.forall_mem_cons.mpr ⟨lk_RL_72, List.forall_mem_cons.mpr ⟨lk_RL_73, List.forall_mem_cons.mpr ⟨lk_RL_74, List.forall_mem_cons.mpr ⟨lk_RL_75, List.forall_mem_cons.mpr ⟨lk_RL_76, List.forall_mem_cons.mpr ⟨lk_RL_77, List.forall_mem_cons.mpr ⟨lk_RL_78, List.forall_mem_cons.mpr ⟨lk_RL_79, List.forall_mem_cons.mpr ⟨lk_RL_80, List.forall_mem_cons.mpr ⟨lk_RL_81, List.forall_mem_cons.mpr ⟨lk_RL_82, List.forall_mem_cons.mpr ⟨lk_RL_83, List.forall_mem_cons.mpr ⟨lk_RL_84, fun _ h => absurd h List.not_mem_nil⟩⟩⟩⟩⟩⟩⟩⟩⟩⟩⟩⟩⟩⟩⟩⟩⟩⟩⟩⟩⟩⟩⟩⟩⟩⟩⟩⟩⟩⟩⟩⟩⟩⟩⟩⟩⟩⟩⟩⟩⟩⟩⟩⟩⟩⟩⟩⟩⟩⟩⟩⟩⟩⟩⟩⟩⟩⟩⟩⟩⟩⟩⟩⟩⟩⟩⟩⟩⟩⟩⟩⟩⟩⟩⟩⟩⟩⟩⟩⟩⟩⟩⟩⟩⟩
end
section
/-! the programs of X0, checked (by program) -/
def PX0_become : List En := [(0, 1, .iconst 0, [], 0, 0),
  (1, 1, .istore_n 2, [2], 0, 0),
  (2, 1, .iload_n 2, [2], 0, 0),
  (3, 1, .iconst 3, [], 3, 0),
  (4, 3, .if_icmp .gt 26, [17], 0, 0),
  (7, 1, .aload_n 1, [1], 0, 0),
  (8, 1, .iload_n 2, [2], 0, 0),
  (9, 3, .invokevirtual 39, [1, 2, 0], 0, 0),
  (12, 1, .iconst 0, [], 0, 0),
  (13, 1, .aload_n 0, [0], 0, 0),
  (14, 1, .iload_n 2, [2], 0, 0),
  (15, 3, .invokevirtual 39, [1, 2, 0], 0, 0),
  (18, 1, .iconst 0, [], 0, 0),
  (19, 2, .bipush 8, [], 8, 0),
  (21, 3, .invokestatic 43, [999], 0, 0),
  (24, 3, .iinc 2 1, [2], 1, 0),
  (27, 3, .goto (-25), [2], 0, 0),
  (30, 1, .aload_n 0, [0], 0, 0),
  (31, 1, .aload_n 1, [1], 0, 0),
  (32, 3, .getfield 49, [0, 4], 0, 0),
  (35, 3, .putfield 49, [0, 4, 0], 0, 0),
  (38, 1, .aload_n 0, [0], 0, 0),
  (39, 1, .aload_n 1, [1], 0, 0),
  (40, 3, .getfield 53, [0, 5], 0, 0),
  (43, 3, .putfield 53, [0, 5, 0], 0, 0),
  (46, 1, .aload_n 0, [0], 0, 0),
  (47, 1, .aload_n 1, [1], 0, 0),
  (48, 3, .getfield 56, [0, 6], 0, 0),
  (51, 3, .putfield 56, [0, 6, 0], 0, 0),
  (54, 1, .aload_n 0, [0], 0, 0),
  (55, 1, .aload_n 1, [1], 0, 0),
  (56, 3, .getfield 59, [0, 7], 0, 0),
  (59, 3, .putfield 59, [0, 7, 0], 0, 0),
  (62, 1, .iconst 0, [], 0, 0),
  (63, 1, .istore_n 2, [2], 0, 0),
  (64, 1, .iload_n 2, [2], 0, 0),
  (65, 1, .iconst 4, [], 4, 0),
  (66, 3, .if_icmp .gt 28, [51], 0, 0),
  (69, 1, .aload_n 1, [1], 0, 0),
  (70, 1, .iload_n 2, [2], 0, 0),
  (71, 3, .invokevirtual 62, [2, 2, 0], 0, 0),
  (74, 1, .iconst 0, [], 0, 0),
  (75, 1, .aload_n 0, [0], 0, 0),
  (76, 1, .iload_n 2, [2], 0, 0),
  (77, 3, .invokevirtual 62, [2, 2, 0], 0, 0),
  (80, 1, .iconst 0, [], 0, 0),
  (81, 1, .aload_n 0, [0], 0, 0),
  (82, 3, .getfield 59, [0, 7], 0, 0),
  (85, 3, .invokestatic 43, [999], 0, 0),
  (88, 3, .iinc 2 1, [2], 1, 0),
  (91, 3, .goto (-27), [35], 0, 0),
  (94, 1, .return_, [], 0, 0)]
set_option maxRecDepth 100000 in
theorem kX0_become : na_okP (na_mi MX0_become) PX0_become := ⟨by decide +kernel, na_lks_s lk_RX0 (by decide +kernel)⟩
def PX0_rowOfRooms : List En := [(0, 1, .iload_n 1, [1], 0, 0),
  (1, 27, .tableswitch 42 0 2 #[27, 32, 37], [11, 2, 5, 8], 0, 0),
  (28, 1, .aload_n 0, [0], 0, 0),
  (29, 3, .getfield 9, [0, 0], 0, 0),
  (32, 1, .areturn, [], 0, 0),
  (33, 1, .aload_n 0, [0], 0, 0),
  (34, 3, .getfield 15, [0, 1], 0, 0),
  (37, 1, .areturn, [], 0, 0),
  (38, 1, .aload_n 0, [0], 0, 0),
  (39, 3, .getfield 18, [0, 2], 0, 0),
  (42, 1, .areturn, [], 0, 0),
  (43, 1, .aload_n 0, [0], 0, 0),
  (44, 3, .getfield 21, [0, 3], 0, 0),
  (47, 1, .areturn, [], 0, 0)]
set_option maxRecDepth 100000 in
theorem kX0_rowOfRooms : na_okP (na_mi MX0_rowOfRooms) PX0_rowOfRooms := ⟨by decide +kernel, na_lks_s lk_RX0 (by decide +kernel)⟩
def PX0_rowOfPeople : List En := [(0, 1, .iload_n 1, [1], 0, 0),
  (1, 31, .tableswitch 51 0 3 #[31, 36, 41, 46], [14, 2, 5, 8, 11], 0, 0),
  (32, 1, .aload_n 0, [0], 0, 0),
  (33, 3, .getfield 24, [0, 8], 0, 0),
  (36, 1, .areturn, [], 0, 0),
  (37, 1, .aload_n 0, [0], 0, 0),
  (38, 3, .getfield 27, [0, 9], 0, 0),
  (41, 1, .areturn, [], 0, 0),
  (42, 1, .aload_n 0, [0], 0, 0),
  (43, 3, .getfield 30, [0, 10], 0, 0),
  (46, 1, .areturn, [], 0, 0),
  (47, 1, .aload_n 0, [0], 0, 0),
  (48, 3, .getfield 33, [0, 11], 0, 0),
  (51, 1, .areturn, [], 0, 0),
  (52, 1, .aload_n 0, [0], 0, 0),
  (53, 3, .getfield 36, [0, 12], 0, 0),
  (56, 1, .areturn, [], 0, 0)]
set_option maxRecDepth 100000 in
theorem kX0_rowOfPeople : na_okP (na_mi MX0_rowOfPeople) PX0_rowOfPeople := ⟨by decide +kernel, na_lks_s lk_RX0 (by decide +kernel)⟩
def PX0_turnDoor : List En := [(0, 1, .aload_n 0, [0], 0, 0),
  (1, 3, .getfield 49, [0, 4], 0, 0),
  (4, 1, .iload_n 1, [1], 0, 0),
  (5, 1, .ishr, [], 0, 0),
  (6, 1, .iconst 1, [], 1, 0),
  (7, 1, .iand, [], 0, 0),
  (8, 1, .istore_n 3, [3], 0, 0),
  (9, 1, .aload_n 0, [0], 0, 0),
  (10, 1, .dup, [], 0, 0),
  (11, 3, .getfield 49, [0, 4], 0, 0),
  (14, 1, .iload_n 3, [3], 0, 0),
  (15, 1, .iload_n 2, [2], 0, 0),
  (16, 1, .ixor, [], 0, 0),
  (17, 1, .iload_n 1, [1], 0, 0),
  (18, 1, .ishl, [], 0, 0),
  (19, 1, .ixor, [], 0, 0),
  (20, 3, .putfield 49, [0, 4, 0], 0, 0),
  (23, 1, .iload_n 3, [3], 0, 0),
  (24, 1, .ireturn, [], 0, 0)]
set_option maxRecDepth 100000 in
theorem kX0_turnDoor : na_okP (na_mi MX0_turnDoor) PX0_turnDoor := ⟨by decide +kernel, na_lks_s lk_RX0 (by decide +kernel)⟩
def PX0_isFull : List En := [(0, 1, .aload_n 0, [0], 0, 0),
  (1, 3, .getfield 59, [0, 7], 0, 0),
  (4, 2, .bipush 8, [], 8, 0),
  (6, 3, .if_icmp .lt 7, [6], 0, 0),
  (9, 1, .iconst 1, [], 1, 0),
  (10, 3, .goto 4, [7], 0, 0),
  (13, 1, .iconst 0, [], 0, 0),
  (14, 1, .ireturn, [], 0, 0)]
set_option maxRecDepth 100000 in
theorem kX0_isFull : na_okP (na_mi MX0_isFull) PX0_isFull := ⟨by decide +kernel, na_lks_s lk_RX0 (by decide +kernel)⟩
def PX0_add : List En := [(0, 1, .aload_n 0, [0], 0, 0),
  (1, 3, .getfield 59, [0, 7], 0, 0),
  (4, 2, .istore 4, [4], 0, 0),
  (6, 1, .aload_n 0, [0], 0, 0),
  (7, 3, .getfield 24, [0, 8], 0, 0),
  (10, 2, .iload 4, [4], 0, 0),
  (12, 1, .iload_n 1, [1], 0, 0),
  (13, 1, .iastore, [], 0, 0),
  (14, 1, .aload_n 0, [0], 0, 0),
  (15, 3, .getfield 27, [0, 9], 0, 0),
  (18, 2, .iload 4, [4], 0, 0),
  (20, 1, .iload_n 2, [2], 0, 0),
  (21, 1, .iastore, [], 0, 0),
  (22, 1, .aload_n 0, [0], 0, 0),
  (23, 3, .getfield 30, [0, 10], 0, 0),
  (26, 2, .iload 4, [4], 0, 0),
  (28, 1, .iload_n 3, [3], 0, 0),
  (29, 1, .iastore, [], 0, 0),
  (30, 1, .aload_n 0, [0], 0, 0),
  (31, 3, .getfield 33, [0, 11], 0, 0),
  (34, 2, .iload 4, [4], 0, 0),
  (36, 1, .iconst 0, [], 0, 0),
  (37, 1, .iastore, [], 0, 0),
  (38, 1, .aload_n 0, [0], 0, 0),
  (39, 3, .getfield 36, [0, 12], 0, 0),
  (42, 2, .iload 4, [4], 0, 0),
  (44, 1, .iconst 0, [], 0, 0),
  (45, 1, .iastore, [], 0, 0),
  (46, 1, .aload_n 0, [0], 0, 0),
  (47, 1, .dup, [], 0, 0),
  (48, 3, .getfield 59, [0, 7], 0, 0),
  (51, 1, .iconst 1, [], 1, 0),
  (52, 1, .iadd, [], 0, 0),
  (53, 3, .putfield 59, [0, 7, 0], 0, 0),
  (56, 2, .iload 4, [4], 0, 0),
  (58, 1, .ireturn, [], 0, 0)]
set_option maxRecDepth 100000 in
theorem kX0_add : na_okP (na_mi MX0_add) PX0_add := ⟨by decide +kernel, na_lks_s lk_RX0 (by decide +kernel)⟩
def PX0_remove : List En := [(0, 1, .aload_n 0, [0], 0, 0),
  (1, 3, .getfield 59, [0, 7], 0, 0),
  (4, 1, .iload_n 1, [1], 0, 0),
  (5, 1, .isub, [], 0, 0),
  (6, 1, .iconst 1, [], 1, 0),
  (7, 1, .isub, [], 0, 0),
  (8, 1, .istore_n 2, [2], 0, 0),
  (9, 1, .iconst 0, [], 0, 0),
  (10, 1, .istore_n 3, [3], 0, 0),
  (11, 1, .iload_n 3, [3], 0, 0),
  (12, 1, .iconst 4, [], 4, 0),
  (13, 3, .if_icmp .gt 28, [26], 0, 0),
  (16, 1, .aload_n 0, [0], 0, 0),
  (17, 1, .iload_n 3, [3], 0, 0),
  (18, 3, .invokevirtual 62, [2, 2, 0], 0, 0),
  (21, 2, .astore 4, [4], 0, 0),
  (23, 2, .aload 4, [4], 0, 0),
  (25, 1, .iload_n 1, [1], 0, 0),
  (26, 1, .iconst 1, [], 1, 0),
  (27, 1, .iadd, [], 0, 0),
  (28, 2, .aload 4, [4], 0, 0),
  (30, 1, .iload_n 1, [1], 0, 0),
  (31, 1, .iload_n 2, [2], 0, 0),
  (32, 3, .invokestatic 43, [999], 0, 0),
  (35, 3, .iinc 3 1, [3], 1, 0),
  (38, 3, .goto (-27), [9], 0, 0),
  (41, 1, .aload_n 0, [0], 0, 0),
  (42, 1, .dup, [], 0, 0),
  (43, 3, .getfield 59, [0, 7], 0, 0),
  (46, 1, .iconst 1, [], 1, 0),
  (47, 1, .isub, [], 0, 0),
  (48, 3, .putfield 59, [0, 7, 0], 0, 0),
  (51, 1, .return_, [], 0, 0)]
set_option maxRecDepth 100000 in
theorem kX0_remove : na_okP (na_mi MX0_remove) PX0_remove := ⟨by decide +kernel, na_lks_s lk_RX0 (by decide +kernel)⟩
def PX0_peopleIn : List En := [(0, 1, .iconst 0, [], 0, 0),
  (1, 1, .istore_n 2, [2], 0, 0),
  (2, 1, .iconst 0, [], 0, 0),
  (3, 1, .istore_n 3, [3], 0, 0),
  (4, 1, .iload_n 3, [3], 0, 0),
  (5, 1, .aload_n 0, [0], 0, 0),
  (6, 3, .getfield 59, [0, 7], 0, 0),
  (9, 3, .if_icmp .ge 25, [22], 0, 0),
  (12, 1, .aload_n 0, [0], 0, 0),
  (13, 3, .getfield 27, [0, 9], 0, 0),
  (16, 1, .iload_n 3, [3], 0, 0),
  (17, 1, .iaload, [], 0, 0),
  (18, 1, .iload_n 1, [1], 0, 0),
  (19, 3, .if_icmp .ne 9, [20], 0, 0),
  (22, 1, .iload_n 2, [2], 0, 0),
  (23, 1, .iconst 1, [], 1, 0),
  (24, 1, .iload_n 3, [3], 0, 0),
  (25, 1, .ishl, [], 0, 0),
  (26, 1, .ior, [], 0, 0),
  (27, 1, .istore_n 2, [2], 0, 0),
  (28, 3, .iinc 3 1, [3], 1, 0),
  (31, 3, .goto (-27), [4], 0, 0),
  (34, 1, .iload_n 2, [2], 0, 0),
  (35, 1, .ireturn, [], 0, 0)]
set_option maxRecDepth 100000 in
theorem kX0_peopleIn : na_okP (na_mi MX0_peopleIn) PX0_peopleIn := ⟨by decide +kernel, na_lks_s lk_RX0 (by decide +kernel)⟩
def PX0_stifledSet : List En := [(0, 1, .iconst 0, [], 0, 0),
  (1, 1, .istore_n 1, [1], 0, 0),
  (2, 1, .iconst 0, [], 0, 0),
  (3, 1, .istore_n 2, [2], 0, 0),
  (4, 1, .iload_n 2, [2], 0, 0),
  (5, 1, .aload_n 0, [0], 0, 0),
  (6, 3, .getfield 59, [0, 7], 0, 0),
  (9, 3, .if_icmp .ge 20, [19], 0, 0),
  (12, 1, .iload_n 1, [1], 0, 0),
  (13, 1, .aload_n 0, [0], 0, 0),
  (14, 3, .getfield 36, [0, 12], 0, 0),
  (17, 1, .iload_n 2, [2], 0, 0),
  (18, 1, .iaload, [], 0, 0),
  (19, 1, .iload_n 2, [2], 0, 0),
  (20, 1, .ishl, [], 0, 0),
  (21, 1, .ior, [], 0, 0),
  (22, 1, .istore_n 1, [1], 0, 0),
  (23, 3, .iinc 2 1, [2], 1, 0),
  (26, 3, .goto (-22), [4], 0, 0),
  (29, 1, .iload_n 1, [1], 0, 0),
  (30, 1, .ireturn, [], 0, 0)]
set_option maxRecDepth 100000 in
theorem kX0_stifledSet : na_okP (na_mi MX0_stifledSet) PX0_stifledSet := ⟨by decide +kernel, na_lks_s lk_RX0 (by decide +kernel)⟩
def PX0_breathIn : List En := [(0, 1, .iconst 0, [], 0, 0),
  (1, 1, .istore_n 2, [2], 0, 0),
  (2, 1, .iconst 0, [], 0, 0),
  (3, 1, .istore_n 3, [3], 0, 0),
  (4, 1, .iload_n 3, [3], 0, 0),
  (5, 1, .aload_n 0, [0], 0, 0),
  (6, 3, .getfield 59, [0, 7], 0, 0),
  (9, 3, .if_icmp .ge 25, [20], 0, 0),
  (12, 1, .iload_n 1, [1], 0, 0),
  (13, 1, .iload_n 3, [3], 0, 0),
  (14, 3, .invokestatic 65, [91, 2], 0, 0),
  (17, 3, .ifCond .eq 11, [18], 0, 0),
  (20, 1, .iload_n 2, [2], 0, 0),
  (21, 1, .aload_n 0, [0], 0, 0),
  (22, 1, .iload_n 3, [3], 0, 0),
  (23, 3, .invokevirtual 69, [12, 2, 0], 0, 0),
  (26, 1, .iadd, [], 0, 0),
  (27, 1, .istore_n 2, [2], 0, 0),
  (28, 3, .iinc 3 1, [3], 1, 0),
  (31, 3, .goto (-27), [4], 0, 0),
  (34, 1, .iload_n 2, [2], 0, 0),
  (35, 1, .ireturn, [], 0, 0)]
set_option maxRecDepth 100000 in
theorem kX0_breathIn : na_okP (na_mi MX0_breathIn) PX0_breathIn := ⟨by decide +kernel, na_lks_s lk_RX0 (by decide +kernel)⟩
def PX0_greatestBreathIn : List En := [(0, 1, .iconst 0, [], 0, 0),
  (1, 1, .istore_n 2, [2], 0, 0),
  (2, 1, .iconst 0, [], 0, 0),
  (3, 1, .istore_n 3, [3], 0, 0),
  (4, 1, .iload_n 3, [3], 0, 0),
  (5, 1, .aload_n 0, [0], 0, 0),
  (6, 3, .getfield 59, [0, 7], 0, 0),
  (9, 3, .if_icmp .ge 27, [20], 0, 0),
  (12, 1, .iload_n 1, [1], 0, 0),
  (13, 1, .iload_n 3, [3], 0, 0),
  (14, 3, .invokestatic 65, [91, 2], 0, 0),
  (17, 3, .ifCond .eq 13, [18], 0, 0),
  (20, 1, .iload_n 2, [2], 0, 0),
  (21, 1, .aload_n 0, [0], 0, 0),
  (22, 1, .iload_n 3, [3], 0, 0),
  (23, 3, .invokevirtual 69, [12, 2, 0], 0, 0),
  (26, 3, .invokestatic 73, [996], 0, 0),
  (29, 1, .istore_n 2, [2], 0, 0),
  (30, 3, .iinc 3 1, [3], 1, 0),
  (33, 3, .goto (-29), [4], 0, 0),
  (36, 1, .iload_n 2, [2], 0, 0),
  (37, 1, .ireturn, [], 0, 0)]
set_option maxRecDepth 100000 in
theorem kX0_greatestBreathIn : na_okP (na_mi MX0_greatestBreathIn) PX0_greatestBreathIn := ⟨by decide +kernel, na_lks_s lk_RX0 (by decide +kernel)⟩
def PX0_frostIn : List En := [(0, 1, .iconst 0, [], 0, 0),
  (1, 1, .istore_n 2, [2], 0, 0),
  (2, 1, .iconst 0, [], 0, 0),
  (3, 1, .istore_n 3, [3], 0, 0),
  (4, 1, .iload_n 3, [3], 0, 0),
  (5, 2, .bipush 8, [], 8, 0),
  (7, 3, .if_icmp .ge 26, [20], 0, 0),
  (10, 1, .iload_n 1, [1], 0, 0),
  (11, 1, .iload_n 3, [3], 0, 0),
  (12, 3, .invokestatic 65, [91, 2], 0, 0),
  (15, 3, .ifCond .eq 12, [18], 0, 0),
  (18, 1, .iload_n 2, [2], 0, 0),
  (19, 1, .aload_n 0, [0], 0, 0),
  (20, 3, .getfield 15, [0, 1], 0, 0),
  (23, 1, .iload_n 3, [3], 0, 0),
  (24, 1, .iaload, [], 0, 0),
  (25, 1, .iadd, [], 0, 0),
  (26, 1, .istore_n 2, [2], 0, 0),
  (27, 3, .iinc 3 1, [3], 1, 0),
  (30, 3, .goto (-26), [4], 0, 0),
  (33, 1, .iload_n 2, [2], 0, 0),
  (34, 1, .ireturn, [], 0, 0)]
set_option maxRecDepth 100000 in
theorem kX0_frostIn : na_okP (na_mi MX0_frostIn) PX0_frostIn := ⟨by decide +kernel, na_lks_s lk_RX0 (by decide +kernel)⟩
def PX0_breathOf : List En := [(0, 1, .aload_n 0, [0], 0, 0),
  (1, 3, .getfield 36, [0, 12], 0, 0),
  (4, 1, .iload_n 1, [1], 0, 0),
  (5, 1, .iaload, [], 0, 0),
  (6, 1, .iconst 1, [], 1, 0),
  (7, 3, .if_icmp .ne 5, [8], 0, 0),
  (10, 1, .iconst 0, [], 0, 0),
  (11, 1, .ireturn, [], 0, 0),
  (12, 1, .aload_n 0, [0], 0, 0),
  (13, 3, .getfield 30, [0, 10], 0, 0),
  (16, 1, .iload_n 1, [1], 0, 0),
  (17, 1, .iaload, [], 0, 0),
  (18, 1, .istore_n 2, [2], 0, 0),
  (19, 1, .aload_n 0, [0], 0, 0),
  (20, 3, .getfield 24, [0, 8], 0, 0),
  (23, 1, .iload_n 1, [1], 0, 0),
  (24, 1, .iaload, [], 0, 0),
  (25, 35, .tableswitch 77 1 5 #[35, 39, 45, 61, 71], [52, 18, 22, 28, 38, 46], 0, 0),
  (60, 1, .iconst 2, [], 2, 0),
  (61, 1, .iload_n 2, [2], 0, 0),
  (62, 1, .imul, [], 0, 0),
  (63, 1, .ireturn, [], 0, 0),
  (64, 1, .iload_n 2, [2], 0, 0),
  (65, 1, .iconst 2, [], 2, 0),
  (66, 1, .idiv, [], 0, 0),
  (67, 1, .iconst 1, [], 1, 0),
  (68, 1, .iadd, [], 0, 0),
  (69, 1, .ireturn, [], 0, 0),
  (70, 1, .aload_n 0, [0], 0, 0),
  (71, 3, .getfield 33, [0, 11], 0, 0),
  (74, 1, .iload_n 1, [1], 0, 0),
  (75, 1, .iaload, [], 0, 0),
  (76, 1, .iload_n 2, [2], 0, 0),
  (77, 3, .if_icmp .ge 7, [36], 0, 0),
  (80, 1, .iconst 0, [], 0, 0),
  (81, 3, .goto 4, [37], 0, 0),
  (84, 1, .iload_n 2, [2], 0, 0),
  (85, 1, .ireturn, [], 0, 0),
  (86, 1, .iconst 2, [], 2, 0),
  (87, 1, .iload_n 2, [2], 0, 0),
  (88, 1, .imul, [], 0, 0),
  (89, 1, .aload_n 0, [0], 0, 0),
  (90, 1, .iload_n 1, [1], 0, 0),
  (91, 3, .invokevirtual 79, [13, 2, 0], 0, 0),
  (94, 1, .iadd, [], 0, 0),
  (95, 1, .ireturn, [], 0, 0),
  (96, 1, .iload_n 2, [2], 0, 0),
  (97, 1, .iconst 2, [], 2, 0),
  (98, 1, .idiv, [], 0, 0),
  (99, 1, .iconst 2, [], 2, 0),
  (100, 1, .iadd, [], 0, 0),
  (101, 1, .ireturn, [], 0, 0),
  (102, 1, .iload_n 2, [2], 0, 0),
  (103, 1, .ireturn, [], 0, 0)]
set_option maxRecDepth 100000 in
theorem kX0_breathOf : na_okP (na_mi MX0_breathOf) PX0_breathOf := ⟨by decide +kernel, na_lks_s lk_RX0 (by decide +kernel)⟩
def PX0_otherVoices : List En := [(0, 1, .iconst 0, [], 0, 0),
  (1, 1, .istore_n 2, [2], 0, 0),
  (2, 1, .iconst 0, [], 0, 0),
  (3, 1, .istore_n 3, [3], 0, 0),
  (4, 1, .iload_n 3, [3], 0, 0),
  (5, 1, .aload_n 0, [0], 0, 0),
  (6, 3, .getfield 59, [0, 7], 0, 0),
  (9, 3, .if_icmp .ge 51, [34], 0, 0),
  (12, 1, .iload_n 3, [3], 0, 0),
  (13, 1, .iload_n 1, [1], 0, 0),
  (14, 3, .if_icmp .eq 40, [32], 0, 0),
  (17, 1, .aload_n 0, [0], 0, 0),
  (18, 3, .getfield 24, [0, 8], 0, 0),
  (21, 1, .iload_n 3, [3], 0, 0),
  (22, 1, .iaload, [], 0, 0),
  (23, 1, .iconst 4, [], 4, 0),
  (24, 3, .if_icmp .ne 30, [32], 0, 0),
  (27, 1, .aload_n 0, [0], 0, 0),
  (28, 3, .getfield 27, [0, 9], 0, 0),
  (31, 1, .iload_n 3, [3], 0, 0),
  (32, 1, .iaload, [], 0, 0),
  (33, 1, .aload_n 0, [0], 0, 0),
  (34, 3, .getfield 27, [0, 9], 0, 0),
  (37, 1, .iload_n 1, [1], 0, 0),
  (38, 1, .iaload, [], 0, 0),
  (39, 3, .if_icmp .ne 15, [32], 0, 0),
  (42, 1, .aload_n 0, [0], 0, 0),
  (43, 3, .getfield 36, [0, 12], 0, 0),
  (46, 1, .iload_n 3, [3], 0, 0),
  (47, 1, .iaload, [], 0, 0),
  (48, 3, .ifCond .ne 6, [32], 0, 0),
  (51, 3, .iinc 2 1, [2], 1, 0),
  (54, 3, .iinc 3 1, [3], 1, 0),
  (57, 3, .goto (-53), [4], 0, 0),
  (60, 1, .iload_n 2, [2], 0, 0),
  (61, 1, .ireturn, [], 0, 0)]
set_option maxRecDepth 100000 in
theorem kX0_otherVoices : na_okP (na_mi MX0_otherVoices) PX0_otherVoices := ⟨by decide +kernel, na_lks_s lk_RX0 (by decide +kernel)⟩
def PX0_passHours : List En := [(0, 1, .iconst 0, [], 0, 0),
  (1, 1, .istore_n 2, [2], 0, 0),
  (2, 1, .iload_n 2, [2], 0, 0),
  (3, 1, .iload_n 1, [1], 0, 0),
  (4, 3, .if_icmp .ge 14, [10], 0, 0),
  (7, 1, .aload_n 0, [0], 0, 0),
  (8, 3, .invokevirtual 82, [15, 1, 0], 0, 0),
  (11, 1, .pop, [], 0, 0),
  (12, 3, .iinc 2 1, [2], 1, 0),
  (15, 3, .goto (-13), [2], 0, 0),
  (18, 1, .return_, [], 0, 0)]
set_option maxRecDepth 100000 in
theorem kX0_passHours : na_okP (na_mi MX0_passHours) PX0_passHours := ⟨by decide +kernel, na_lks_s lk_RX0 (by decide +kernel)⟩
def PX0_passHour : List En := [(0, 1, .aload_n 0, [0], 0, 0),
  (1, 3, .getfield 53, [0, 5], 0, 0),
  (4, 1, .iconst 1, [], 1, 0),
  (5, 3, .if_icmp .ne 7, [6], 0, 0),
  (8, 1, .aload_n 0, [0], 0, 0),
  (9, 3, .invokevirtual 86, [16, 1, 0], 0, 0),
  (12, 1, .aload_n 0, [0], 0, 0),
  (13, 3, .invokevirtual 89, [17, 1, 0], 0, 0),
  (16, 1, .aload_n 0, [0], 0, 0),
  (17, 3, .invokevirtual 92, [18, 1, 0], 0, 0),
  (20, 1, .aload_n 0, [0], 0, 0),
  (21, 1, .dup, [], 0, 0),
  (22, 3, .getfield 56, [0, 6], 0, 0),
  (25, 1, .iconst 1, [], 1, 0),
  (26, 1, .iadd, [], 0, 0),
  (27, 3, .putfield 56, [0, 6, 0], 0, 0),
  (30, 1, .aload_n 0, [0], 0, 0),
  (31, 3, .invokevirtual 95, [19, 1, 0], 0, 0),
  (34, 1, .ireturn, [], 0, 0)]
set_option maxRecDepth 100000 in
theorem kX0_passHour : na_okP (na_mi MX0_passHour) PX0_passHour := ⟨by decide +kernel, na_lks_s lk_RX0 (by decide +kernel)⟩
def PX0_freeze : List En := [(0, 1, .iconst 0, [], 0, 0),
  (1, 1, .istore_n 1, [1], 0, 0),
  (2, 1, .iload_n 1, [1], 0, 0),
  (3, 2, .bipush 8, [], 8, 0),
  (5, 3, .if_icmp .ge 59, [41], 0, 0),
  (8, 1, .aload_n 0, [0], 0, 0),
  (9, 3, .getfield 9, [0, 0], 0, 0),
  (12, 1, .iload_n 1, [1], 0, 0),
  (13, 1, .iaload, [], 0, 0),
  (14, 2, .bipush 9, [], 9, 0),
  (16, 1, .aload_n 0, [0], 0, 0),
  (17, 3, .getfield 21, [0, 3], 0, 0),
  (20, 1, .iload_n 1, [1], 0, 0),
  (21, 1, .iaload, [], 0, 0),
  (22, 1, .isub, [], 0, 0),
  (23, 1, .imul, [], 0, 0),
  (24, 2, .bipush 20, [], 20, 0),
  (26, 1, .idiv, [], 0, 0),
  (27, 1, .istore_n 2, [2], 0, 0),
  (28, 1, .aload_n 0, [0], 0, 0),
  (29, 3, .getfield 9, [0, 0], 0, 0),
  (32, 1, .iload_n 1, [1], 0, 0),
  (33, 1, .dup2, [], 0, 0),
  (34, 1, .iaload, [], 0, 0),
  (35, 1, .iload_n 2, [2], 0, 0),
  (36, 1, .isub, [], 0, 0),
  (37, 1, .iastore, [], 0, 0),
  (38, 1, .aload_n 0, [0], 0, 0),
  (39, 3, .getfield 15, [0, 1], 0, 0),
  (42, 1, .iload_n 1, [1], 0, 0),
  (43, 3, .sipush 9999, [], 9999, 0),
  (46, 1, .aload_n 0, [0], 0, 0),
  (47, 3, .getfield 15, [0, 1], 0, 0),
  (50, 1, .iload_n 1, [1], 0, 0),
  (51, 1, .iaload, [], 0, 0),
  (52, 1, .iload_n 2, [2], 0, 0),
  (53, 1, .iadd, [], 0, 0),
  (54, 3, .invokestatic 98, [997], 0, 0),
  (57, 1, .iastore, [], 0, 0),
  (58, 3, .iinc 1 1, [1], 1, 0),
  (61, 3, .goto (-59), [2], 0, 0),
  (64, 1, .return_, [], 0, 0)]
set_option maxRecDepth 100000 in
theorem kX0_freeze : na_okP (na_mi MX0_freeze) PX0_freeze := ⟨by decide +kernel, na_lks_s lk_RX0 (by decide +kernel)⟩
def PX0_burn : List En := [(0, 1, .iconst 0, [], 0, 0),
  (1, 1, .istore_n 1, [1], 0, 0),
  (2, 1, .iload_n 1, [1], 0, 0),
  (3, 2, .bipush 8, [], 8, 0),
  (5, 3, .if_icmp .ge 55, [37], 0, 0),
  (8, 1, .aload_n 0, [0], 0, 0),
  (9, 3, .getfield 18, [0, 2], 0, 0),
  (12, 1, .iload_n 1, [1], 0, 0),
  (13, 1, .iaload, [], 0, 0),
  (14, 1, .aload_n 0, [0], 0, 0),
  (15, 3, .getfield 15, [0, 1], 0, 0),
  (18, 1, .iload_n 1, [1], 0, 0),
  (19, 1, .iaload, [], 0, 0),
  (20, 3, .invokestatic 98, [997], 0, 0),
  (23, 1, .istore_n 2, [2], 0, 0),
  (24, 1, .aload_n 0, [0], 0, 0),
  (25, 3, .getfield 15, [0, 1], 0, 0),
  (28, 1, .iload_n 1, [1], 0, 0),
  (29, 1, .dup2, [], 0, 0),
  (30, 1, .iaload, [], 0, 0),
  (31, 1, .iload_n 2, [2], 0, 0),
  (32, 1, .isub, [], 0, 0),
  (33, 1, .iastore, [], 0, 0),
  (34, 1, .aload_n 0, [0], 0, 0),
  (35, 3, .getfield 9, [0, 0], 0, 0),
  (38, 1, .iload_n 1, [1], 0, 0),
  (39, 3, .sipush 9999, [], 9999, 0),
  (42, 1, .aload_n 0, [0], 0, 0),
  (43, 3, .getfield 9, [0, 0], 0, 0),
  (46, 1, .iload_n 1, [1], 0, 0),
  (47, 1, .iaload, [], 0, 0),
  (48, 1, .iload_n 2, [2], 0, 0),
  (49, 1, .iadd, [], 0, 0),
  (50, 3, .invokestatic 98, [997], 0, 0),
  (53, 1, .iastore, [], 0, 0),
  (54, 3, .iinc 1 1, [1], 1, 0),
  (57, 3, .goto (-55), [2], 0, 0),
  (60, 1, .return_, [], 0, 0)]
set_option maxRecDepth 100000 in
theorem kX0_burn : na_okP (na_mi MX0_burn) PX0_burn := ⟨by decide +kernel, na_lks_s lk_RX0 (by decide +kernel)⟩
def PX0_mix : List En := [(0, 1, .iconst 0, [], 0, 0),
  (1, 1, .istore_n 1, [1], 0, 0),
  (2, 1, .iload_n 1, [1], 0, 0),
  (3, 2, .bipush 7, [], 7, 0),
  (5, 3, .if_icmp .ge 60, [44], 0, 0),
  (8, 1, .aload_n 0, [0], 0, 0),
  (9, 3, .getfield 49, [0, 4], 0, 0),
  (12, 1, .iload_n 1, [1], 0, 0),
  (13, 3, .invokestatic 65, [91, 2], 0, 0),
  (16, 3, .ifCond .eq 43, [42], 0, 0),
  (19, 1, .aload_n 0, [0], 0, 0),
  (20, 3, .getfield 9, [0, 0], 0, 0),
  (23, 1, .iload_n 1, [1], 0, 0),
  (24, 1, .iaload, [], 0, 0),
  (25, 1, .aload_n 0, [0], 0, 0),
  (26, 3, .getfield 9, [0, 0], 0, 0),
  (29, 1, .iload_n 1, [1], 0, 0),
  (30, 1, .iconst 1, [], 1, 0),
  (31, 1, .iadd, [], 0, 0),
  (32, 1, .iaload, [], 0, 0),
  (33, 1, .isub, [], 0, 0),
  (34, 1, .iconst 4, [], 4, 0),
  (35, 1, .idiv, [], 0, 0),
  (36, 1, .istore_n 2, [2], 0, 0),
  (37, 1, .aload_n 0, [0], 0, 0),
  (38, 3, .getfield 9, [0, 0], 0, 0),
  (41, 1, .iload_n 1, [1], 0, 0),
  (42, 1, .dup2, [], 0, 0),
  (43, 1, .iaload, [], 0, 0),
  (44, 1, .iload_n 2, [2], 0, 0),
  (45, 1, .isub, [], 0, 0),
  (46, 1, .iastore, [], 0, 0),
  (47, 1, .aload_n 0, [0], 0, 0),
  (48, 3, .getfield 9, [0, 0], 0, 0),
  (51, 1, .iload_n 1, [1], 0, 0),
  (52, 1, .iconst 1, [], 1, 0),
  (53, 1, .iadd, [], 0, 0),
  (54, 1, .dup2, [], 0, 0),
  (55, 1, .iaload, [], 0, 0),
  (56, 1, .iload_n 2, [2], 0, 0),
  (57, 1, .iadd, [], 0, 0),
  (58, 1, .iastore, [], 0, 0),
  (59, 3, .iinc 1 1, [1], 1, 0),
  (62, 3, .goto (-60), [2], 0, 0),
  (65, 1, .return_, [], 0, 0)]
set_option maxRecDepth 100000 in
theorem kX0_mix : na_okP (na_mi MX0_mix) PX0_mix := ⟨by decide +kernel, na_lks_s lk_RX0 (by decide +kernel)⟩
def PX0_breathe : List En := [(0, 1, .iconst 0, [], 0, 0),
  (1, 1, .istore_n 1, [1], 0, 0),
  (2, 1, .iconst 0, [], 0, 0),
  (3, 1, .istore_n 2, [2], 0, 0),
  (4, 1, .iload_n 2, [2], 0, 0),
  (5, 1, .aload_n 0, [0], 0, 0),
  (6, 3, .getfield 59, [0, 7], 0, 0),
  (9, 3, .if_icmp .ge 89, [62], 0, 0),
  (12, 1, .aload_n 0, [0], 0, 0),
  (13, 1, .iload_n 2, [2], 0, 0),
  (14, 3, .invokevirtual 69, [12, 2, 0], 0, 0),
  (17, 1, .istore_n 3, [3], 0, 0),
  (18, 1, .aload_n 0, [0], 0, 0),
  (19, 3, .getfield 27, [0, 9], 0, 0),
  (22, 1, .iload_n 2, [2], 0, 0),
  (23, 1, .iaload, [], 0, 0),
  (24, 2, .istore 4, [4], 0, 0),
  (26, 1, .aload_n 0, [0], 0, 0),
  (27, 3, .getfield 9, [0, 0], 0, 0),
  (30, 2, .iload 4, [4], 0, 0),
  (32, 1, .iaload, [], 0, 0),
  (33, 1, .iload_n 3, [3], 0, 0),
  (34, 3, .if_icmp .ge 27, [40], 0, 0),
  (37, 1, .aload_n 0, [0], 0, 0),
  (38, 3, .getfield 9, [0, 0], 0, 0),
  (41, 2, .iload 4, [4], 0, 0),
  (43, 1, .iconst 0, [], 0, 0),
  (44, 1, .iastore, [], 0, 0),
  (45, 1, .aload_n 0, [0], 0, 0),
  (46, 3, .getfield 36, [0, 12], 0, 0),
  (49, 1, .iload_n 2, [2], 0, 0),
  (50, 1, .iconst 1, [], 1, 0),
  (51, 1, .iastore, [], 0, 0),
  (52, 1, .iload_n 1, [1], 0, 0),
  (53, 1, .iconst 1, [], 1, 0),
  (54, 1, .iload_n 2, [2], 0, 0),
  (55, 1, .ishl, [], 0, 0),
  (56, 1, .ior, [], 0, 0),
  (57, 1, .istore_n 1, [1], 0, 0),
  (58, 3, .goto 14, [48], 0, 0),
  (61, 1, .aload_n 0, [0], 0, 0),
  (62, 3, .getfield 9, [0, 0], 0, 0),
  (65, 2, .iload 4, [4], 0, 0),
  (67, 1, .dup2, [], 0, 0),
  (68, 1, .iaload, [], 0, 0),
  (69, 1, .iload_n 3, [3], 0, 0),
  (70, 1, .isub, [], 0, 0),
  (71, 1, .iastore, [], 0, 0),
  (72, 1, .aload_n 0, [0], 0, 0),
  (73, 3, .getfield 33, [0, 11], 0, 0),
  (76, 1, .iload_n 2, [2], 0, 0),
  (77, 3, .sipush 999, [], 999, 0),
  (80, 1, .aload_n 0, [0], 0, 0),
  (81, 3, .getfield 33, [0, 11], 0, 0),
  (84, 1, .iload_n 2, [2], 0, 0),
  (85, 1, .iaload, [], 0, 0),
  (86, 1, .iconst 1, [], 1, 0),
  (87, 1, .iadd, [], 0, 0),
  (88, 3, .invokestatic 98, [997], 0, 0),
  (91, 1, .iastore, [], 0, 0),
  (92, 3, .iinc 2 1, [2], 1, 0),
  (95, 3, .goto (-91), [4], 0, 0),
  (98, 1, .iload_n 1, [1], 0, 0),
  (99, 1, .ireturn, [], 0, 0)]
set_option maxRecDepth 100000 in
theorem kX0_breathe : na_okP (na_mi MX0_breathe) PX0_breathe := ⟨by decide +kernel, na_lks_s lk_RX0 (by decide +kernel)⟩
def PX0_wellHours : List En := [(0, 1, .iconst 0, [], 0, 0),
  (1, 1, .istore_n 3, [3], 0, 0),
  (2, 1, .iload_n 3, [3], 0, 0),
  (3, 1, .iload_n 2, [2], 0, 0),
  (4, 3, .if_icmp .ge 20, [14], 0, 0),
  (7, 1, .aload_n 0, [0], 0, 0),
  (8, 3, .invokevirtual 82, [15, 1, 0], 0, 0),
  (11, 1, .iload_n 1, [1], 0, 0),
  (12, 1, .iand, [], 0, 0),
  (13, 3, .ifCond .eq 5, [12], 0, 0),
  (16, 1, .iload_n 3, [3], 0, 0),
  (17, 1, .ireturn, [], 0, 0),
  (18, 3, .iinc 3 1, [3], 1, 0),
  (21, 3, .goto (-19), [2], 0, 0),
  (24, 1, .iload_n 2, [2], 0, 0),
  (25, 1, .ireturn, [], 0, 0)]
set_option maxRecDepth 100000 in
theorem kX0_wellHours : na_okP (na_mi MX0_wellHours) PX0_wellHours := ⟨by decide +kernel, na_lks_s lk_RX0 (by decide +kernel)⟩
def PX0_stifledAfter : List En := [(0, 1, .aload_n 0, [0], 0, 0),
  (1, 1, .iload_n 1, [1], 0, 0),
  (2, 3, .invokevirtual 101, [14, 2, 0], 0, 0),
  (5, 1, .aload_n 0, [0], 0, 0),
  (6, 3, .invokevirtual 105, [8, 1, 0], 0, 0),
  (9, 3, .invokestatic 108, [192, 1], 0, 0),
  (12, 1, .ireturn, [], 0, 0)]
set_option maxRecDepth 100000 in
theorem kX0_stifledAfter : na_okP (na_mi MX0_stifledAfter) PX0_stifledAfter := ⟨by decide +kernel, na_lks_s lk_RX0 (by decide +kernel)⟩
def PX0_goesAsTold : List En := [(0, 1, .iconst 0, [], 0, 0),
  (1, 1, .istore_n 3, [3], 0, 0),
  (2, 1, .iload_n 3, [3], 0, 0),
  (3, 1, .aload_n 2, [2], 0, 0),
  (4, 3, .getfield 113, [1, 2], 0, 0),
  (7, 3, .if_icmp .ge 33, [24], 0, 0),
  (10, 1, .aload_n 0, [0], 0, 0),
  (11, 3, .getfield 9, [0, 0], 0, 0),
  (14, 1, .iload_n 1, [1], 0, 0),
  (15, 1, .iaload, [], 0, 0),
  (16, 1, .i2l, [], 0, 0),
  (17, 1, .aload_n 2, [2], 0, 0),
  (18, 3, .getfield 118, [1, 0], 0, 0),
  (21, 1, .iload_n 3, [3], 0, 0),
  (22, 1, .laload, [], 0, 0),
  (23, 1, .lcmp, [], 0, 0),
  (24, 3, .ifCond .eq 5, [19], 0, 0),
  (27, 1, .iconst 0, [], 0, 0),
  (28, 1, .ireturn, [], 0, 0),
  (29, 1, .aload_n 0, [0], 0, 0),
  (30, 3, .invokevirtual 82, [15, 1, 0], 0, 0),
  (33, 1, .pop, [], 0, 0),
  (34, 3, .iinc 3 1, [3], 1, 0),
  (37, 3, .goto (-35), [2], 0, 0),
  (40, 1, .iconst 1, [], 1, 0),
  (41, 1, .ireturn, [], 0, 0)]
set_option maxRecDepth 100000 in
theorem kX0_goesAsTold : na_okP (na_mi MX0_goesAsTold) PX0_goesAsTold := ⟨by decide +kernel, na_lks_s lk_RX0 (by decide +kernel)⟩
end
section
/-! the programs of X1, checked (by program) -/
def PX1_isMissing : List En := [(0, 1, .aload_n 0, [0], 0, 0),
  (1, 3, .getfield 15, [1, 1], 0, 0),
  (4, 3, .ifCond .ne 7, [5], 0, 0),
  (7, 1, .iconst 1, [], 1, 0),
  (8, 3, .goto 4, [6], 0, 0),
  (11, 1, .iconst 0, [], 0, 0),
  (12, 1, .ireturn, [], 0, 0)]
set_option maxRecDepth 100000 in
theorem kX1_isMissing : na_okP (na_mi MX1_isMissing) PX1_isMissing := ⟨by decide +kernel, na_lks_s lk_RX1 (by decide +kernel)⟩
def PX1_start : List En := [(0, 1, .aload_n 0, [0], 0, 0),
  (1, 1, .iload_n 1, [1], 0, 0),
  (2, 3, .putfield 15, [1, 1, 0], 0, 0),
  (5, 1, .aload_n 0, [0], 0, 0),
  (6, 1, .iload_n 1, [1], 0, 0),
  (7, 3, .ifCond .ne 7, [8], 0, 0),
  (10, 1, .iconst 0, [], 0, 0),
  (11, 3, .goto 4, [9], 0, 0),
  (14, 1, .iload_n 2, [2], 0, 0),
  (15, 3, .putfield 19, [1, 2, 0], 0, 0),
  (18, 1, .iconst 0, [], 0, 0),
  (19, 1, .istore_n 3, [3], 0, 0),
  (20, 1, .iload_n 3, [3], 0, 0),
  (21, 1, .aload_n 0, [0], 0, 0),
  (22, 3, .getfield 19, [1, 2], 0, 0),
  (25, 3, .if_icmp .ge 16, [23], 0, 0),
  (28, 1, .aload_n 0, [0], 0, 0),
  (29, 3, .getfield 9, [1, 0], 0, 0),
  (32, 1, .iload_n 3, [3], 0, 0),
  (33, 1, .lconst 0, [], 0, 0),
  (34, 1, .lastore, [], 0, 0),
  (35, 3, .iinc 3 1, [3], 1, 0),
  (38, 3, .goto (-18), [12], 0, 0),
  (41, 1, .return_, [], 0, 0)]
set_option maxRecDepth 100000 in
theorem kX1_start : na_okP (na_mi MX1_start) PX1_start := ⟨by decide +kernel, na_lks_s lk_RX1 (by decide +kernel)⟩
def PX1_put : List En := [(0, 1, .aload_n 0, [0], 0, 0),
  (1, 3, .getfield 15, [1, 1], 0, 0),
  (4, 2, .bipush 8, [], 8, 0),
  (6, 3, .if_icmp .ne 16, [13], 0, 0),
  (9, 1, .aload_n 0, [0], 0, 0),
  (10, 3, .getfield 9, [1, 0], 0, 0),
  (13, 1, .iload_n 1, [1], 0, 0),
  (14, 1, .lload_n 2, [2], 0, 0),
  (15, 1, .l2i, [], 0, 0),
  (16, 1, .i2b, [], 0, 0),
  (17, 1, .i2l, [], 0, 0),
  (18, 1, .lastore, [], 0, 0),
  (19, 3, .goto 32, [31], 0, 0),
  (22, 1, .aload_n 0, [0], 0, 0),
  (23, 3, .getfield 15, [1, 1], 0, 0),
  (26, 2, .bipush 16, [], 16, 0),
  (28, 3, .if_icmp .ne 16, [26], 0, 0),
  (31, 1, .aload_n 0, [0], 0, 0),
  (32, 3, .getfield 9, [1, 0], 0, 0),
  (35, 1, .iload_n 1, [1], 0, 0),
  (36, 1, .lload_n 2, [2], 0, 0),
  (37, 1, .l2i, [], 0, 0),
  (38, 1, .i2s, [], 0, 0),
  (39, 1, .i2l, [], 0, 0),
  (40, 1, .lastore, [], 0, 0),
  (41, 3, .goto 10, [31], 0, 0),
  (44, 1, .aload_n 0, [0], 0, 0),
  (45, 3, .getfield 9, [1, 0], 0, 0),
  (48, 1, .iload_n 1, [1], 0, 0),
  (49, 1, .lload_n 2, [2], 0, 0),
  (50, 1, .lastore, [], 0, 0),
  (51, 1, .return_, [], 0, 0)]
set_option maxRecDepth 100000 in
theorem kX1_put : na_okP (na_mi MX1_put) PX1_put := ⟨by decide +kernel, na_lks_s lk_RX1 (by decide +kernel)⟩
def PX1_hasStretch : List En := [(0, 1, .iload_n 1, [1], 0, 0),
  (1, 3, .ifCond .lt 29, [16], 0, 0),
  (4, 1, .iload_n 2, [2], 0, 0),
  (5, 3, .ifCond .lt 25, [16], 0, 0),
  (8, 1, .iload_n 2, [2], 0, 0),
  (9, 1, .aload_n 0, [0], 0, 0),
  (10, 3, .getfield 19, [1, 2], 0, 0),
  (13, 3, .if_icmp .gt 17, [16], 0, 0),
  (16, 1, .iload_n 1, [1], 0, 0),
  (17, 1, .aload_n 0, [0], 0, 0),
  (18, 3, .getfield 19, [1, 2], 0, 0),
  (21, 1, .iload_n 2, [2], 0, 0),
  (22, 1, .isub, [], 0, 0),
  (23, 3, .if_icmp .gt 7, [16], 0, 0),
  (26, 1, .iconst 1, [], 1, 0),
  (27, 3, .goto 4, [17], 0, 0),
  (30, 1, .iconst 0, [], 0, 0),
  (31, 1, .ireturn, [], 0, 0)]
set_option maxRecDepth 100000 in
theorem kX1_hasStretch : na_okP (na_mi MX1_hasStretch) PX1_hasStretch := ⟨by decide +kernel, na_lks_s lk_RX1 (by decide +kernel)⟩
end
section
/-! the programs of X2, checked (by program) -/
def PX2_append : List En := [(0, 1, .iload_n 2, [2], 0, 0),
  (1, 1, .iconst 1, [], 1, 0),
  (2, 1, .isub, [], 0, 0),
  (3, 1, .istore_n 3, [3], 0, 0),
  (4, 1, .iload_n 3, [3], 0, 0),
  (5, 3, .ifCond .lt 38, [26], 0, 0),
  (8, 1, .aload_n 0, [0], 0, 0),
  (9, 3, .getfield 9, [2, 0], 0, 0),
  (12, 1, .aload_n 0, [0], 0, 0),
  (13, 3, .getfield 15, [2, 1], 0, 0),
  (16, 1, .iload_n 1, [1], 0, 0),
  (17, 2, .bipush 8, [], 8, 0),
  (19, 1, .iload_n 3, [3], 0, 0),
  (20, 1, .imul, [], 0, 0),
  (21, 1, .ishr, [], 0, 0),
  (22, 3, .sipush 255, [], 255, 0),
  (25, 1, .iand, [], 0, 0),
  (26, 1, .iastore, [], 0, 0),
  (27, 1, .aload_n 0, [0], 0, 0),
  (28, 1, .dup, [], 0, 0),
  (29, 3, .getfield 15, [2, 1], 0, 0),
  (32, 1, .iconst 1, [], 1, 0),
  (33, 1, .iadd, [], 0, 0),
  (34, 3, .putfield 15, [2, 1, 0], 0, 0),
  (37, 3, .iinc 3 (-1), [3], (-1), 0),
  (40, 3, .goto (-36), [4], 0, 0),
  (43, 1, .return_, [], 0, 0)]
set_option maxRecDepth 100000 in
theorem kX2_append : na_okP (na_mi MX2_append) PX2_append := ⟨by decide +kernel, na_lks_s lk_RX2 (by decide +kernel)⟩
def PX2_tell : List En := [(0, 1, .aload_n 0, [0], 0, 0),
  (1, 1, .iconst 0, [], 0, 0),
  (2, 3, .putfield 19, [2, 4, 0], 0, 0),
  (5, 1, .aload_n 0, [0], 0, 0),
  (6, 3, .invokevirtual 22, [38, 1, 2], 0, 0),
  (9, 1, .iconst 1, [], 1, 0),
  (10, 1, .istore_n 2, [2], 0, 0),
  (11, 1, .iload_n 2, [2], 0, 0),
  (12, 2, .bipush 120, [], 120, 0),
  (14, 3, .if_icmp .gt 53, [38], 0, 0),
  (17, 1, .aload_n 0, [0], 0, 0),
  (18, 1, .aload_n 1, [1], 0, 0),
  (19, 3, .invokevirtual 25, [29, 2, 2], 0, 0),
  (22, 3, .ifCond .ne 10, [19], 0, 0),
  (25, 1, .iconst (-1), [], (-1), 0),
  (26, 1, .aload_n 0, [0], 0, 0),
  (27, 3, .getfield 29, [2, 3], 0, 0),
  (30, 1, .isub, [], 0, 0),
  (31, 1, .ireturn, [], 0, 0),
  (32, 1, .aload_n 0, [0], 0, 0),
  (33, 3, .getfield 32, [2, 2], 0, 0),
  (36, 1, .iconst 3, [], 3, 0),
  (37, 3, .if_icmp .ne 5, [25], 0, 0),
  (40, 1, .iload_n 2, [2], 0, 0),
  (41, 1, .ireturn, [], 0, 0),
  (42, 1, .aload_n 0, [0], 0, 0),
  (43, 3, .getfield 32, [2, 2], 0, 0),
  (46, 1, .iconst 2, [], 2, 0),
  (47, 3, .if_icmp .eq 10, [34], 0, 0),
  (50, 1, .iconst (-1), [], (-1), 0),
  (51, 1, .aload_n 0, [0], 0, 0),
  (52, 3, .getfield 29, [2, 3], 0, 0),
  (55, 1, .isub, [], 0, 0),
  (56, 1, .ireturn, [], 0, 0),
  (57, 1, .aload_n 0, [0], 0, 0),
  (58, 3, .invokevirtual 22, [38, 1, 2], 0, 0),
  (61, 3, .iinc 2 1, [2], 1, 0),
  (64, 3, .goto (-53), [7], 0, 0),
  (67, 1, .iconst (-1), [], (-1), 0),
  (68, 1, .aload_n 0, [0], 0, 0),
  (69, 3, .getfield 29, [2, 3], 0, 0),
  (72, 1, .isub, [], 0, 0),
  (73, 1, .ireturn, [], 0, 0)]
set_option maxRecDepth 100000 in
theorem kX2_tell : na_okP (na_mi MX2_tell) PX2_tell := ⟨by decide +kernel, na_lks_s lk_RX2 (by decide +kernel)⟩
def PX2_tellItem : List En := [(0, 1, .aload_n 0, [0], 0, 0),
  (1, 3, .invokevirtual 35, [30, 1, 2], 0, 0),
  (4, 1, .istore_n 2, [2], 0, 0),
  (5, 1, .iload_n 2, [2], 0, 0),
  (6, 3, .ifCond .lt 10, [10], 0, 0),
  (9, 1, .aload_n 0, [0], 0, 0),
  (10, 1, .aload_n 1, [1], 0, 0),
  (11, 1, .iload_n 2, [2], 0, 0),
  (12, 3, .invokevirtual 39, [31, 3, 2], 0, 0),
  (15, 1, .ireturn, [], 0, 0),
  (16, 1, .aload_n 0, [0], 0, 0),
  (17, 2, .ldc 43, [8], 0, 0),
  (19, 3, .invokevirtual 45, [36, 2, 2], 0, 0),
  (22, 3, .ifCond .eq 9, [18], 0, 0),
  (25, 1, .aload_n 0, [0], 0, 0),
  (26, 1, .aload_n 1, [1], 0, 0),
  (27, 3, .invokevirtual 49, [32, 2, 2], 0, 0),
  (30, 1, .ireturn, [], 0, 0),
  (31, 1, .aload_n 0, [0], 0, 0),
  (32, 2, .ldc 52, [13], 0, 0),
  (34, 3, .invokevirtual 45, [36, 2, 2], 0, 0),
  (37, 3, .ifCond .eq 10, [27], 0, 0),
  (40, 1, .aload_n 0, [0], 0, 0),
  (41, 1, .aload_n 1, [1], 0, 0),
  (42, 1, .iconst 1, [], 1, 0),
  (43, 3, .invokevirtual 54, [34, 3, 2], 0, 0),
  (46, 1, .ireturn, [], 0, 0),
  (47, 1, .aload_n 0, [0], 0, 0),
  (48, 2, .ldc 57, [14], 0, 0),
  (50, 3, .invokevirtual 45, [36, 2, 2], 0, 0),
  (53, 3, .ifCond .eq 10, [36], 0, 0),
  (56, 1, .aload_n 0, [0], 0, 0),
  (57, 1, .aload_n 1, [1], 0, 0),
  (58, 1, .iconst 0, [], 0, 0),
  (59, 3, .invokevirtual 54, [34, 3, 2], 0, 0),
  (62, 1, .ireturn, [], 0, 0),
  (63, 1, .aload_n 0, [0], 0, 0),
  (64, 2, .ldc 59, [15], 0, 0),
  (66, 3, .invokevirtual 45, [36, 2, 2], 0, 0),
  (69, 3, .ifCond .eq 10, [45], 0, 0),
  (72, 1, .aload_n 0, [0], 0, 0),
  (73, 1, .aload_n 1, [1], 0, 0),
  (74, 1, .iconst 1, [], 1, 0),
  (75, 3, .invokevirtual 61, [35, 3, 2], 0, 0),
  (78, 1, .ireturn, [], 0, 0),
  (79, 1, .aload_n 0, [0], 0, 0),
  (80, 2, .ldc 64, [16], 0, 0),
  (82, 3, .invokevirtual 45, [36, 2, 2], 0, 0),
  (85, 3, .ifCond .eq 10, [54], 0, 0),
  (88, 1, .aload_n 0, [0], 0, 0),
  (89, 1, .aload_n 1, [1], 0, 0),
  (90, 1, .iconst 0, [], 0, 0),
  (91, 3, .invokevirtual 61, [35, 3, 2], 0, 0),
  (94, 1, .ireturn, [], 0, 0),
  (95, 1, .iconst 0, [], 0, 0),
  (96, 1, .ireturn, [], 0, 0)]
set_option maxRecDepth 100000 in
theorem kX2_tellItem : na_okP (na_mi MX2_tellItem) PX2_tellItem := ⟨by decide +kernel, na_lks_s lk_RX2 (by decide +kernel)⟩
def PX2_kindNamed : List En := [(0, 1, .aload_n 0, [0], 0, 0),
  (1, 2, .ldc 66, [0], 0, 0),
  (3, 3, .invokevirtual 45, [36, 2, 2], 0, 0),
  (6, 3, .ifCond .eq 5, [6], 0, 0),
  (9, 1, .iconst 0, [], 0, 0),
  (10, 1, .ireturn, [], 0, 0),
  (11, 1, .aload_n 0, [0], 0, 0),
  (12, 2, .ldc 68, [1], 0, 0),
  (14, 3, .invokevirtual 45, [36, 2, 2], 0, 0),
  (17, 3, .ifCond .eq 5, [12], 0, 0),
  (20, 1, .iconst 1, [], 1, 0),
  (21, 1, .ireturn, [], 0, 0),
  (22, 1, .aload_n 0, [0], 0, 0),
  (23, 2, .ldc 70, [2], 0, 0),
  (25, 3, .invokevirtual 45, [36, 2, 2], 0, 0),
  (28, 3, .ifCond .eq 5, [18], 0, 0),
  (31, 1, .iconst 2, [], 2, 0),
  (32, 1, .ireturn, [], 0, 0),
  (33, 1, .aload_n 0, [0], 0, 0),
  (34, 2, .ldc 72, [3], 0, 0),
  (36, 3, .invokevirtual 45, [36, 2, 2], 0, 0),
  (39, 3, .ifCond .eq 5, [24], 0, 0),
  (42, 1, .iconst 3, [], 3, 0),
  (43, 1, .ireturn, [], 0, 0),
  (44, 1, .aload_n 0, [0], 0, 0),
  (45, 2, .ldc 74, [4], 0, 0),
  (47, 3, .invokevirtual 45, [36, 2, 2], 0, 0),
  (50, 3, .ifCond .eq 5, [30], 0, 0),
  (53, 1, .iconst 4, [], 4, 0),
  (54, 1, .ireturn, [], 0, 0),
  (55, 1, .aload_n 0, [0], 0, 0),
  (56, 2, .ldc 76, [5], 0, 0),
  (58, 3, .invokevirtual 45, [36, 2, 2], 0, 0),
  (61, 3, .ifCond .eq 7, [36], 0, 0),
  (64, 1, .iconst 5, [], 5, 0),
  (65, 3, .goto 4, [37], 0, 0),
  (68, 1, .iconst (-1), [], (-1), 0),
  (69, 1, .ireturn, [], 0, 0)]
set_option maxRecDepth 100000 in
theorem kX2_kindNamed : na_okP (na_mi MX2_kindNamed) PX2_kindNamed := ⟨by decide +kernel, na_lks_s lk_RX2 (by decide +kernel)⟩
def PX2_tellOne : List En := [(0, 1, .aload_n 1, [1], 0, 0),
  (1, 3, .invokevirtual 78, [4, 1, 0], 0, 0),
  (4, 3, .ifCond .eq 5, [5], 0, 0),
  (7, 1, .iconst 0, [], 0, 0),
  (8, 1, .ireturn, [], 0, 0),
  (9, 1, .aload_n 0, [0], 0, 0),
  (10, 3, .invokevirtual 22, [38, 1, 2], 0, 0),
  (13, 1, .aload_n 0, [0], 0, 0),
  (14, 2, .ldc 84, [6], 0, 0),
  (16, 3, .invokevirtual 45, [36, 2, 2], 0, 0),
  (19, 3, .ifCond .ne 5, [13], 0, 0),
  (22, 1, .iconst 0, [], 0, 0),
  (23, 1, .ireturn, [], 0, 0),
  (24, 1, .aload_n 0, [0], 0, 0),
  (25, 3, .invokevirtual 22, [38, 1, 2], 0, 0),
  (28, 1, .aload_n 0, [0], 0, 0),
  (29, 1, .iconst 0, [], 0, 0),
  (30, 2, .bipush 7, [], 7, 0),
  (32, 3, .invokevirtual 86, [37, 3, 2], 0, 0),
  (35, 3, .ifCond .ne 5, [22], 0, 0),
  (38, 1, .iconst 0, [], 0, 0),
  (39, 1, .ireturn, [], 0, 0),
  (40, 1, .aload_n 0, [0], 0, 0),
  (41, 3, .getfield 90, [2, 5], 0, 0),
  (44, 1, .istore_n 3, [3], 0, 0),
  (45, 1, .iconst 3, [], 3, 0),
  (46, 2, .istore 4, [4], 0, 0),
  (48, 1, .aload_n 0, [0], 0, 0),
  (49, 3, .invokevirtual 22, [38, 1, 2], 0, 0),
  (52, 1, .aload_n 0, [0], 0, 0),
  (53, 2, .ldc 93, [7], 0, 0),
  (55, 3, .invokevirtual 45, [36, 2, 2], 0, 0),
  (58, 3, .ifCond .eq 29, [47], 0, 0),
  (61, 1, .aload_n 0, [0], 0, 0),
  (62, 3, .invokevirtual 22, [38, 1, 2], 0, 0),
  (65, 1, .aload_n 0, [0], 0, 0),
  (66, 1, .iconst 1, [], 1, 0),
  (67, 2, .bipush 20, [], 20, 0),
  (69, 3, .invokevirtual 86, [37, 3, 2], 0, 0),
  (72, 3, .ifCond .ne 5, [42], 0, 0),
  (75, 1, .iconst 0, [], 0, 0),
  (76, 1, .ireturn, [], 0, 0),
  (77, 1, .aload_n 0, [0], 0, 0),
  (78, 3, .getfield 90, [2, 5], 0, 0),
  (81, 2, .istore 4, [4], 0, 0),
  (83, 1, .aload_n 0, [0], 0, 0),
  (84, 3, .invokevirtual 22, [38, 1, 2], 0, 0),
  (87, 1, .aload_n 1, [1], 0, 0),
  (88, 1, .iload_n 2, [2], 0, 0),
  (89, 1, .iload_n 3, [3], 0, 0),
  (90, 2, .iload 4, [4], 0, 0),
  (92, 3, .invokevirtual 95, [5, 4, 0], 0, 0),
  (95, 1, .pop, [], 0, 0),
  (96, 1, .iconst 1, [], 1, 0),
  (97, 1, .ireturn, [], 0, 0)]
set_option maxRecDepth 100000 in
theorem kX2_tellOne : na_okP (na_mi MX2_tellOne) PX2_tellOne := ⟨by decide +kernel, na_lks_s lk_RX2 (by decide +kernel)⟩
def PX2_tellRoom : List En := [(0, 1, .aload_n 0, [0], 0, 0),
  (1, 3, .invokevirtual 22, [38, 1, 2], 0, 0),
  (4, 1, .aload_n 0, [0], 0, 0),
  (5, 1, .iconst 0, [], 0, 0),
  (6, 2, .bipush 7, [], 7, 0),
  (8, 3, .invokevirtual 86, [37, 3, 2], 0, 0),
  (11, 3, .ifCond .ne 5, [9], 0, 0),
  (14, 1, .iconst 0, [], 0, 0),
  (15, 1, .ireturn, [], 0, 0),
  (16, 1, .aload_n 0, [0], 0, 0),
  (17, 3, .getfield 90, [2, 5], 0, 0),
  (20, 1, .istore_n 2, [2], 0, 0),
  (21, 1, .aload_n 0, [0], 0, 0),
  (22, 3, .invokevirtual 22, [38, 1, 2], 0, 0),
  (25, 1, .aload_n 0, [0], 0, 0),
  (26, 2, .ldc 99, [9], 0, 0),
  (28, 1, .aload_n 1, [1], 0, 0),
  (29, 1, .iconst 0, [], 0, 0),
  (30, 1, .iload_n 2, [2], 0, 0),
  (31, 3, .invokevirtual 101, [33, 5, 2], 0, 0),
  (34, 3, .ifCond .eq 43, [44], 0, 0),
  (37, 1, .aload_n 0, [0], 0, 0),
  (38, 2, .ldc 105, [10], 0, 0),
  (40, 1, .aload_n 1, [1], 0, 0),
  (41, 1, .iconst 1, [], 1, 0),
  (42, 1, .iload_n 2, [2], 0, 0),
  (43, 3, .invokevirtual 101, [33, 5, 2], 0, 0),
  (46, 3, .ifCond .eq 31, [44], 0, 0),
  (49, 1, .aload_n 0, [0], 0, 0),
  (50, 2, .ldc 107, [11], 0, 0),
  (52, 1, .aload_n 1, [1], 0, 0),
  (53, 1, .iconst 2, [], 2, 0),
  (54, 1, .iload_n 2, [2], 0, 0),
  (55, 3, .invokevirtual 101, [33, 5, 2], 0, 0),
  (58, 3, .ifCond .eq 19, [44], 0, 0),
  (61, 1, .aload_n 0, [0], 0, 0),
  (62, 2, .ldc 109, [12], 0, 0),
  (64, 1, .aload_n 1, [1], 0, 0),
  (65, 1, .iconst 3, [], 3, 0),
  (66, 1, .iload_n 2, [2], 0, 0),
  (67, 3, .invokevirtual 101, [33, 5, 2], 0, 0),
  (70, 3, .ifCond .eq 7, [44], 0, 0),
  (73, 1, .iconst 1, [], 1, 0),
  (74, 3, .goto 4, [45], 0, 0),
  (77, 1, .iconst 0, [], 0, 0),
  (78, 1, .ireturn, [], 0, 0)]
set_option maxRecDepth 100000 in
theorem kX2_tellRoom : na_okP (na_mi MX2_tellRoom) PX2_tellRoom := ⟨by decide +kernel, na_lks_s lk_RX2 (by decide +kernel)⟩
def PX2_mayTell : List En := [(0, 1, .aload_n 0, [0], 0, 0),
  (1, 1, .aload_n 1, [1], 0, 0),
  (2, 3, .invokevirtual 45, [36, 2, 2], 0, 0),
  (5, 3, .ifCond .ne 5, [6], 0, 0),
  (8, 1, .iconst 1, [], 1, 0),
  (9, 1, .ireturn, [], 0, 0),
  (10, 1, .aload_n 0, [0], 0, 0),
  (11, 3, .invokevirtual 22, [38, 1, 2], 0, 0),
  (14, 1, .aload_n 0, [0], 0, 0),
  (15, 1, .iconst 0, [], 0, 0),
  (16, 3, .getstatic 111, [0], 0, 0),
  (19, 1, .iload_n 3, [3], 0, 0),
  (20, 1, .iaload, [], 0, 0),
  (21, 3, .invokevirtual 86, [37, 3, 2], 0, 0),
  (24, 3, .ifCond .ne 5, [17], 0, 0),
  (27, 1, .iconst 0, [], 0, 0),
  (28, 1, .ireturn, [], 0, 0),
  (29, 1, .aload_n 2, [2], 0, 0),
  (30, 1, .iload_n 3, [3], 0, 0),
  (31, 3, .invokevirtual 114, [1, 2, 0], 0, 0),
  (34, 2, .iload 4, [4], 0, 0),
  (36, 1, .aload_n 0, [0], 0, 0),
  (37, 3, .getfield 90, [2, 5], 0, 0),
  (40, 1, .iastore, [], 0, 0),
  (41, 1, .aload_n 0, [0], 0, 0),
  (42, 3, .invokevirtual 22, [38, 1, 2], 0, 0),
  (45, 1, .iconst 1, [], 1, 0),
  (46, 1, .ireturn, [], 0, 0)]
set_option maxRecDepth 100000 in
theorem kX2_mayTell : na_okP (na_mi MX2_mayTell) PX2_mayTell := ⟨by decide +kernel, na_lks_s lk_RX2 (by decide +kernel)⟩
def PX2_tellDoor : List En := [(0, 1, .aload_n 0, [0], 0, 0),
  (1, 3, .invokevirtual 22, [38, 1, 2], 0, 0),
  (4, 1, .aload_n 0, [0], 0, 0),
  (5, 1, .iconst 0, [], 0, 0),
  (6, 2, .bipush 6, [], 6, 0),
  (8, 3, .invokevirtual 86, [37, 3, 2], 0, 0),
  (11, 3, .ifCond .ne 5, [9], 0, 0),
  (14, 1, .iconst 0, [], 0, 0),
  (15, 1, .ireturn, [], 0, 0),
  (16, 1, .aload_n 1, [1], 0, 0),
  (17, 1, .aload_n 0, [0], 0, 0),
  (18, 3, .getfield 90, [2, 5], 0, 0),
  (21, 1, .iload_n 2, [2], 0, 0),
  (22, 3, .invokevirtual 118, [3, 3, 0], 0, 0),
  (25, 1, .pop, [], 0, 0),
  (26, 1, .aload_n 0, [0], 0, 0),
  (27, 3, .invokevirtual 22, [38, 1, 2], 0, 0),
  (30, 1, .iconst 1, [], 1, 0),
  (31, 1, .ireturn, [], 0, 0)]
set_option maxRecDepth 100000 in
theorem kX2_tellDoor : na_okP (na_mi MX2_tellDoor) PX2_tellDoor := ⟨by decide +kernel, na_lks_s lk_RX2 (by decide +kernel)⟩
def PX2_tellCold : List En := [(0, 1, .aload_n 1, [1], 0, 0),
  (1, 1, .iload_n 2, [2], 0, 0),
  (2, 3, .putfield 122, [0, 5, 0], 0, 0),
  (5, 1, .aload_n 0, [0], 0, 0),
  (6, 3, .invokevirtual 22, [38, 1, 2], 0, 0),
  (9, 1, .iconst 1, [], 1, 0),
  (10, 1, .ireturn, [], 0, 0)]
set_option maxRecDepth 100000 in
theorem kX2_tellCold : na_okP (na_mi MX2_tellCold) PX2_tellCold := ⟨by decide +kernel, na_lks_s lk_RX2 (by decide +kernel)⟩
def PX2_isWord : List En := [(0, 1, .aload_n 0, [0], 0, 0),
  (1, 3, .getfield 32, [2, 2], 0, 0),
  (4, 3, .ifCond .ne 19, [11], 0, 0),
  (7, 1, .aload_n 0, [0], 0, 0),
  (8, 3, .getfield 19, [2, 4], 0, 0),
  (11, 1, .aload_n 0, [0], 0, 0),
  (12, 3, .getfield 29, [2, 3], 0, 0),
  (15, 1, .isub, [], 0, 0),
  (16, 1, .aload_n 1, [1], 0, 0),
  (17, 3, .invokevirtual 124, [193, 1, 9], 0, 0),
  (20, 3, .if_icmp .eq 5, [13], 0, 0),
  (23, 1, .iconst 0, [], 0, 0),
  (24, 1, .ireturn, [], 0, 0),
  (25, 1, .iconst 0, [], 0, 0),
  (26, 1, .istore_n 2, [2], 0, 0),
  (27, 1, .iload_n 2, [2], 0, 0),
  (28, 1, .aload_n 1, [1], 0, 0),
  (29, 3, .invokevirtual 124, [193, 1, 9], 0, 0),
  (32, 3, .if_icmp .ge 30, [34], 0, 0),
  (35, 1, .aload_n 0, [0], 0, 0),
  (36, 3, .getfield 9, [2, 0], 0, 0),
  (39, 1, .aload_n 0, [0], 0, 0),
  (40, 3, .getfield 29, [2, 3], 0, 0),
  (43, 1, .iload_n 2, [2], 0, 0),
  (44, 1, .iadd, [], 0, 0),
  (45, 1, .iaload, [], 0, 0),
  (46, 1, .aload_n 1, [1], 0, 0),
  (47, 1, .iload_n 2, [2], 0, 0),
  (48, 3, .invokevirtual 128, [194, 2, 9], 0, 0),
  (51, 3, .if_icmp .eq 5, [32], 0, 0),
  (54, 1, .iconst 0, [], 0, 0),
  (55, 1, .ireturn, [], 0, 0),
  (56, 3, .iinc 2 1, [2], 1, 0),
  (59, 3, .goto (-32), [15], 0, 0),
  (62, 1, .iconst 1, [], 1, 0),
  (63, 1, .ireturn, [], 0, 0)]
set_option maxRecDepth 100000 in
theorem kX2_isWord : na_okP (na_mi MX2_isWord) PX2_isWord := ⟨by decide +kernel, na_lks_s lk_RX2 (by decide +kernel)⟩
def PX2_isNumber : List En := [(0, 1, .aload_n 0, [0], 0, 0),
  (1, 3, .getfield 32, [2, 2], 0, 0),
  (4, 1, .iconst 1, [], 1, 0),
  (5, 3, .if_icmp .eq 5, [6], 0, 0),
  (8, 1, .iconst 0, [], 0, 0),
  (9, 1, .ireturn, [], 0, 0),
  (10, 1, .aload_n 0, [0], 0, 0),
  (11, 1, .iconst 0, [], 0, 0),
  (12, 3, .putfield 90, [2, 5, 0], 0, 0),
  (15, 1, .aload_n 0, [0], 0, 0),
  (16, 3, .getfield 29, [2, 3], 0, 0),
  (19, 1, .istore_n 3, [3], 0, 0),
  (20, 1, .iload_n 3, [3], 0, 0),
  (21, 1, .aload_n 0, [0], 0, 0),
  (22, 3, .getfield 19, [2, 4], 0, 0),
  (25, 3, .if_icmp .ge 36, [33], 0, 0),
  (28, 1, .aload_n 0, [0], 0, 0),
  (29, 3, .sipush 10000, [], 10000, 0),
  (32, 1, .aload_n 0, [0], 0, 0),
  (33, 3, .getfield 90, [2, 5], 0, 0),
  (36, 2, .bipush 10, [], 10, 0),
  (38, 1, .imul, [], 0, 0),
  (39, 1, .aload_n 0, [0], 0, 0),
  (40, 3, .getfield 9, [2, 0], 0, 0),
  (43, 1, .iload_n 3, [3], 0, 0),
  (44, 1, .iaload, [], 0, 0),
  (45, 1, .iadd, [], 0, 0),
  (46, 2, .bipush 48, [], 48, 0),
  (48, 1, .isub, [], 0, 0),
  (49, 3, .invokestatic 132, [997], 0, 0),
  (52, 3, .putfield 90, [2, 5, 0], 0, 0),
  (55, 3, .iinc 3 1, [3], 1, 0),
  (58, 3, .goto (-38), [12], 0, 0),
  (61, 1, .aload_n 0, [0], 0, 0),
  (62, 3, .getfield 90, [2, 5], 0, 0),
  (65, 1, .iload_n 1, [1], 0, 0),
  (66, 1, .iload_n 2, [2], 0, 0),
  (67, 3, .invokestatic 137, [86, 3], 0, 0),
  (70, 3, .ifCond .ne 7, [41], 0, 0),
  (73, 1, .iconst 1, [], 1, 0),
  (74, 3, .goto 4, [42], 0, 0),
  (77, 1, .iconst 0, [], 0, 0),
  (78, 1, .ireturn, [], 0, 0)]
set_option maxRecDepth 100000 in
theorem kX2_isNumber : na_okP (na_mi MX2_isNumber) PX2_isNumber := ⟨by decide +kernel, na_lks_s lk_RX2 (by decide +kernel)⟩
def PX2_step : List En := [(0, 1, .aload_n 0, [0], 0, 0),
  (1, 1, .aload_n 0, [0], 0, 0),
  (2, 3, .getfield 19, [2, 4], 0, 0),
  (5, 3, .putfield 29, [2, 3, 0], 0, 0),
  (8, 1, .aload_n 0, [0], 0, 0),
  (9, 3, .getfield 29, [2, 3], 0, 0),
  (12, 1, .aload_n 0, [0], 0, 0),
  (13, 3, .getfield 15, [2, 1], 0, 0),
  (16, 3, .if_icmp .ge 30, [23], 0, 0),
  (19, 1, .aload_n 0, [0], 0, 0),
  (20, 3, .getfield 9, [2, 0], 0, 0),
  (23, 1, .aload_n 0, [0], 0, 0),
  (24, 3, .getfield 29, [2, 3], 0, 0),
  (27, 1, .iaload, [], 0, 0),
  (28, 2, .bipush 32, [], 32, 0),
  (30, 3, .if_icmp .ne 16, [23], 0, 0),
  (33, 1, .aload_n 0, [0], 0, 0),
  (34, 1, .dup, [], 0, 0),
  (35, 3, .getfield 29, [2, 3], 0, 0),
  (38, 1, .iconst 1, [], 1, 0),
  (39, 1, .iadd, [], 0, 0),
  (40, 3, .putfield 29, [2, 3, 0], 0, 0),
  (43, 3, .goto (-35), [4], 0, 0),
  (46, 1, .aload_n 0, [0], 0, 0),
  (47, 1, .aload_n 0, [0], 0, 0),
  (48, 3, .getfield 29, [2, 3], 0, 0),
  (51, 3, .putfield 19, [2, 4, 0], 0, 0),
  (54, 1, .aload_n 0, [0], 0, 0),
  (55, 3, .getfield 29, [2, 3], 0, 0),
  (58, 1, .aload_n 0, [0], 0, 0),
  (59, 3, .getfield 15, [2, 1], 0, 0),
  (62, 3, .if_icmp .lt 9, [36], 0, 0),
  (65, 1, .aload_n 0, [0], 0, 0),
  (66, 1, .iconst 3, [], 3, 0),
  (67, 3, .putfield 32, [2, 2, 0], 0, 0),
  (70, 1, .return_, [], 0, 0),
  (71, 1, .aload_n 0, [0], 0, 0),
  (72, 1, .aload_n 0, [0], 0, 0),
  (73, 3, .getfield 9, [2, 0], 0, 0),
  (76, 1, .aload_n 0, [0], 0, 0),
  (77, 3, .getfield 29, [2, 3], 0, 0),
  (80, 1, .iaload, [], 0, 0),
  (81, 3, .invokestatic 141, [39, 1], 0, 0),
  (84, 3, .putfield 32, [2, 2, 0], 0, 0),
  (87, 1, .aload_n 0, [0], 0, 0),
  (88, 1, .dup, [], 0, 0),
  (89, 3, .getfield 19, [2, 4], 0, 0),
  (92, 1, .iconst 1, [], 1, 0),
  (93, 1, .iadd, [], 0, 0),
  (94, 3, .putfield 19, [2, 4, 0], 0, 0),
  (97, 1, .aload_n 0, [0], 0, 0),
  (98, 3, .getfield 32, [2, 2], 0, 0),
  (101, 3, .ifCond .eq 11, [57], 0, 0),
  (104, 1, .aload_n 0, [0], 0, 0),
  (105, 3, .getfield 32, [2, 2], 0, 0),
  (108, 1, .iconst 1, [], 1, 0),
  (109, 3, .if_icmp .ne 46, [78], 0, 0),
  (112, 1, .aload_n 0, [0], 0, 0),
  (113, 3, .getfield 19, [2, 4], 0, 0),
  (116, 1, .aload_n 0, [0], 0, 0),
  (117, 3, .getfield 15, [2, 1], 0, 0),
  (120, 3, .if_icmp .ge 35, [78], 0, 0),
  (123, 1, .aload_n 0, [0], 0, 0),
  (124, 3, .getfield 9, [2, 0], 0, 0),
  (127, 1, .aload_n 0, [0], 0, 0),
  (128, 3, .getfield 19, [2, 4], 0, 0),
  (131, 1, .iaload, [], 0, 0),
  (132, 3, .invokestatic 141, [39, 1], 0, 0),
  (135, 1, .aload_n 0, [0], 0, 0),
  (136, 3, .getfield 32, [2, 2], 0, 0),
  (139, 3, .if_icmp .ne 16, [78], 0, 0),
  (142, 1, .aload_n 0, [0], 0, 0),
  (143, 1, .dup, [], 0, 0),
  (144, 3, .getfield 19, [2, 4], 0, 0),
  (147, 1, .iconst 1, [], 1, 0),
  (148, 1, .iadd, [], 0, 0),
  (149, 3, .putfield 19, [2, 4, 0], 0, 0),
  (152, 3, .goto (-40), [57], 0, 0),
  (155, 1, .return_, [], 0, 0)]
set_option maxRecDepth 100000 in
theorem kX2_step : na_okP (na_mi MX2_step) PX2_step := ⟨by decide +kernel, na_lks_s lk_RX2 (by decide +kernel)⟩
def PX2_tokenBegunBy : List En := [(0, 1, .iload_n 0, [0], 0, 0),
  (1, 2, .bipush 97, [], 97, 0),
  (3, 3, .if_icmp .lt 11, [8], 0, 0),
  (6, 1, .iload_n 0, [0], 0, 0),
  (7, 2, .bipush 122, [], 122, 0),
  (9, 3, .if_icmp .gt 5, [8], 0, 0),
  (12, 1, .iconst 0, [], 0, 0),
  (13, 1, .ireturn, [], 0, 0),
  (14, 1, .iload_n 0, [0], 0, 0),
  (15, 2, .bipush 48, [], 48, 0),
  (17, 3, .if_icmp .lt 11, [16], 0, 0),
  (20, 1, .iload_n 0, [0], 0, 0),
  (21, 2, .bipush 57, [], 57, 0),
  (23, 3, .if_icmp .gt 5, [16], 0, 0),
  (26, 1, .iconst 1, [], 1, 0),
  (27, 1, .ireturn, [], 0, 0),
  (28, 1, .iload_n 0, [0], 0, 0),
  (29, 2, .bipush 59, [], 59, 0),
  (31, 3, .if_icmp .ne 7, [21], 0, 0),
  (34, 1, .iconst 2, [], 2, 0),
  (35, 3, .goto 4, [22], 0, 0),
  (38, 1, .iconst 4, [], 4, 0),
  (39, 1, .ireturn, [], 0, 0)]
set_option maxRecDepth 100000 in
theorem kX2_tokenBegunBy : na_okP (na_mi MX2_tokenBegunBy) PX2_tokenBegunBy := ⟨by decide +kernel, na_lks_s lk_RX2 (by decide +kernel)⟩
end
section
/-! the programs of X3, checked (by program) -/
def PX3_room : List En := [(0, 1, .iload_n 1, [1], 0, 0),
  (1, 3, .invokestatic 40, [87, 1], 0, 0),
  (4, 3, .ifCond .ne 25, [15], 0, 0),
  (7, 1, .iload_n 2, [2], 0, 0),
  (8, 1, .iconst 0, [], 0, 0),
  (9, 1, .iconst 3, [], 3, 0),
  (10, 3, .invokestatic 44, [86, 3], 0, 0),
  (13, 3, .ifCond .ne 16, [15], 0, 0),
  (16, 1, .iload_n 3, [3], 0, 0),
  (17, 1, .iconst 0, [], 0, 0),
  (18, 3, .getstatic 48, [0], 0, 0),
  (21, 1, .iload_n 2, [2], 0, 0),
  (22, 1, .iaload, [], 0, 0),
  (23, 3, .invokestatic 44, [86, 3], 0, 0),
  (26, 3, .ifCond .eq 10, [19], 0, 0),
  (29, 1, .aload_n 0, [0], 0, 0),
  (30, 2, .ldc 51, [], (-1000000001), 0),
  (32, 3, .invokevirtual 52, [82, 2, 3], 0, 0),
  (35, 1, .ireturn, [], 0, 0),
  (36, 1, .aload_n 0, [0], 0, 0),
  (37, 3, .getfield 12, [3, 0], 0, 0),
  (40, 1, .iload_n 2, [2], 0, 0),
  (41, 3, .invokevirtual 56, [1, 2, 0], 0, 0),
  (44, 1, .iload_n 1, [1], 0, 0),
  (45, 1, .iload_n 3, [3], 0, 0),
  (46, 3, .invokestatic 60, [92, 3], 0, 0),
  (49, 1, .ireturn, [], 0, 0)]
set_option maxRecDepth 100000 in
theorem kX3_room : na_okP (na_mi MX3_room) PX3_room := ⟨by decide +kernel, na_lks_s lk_RX3 (by decide +kernel)⟩
def PX3_roomOf : List En := [(0, 1, .iload_n 1, [1], 0, 0),
  (1, 3, .invokestatic 40, [87, 1], 0, 0),
  (4, 3, .ifCond .ne 12, [8], 0, 0),
  (7, 1, .iload_n 2, [2], 0, 0),
  (8, 1, .iconst 0, [], 0, 0),
  (9, 1, .iconst 5, [], 5, 0),
  (10, 3, .invokestatic 44, [86, 3], 0, 0),
  (13, 3, .ifCond .eq 10, [12], 0, 0),
  (16, 1, .aload_n 0, [0], 0, 0),
  (17, 2, .ldc 51, [], (-1000000001), 0),
  (19, 3, .invokevirtual 52, [82, 2, 3], 0, 0),
  (22, 1, .ireturn, [], 0, 0),
  (23, 1, .iload_n 2, [2], 0, 0),
  (24, 1, .iconst 4, [], 4, 0),
  (25, 3, .if_icmp .ne 12, [20], 0, 0),
  (28, 1, .aload_n 0, [0], 0, 0),
  (29, 3, .getfield 12, [3, 0], 0, 0),
  (32, 1, .iload_n 1, [1], 0, 0),
  (33, 3, .invokevirtual 64, [7, 2, 0], 0, 0),
  (36, 1, .ireturn, [], 0, 0),
  (37, 1, .iload_n 2, [2], 0, 0),
  (38, 1, .iconst 5, [], 5, 0),
  (39, 3, .if_icmp .ne 19, [31], 0, 0),
  (42, 1, .aload_n 0, [0], 0, 0),
  (43, 3, .getfield 12, [3, 0], 0, 0),
  (46, 1, .aload_n 0, [0], 0, 0),
  (47, 3, .getfield 12, [3, 0], 0, 0),
  (50, 1, .iload_n 1, [1], 0, 0),
  (51, 3, .invokevirtual 64, [7, 2, 0], 0, 0),
  (54, 3, .invokevirtual 67, [9, 2, 0], 0, 0),
  (57, 1, .ireturn, [], 0, 0),
  (58, 1, .aload_n 0, [0], 0, 0),
  (59, 3, .getfield 12, [3, 0], 0, 0),
  (62, 1, .iload_n 2, [2], 0, 0),
  (63, 3, .invokevirtual 56, [1, 2, 0], 0, 0),
  (66, 1, .iload_n 1, [1], 0, 0),
  (67, 1, .iaload, [], 0, 0),
  (68, 1, .ireturn, [], 0, 0)]
set_option maxRecDepth 100000 in
theorem kX3_roomOf : na_okP (na_mi MX3_roomOf) PX3_roomOf := ⟨by decide +kernel, na_lks_s lk_RX3 (by decide +kernel)⟩
def PX3_door : List En := [(0, 1, .iload_n 1, [1], 0, 0),
  (1, 1, .iconst 0, [], 0, 0),
  (2, 2, .bipush 6, [], 6, 0),
  (4, 3, .invokestatic 44, [86, 3], 0, 0),
  (7, 3, .ifCond .ne 12, [10], 0, 0),
  (10, 1, .iload_n 2, [2], 0, 0),
  (11, 1, .iconst 0, [], 0, 0),
  (12, 1, .iconst 1, [], 1, 0),
  (13, 3, .invokestatic 44, [86, 3], 0, 0),
  (16, 3, .ifCond .eq 10, [14], 0, 0),
  (19, 1, .aload_n 0, [0], 0, 0),
  (20, 2, .ldc 51, [], (-1000000001), 0),
  (22, 3, .invokevirtual 52, [82, 2, 3], 0, 0),
  (25, 1, .ireturn, [], 0, 0),
  (26, 1, .aload_n 0, [0], 0, 0),
  (27, 3, .getfield 12, [3, 0], 0, 0),
  (30, 1, .iload_n 1, [1], 0, 0),
  (31, 1, .iload_n 2, [2], 0, 0),
  (32, 3, .invokevirtual 70, [3, 3, 0], 0, 0),
  (35, 1, .ireturn, [], 0, 0)]
set_option maxRecDepth 100000 in
theorem kX3_door : na_okP (na_mi MX3_door) PX3_door := ⟨by decide +kernel, na_lks_s lk_RX3 (by decide +kernel)⟩
def PX3_cold : List En := [(0, 1, .iload_n 1, [1], 0, 0),
  (1, 1, .iconst 0, [], 0, 0),
  (2, 1, .iconst 1, [], 1, 0),
  (3, 3, .invokestatic 44, [86, 3], 0, 0),
  (6, 3, .ifCond .eq 10, [9], 0, 0),
  (9, 1, .aload_n 0, [0], 0, 0),
  (10, 2, .ldc 51, [], (-1000000001), 0),
  (12, 3, .invokevirtual 52, [82, 2, 3], 0, 0),
  (15, 1, .ireturn, [], 0, 0),
  (16, 1, .aload_n 0, [0], 0, 0),
  (17, 3, .getfield 12, [3, 0], 0, 0),
  (20, 3, .getfield 74, [0, 5], 0, 0),
  (23, 1, .istore_n 2, [2], 0, 0),
  (24, 1, .aload_n 0, [0], 0, 0),
  (25, 3, .getfield 12, [3, 0], 0, 0),
  (28, 1, .iload_n 1, [1], 0, 0),
  (29, 3, .putfield 74, [0, 5, 0], 0, 0),
  (32, 1, .iload_n 2, [2], 0, 0),
  (33, 1, .ireturn, [], 0, 0)]
set_option maxRecDepth 100000 in
theorem kX3_cold : na_okP (na_mi MX3_cold) PX3_cold := ⟨by decide +kernel, na_lks_s lk_RX3 (by decide +kernel)⟩
def PX3_one : List En := [(0, 1, .iload_n 1, [1], 0, 0),
  (1, 3, .invokestatic 78, [88, 1], 0, 0),
  (4, 3, .ifCond .ne 10, [6], 0, 0),
  (7, 1, .iload_n 2, [2], 0, 0),
  (8, 3, .invokestatic 40, [87, 1], 0, 0),
  (11, 3, .ifCond .eq 10, [10], 0, 0),
  (14, 1, .aload_n 0, [0], 0, 0),
  (15, 2, .ldc 51, [], (-1000000001), 0),
  (17, 3, .invokevirtual 52, [82, 2, 3], 0, 0),
  (20, 1, .ireturn, [], 0, 0),
  (21, 1, .aload_n 0, [0], 0, 0),
  (22, 3, .getfield 12, [3, 0], 0, 0),
  (25, 3, .invokevirtual 81, [4, 1, 0], 0, 0),
  (28, 3, .ifCond .eq 10, [18], 0, 0),
  (31, 1, .aload_n 0, [0], 0, 0),
  (32, 2, .ldc 85, [], (-1000000002), 0),
  (34, 3, .invokevirtual 52, [82, 2, 3], 0, 0),
  (37, 1, .ireturn, [], 0, 0),
  (38, 1, .aload_n 0, [0], 0, 0),
  (39, 3, .getfield 12, [3, 0], 0, 0),
  (42, 1, .iload_n 1, [1], 0, 0),
  (43, 1, .iload_n 2, [2], 0, 0),
  (44, 1, .iconst 3, [], 3, 0),
  (45, 3, .invokevirtual 86, [5, 4, 0], 0, 0),
  (48, 1, .ireturn, [], 0, 0)]
set_option maxRecDepth 100000 in
theorem kX3_one : na_okP (na_mi MX3_one) PX3_one := ⟨by decide +kernel, na_lks_s lk_RX3 (by decide +kernel)⟩
def PX3_of : List En := [(0, 1, .aload_n 0, [0], 0, 0),
  (1, 1, .iload_n 1, [1], 0, 0),
  (2, 3, .invokevirtual 90, [83, 2, 3], 0, 0),
  (5, 3, .ifCond .ne 12, [9], 0, 0),
  (8, 1, .iload_n 2, [2], 0, 0),
  (9, 1, .iconst 0, [], 0, 0),
  (10, 1, .iconst 5, [], 5, 0),
  (11, 3, .invokestatic 44, [86, 3], 0, 0),
  (14, 3, .ifCond .eq 10, [13], 0, 0),
  (17, 1, .aload_n 0, [0], 0, 0),
  (18, 2, .ldc 51, [], (-1000000001), 0),
  (20, 3, .invokevirtual 52, [82, 2, 3], 0, 0),
  (23, 1, .ireturn, [], 0, 0),
  (24, 1, .iload_n 2, [2], 0, 0),
  (25, 1, .iconst 5, [], 5, 0),
  (26, 3, .if_icmp .ne 12, [21], 0, 0),
  (29, 1, .aload_n 0, [0], 0, 0),
  (30, 3, .getfield 12, [3, 0], 0, 0),
  (33, 1, .iload_n 1, [1], 0, 0),
  (34, 3, .invokevirtual 93, [12, 2, 0], 0, 0),
  (37, 1, .ireturn, [], 0, 0),
  (38, 1, .aload_n 0, [0], 0, 0),
  (39, 3, .getfield 12, [3, 0], 0, 0),
  (42, 1, .iload_n 2, [2], 0, 0),
  (43, 3, .invokevirtual 96, [2, 2, 0], 0, 0),
  (46, 1, .iload_n 1, [1], 0, 0),
  (47, 1, .iaload, [], 0, 0),
  (48, 1, .ireturn, [], 0, 0)]
set_option maxRecDepth 100000 in
theorem kX3_of : na_okP (na_mi MX3_of) PX3_of := ⟨by decide +kernel, na_lks_s lk_RX3 (by decide +kernel)⟩
def PX3_set : List En := [(0, 1, .aload_n 0, [0], 0, 0),
  (1, 1, .iload_n 1, [1], 0, 0),
  (2, 3, .invokevirtual 90, [83, 2, 3], 0, 0),
  (5, 3, .ifCond .ne 29, [18], 0, 0),
  (8, 1, .iload_n 2, [2], 0, 0),
  (9, 1, .iconst 1, [], 1, 0),
  (10, 1, .iconst 4, [], 4, 0),
  (11, 3, .invokestatic 44, [86, 3], 0, 0),
  (14, 3, .ifCond .ne 20, [18], 0, 0),
  (17, 1, .iload_n 3, [3], 0, 0),
  (18, 3, .getstatic 99, [1], 0, 0),
  (21, 1, .iload_n 2, [2], 0, 0),
  (22, 1, .iaload, [], 0, 0),
  (23, 3, .getstatic 102, [2], 0, 0),
  (26, 1, .iload_n 2, [2], 0, 0),
  (27, 1, .iaload, [], 0, 0),
  (28, 3, .invokestatic 44, [86, 3], 0, 0),
  (31, 3, .ifCond .eq 10, [22], 0, 0),
  (34, 1, .aload_n 0, [0], 0, 0),
  (35, 2, .ldc 51, [], (-1000000001), 0),
  (37, 3, .invokevirtual 52, [82, 2, 3], 0, 0),
  (40, 1, .ireturn, [], 0, 0),
  (41, 1, .aload_n 0, [0], 0, 0),
  (42, 3, .getfield 12, [3, 0], 0, 0),
  (45, 1, .iload_n 2, [2], 0, 0),
  (46, 3, .invokevirtual 96, [2, 2, 0], 0, 0),
  (49, 1, .iload_n 1, [1], 0, 0),
  (50, 1, .iload_n 3, [3], 0, 0),
  (51, 3, .invokestatic 60, [92, 3], 0, 0),
  (54, 1, .ireturn, [], 0, 0)]
set_option maxRecDepth 100000 in
theorem kX3_set : na_okP (na_mi MX3_set) PX3_set := ⟨by decide +kernel, na_lks_s lk_RX3 (by decide +kernel)⟩
def PX3_turn : List En := [(0, 1, .aload_n 0, [0], 0, 0),
  (1, 1, .iload_n 1, [1], 0, 0),
  (2, 3, .invokevirtual 90, [83, 2, 3], 0, 0),
  (5, 3, .ifCond .ne 10, [7], 0, 0),
  (8, 1, .iload_n 2, [2], 0, 0),
  (9, 3, .invokestatic 78, [88, 1], 0, 0),
  (12, 3, .ifCond .eq 10, [11], 0, 0),
  (15, 1, .aload_n 0, [0], 0, 0),
  (16, 2, .ldc 51, [], (-1000000001), 0),
  (18, 3, .invokevirtual 52, [82, 2, 3], 0, 0),
  (21, 1, .ireturn, [], 0, 0),
  (22, 1, .aload_n 0, [0], 0, 0),
  (23, 3, .getfield 12, [3, 0], 0, 0),
  (26, 3, .getfield 105, [0, 8], 0, 0),
  (29, 1, .iload_n 1, [1], 0, 0),
  (30, 1, .iload_n 2, [2], 0, 0),
  (31, 3, .invokestatic 60, [92, 3], 0, 0),
  (34, 1, .ireturn, [], 0, 0)]
set_option maxRecDepth 100000 in
theorem kX3_turn : na_okP (na_mi MX3_turn) PX3_turn := ⟨by decide +kernel, na_lks_s lk_RX3 (by decide +kernel)⟩
def PX3_as : List En := [(0, 1, .aload_n 0, [0], 0, 0),
  (1, 1, .iload_n 1, [1], 0, 0),
  (2, 3, .invokevirtual 90, [83, 2, 3], 0, 0),
  (5, 3, .ifCond .ne 10, [7], 0, 0),
  (8, 1, .iload_n 2, [2], 0, 0),
  (9, 3, .invokestatic 78, [88, 1], 0, 0),
  (12, 3, .ifCond .eq 10, [11], 0, 0),
  (15, 1, .aload_n 0, [0], 0, 0),
  (16, 2, .ldc 51, [], (-1000000001), 0),
  (18, 3, .invokevirtual 52, [82, 2, 3], 0, 0),
  (21, 1, .ireturn, [], 0, 0),
  (22, 1, .aload_n 0, [0], 0, 0),
  (23, 3, .getfield 12, [3, 0], 0, 0),
  (26, 3, .getfield 105, [0, 8], 0, 0),
  (29, 1, .iload_n 1, [1], 0, 0),
  (30, 1, .iaload, [], 0, 0),
  (31, 1, .iload_n 2, [2], 0, 0),
  (32, 3, .invokestatic 108, [90, 2], 0, 0),
  (35, 3, .ifCond .ne 10, [23], 0, 0),
  (38, 1, .aload_n 0, [0], 0, 0),
  (39, 2, .ldc 112, [], (-1000000003), 0),
  (41, 3, .invokevirtual 52, [82, 2, 3], 0, 0),
  (44, 1, .ireturn, [], 0, 0),
  (45, 1, .aload_n 0, [0], 0, 0),
  (46, 3, .getfield 12, [3, 0], 0, 0),
  (49, 3, .getfield 113, [0, 10], 0, 0),
  (52, 1, .iload_n 1, [1], 0, 0),
  (53, 1, .iaload, [], 0, 0),
  (54, 1, .ireturn, [], 0, 0)]
set_option maxRecDepth 100000 in
theorem kX3_as : na_okP (na_mi MX3_as) PX3_as := ⟨by decide +kernel, na_lks_s lk_RX3 (by decide +kernel)⟩
def PX3_goes : List En := [(0, 1, .aload_n 0, [0], 0, 0),
  (1, 1, .iload_n 1, [1], 0, 0),
  (2, 3, .invokevirtual 90, [83, 2, 3], 0, 0),
  (5, 3, .ifCond .eq 10, [8], 0, 0),
  (8, 1, .aload_n 0, [0], 0, 0),
  (9, 2, .ldc 51, [], (-1000000001), 0),
  (11, 3, .invokevirtual 52, [82, 2, 3], 0, 0),
  (14, 1, .ireturn, [], 0, 0),
  (15, 1, .aload_n 0, [0], 0, 0),
  (16, 3, .getfield 12, [3, 0], 0, 0),
  (19, 3, .getfield 116, [0, 11], 0, 0),
  (22, 1, .iload_n 1, [1], 0, 0),
  (23, 1, .iaload, [], 0, 0),
  (24, 1, .istore_n 2, [2], 0, 0),
  (25, 1, .aload_n 0, [0], 0, 0),
  (26, 3, .getfield 12, [3, 0], 0, 0),
  (29, 1, .iload_n 1, [1], 0, 0),
  (30, 3, .invokevirtual 119, [6, 2, 0], 0, 0),
  (33, 1, .iload_n 2, [2], 0, 0),
  (34, 1, .ireturn, [], 0, 0)]
set_option maxRecDepth 100000 in
theorem kX3_goes : na_okP (na_mi MX3_goes) PX3_goes := ⟨by decide +kernel, na_lks_s lk_RX3 (by decide +kernel)⟩
def PX3_hours : List En := [(0, 1, .iload_n 1, [1], 0, 0),
  (1, 1, .iconst 1, [], 1, 0),
  (2, 2, .bipush 60, [], 60, 0),
  (4, 3, .invokestatic 44, [86, 3], 0, 0),
  (7, 3, .ifCond .eq 10, [9], 0, 0),
  (10, 1, .aload_n 0, [0], 0, 0),
  (11, 2, .ldc 51, [], (-1000000001), 0),
  (13, 3, .invokevirtual 52, [82, 2, 3], 0, 0),
  (16, 1, .ireturn, [], 0, 0),
  (17, 1, .aload_n 0, [0], 0, 0),
  (18, 3, .getfield 12, [3, 0], 0, 0),
  (21, 3, .getfield 123, [0, 6], 0, 0),
  (24, 1, .iload_n 1, [1], 0, 0),
  (25, 1, .iadd, [], 0, 0),
  (26, 3, .sipush 9999, [], 9999, 0),
  (29, 3, .if_icmp .le 10, [20], 0, 0),
  (32, 1, .aload_n 0, [0], 0, 0),
  (33, 2, .ldc 126, [], (-1000000005), 0),
  (35, 3, .invokevirtual 52, [82, 2, 3], 0, 0),
  (38, 1, .ireturn, [], 0, 0),
  (39, 1, .aload_n 0, [0], 0, 0),
  (40, 3, .getfield 12, [3, 0], 0, 0),
  (43, 1, .iload_n 1, [1], 0, 0),
  (44, 3, .invokevirtual 127, [14, 2, 0], 0, 0),
  (47, 1, .aload_n 0, [0], 0, 0),
  (48, 3, .getfield 12, [3, 0], 0, 0),
  (51, 3, .getfield 130, [0, 0], 0, 0),
  (54, 2, .bipush 8, [], 8, 0),
  (56, 3, .invokestatic 133, [93, 2], 0, 0),
  (59, 1, .ireturn, [], 0, 0)]
set_option maxRecDepth 100000 in
theorem kX3_hours : na_okP (na_mi MX3_hours) PX3_hours := ⟨by decide +kernel, na_lks_s lk_RX3 (by decide +kernel)⟩
def PX3_now : List En := [(0, 1, .iload_n 1, [1], 0, 0),
  (1, 43, .tableswitch 117 0 6 #[43, 51, 64, 77, 90, 98, 109], [37, 2, 6, 12, 18, 24, 28, 33], 0, 0),
  (44, 1, .aload_n 0, [0], 0, 0),
  (45, 3, .getfield 12, [3, 0], 0, 0),
  (48, 3, .getfield 123, [0, 6], 0, 0),
  (51, 1, .ireturn, [], 0, 0),
  (52, 1, .aload_n 0, [0], 0, 0),
  (53, 3, .getfield 12, [3, 0], 0, 0),
  (56, 3, .getfield 130, [0, 0], 0, 0),
  (59, 2, .bipush 8, [], 8, 0),
  (61, 3, .invokestatic 133, [93, 2], 0, 0),
  (64, 1, .ireturn, [], 0, 0),
  (65, 1, .aload_n 0, [0], 0, 0),
  (66, 3, .getfield 12, [3, 0], 0, 0),
  (69, 3, .getfield 137, [0, 1], 0, 0),
  (72, 2, .bipush 8, [], 8, 0),
  (74, 3, .invokestatic 133, [93, 2], 0, 0),
  (77, 1, .ireturn, [], 0, 0),
  (78, 1, .aload_n 0, [0], 0, 0),
  (79, 3, .getfield 12, [3, 0], 0, 0),
  (82, 3, .getfield 140, [0, 2], 0, 0),
  (85, 2, .bipush 8, [], 8, 0),
  (87, 3, .invokestatic 133, [93, 2], 0, 0),
  (90, 1, .ireturn, [], 0, 0),
  (91, 1, .aload_n 0, [0], 0, 0),
  (92, 3, .getfield 12, [3, 0], 0, 0),
  (95, 3, .invokevirtual 143, [8, 1, 0], 0, 0),
  (98, 1, .ireturn, [], 0, 0),
  (99, 1, .aload_n 0, [0], 0, 0),
  (100, 3, .getfield 12, [3, 0], 0, 0),
  (103, 3, .sipush 255, [], 255, 0),
  (106, 3, .invokevirtual 67, [9, 2, 0], 0, 0),
  (109, 1, .ireturn, [], 0, 0),
  (110, 1, .aload_n 0, [0], 0, 0),
  (111, 3, .getfield 12, [3, 0], 0, 0),
  (114, 3, .getfield 147, [0, 4], 0, 0),
  (117, 1, .ireturn, [], 0, 0),
  (118, 1, .aload_n 0, [0], 0, 0),
  (119, 2, .ldc 51, [], (-1000000001), 0),
  (121, 3, .invokevirtual 52, [82, 2, 3], 0, 0),
  (124, 1, .ireturn, [], 0, 0)]
set_option maxRecDepth 100000 in
theorem kX3_now : na_okP (na_mi MX3_now) PX3_now := ⟨by decide +kernel, na_lks_s lk_RX3 (by decide +kernel)⟩
def PX3_on : List En := [(0, 1, .iload_n 1, [1], 0, 0),
  (1, 3, .invokestatic 40, [87, 1], 0, 0),
  (4, 3, .ifCond .ne 22, [13], 0, 0),
  (7, 1, .iload_n 2, [2], 0, 0),
  (8, 1, .iconst 0, [], 0, 0),
  (9, 2, .bipush 60, [], 60, 0),
  (11, 3, .invokestatic 44, [86, 3], 0, 0),
  (14, 3, .ifCond .ne 12, [13], 0, 0),
  (17, 1, .iload_n 3, [3], 0, 0),
  (18, 1, .iconst 0, [], 0, 0),
  (19, 1, .iconst 1, [], 1, 0),
  (20, 3, .invokestatic 44, [86, 3], 0, 0),
  (23, 3, .ifCond .eq 10, [17], 0, 0),
  (26, 1, .aload_n 0, [0], 0, 0),
  (27, 2, .ldc 51, [], (-1000000001), 0),
  (29, 3, .invokevirtual 52, [82, 2, 3], 0, 0),
  (32, 1, .ireturn, [], 0, 0),
  (33, 1, .aload_n 0, [0], 0, 0),
  (34, 3, .invokevirtual 150, [84, 1, 3], 0, 0),
  (37, 2, .astore 4, [4], 0, 0),
  (39, 2, .aload 4, [4], 0, 0),
  (41, 1, .iload_n 2, [2], 0, 0),
  (42, 3, .invokevirtual 127, [14, 2, 0], 0, 0),
  (45, 2, .aload 4, [4], 0, 0),
  (47, 1, .iload_n 3, [3], 0, 0),
  (48, 3, .invokevirtual 56, [1, 2, 0], 0, 0),
  (51, 1, .iload_n 1, [1], 0, 0),
  (52, 1, .iaload, [], 0, 0),
  (53, 1, .ireturn, [], 0, 0)]
set_option maxRecDepth 100000 in
theorem kX3_on : na_okP (na_mi MX3_on) PX3_on := ⟨by decide +kernel, na_lks_s lk_RX3 (by decide +kernel)⟩
def PX3_when : List En := [(0, 1, .aload_n 0, [0], 0, 0),
  (1, 1, .iload_n 1, [1], 0, 0),
  (2, 3, .invokevirtual 90, [83, 2, 3], 0, 0),
  (5, 3, .ifCond .eq 10, [8], 0, 0),
  (8, 1, .aload_n 0, [0], 0, 0),
  (9, 2, .ldc 51, [], (-1000000001), 0),
  (11, 3, .invokevirtual 52, [82, 2, 3], 0, 0),
  (14, 1, .ireturn, [], 0, 0),
  (15, 1, .aload_n 0, [0], 0, 0),
  (16, 3, .getfield 12, [3, 0], 0, 0),
  (19, 3, .getfield 154, [0, 12], 0, 0),
  (22, 1, .iload_n 1, [1], 0, 0),
  (23, 1, .iaload, [], 0, 0),
  (24, 1, .iconst 1, [], 1, 0),
  (25, 3, .if_icmp .ne 10, [19], 0, 0),
  (28, 1, .aload_n 0, [0], 0, 0),
  (29, 2, .ldc 126, [], (-1000000005), 0),
  (31, 3, .invokevirtual 52, [82, 2, 3], 0, 0),
  (34, 1, .ireturn, [], 0, 0),
  (35, 1, .aload_n 0, [0], 0, 0),
  (36, 3, .invokevirtual 150, [84, 1, 3], 0, 0),
  (39, 1, .iconst 1, [], 1, 0),
  (40, 1, .iload_n 1, [1], 0, 0),
  (41, 1, .ishl, [], 0, 0),
  (42, 2, .bipush 60, [], 60, 0),
  (44, 3, .invokevirtual 157, [20, 3, 0], 0, 0),
  (47, 1, .istore_n 2, [2], 0, 0),
  (48, 1, .iload_n 2, [2], 0, 0),
  (49, 2, .bipush 60, [], 60, 0),
  (51, 3, .if_icmp .ne 12, [34], 0, 0),
  (54, 1, .aload_n 0, [0], 0, 0),
  (55, 2, .ldc 160, [], (-1000000004), 0),
  (57, 3, .invokevirtual 52, [82, 2, 3], 0, 0),
  (60, 3, .goto 6, [37], 0, 0),
  (63, 1, .iload_n 2, [2], 0, 0),
  (64, 1, .iconst 1, [], 1, 0),
  (65, 1, .iadd, [], 0, 0),
  (66, 1, .ireturn, [], 0, 0)]
set_option maxRecDepth 100000 in
theorem kX3_when : na_okP (na_mi MX3_when) PX3_when := ⟨by decide +kernel, na_lks_s lk_RX3 (by decide +kernel)⟩
def PX3_first : List En := [(0, 1, .aload_n 0, [0], 0, 0),
  (1, 3, .invokevirtual 150, [84, 1, 3], 0, 0),
  (4, 1, .astore_n 1, [1], 0, 0),
  (5, 1, .iconst 0, [], 0, 0),
  (6, 1, .istore_n 2, [2], 0, 0),
  (7, 1, .iload_n 2, [2], 0, 0),
  (8, 2, .bipush 60, [], 60, 0),
  (10, 3, .if_icmp .ge 23, [18], 0, 0),
  (13, 1, .aload_n 1, [1], 0, 0),
  (14, 3, .invokevirtual 161, [15, 1, 0], 0, 0),
  (17, 1, .istore_n 3, [3], 0, 0),
  (18, 1, .iload_n 3, [3], 0, 0),
  (19, 3, .ifCond .eq 8, [16], 0, 0),
  (22, 1, .iload_n 3, [3], 0, 0),
  (23, 3, .invokestatic 164, [191, 1], 0, 0),
  (26, 1, .ireturn, [], 0, 0),
  (27, 3, .iinc 2 1, [2], 1, 0),
  (30, 3, .goto (-23), [5], 0, 0),
  (33, 1, .aload_n 0, [0], 0, 0),
  (34, 2, .ldc 160, [], (-1000000004), 0),
  (36, 3, .invokevirtual 52, [82, 2, 3], 0, 0),
  (39, 1, .ireturn, [], 0, 0)]
set_option maxRecDepth 100000 in
theorem kX3_first : na_okP (na_mi MX3_first) PX3_first := ⟨by decide +kernel, na_lks_s lk_RX3 (by decide +kernel)⟩
def PX3_well : List En := [(0, 1, .aload_n 0, [0], 0, 0),
  (1, 3, .invokevirtual 150, [84, 1, 3], 0, 0),
  (4, 3, .sipush 255, [], 255, 0),
  (7, 2, .bipush 60, [], 60, 0),
  (9, 3, .invokevirtual 157, [20, 3, 0], 0, 0),
  (12, 1, .ireturn, [], 0, 0)]
set_option maxRecDepth 100000 in
theorem kX3_well : na_okP (na_mi MX3_well) PX3_well := ⟨by decide +kernel, na_lks_s lk_RX3 (by decide +kernel)⟩
def PX3_doors : List En := [(0, 1, .iconst 0, [], 0, 0),
  (1, 1, .istore_n 1, [1], 0, 0),
  (2, 1, .iconst (-1), [], (-1), 0),
  (3, 1, .istore_n 2, [2], 0, 0),
  (4, 1, .iconst 0, [], 0, 0),
  (5, 1, .istore_n 3, [3], 0, 0),
  (6, 1, .iload_n 3, [3], 0, 0),
  (7, 3, .sipush 128, [], 128, 0),
  (10, 3, .if_icmp .ge 44, [29], 0, 0),
  (13, 1, .aload_n 0, [0], 0, 0),
  (14, 3, .invokevirtual 150, [84, 1, 3], 0, 0),
  (17, 2, .astore 4, [4], 0, 0),
  (19, 2, .aload 4, [4], 0, 0),
  (21, 1, .iload_n 3, [3], 0, 0),
  (22, 3, .putfield 147, [0, 4, 0], 0, 0),
  (25, 2, .aload 4, [4], 0, 0),
  (27, 3, .sipush 255, [], 255, 0),
  (30, 2, .bipush 60, [], 60, 0),
  (32, 3, .invokevirtual 157, [20, 3, 0], 0, 0),
  (35, 2, .istore 5, [5], 0, 0),
  (37, 2, .iload 5, [5], 0, 0),
  (39, 1, .iload_n 2, [2], 0, 0),
  (40, 3, .if_icmp .le 8, [27], 0, 0),
  (43, 2, .iload 5, [5], 0, 0),
  (45, 1, .istore_n 2, [2], 0, 0),
  (46, 1, .iload_n 3, [3], 0, 0),
  (47, 1, .istore_n 1, [1], 0, 0),
  (48, 3, .iinc 3 1, [3], 1, 0),
  (51, 3, .goto (-45), [6], 0, 0),
  (54, 1, .iload_n 1, [1], 0, 0),
  (55, 1, .ireturn, [], 0, 0)]
set_option maxRecDepth 100000 in
theorem kX3_doors : na_okP (na_mi MX3_doors) PX3_doors := ⟨by decide +kernel, na_lks_s lk_RX3 (by decide +kernel)⟩
def PX3_shut : List En := [(0, 1, .iload_n 1, [1], 0, 0),
  (1, 1, .iconst 0, [], 0, 0),
  (2, 2, .bipush 40, [], 40, 0),
  (4, 3, .invokestatic 44, [86, 3], 0, 0),
  (7, 3, .ifCond .eq 10, [9], 0, 0),
  (10, 1, .aload_n 0, [0], 0, 0),
  (11, 2, .ldc 51, [], (-1000000001), 0),
  (13, 3, .invokevirtual 52, [82, 2, 3], 0, 0),
  (16, 1, .ireturn, [], 0, 0),
  (17, 1, .aload_n 0, [0], 0, 0),
  (18, 3, .invokevirtual 150, [84, 1, 3], 0, 0),
  (21, 1, .iload_n 1, [1], 0, 0),
  (22, 3, .invokevirtual 169, [21, 2, 0], 0, 0),
  (25, 1, .istore_n 2, [2], 0, 0),
  (26, 1, .iconst (-1), [], (-1), 0),
  (27, 1, .istore_n 3, [3], 0, 0),
  (28, 1, .iconst 0, [], 0, 0),
  (29, 2, .istore 4, [4], 0, 0),
  (31, 2, .iload 4, [4], 0, 0),
  (33, 2, .bipush 7, [], 7, 0),
  (35, 3, .if_icmp .ge 49, [45], 0, 0),
  (38, 1, .aload_n 0, [0], 0, 0),
  (39, 3, .invokevirtual 150, [84, 1, 3], 0, 0),
  (42, 2, .astore 5, [5], 0, 0),
  (44, 2, .aload 5, [5], 0, 0),
  (46, 1, .dup, [], 0, 0),
  (47, 3, .getfield 147, [0, 4], 0, 0),
  (50, 1, .iconst 1, [], 1, 0),
  (51, 2, .iload 4, [4], 0, 0),
  (53, 1, .ishl, [], 0, 0),
  (54, 1, .ixor, [], 0, 0),
  (55, 3, .putfield 147, [0, 4, 0], 0, 0),
  (58, 2, .aload 5, [5], 0, 0),
  (60, 1, .iload_n 1, [1], 0, 0),
  (61, 3, .invokevirtual 169, [21, 2, 0], 0, 0),
  (64, 2, .istore 6, [6], 0, 0),
  (66, 2, .iload 6, [6], 0, 0),
  (68, 1, .iload_n 2, [2], 0, 0),
  (69, 3, .if_icmp .ge 9, [43], 0, 0),
  (72, 2, .iload 6, [6], 0, 0),
  (74, 1, .istore_n 2, [2], 0, 0),
  (75, 2, .iload 4, [4], 0, 0),
  (77, 1, .istore_n 3, [3], 0, 0),
  (78, 3, .iinc 4 1, [4], 1, 0),
  (81, 3, .goto (-50), [18], 0, 0),
  (84, 1, .iload_n 3, [3], 0, 0),
  (85, 3, .ifCond .ge 12, [51], 0, 0),
  (88, 1, .aload_n 0, [0], 0, 0),
  (89, 2, .ldc 160, [], (-1000000004), 0),
  (91, 3, .invokevirtual 52, [82, 2, 3], 0, 0),
  (94, 3, .goto 4, [52], 0, 0),
  (97, 1, .iload_n 3, [3], 0, 0),
  (98, 1, .ireturn, [], 0, 0)]
set_option maxRecDepth 100000 in
theorem kX3_shut : na_okP (na_mi MX3_shut) PX3_shut := ⟨by decide +kernel, na_lks_s lk_RX3 (by decide +kernel)⟩
def PX3_fire : List En := [(0, 1, .iload_n 1, [1], 0, 0),
  (1, 3, .invokestatic 40, [87, 1], 0, 0),
  (4, 3, .ifCond .ne 13, [8], 0, 0),
  (7, 1, .iload_n 2, [2], 0, 0),
  (8, 1, .iconst 0, [], 0, 0),
  (9, 2, .bipush 40, [], 40, 0),
  (11, 3, .invokestatic 44, [86, 3], 0, 0),
  (14, 3, .ifCond .eq 10, [12], 0, 0),
  (17, 1, .aload_n 0, [0], 0, 0),
  (18, 2, .ldc 51, [], (-1000000001), 0),
  (20, 3, .invokevirtual 52, [82, 2, 3], 0, 0),
  (23, 1, .ireturn, [], 0, 0),
  (24, 1, .iconst 0, [], 0, 0),
  (25, 1, .istore_n 3, [3], 0, 0),
  (26, 1, .iload_n 3, [3], 0, 0),
  (27, 2, .bipush 99, [], 99, 0),
  (29, 3, .if_icmp .gt 38, [35], 0, 0),
  (32, 1, .aload_n 0, [0], 0, 0),
  (33, 3, .invokevirtual 150, [84, 1, 3], 0, 0),
  (36, 2, .astore 4, [4], 0, 0),
  (38, 2, .aload 4, [4], 0, 0),
  (40, 3, .getfield 140, [0, 2], 0, 0),
  (43, 1, .iload_n 1, [1], 0, 0),
  (44, 1, .iload_n 3, [3], 0, 0),
  (45, 1, .iastore, [], 0, 0),
  (46, 2, .aload 4, [4], 0, 0),
  (48, 3, .sipush 255, [], 255, 0),
  (51, 1, .iload_n 2, [2], 0, 0),
  (52, 3, .invokevirtual 157, [20, 3, 0], 0, 0),
  (55, 1, .iload_n 2, [2], 0, 0),
  (56, 3, .if_icmp .ne 5, [33], 0, 0),
  (59, 1, .iload_n 3, [3], 0, 0),
  (60, 1, .ireturn, [], 0, 0),
  (61, 3, .iinc 3 1, [3], 1, 0),
  (64, 3, .goto (-38), [14], 0, 0),
  (67, 1, .aload_n 0, [0], 0, 0),
  (68, 2, .ldc 160, [], (-1000000004), 0),
  (70, 3, .invokevirtual 52, [82, 2, 3], 0, 0),
  (73, 1, .ireturn, [], 0, 0)]
set_option maxRecDepth 100000 in
theorem kX3_fire : na_okP (na_mi MX3_fire) PX3_fire := ⟨by decide +kernel, na_lks_s lk_RX3 (by decide +kernel)⟩
def PX3_fires : List En := [(0, 1, .iload_n 1, [1], 0, 0),
  (1, 3, .invokestatic 40, [87, 1], 0, 0),
  (4, 3, .ifCond .ne 25, [14], 0, 0),
  (7, 1, .iload_n 2, [2], 0, 0),
  (8, 3, .invokestatic 40, [87, 1], 0, 0),
  (11, 3, .ifCond .ne 18, [14], 0, 0),
  (14, 1, .iload_n 1, [1], 0, 0),
  (15, 1, .iload_n 2, [2], 0, 0),
  (16, 3, .if_icmp .eq 13, [14], 0, 0),
  (19, 1, .iload_n 3, [3], 0, 0),
  (20, 1, .iconst 0, [], 0, 0),
  (21, 2, .bipush 40, [], 40, 0),
  (23, 3, .invokestatic 44, [86, 3], 0, 0),
  (26, 3, .ifCond .eq 10, [18], 0, 0),
  (29, 1, .aload_n 0, [0], 0, 0),
  (30, 2, .ldc 51, [], (-1000000001), 0),
  (32, 3, .invokevirtual 52, [82, 2, 3], 0, 0),
  (35, 1, .ireturn, [], 0, 0),
  (36, 1, .iconst 0, [], 0, 0),
  (37, 2, .istore 4, [4], 0, 0),
  (39, 2, .iload 4, [4], 0, 0),
  (41, 2, .bipush 40, [], 40, 0),
  (43, 3, .if_icmp .gt 24, [34], 0, 0),
  (46, 1, .aload_n 0, [0], 0, 0),
  (47, 1, .iload_n 1, [1], 0, 0),
  (48, 1, .iload_n 2, [2], 0, 0),
  (49, 2, .iload 4, [4], 0, 0),
  (51, 1, .iload_n 3, [3], 0, 0),
  (52, 3, .invokevirtual 172, [85, 5, 3], 0, 0),
  (55, 3, .ifCond .eq 6, [32], 0, 0),
  (58, 2, .iload 4, [4], 0, 0),
  (60, 1, .ireturn, [], 0, 0),
  (61, 3, .iinc 4 1, [4], 1, 0),
  (64, 3, .goto (-25), [20], 0, 0),
  (67, 1, .aload_n 0, [0], 0, 0),
  (68, 2, .ldc 160, [], (-1000000004), 0),
  (70, 3, .invokevirtual 52, [82, 2, 3], 0, 0),
  (73, 1, .ireturn, [], 0, 0)]
set_option maxRecDepth 100000 in
theorem kX3_fires : na_okP (na_mi MX3_fires) PX3_fires := ⟨by decide +kernel, na_lks_s lk_RX3 (by decide +kernel)⟩
def PX3_sleep : List En := [(0, 1, .aload_n 0, [0], 0, 0),
  (1, 1, .iload_n 1, [1], 0, 0),
  (2, 3, .invokevirtual 90, [83, 2, 3], 0, 0),
  (5, 3, .ifCond .eq 10, [8], 0, 0),
  (8, 1, .aload_n 0, [0], 0, 0),
  (9, 2, .ldc 51, [], (-1000000001), 0),
  (11, 3, .invokevirtual 52, [82, 2, 3], 0, 0),
  (14, 1, .ireturn, [], 0, 0),
  (15, 1, .aload_n 0, [0], 0, 0),
  (16, 3, .getfield 12, [3, 0], 0, 0),
  (19, 3, .getfield 154, [0, 12], 0, 0),
  (22, 1, .iload_n 1, [1], 0, 0),
  (23, 1, .iaload, [], 0, 0),
  (24, 1, .iconst 1, [], 1, 0),
  (25, 3, .if_icmp .ne 10, [19], 0, 0),
  (28, 1, .aload_n 0, [0], 0, 0),
  (29, 2, .ldc 126, [], (-1000000005), 0),
  (31, 3, .invokevirtual 52, [82, 2, 3], 0, 0),
  (34, 1, .ireturn, [], 0, 0),
  (35, 1, .iconst 0, [], 0, 0),
  (36, 1, .istore_n 2, [2], 0, 0),
  (37, 1, .iconst (-1), [], (-1), 0),
  (38, 1, .istore_n 3, [3], 0, 0),
  (39, 1, .iconst 0, [], 0, 0),
  (40, 2, .istore 4, [4], 0, 0),
  (42, 2, .iload 4, [4], 0, 0),
  (44, 2, .bipush 8, [], 8, 0),
  (46, 3, .if_icmp .ge 48, [52], 0, 0),
  (49, 1, .aload_n 0, [0], 0, 0),
  (50, 3, .invokevirtual 150, [84, 1, 3], 0, 0),
  (53, 2, .astore 5, [5], 0, 0),
  (55, 2, .aload 5, [5], 0, 0),
  (57, 3, .getfield 176, [0, 9], 0, 0),
  (60, 1, .iload_n 1, [1], 0, 0),
  (61, 2, .iload 4, [4], 0, 0),
  (63, 1, .iastore, [], 0, 0),
  (64, 2, .aload 5, [5], 0, 0),
  (66, 1, .iconst 1, [], 1, 0),
  (67, 1, .iload_n 1, [1], 0, 0),
  (68, 1, .ishl, [], 0, 0),
  (69, 2, .bipush 60, [], 60, 0),
  (71, 3, .invokevirtual 157, [20, 3, 0], 0, 0),
  (74, 2, .istore 6, [6], 0, 0),
  (76, 2, .iload 6, [6], 0, 0),
  (78, 1, .iload_n 3, [3], 0, 0),
  (79, 3, .if_icmp .le 9, [50], 0, 0),
  (82, 2, .iload 6, [6], 0, 0),
  (84, 1, .istore_n 3, [3], 0, 0),
  (85, 2, .iload 4, [4], 0, 0),
  (87, 1, .istore_n 2, [2], 0, 0),
  (88, 3, .iinc 4 1, [4], 1, 0),
  (91, 3, .goto (-49), [25], 0, 0),
  (94, 1, .iload_n 2, [2], 0, 0),
  (95, 1, .ireturn, [], 0, 0)]
set_option maxRecDepth 100000 in
theorem kX3_sleep : na_okP (na_mi MX3_sleep) PX3_sleep := ⟨by decide +kernel, na_lks_s lk_RX3 (by decide +kernel)⟩
def PX3_kind : List En := [(0, 1, .aload_n 0, [0], 0, 0),
  (1, 1, .iload_n 1, [1], 0, 0),
  (2, 3, .invokevirtual 90, [83, 2, 3], 0, 0),
  (5, 3, .ifCond .ne 13, [9], 0, 0),
  (8, 1, .iload_n 2, [2], 0, 0),
  (9, 1, .iconst 0, [], 0, 0),
  (10, 2, .bipush 40, [], 40, 0),
  (12, 3, .invokestatic 44, [86, 3], 0, 0),
  (15, 3, .ifCond .eq 10, [13], 0, 0),
  (18, 1, .aload_n 0, [0], 0, 0),
  (19, 2, .ldc 51, [], (-1000000001), 0),
  (21, 3, .invokevirtual 52, [82, 2, 3], 0, 0),
  (24, 1, .ireturn, [], 0, 0),
  (25, 1, .iconst 0, [], 0, 0),
  (26, 1, .istore_n 3, [3], 0, 0),
  (27, 2, .bipush 9, [], 9, 0),
  (29, 2, .istore 4, [4], 0, 0),
  (31, 1, .iconst 0, [], 0, 0),
  (32, 2, .istore 5, [5], 0, 0),
  (34, 2, .iload 5, [5], 0, 0),
  (36, 2, .bipush 6, [], 6, 0),
  (38, 3, .if_icmp .ge 46, [43], 0, 0),
  (41, 1, .aload_n 0, [0], 0, 0),
  (42, 3, .invokevirtual 150, [84, 1, 3], 0, 0),
  (45, 2, .astore 6, [6], 0, 0),
  (47, 2, .aload 6, [6], 0, 0),
  (49, 3, .getfield 105, [0, 8], 0, 0),
  (52, 1, .iload_n 1, [1], 0, 0),
  (53, 2, .iload 5, [5], 0, 0),
  (55, 1, .iastore, [], 0, 0),
  (56, 2, .aload 6, [6], 0, 0),
  (58, 1, .iload_n 2, [2], 0, 0),
  (59, 3, .invokevirtual 169, [21, 2, 0], 0, 0),
  (62, 2, .istore 7, [7], 0, 0),
  (64, 2, .iload 7, [7], 0, 0),
  (66, 2, .iload 4, [4], 0, 0),
  (68, 3, .if_icmp .ge 10, [41], 0, 0),
  (71, 2, .iload 7, [7], 0, 0),
  (73, 2, .istore 4, [4], 0, 0),
  (75, 2, .iload 5, [5], 0, 0),
  (77, 1, .istore_n 3, [3], 0, 0),
  (78, 3, .iinc 5 1, [5], 1, 0),
  (81, 3, .goto (-47), [19], 0, 0),
  (84, 1, .iload_n 3, [3], 0, 0),
  (85, 1, .ireturn, [], 0, 0)]
set_option maxRecDepth 100000 in
theorem kX3_kind : na_okP (na_mi MX3_kind) PX3_kind := ⟨by decide +kernel, na_lks_s lk_RX3 (by decide +kernel)⟩
def PX3_costs : List En := [(0, 1, .aload_n 0, [0], 0, 0),
  (1, 1, .iload_n 1, [1], 0, 0),
  (2, 3, .invokevirtual 90, [83, 2, 3], 0, 0),
  (5, 3, .ifCond .ne 13, [9], 0, 0),
  (8, 1, .iload_n 2, [2], 0, 0),
  (9, 1, .iconst 0, [], 0, 0),
  (10, 2, .bipush 40, [], 40, 0),
  (12, 3, .invokestatic 44, [86, 3], 0, 0),
  (15, 3, .ifCond .eq 10, [13], 0, 0),
  (18, 1, .aload_n 0, [0], 0, 0),
  (19, 2, .ldc 51, [], (-1000000001), 0),
  (21, 3, .invokevirtual 52, [82, 2, 3], 0, 0),
  (24, 1, .ireturn, [], 0, 0),
  (25, 1, .aload_n 0, [0], 0, 0),
  (26, 3, .invokevirtual 150, [84, 1, 3], 0, 0),
  (29, 1, .iload_n 2, [2], 0, 0),
  (30, 3, .invokevirtual 127, [14, 2, 0], 0, 0),
  (33, 1, .aload_n 0, [0], 0, 0),
  (34, 3, .getfield 19, [3, 2], 0, 0),
  (37, 3, .getfield 130, [0, 0], 0, 0),
  (40, 2, .bipush 8, [], 8, 0),
  (42, 3, .invokestatic 133, [93, 2], 0, 0),
  (45, 1, .istore_n 3, [3], 0, 0),
  (46, 1, .aload_n 0, [0], 0, 0),
  (47, 3, .invokevirtual 150, [84, 1, 3], 0, 0),
  (50, 1, .iload_n 1, [1], 0, 0),
  (51, 3, .invokevirtual 119, [6, 2, 0], 0, 0),
  (54, 1, .aload_n 0, [0], 0, 0),
  (55, 3, .getfield 19, [3, 2], 0, 0),
  (58, 1, .iload_n 2, [2], 0, 0),
  (59, 3, .invokevirtual 127, [14, 2, 0], 0, 0),
  (62, 1, .aload_n 0, [0], 0, 0),
  (63, 3, .getfield 19, [3, 2], 0, 0),
  (66, 3, .getfield 130, [0, 0], 0, 0),
  (69, 2, .bipush 8, [], 8, 0),
  (71, 3, .invokestatic 133, [93, 2], 0, 0),
  (74, 1, .iload_n 3, [3], 0, 0),
  (75, 1, .isub, [], 0, 0),
  (76, 1, .ireturn, [], 0, 0)]
set_option maxRecDepth 100000 in
theorem kX3_costs : na_okP (na_mi MX3_costs) PX3_costs := ⟨by decide +kernel, na_lks_s lk_RX3 (by decide +kernel)⟩
def PX3_share : List En := [(0, 1, .iload_n 2, [2], 0, 0),
  (1, 1, .iconst 1, [], 1, 0),
  (2, 2, .bipush 6, [], 6, 0),
  (4, 3, .invokestatic 44, [86, 3], 0, 0),
  (7, 3, .ifCond .ne 25, [17], 0, 0),
  (10, 1, .iload_n 1, [1], 0, 0),
  (11, 1, .iconst 0, [], 0, 0),
  (12, 1, .iload_n 2, [2], 0, 0),
  (13, 1, .iconst 1, [], 1, 0),
  (14, 1, .isub, [], 0, 0),
  (15, 3, .invokestatic 44, [86, 3], 0, 0),
  (18, 3, .ifCond .ne 14, [17], 0, 0),
  (21, 1, .iload_n 2, [2], 0, 0),
  (22, 1, .aload_n 0, [0], 0, 0),
  (23, 3, .getfield 12, [3, 0], 0, 0),
  (26, 3, .getfield 179, [0, 7], 0, 0),
  (29, 3, .if_icmp .le 11, [22], 0, 0),
  (32, 1, .aload_n 0, [0], 0, 0),
  (33, 2, .ldc 51, [], (-1000000001), 0),
  (35, 3, .invokevirtual 52, [82, 2, 3], 0, 0),
  (38, 1, .i2l, [], 0, 0),
  (39, 1, .lreturn, [], 0, 0),
  (40, 1, .aload_n 0, [0], 0, 0),
  (41, 3, .getfield 12, [3, 0], 0, 0),
  (44, 1, .iload_n 1, [1], 0, 0),
  (45, 3, .invokevirtual 93, [12, 2, 0], 0, 0),
  (48, 1, .istore_n 3, [3], 0, 0),
  (49, 1, .lconst 0, [], 0, 0),
  (50, 2, .lstore 4, [4], 0, 0),
  (52, 1, .iconst 0, [], 0, 0),
  (53, 2, .istore 6, [6], 0, 0),
  (55, 2, .iload 6, [6], 0, 0),
  (57, 1, .iconst 1, [], 1, 0),
  (58, 1, .iload_n 2, [2], 0, 0),
  (59, 1, .ishl, [], 0, 0),
  (60, 3, .if_icmp .ge 70, [73], 0, 0),
  (63, 2, .iload 6, [6], 0, 0),
  (65, 1, .iload_n 1, [1], 0, 0),
  (66, 3, .invokestatic 182, [91, 2], 0, 0),
  (69, 3, .ifCond .ne 55, [71], 0, 0),
  (72, 1, .iconst 0, [], 0, 0),
  (73, 1, .iload_n 3, [3], 0, 0),
  (74, 1, .aload_n 0, [0], 0, 0),
  (75, 3, .getfield 12, [3, 0], 0, 0),
  (78, 2, .iload 6, [6], 0, 0),
  (80, 3, .invokevirtual 185, [10, 2, 0], 0, 0),
  (83, 1, .isub, [], 0, 0),
  (84, 3, .invokestatic 188, [996], 0, 0),
  (87, 2, .istore 7, [7], 0, 0),
  (89, 2, .iload 6, [6], 0, 0),
  (91, 3, .invokestatic 193, [192, 1], 0, 0),
  (94, 2, .istore 8, [8], 0, 0),
  (96, 2, .lload 4, [4], 0, 0),
  (98, 2, .iload 7, [7], 0, 0),
  (100, 1, .i2l, [], 0, 0),
  (101, 3, .getstatic 196, [4], 0, 0),
  (104, 2, .iload 8, [8], 0, 0),
  (106, 1, .iaload, [], 0, 0),
  (107, 1, .i2l, [], 0, 0),
  (108, 1, .lmul, [], 0, 0),
  (109, 3, .getstatic 196, [4], 0, 0),
  (112, 1, .iload_n 2, [2], 0, 0),
  (113, 1, .iconst 1, [], 1, 0),
  (114, 1, .isub, [], 0, 0),
  (115, 2, .iload 8, [8], 0, 0),
  (117, 1, .isub, [], 0, 0),
  (118, 1, .iaload, [], 0, 0),
  (119, 1, .i2l, [], 0, 0),
  (120, 1, .lmul, [], 0, 0),
  (121, 1, .ladd, [], 0, 0),
  (122, 2, .lstore 4, [4], 0, 0),
  (124, 3, .iinc 6 1, [6], 1, 0),
  (127, 3, .goto (-72), [31], 0, 0),
  (130, 2, .lload 4, [4], 0, 0),
  (132, 3, .getstatic 196, [4], 0, 0),
  (135, 2, .bipush 6, [], 6, 0),
  (137, 1, .iaload, [], 0, 0),
  (138, 3, .getstatic 196, [4], 0, 0),
  (141, 1, .iload_n 2, [2], 0, 0),
  (142, 1, .iaload, [], 0, 0),
  (143, 1, .idiv, [], 0, 0),
  (144, 1, .i2l, [], 0, 0),
  (145, 1, .lmul, [], 0, 0),
  (146, 1, .lreturn, [], 0, 0)]
set_option maxRecDepth 100000 in
theorem kX3_share : na_okP (na_mi MX3_share) PX3_share := ⟨by decide +kernel, na_lks_s lk_RX3 (by decide +kernel)⟩
def PX3_swept : List En := [(0, 1, .iload_n 1, [1], 0, 0),
  (1, 1, .iconst 0, [], 0, 0),
  (2, 2, .ldc 199, [], 99999, 0),
  (4, 3, .invokestatic 44, [86, 3], 0, 0),
  (7, 3, .ifCond .eq 10, [9], 0, 0),
  (10, 1, .aload_n 0, [0], 0, 0),
  (11, 2, .ldc 51, [], (-1000000001), 0),
  (13, 3, .invokevirtual 52, [82, 2, 3], 0, 0),
  (16, 1, .ireturn, [], 0, 0),
  (17, 1, .iconst 0, [], 0, 0),
  (18, 1, .istore_n 2, [2], 0, 0),
  (19, 1, .iconst 0, [], 0, 0),
  (20, 1, .istore_n 3, [3], 0, 0),
  (21, 1, .iload_n 3, [3], 0, 0),
  (22, 3, .sipush 256, [], 256, 0),
  (25, 3, .if_icmp .ge 24, [25], 0, 0),
  (28, 1, .aload_n 0, [0], 0, 0),
  (29, 3, .getfield 12, [3, 0], 0, 0),
  (32, 1, .iload_n 3, [3], 0, 0),
  (33, 3, .invokevirtual 200, [11, 2, 0], 0, 0),
  (36, 1, .iload_n 1, [1], 0, 0),
  (37, 3, .if_icmp .ne 6, [23], 0, 0),
  (40, 3, .iinc 2 1, [2], 1, 0),
  (43, 3, .iinc 3 1, [3], 1, 0),
  (46, 3, .goto (-25), [13], 0, 0),
  (49, 1, .iload_n 2, [2], 0, 0),
  (50, 1, .ireturn, [], 0, 0)]
set_option maxRecDepth 100000 in
theorem kX3_swept : na_okP (na_mi MX3_swept) PX3_swept := ⟨by decide +kernel, na_lks_s lk_RX3 (by decide +kernel)⟩
def PX3_sweeps : List En := [(0, 1, .iload_n 1, [1], 0, 0),
  (1, 1, .iconst 0, [], 0, 0),
  (2, 2, .ldc 199, [], 99999, 0),
  (4, 3, .invokestatic 44, [86, 3], 0, 0),
  (7, 3, .ifCond .eq 10, [9], 0, 0),
  (10, 1, .aload_n 0, [0], 0, 0),
  (11, 2, .ldc 51, [], (-1000000001), 0),
  (13, 3, .invokevirtual 52, [82, 2, 3], 0, 0),
  (16, 1, .ireturn, [], 0, 0),
  (17, 1, .iconst 0, [], 0, 0),
  (18, 1, .istore_n 2, [2], 0, 0),
  (19, 1, .iload_n 2, [2], 0, 0),
  (20, 3, .sipush 256, [], 256, 0),
  (23, 3, .if_icmp .ge 23, [24], 0, 0),
  (26, 1, .aload_n 0, [0], 0, 0),
  (27, 3, .getfield 12, [3, 0], 0, 0),
  (30, 1, .iload_n 2, [2], 0, 0),
  (31, 3, .invokevirtual 200, [11, 2, 0], 0, 0),
  (34, 1, .iload_n 1, [1], 0, 0),
  (35, 3, .if_icmp .ne 5, [22], 0, 0),
  (38, 1, .iload_n 2, [2], 0, 0),
  (39, 1, .ireturn, [], 0, 0),
  (40, 3, .iinc 2 1, [2], 1, 0),
  (43, 3, .goto (-24), [11], 0, 0),
  (46, 1, .aload_n 0, [0], 0, 0),
  (47, 2, .ldc 160, [], (-1000000004), 0),
  (49, 3, .invokevirtual 52, [82, 2, 3], 0, 0),
  (52, 1, .ireturn, [], 0, 0)]
set_option maxRecDepth 100000 in
theorem kX3_sweeps : na_okP (na_mi MX3_sweeps) PX3_sweeps := ⟨by decide +kernel, na_lks_s lk_RX3 (by decide +kernel)⟩
def PX3_owed : List En := [(0, 1, .iconst 0, [], 0, 0),
  (1, 1, .istore_n 1, [1], 0, 0),
  (2, 1, .iconst 1, [], 1, 0),
  (3, 1, .istore_n 2, [2], 0, 0),
  (4, 1, .iload_n 2, [2], 0, 0),
  (5, 2, .bipush 8, [], 8, 0),
  (7, 3, .if_icmp .ge 32, [22], 0, 0),
  (10, 1, .aload_n 0, [0], 0, 0),
  (11, 3, .getfield 12, [3, 0], 0, 0),
  (14, 3, .getfield 137, [0, 1], 0, 0),
  (17, 1, .iload_n 2, [2], 0, 0),
  (18, 1, .iaload, [], 0, 0),
  (19, 1, .aload_n 0, [0], 0, 0),
  (20, 3, .getfield 12, [3, 0], 0, 0),
  (23, 3, .getfield 137, [0, 1], 0, 0),
  (26, 1, .iload_n 1, [1], 0, 0),
  (27, 1, .iaload, [], 0, 0),
  (28, 3, .if_icmp .le 5, [20], 0, 0),
  (31, 1, .iload_n 2, [2], 0, 0),
  (32, 1, .istore_n 1, [1], 0, 0),
  (33, 3, .iinc 2 1, [2], 1, 0),
  (36, 3, .goto (-32), [4], 0, 0),
  (39, 1, .iload_n 1, [1], 0, 0),
  (40, 1, .ireturn, [], 0, 0)]
set_option maxRecDepth 100000 in
theorem kX3_owed : na_okP (na_mi MX3_owed) PX3_owed := ⟨by decide +kernel, na_lks_s lk_RX3 (by decide +kernel)⟩
def PX3_leaked : List En := [(0, 1, .iload_n 1, [1], 0, 0),
  (1, 3, .invokestatic 40, [87, 1], 0, 0),
  (4, 3, .ifCond .ne 24, [13], 0, 0),
  (7, 1, .iload_n 2, [2], 0, 0),
  (8, 1, .iconst 0, [], 0, 0),
  (9, 2, .bipush 40, [], 40, 0),
  (11, 3, .invokestatic 44, [86, 3], 0, 0),
  (14, 3, .ifCond .ne 14, [13], 0, 0),
  (17, 1, .iload_n 3, [3], 0, 0),
  (18, 1, .iconst 0, [], 0, 0),
  (19, 3, .sipush 9999, [], 9999, 0),
  (22, 3, .invokestatic 44, [86, 3], 0, 0),
  (25, 3, .ifCond .eq 10, [17], 0, 0),
  (28, 1, .aload_n 0, [0], 0, 0),
  (29, 2, .ldc 51, [], (-1000000001), 0),
  (31, 3, .invokevirtual 52, [82, 2, 3], 0, 0),
  (34, 1, .ireturn, [], 0, 0),
  (35, 1, .iconst 0, [], 0, 0),
  (36, 2, .istore 4, [4], 0, 0),
  (38, 1, .iconst 0, [], 0, 0),
  (39, 2, .istore 5, [5], 0, 0),
  (41, 2, .iload 5, [5], 0, 0),
  (43, 2, .bipush 9, [], 9, 0),
  (45, 3, .if_icmp .gt 44, [44], 0, 0),
  (48, 1, .aload_n 0, [0], 0, 0),
  (49, 3, .invokevirtual 150, [84, 1, 3], 0, 0),
  (52, 2, .astore 6, [6], 0, 0),
  (54, 2, .aload 6, [6], 0, 0),
  (56, 3, .getfield 203, [0, 3], 0, 0),
  (59, 1, .iload_n 1, [1], 0, 0),
  (60, 2, .iload 5, [5], 0, 0),
  (62, 1, .iastore, [], 0, 0),
  (63, 2, .aload 6, [6], 0, 0),
  (65, 1, .iload_n 2, [2], 0, 0),
  (66, 3, .invokevirtual 127, [14, 2, 0], 0, 0),
  (69, 2, .aload 6, [6], 0, 0),
  (71, 3, .getfield 130, [0, 0], 0, 0),
  (74, 1, .iload_n 1, [1], 0, 0),
  (75, 1, .iaload, [], 0, 0),
  (76, 1, .iload_n 3, [3], 0, 0),
  (77, 3, .if_icmp .ne 6, [42], 0, 0),
  (80, 3, .iinc 4 1, [4], 1, 0),
  (83, 3, .iinc 5 1, [5], 1, 0),
  (86, 3, .goto (-45), [21], 0, 0),
  (89, 2, .iload 4, [4], 0, 0),
  (91, 1, .ireturn, [], 0, 0)]
set_option maxRecDepth 100000 in
theorem kX3_leaked : na_okP (na_mi MX3_leaked) PX3_leaked := ⟨by decide +kernel, na_lks_s lk_RX3 (by decide +kernel)⟩
def PX3_feed : List En := [(0, 1, .iload_n 2, [2], 0, 0),
  (1, 1, .iconst 1, [], 1, 0),
  (2, 1, .iconst 4, [], 4, 0),
  (3, 3, .invokestatic 44, [86, 3], 0, 0),
  (6, 3, .ifCond .eq 10, [9], 0, 0),
  (9, 1, .aload_n 0, [0], 0, 0),
  (10, 2, .ldc 51, [], (-1000000001), 0),
  (12, 3, .invokevirtual 52, [82, 2, 3], 0, 0),
  (15, 1, .ireturn, [], 0, 0),
  (16, 1, .aload_n 0, [0], 0, 0),
  (17, 3, .getfield 25, [3, 4], 0, 0),
  (20, 3, .getfield 206, [2, 1], 0, 0),
  (23, 1, .iload_n 2, [2], 0, 0),
  (24, 1, .iadd, [], 0, 0),
  (25, 2, .bipush 120, [], 120, 0),
  (27, 3, .if_icmp .le 10, [20], 0, 0),
  (30, 1, .aload_n 0, [0], 0, 0),
  (31, 2, .ldc 85, [], (-1000000002), 0),
  (33, 3, .invokevirtual 52, [82, 2, 3], 0, 0),
  (36, 1, .ireturn, [], 0, 0),
  (37, 1, .aload_n 0, [0], 0, 0),
  (38, 3, .getfield 25, [3, 4], 0, 0),
  (41, 1, .iload_n 1, [1], 0, 0),
  (42, 1, .iload_n 2, [2], 0, 0),
  (43, 3, .invokevirtual 209, [27, 3, 2], 0, 0),
  (46, 1, .aload_n 0, [0], 0, 0),
  (47, 3, .getfield 25, [3, 4], 0, 0),
  (50, 3, .getfield 206, [2, 1], 0, 0),
  (53, 1, .ireturn, [], 0, 0)]
set_option maxRecDepth 100000 in
theorem kX3_feed : na_okP (na_mi MX3_feed) PX3_feed := ⟨by decide +kernel, na_lks_s lk_RX3 (by decide +kernel)⟩
def PX3_wipe : List En := [(0, 1, .aload_n 0, [0], 0, 0),
  (1, 3, .getfield 25, [3, 4], 0, 0),
  (4, 3, .getfield 206, [2, 1], 0, 0),
  (7, 1, .istore_n 1, [1], 0, 0),
  (8, 1, .aload_n 0, [0], 0, 0),
  (9, 3, .getfield 25, [3, 4], 0, 0),
  (12, 1, .iconst 0, [], 0, 0),
  (13, 3, .putfield 206, [2, 1, 0], 0, 0),
  (16, 1, .iload_n 1, [1], 0, 0),
  (17, 1, .ireturn, [], 0, 0)]
set_option maxRecDepth 100000 in
theorem kX3_wipe : na_okP (na_mi MX3_wipe) PX3_wipe := ⟨by decide +kernel, na_lks_s lk_RX3 (by decide +kernel)⟩
def PX3_text : List En := [(0, 1, .aload_n 0, [0], 0, 0),
  (1, 3, .getfield 25, [3, 4], 0, 0),
  (4, 1, .aload_n 0, [0], 0, 0),
  (5, 3, .invokevirtual 150, [84, 1, 3], 0, 0),
  (8, 3, .invokevirtual 213, [28, 2, 2], 0, 0),
  (11, 1, .istore_n 1, [1], 0, 0),
  (12, 1, .iload_n 1, [1], 0, 0),
  (13, 3, .ifCond .lt 14, [13], 0, 0),
  (16, 1, .aload_n 0, [0], 0, 0),
  (17, 3, .getfield 12, [3, 0], 0, 0),
  (20, 1, .aload_n 0, [0], 0, 0),
  (21, 3, .getfield 19, [3, 2], 0, 0),
  (24, 3, .invokevirtual 217, [0, 2, 0], 0, 0),
  (27, 1, .aload_n 0, [0], 0, 0),
  (28, 3, .getfield 25, [3, 4], 0, 0),
  (31, 1, .iconst 0, [], 0, 0),
  (32, 3, .putfield 206, [2, 1, 0], 0, 0),
  (35, 1, .iload_n 1, [1], 0, 0),
  (36, 1, .ireturn, [], 0, 0)]
set_option maxRecDepth 100000 in
theorem kX3_text : na_okP (na_mi MX3_text) PX3_text := ⟨by decide +kernel, na_lks_s lk_RX3 (by decide +kernel)⟩
def PX3_sheet : List En := [(0, 1, .iload_n 1, [1], 0, 0),
  (1, 3, .invokestatic 221, [89, 1], 0, 0),
  (4, 3, .ifCond .ne 25, [14], 0, 0),
  (7, 1, .iload_n 2, [2], 0, 0),
  (8, 3, .ifCond .eq 28, [18], 0, 0),
  (11, 1, .iload_n 2, [2], 0, 0),
  (12, 2, .bipush 8, [], 8, 0),
  (14, 3, .if_icmp .eq 22, [18], 0, 0),
  (17, 1, .iload_n 2, [2], 0, 0),
  (18, 2, .bipush 16, [], 16, 0),
  (20, 3, .if_icmp .eq 16, [18], 0, 0),
  (23, 1, .iload_n 2, [2], 0, 0),
  (24, 2, .bipush 64, [], 64, 0),
  (26, 3, .if_icmp .eq 10, [18], 0, 0),
  (29, 1, .aload_n 0, [0], 0, 0),
  (30, 2, .ldc 51, [], (-1000000001), 0),
  (32, 3, .invokevirtual 52, [82, 2, 3], 0, 0),
  (35, 1, .ireturn, [], 0, 0),
  (36, 1, .iload_n 3, [3], 0, 0),
  (37, 3, .ifCond .ge 10, [24], 0, 0),
  (40, 1, .aload_n 0, [0], 0, 0),
  (41, 2, .ldc 224, [], (-1000000007), 0),
  (43, 3, .invokevirtual 52, [82, 2, 3], 0, 0),
  (46, 1, .ireturn, [], 0, 0),
  (47, 1, .iload_n 3, [3], 0, 0),
  (48, 2, .bipush 40, [], 40, 0),
  (50, 3, .if_icmp .le 10, [31], 0, 0),
  (53, 1, .aload_n 0, [0], 0, 0),
  (54, 2, .ldc 51, [], (-1000000001), 0),
  (56, 3, .invokevirtual 52, [82, 2, 3], 0, 0),
  (59, 1, .ireturn, [], 0, 0),
  (60, 1, .aload_n 0, [0], 0, 0),
  (61, 3, .getfield 31, [3, 5], 0, 0),
  (64, 1, .iload_n 1, [1], 0, 0),
  (65, 1, .aaload, [], 0, 0),
  (66, 1, .iload_n 2, [2], 0, 0),
  (67, 1, .iload_n 3, [3], 0, 0),
  (68, 3, .invokevirtual 225, [24, 3, 1], 0, 0),
  (71, 1, .aload_n 0, [0], 0, 0),
  (72, 3, .getfield 31, [3, 5], 0, 0),
  (75, 1, .iload_n 1, [1], 0, 0),
  (76, 1, .aaload, [], 0, 0),
  (77, 3, .getfield 228, [1, 2], 0, 0),
  (80, 1, .ireturn, [], 0, 0)]
set_option maxRecDepth 100000 in
theorem kX3_sheet : na_okP (na_mi MX3_sheet) PX3_sheet := ⟨by decide +kernel, na_lks_s lk_RX3 (by decide +kernel)⟩
def PX3_write : List En := [(0, 1, .iload_n 1, [1], 0, 0),
  (1, 3, .invokestatic 221, [89, 1], 0, 0),
  (4, 3, .ifCond .eq 11, [8], 0, 0),
  (7, 1, .aload_n 0, [0], 0, 0),
  (8, 2, .ldc 51, [], (-1000000001), 0),
  (10, 3, .invokevirtual 52, [82, 2, 3], 0, 0),
  (13, 1, .i2l, [], 0, 0),
  (14, 1, .lreturn, [], 0, 0),
  (15, 1, .aload_n 0, [0], 0, 0),
  (16, 3, .getfield 31, [3, 5], 0, 0),
  (19, 1, .iload_n 1, [1], 0, 0),
  (20, 1, .aaload, [], 0, 0),
  (21, 2, .astore 5, [5], 0, 0),
  (23, 2, .aload 5, [5], 0, 0),
  (25, 3, .invokevirtual 229, [23, 1, 1], 0, 0),
  (28, 3, .ifCond .eq 11, [21], 0, 0),
  (31, 1, .aload_n 0, [0], 0, 0),
  (32, 2, .ldc 232, [], (-1000000006), 0),
  (34, 3, .invokevirtual 52, [82, 2, 3], 0, 0),
  (37, 1, .i2l, [], 0, 0),
  (38, 1, .lreturn, [], 0, 0),
  (39, 1, .iload_n 2, [2], 0, 0),
  (40, 1, .iconst 0, [], 0, 0),
  (41, 2, .aload 5, [5], 0, 0),
  (43, 3, .getfield 228, [1, 2], 0, 0),
  (46, 1, .iconst 1, [], 1, 0),
  (47, 1, .isub, [], 0, 0),
  (48, 3, .invokestatic 44, [86, 3], 0, 0),
  (51, 3, .ifCond .eq 11, [34], 0, 0),
  (54, 1, .aload_n 0, [0], 0, 0),
  (55, 2, .ldc 51, [], (-1000000001), 0),
  (57, 3, .invokevirtual 52, [82, 2, 3], 0, 0),
  (60, 1, .i2l, [], 0, 0),
  (61, 1, .lreturn, [], 0, 0),
  (62, 2, .aload 5, [5], 0, 0),
  (64, 3, .getfield 233, [1, 0], 0, 0),
  (67, 1, .iload_n 2, [2], 0, 0),
  (68, 1, .laload, [], 0, 0),
  (69, 2, .lstore 6, [6], 0, 0),
  (71, 2, .aload 5, [5], 0, 0),
  (73, 1, .iload_n 2, [2], 0, 0),
  (74, 1, .lload_n 3, [3], 0, 0),
  (75, 3, .invokevirtual 237, [25, 3, 1], 0, 0),
  (78, 2, .lload 6, [6], 0, 0),
  (80, 1, .lreturn, [], 0, 0)]
set_option maxRecDepth 100000 in
theorem kX3_write : na_okP (na_mi MX3_write) PX3_write := ⟨by decide +kernel, na_lks_s lk_RX3 (by decide +kernel)⟩
def PX3_copy : List En := [(0, 1, .iload_n 1, [1], 0, 0),
  (1, 3, .invokestatic 221, [89, 1], 0, 0),
  (4, 3, .ifCond .ne 10, [6], 0, 0),
  (7, 1, .iload_n 3, [3], 0, 0),
  (8, 3, .invokestatic 221, [89, 1], 0, 0),
  (11, 3, .ifCond .eq 10, [10], 0, 0),
  (14, 1, .aload_n 0, [0], 0, 0),
  (15, 2, .ldc 51, [], (-1000000001), 0),
  (17, 3, .invokevirtual 52, [82, 2, 3], 0, 0),
  (20, 1, .ireturn, [], 0, 0),
  (21, 1, .aload_n 0, [0], 0, 0),
  (22, 3, .getfield 31, [3, 5], 0, 0),
  (25, 1, .iload_n 1, [1], 0, 0),
  (26, 1, .aaload, [], 0, 0),
  (27, 2, .astore 6, [6], 0, 0),
  (29, 1, .aload_n 0, [0], 0, 0),
  (30, 3, .getfield 31, [3, 5], 0, 0),
  (33, 1, .iload_n 3, [3], 0, 0),
  (34, 1, .aaload, [], 0, 0),
  (35, 2, .astore 7, [7], 0, 0),
  (37, 2, .aload 6, [6], 0, 0),
  (39, 3, .invokevirtual 229, [23, 1, 1], 0, 0),
  (42, 3, .ifCond .ne 11, [26], 0, 0),
  (45, 2, .aload 7, [7], 0, 0),
  (47, 3, .invokevirtual 229, [23, 1, 1], 0, 0),
  (50, 3, .ifCond .eq 10, [30], 0, 0),
  (53, 1, .aload_n 0, [0], 0, 0),
  (54, 2, .ldc 232, [], (-1000000006), 0),
  (56, 3, .invokevirtual 52, [82, 2, 3], 0, 0),
  (59, 1, .ireturn, [], 0, 0),
  (60, 2, .aload 6, [6], 0, 0),
  (62, 3, .getfield 241, [1, 1], 0, 0),
  (65, 2, .aload 7, [7], 0, 0),
  (67, 3, .getfield 241, [1, 1], 0, 0),
  (70, 3, .if_icmp .eq 10, [39], 0, 0),
  (73, 1, .aload_n 0, [0], 0, 0),
  (74, 2, .ldc 112, [], (-1000000003), 0),
  (76, 3, .invokevirtual 52, [82, 2, 3], 0, 0),
  (79, 1, .ireturn, [], 0, 0),
  (80, 2, .aload 6, [6], 0, 0),
  (82, 1, .iload_n 2, [2], 0, 0),
  (83, 2, .iload 5, [5], 0, 0),
  (85, 3, .invokevirtual 244, [26, 3, 1], 0, 0),
  (88, 3, .ifCond .eq 15, [49], 0, 0),
  (91, 2, .aload 7, [7], 0, 0),
  (93, 2, .iload 4, [4], 0, 0),
  (95, 2, .iload 5, [5], 0, 0),
  (97, 3, .invokevirtual 244, [26, 3, 1], 0, 0),
  (100, 3, .ifCond .ne 10, [53], 0, 0),
  (103, 1, .aload_n 0, [0], 0, 0),
  (104, 2, .ldc 51, [], (-1000000001), 0),
  (106, 3, .invokevirtual 52, [82, 2, 3], 0, 0),
  (109, 1, .ireturn, [], 0, 0),
  (110, 2, .aload 6, [6], 0, 0),
  (112, 3, .getfield 233, [1, 0], 0, 0),
  (115, 1, .iload_n 2, [2], 0, 0),
  (116, 2, .aload 7, [7], 0, 0),
  (118, 3, .getfield 233, [1, 0], 0, 0),
  (121, 2, .iload 4, [4], 0, 0),
  (123, 2, .iload 5, [5], 0, 0),
  (125, 3, .invokestatic 247, [999], 0, 0),
  (128, 2, .iload 5, [5], 0, 0),
  (130, 1, .ireturn, [], 0, 0)]
set_option maxRecDepth 100000 in
theorem kX3_copy : na_okP (na_mi MX3_copy) PX3_copy := ⟨by decide +kernel, na_lks_s lk_RX3 (by decide +kernel)⟩
def PX3_lays : List En := [(0, 1, .iload_n 1, [1], 0, 0),
  (1, 3, .invokestatic 221, [89, 1], 0, 0),
  (4, 3, .ifCond .eq 10, [7], 0, 0),
  (7, 1, .aload_n 0, [0], 0, 0),
  (8, 2, .ldc 51, [], (-1000000001), 0),
  (10, 3, .invokevirtual 52, [82, 2, 3], 0, 0),
  (13, 1, .ireturn, [], 0, 0),
  (14, 1, .aload_n 0, [0], 0, 0),
  (15, 3, .getfield 31, [3, 5], 0, 0),
  (18, 1, .iload_n 1, [1], 0, 0),
  (19, 1, .aaload, [], 0, 0),
  (20, 1, .astore_n 2, [2], 0, 0),
  (21, 1, .aload_n 2, [2], 0, 0),
  (22, 3, .invokevirtual 229, [23, 1, 1], 0, 0),
  (25, 3, .ifCond .eq 10, [19], 0, 0),
  (28, 1, .aload_n 0, [0], 0, 0),
  (29, 2, .ldc 232, [], (-1000000006), 0),
  (31, 3, .invokevirtual 52, [82, 2, 3], 0, 0),
  (34, 1, .ireturn, [], 0, 0),
  (35, 1, .iconst 0, [], 0, 0),
  (36, 1, .istore_n 3, [3], 0, 0),
  (37, 1, .iconst 0, [], 0, 0),
  (38, 2, .istore 4, [4], 0, 0),
  (40, 2, .iload 4, [4], 0, 0),
  (42, 2, .bipush 8, [], 8, 0),
  (44, 3, .if_icmp .ge 59, [53], 0, 0),
  (47, 2, .iload 4, [4], 0, 0),
  (49, 1, .aload_n 2, [2], 0, 0),
  (50, 3, .getfield 228, [1, 2], 0, 0),
  (53, 3, .if_icmp .ge 50, [53], 0, 0),
  (56, 1, .aload_n 2, [2], 0, 0),
  (57, 3, .getfield 233, [1, 0], 0, 0),
  (60, 2, .iload 4, [4], 0, 0),
  (62, 1, .laload, [], 0, 0),
  (63, 2, .lstore 5, [5], 0, 0),
  (65, 2, .lload 5, [5], 0, 0),
  (67, 1, .lconst 0, [], 0, 0),
  (68, 1, .lcmp, [], 0, 0),
  (69, 3, .ifCond .lt 28, [51], 0, 0),
  (72, 2, .lload 5, [5], 0, 0),
  (74, 3, .ldc2_w 253, [], 0, 9999),
  (77, 1, .lcmp, [], 0, 0),
  (78, 3, .ifCond .gt 19, [51], 0, 0),
  (81, 1, .aload_n 0, [0], 0, 0),
  (82, 3, .getfield 12, [3, 0], 0, 0),
  (85, 3, .getfield 130, [0, 0], 0, 0),
  (88, 2, .iload 4, [4], 0, 0),
  (90, 2, .lload 5, [5], 0, 0),
  (92, 1, .l2i, [], 0, 0),
  (93, 1, .iastore, [], 0, 0),
  (94, 3, .iinc 3 1, [3], 1, 0),
  (97, 3, .iinc 4 1, [4], 1, 0),
  (100, 3, .goto (-60), [23], 0, 0),
  (103, 1, .iload_n 3, [3], 0, 0),
  (104, 1, .ireturn, [], 0, 0)]
set_option maxRecDepth 100000 in
theorem kX3_lays : na_okP (na_mi MX3_lays) PX3_lays := ⟨by decide +kernel, na_lks_s lk_RX3 (by decide +kernel)⟩
def PX3_book : List En := [(0, 1, .iload_n 1, [1], 0, 0),
  (1, 3, .invokestatic 221, [89, 1], 0, 0),
  (4, 3, .ifCond .eq 10, [7], 0, 0),
  (7, 1, .aload_n 0, [0], 0, 0),
  (8, 2, .ldc 51, [], (-1000000001), 0),
  (10, 3, .invokevirtual 52, [82, 2, 3], 0, 0),
  (13, 1, .ireturn, [], 0, 0),
  (14, 1, .aload_n 0, [0], 0, 0),
  (15, 3, .getfield 31, [3, 5], 0, 0),
  (18, 1, .iload_n 1, [1], 0, 0),
  (19, 1, .aaload, [], 0, 0),
  (20, 1, .astore_n 3, [3], 0, 0),
  (21, 1, .aload_n 3, [3], 0, 0),
  (22, 3, .invokevirtual 229, [23, 1, 1], 0, 0),
  (25, 3, .ifCond .eq 10, [19], 0, 0),
  (28, 1, .aload_n 0, [0], 0, 0),
  (29, 2, .ldc 232, [], (-1000000006), 0),
  (31, 3, .invokevirtual 52, [82, 2, 3], 0, 0),
  (34, 1, .ireturn, [], 0, 0),
  (35, 1, .iload_n 2, [2], 0, 0),
  (36, 3, .invokestatic 40, [87, 1], 0, 0),
  (39, 3, .ifCond .eq 10, [26], 0, 0),
  (42, 1, .aload_n 0, [0], 0, 0),
  (43, 2, .ldc 51, [], (-1000000001), 0),
  (45, 3, .invokevirtual 52, [82, 2, 3], 0, 0),
  (48, 1, .ireturn, [], 0, 0),
  (49, 1, .aload_n 0, [0], 0, 0),
  (50, 3, .invokevirtual 150, [84, 1, 3], 0, 0),
  (53, 2, .astore 4, [4], 0, 0),
  (55, 1, .iconst 0, [], 0, 0),
  (56, 2, .istore 5, [5], 0, 0),
  (58, 2, .iload 5, [5], 0, 0),
  (60, 1, .aload_n 3, [3], 0, 0),
  (61, 3, .getfield 228, [1, 2], 0, 0),
  (64, 3, .if_icmp .ge 29, [48], 0, 0),
  (67, 1, .aload_n 3, [3], 0, 0),
  (68, 2, .iload 5, [5], 0, 0),
  (70, 2, .aload 4, [4], 0, 0),
  (72, 3, .getfield 130, [0, 0], 0, 0),
  (75, 1, .iload_n 2, [2], 0, 0),
  (76, 1, .iaload, [], 0, 0),
  (77, 1, .i2l, [], 0, 0),
  (78, 3, .invokevirtual 237, [25, 3, 1], 0, 0),
  (81, 2, .aload 4, [4], 0, 0),
  (83, 3, .invokevirtual 161, [15, 1, 0], 0, 0),
  (86, 1, .pop, [], 0, 0),
  (87, 3, .iinc 5 1, [5], 1, 0),
  (90, 3, .goto (-32), [31], 0, 0),
  (93, 1, .aload_n 3, [3], 0, 0),
  (94, 3, .getfield 228, [1, 2], 0, 0),
  (97, 1, .ireturn, [], 0, 0)]
set_option maxRecDepth 100000 in
theorem kX3_book : na_okP (na_mi MX3_book) PX3_book := ⟨by decide +kernel, na_lks_s lk_RX3 (by decide +kernel)⟩
def PX3_read : List En := [(0, 1, .iload_n 1, [1], 0, 0),
  (1, 3, .invokestatic 221, [89, 1], 0, 0),
  (4, 3, .ifCond .eq 10, [7], 0, 0),
  (7, 1, .aload_n 0, [0], 0, 0),
  (8, 2, .ldc 51, [], (-1000000001), 0),
  (10, 3, .invokevirtual 52, [82, 2, 3], 0, 0),
  (13, 1, .ireturn, [], 0, 0),
  (14, 1, .aload_n 0, [0], 0, 0),
  (15, 3, .getfield 31, [3, 5], 0, 0),
  (18, 1, .iload_n 1, [1], 0, 0),
  (19, 1, .aaload, [], 0, 0),
  (20, 1, .astore_n 3, [3], 0, 0),
  (21, 1, .aload_n 3, [3], 0, 0),
  (22, 3, .invokevirtual 229, [23, 1, 1], 0, 0),
  (25, 3, .ifCond .eq 10, [19], 0, 0),
  (28, 1, .aload_n 0, [0], 0, 0),
  (29, 2, .ldc 232, [], (-1000000006), 0),
  (31, 3, .invokevirtual 52, [82, 2, 3], 0, 0),
  (34, 1, .ireturn, [], 0, 0),
  (35, 1, .iload_n 2, [2], 0, 0),
  (36, 3, .invokestatic 40, [87, 1], 0, 0),
  (39, 3, .ifCond .eq 10, [26], 0, 0),
  (42, 1, .aload_n 0, [0], 0, 0),
  (43, 2, .ldc 51, [], (-1000000001), 0),
  (45, 3, .invokevirtual 52, [82, 2, 3], 0, 0),
  (48, 1, .ireturn, [], 0, 0),
  (49, 1, .iconst 0, [], 0, 0),
  (50, 2, .istore 4, [4], 0, 0),
  (52, 1, .iconst 0, [], 0, 0),
  (53, 2, .istore 5, [5], 0, 0),
  (55, 2, .iload 5, [5], 0, 0),
  (57, 2, .bipush 9, [], 9, 0),
  (59, 3, .if_icmp .gt 62, [61], 0, 0),
  (62, 1, .iconst 0, [], 0, 0),
  (63, 2, .istore 6, [6], 0, 0),
  (65, 2, .iload 6, [6], 0, 0),
  (67, 2, .bipush 99, [], 99, 0),
  (69, 3, .if_icmp .gt 46, [59], 0, 0),
  (72, 1, .aload_n 0, [0], 0, 0),
  (73, 3, .invokevirtual 150, [84, 1, 3], 0, 0),
  (76, 2, .astore 7, [7], 0, 0),
  (78, 2, .aload 7, [7], 0, 0),
  (80, 3, .getfield 203, [0, 3], 0, 0),
  (83, 1, .iload_n 2, [2], 0, 0),
  (84, 2, .iload 5, [5], 0, 0),
  (86, 1, .iastore, [], 0, 0),
  (87, 2, .aload 7, [7], 0, 0),
  (89, 3, .getfield 140, [0, 2], 0, 0),
  (92, 1, .iload_n 2, [2], 0, 0),
  (93, 2, .iload 6, [6], 0, 0),
  (95, 1, .iastore, [], 0, 0),
  (96, 2, .aload 7, [7], 0, 0),
  (98, 1, .iload_n 2, [2], 0, 0),
  (99, 1, .aload_n 3, [3], 0, 0),
  (100, 3, .invokevirtual 255, [22, 3, 0], 0, 0),
  (103, 3, .ifCond .eq 6, [57], 0, 0),
  (106, 3, .iinc 4 1, [4], 1, 0),
  (109, 3, .iinc 6 1, [6], 1, 0),
  (112, 3, .goto (-47), [35], 0, 0),
  (115, 3, .iinc 5 1, [5], 1, 0),
  (118, 3, .goto (-63), [30], 0, 0),
  (121, 2, .iload 4, [4], 0, 0),
  (123, 1, .ireturn, [], 0, 0)]
set_option maxRecDepth 100000 in
theorem kX3_read : na_okP (na_mi MX3_read) PX3_read := ⟨by decide +kernel, na_lks_s lk_RX3 (by decide +kernel)⟩
def PX3_image : List En := [(0, 1, .aload_n 0, [0], 0, 0),
  (1, 3, .getfield 16, [3, 1], 0, 0),
  (4, 1, .aload_n 0, [0], 0, 0),
  (5, 3, .getfield 12, [3, 0], 0, 0),
  (8, 3, .invokevirtual 217, [0, 2, 0], 0, 0),
  (11, 1, .aload_n 0, [0], 0, 0),
  (12, 1, .iconst 1, [], 1, 0),
  (13, 3, .putfield 259, [3, 3, 1], 0, 0),
  (16, 1, .iconst 1, [], 1, 0),
  (17, 1, .ireturn, [], 0, 0)]
set_option maxRecDepth 100000 in
theorem kX3_image : na_okP (na_mi MX3_image) PX3_image := ⟨by decide +kernel, na_lks_s lk_RX3 (by decide +kernel)⟩
def PX3_undo : List En := [(0, 1, .aload_n 0, [0], 0, 0),
  (1, 3, .getfield 259, [3, 3], 0, 0),
  (4, 3, .ifCond .ne 10, [7], 0, 0),
  (7, 1, .aload_n 0, [0], 0, 0),
  (8, 2, .ldc 160, [], (-1000000004), 0),
  (10, 3, .invokevirtual 52, [82, 2, 3], 0, 0),
  (13, 1, .ireturn, [], 0, 0),
  (14, 1, .aload_n 0, [0], 0, 0),
  (15, 3, .getfield 12, [3, 0], 0, 0),
  (18, 1, .aload_n 0, [0], 0, 0),
  (19, 3, .getfield 16, [3, 1], 0, 0),
  (22, 3, .invokevirtual 217, [0, 2, 0], 0, 0),
  (25, 1, .aload_n 0, [0], 0, 0),
  (26, 3, .getfield 12, [3, 0], 0, 0),
  (29, 3, .getfield 179, [0, 7], 0, 0),
  (32, 1, .ireturn, [], 0, 0)]
set_option maxRecDepth 100000 in
theorem kX3_undo : na_okP (na_mi MX3_undo) PX3_undo := ⟨by decide +kernel, na_lks_s lk_RX3 (by decide +kernel)⟩
def PX3_tear : List En := [(0, 1, .aload_n 0, [0], 0, 0),
  (1, 3, .getfield 259, [3, 3], 0, 0),
  (4, 3, .ifCond .eq 7, [5], 0, 0),
  (7, 1, .iconst 1, [], 1, 0),
  (8, 3, .goto 4, [6], 0, 0),
  (11, 1, .iconst 0, [], 0, 0),
  (12, 1, .istore_n 1, [1], 0, 0),
  (13, 1, .aload_n 0, [0], 0, 0),
  (14, 1, .iconst 0, [], 0, 0),
  (15, 3, .putfield 259, [3, 3, 1], 0, 0),
  (18, 1, .iload_n 1, [1], 0, 0),
  (19, 1, .ireturn, [], 0, 0)]
set_option maxRecDepth 100000 in
theorem kX3_tear : na_okP (na_mi MX3_tear) PX3_tear := ⟨by decide +kernel, na_lks_s lk_RX3 (by decide +kernel)⟩
def PX3_count : List En := [(0, 1, .iload_n 1, [1], 0, 0),
  (1, 31, .tableswitch 78 0 3 #[31, 39, 47, 65], [24, 2, 6, 10, 18], 0, 0),
  (32, 1, .aload_n 0, [0], 0, 0),
  (33, 3, .getfield 12, [3, 0], 0, 0),
  (36, 3, .getfield 179, [0, 7], 0, 0),
  (39, 1, .ireturn, [], 0, 0),
  (40, 1, .aload_n 0, [0], 0, 0),
  (41, 3, .getfield 25, [3, 4], 0, 0),
  (44, 3, .getfield 206, [2, 1], 0, 0),
  (47, 1, .ireturn, [], 0, 0),
  (48, 1, .aload_n 0, [0], 0, 0),
  (49, 3, .getfield 12, [3, 0], 0, 0),
  (52, 3, .getfield 113, [0, 10], 0, 0),
  (55, 1, .aload_n 0, [0], 0, 0),
  (56, 3, .getfield 12, [3, 0], 0, 0),
  (59, 3, .getfield 179, [0, 7], 0, 0),
  (62, 3, .invokestatic 133, [93, 2], 0, 0),
  (65, 1, .ireturn, [], 0, 0),
  (66, 1, .aload_n 0, [0], 0, 0),
  (67, 3, .getfield 12, [3, 0], 0, 0),
  (70, 3, .getfield 203, [0, 3], 0, 0),
  (73, 2, .bipush 8, [], 8, 0),
  (75, 3, .invokestatic 133, [93, 2], 0, 0),
  (78, 1, .ireturn, [], 0, 0),
  (79, 1, .aload_n 0, [0], 0, 0),
  (80, 2, .ldc 51, [], (-1000000001), 0),
  (82, 3, .invokevirtual 52, [82, 2, 3], 0, 0),
  (85, 1, .ireturn, [], 0, 0)]
set_option maxRecDepth 100000 in
theorem kX3_count : na_okP (na_mi MX3_count) PX3_count := ⟨by decide +kernel, na_lks_s lk_RX3 (by decide +kernel)⟩
def PX3_status : List En := [(0, 1, .iload_n 1, [1], 0, 0),
  (1, 1, .iconst (-1), [], (-1), 0),
  (2, 2, .bipush 6, [], 6, 0),
  (4, 3, .invokestatic 44, [86, 3], 0, 0),
  (7, 3, .ifCond .eq 10, [9], 0, 0),
  (10, 1, .aload_n 0, [0], 0, 0),
  (11, 2, .ldc 51, [], (-1000000001), 0),
  (13, 3, .invokevirtual 52, [82, 2, 3], 0, 0),
  (16, 1, .ireturn, [], 0, 0),
  (17, 1, .iload_n 1, [1], 0, 0),
  (18, 1, .iconst (-1), [], (-1), 0),
  (19, 3, .if_icmp .ne 15, [17], 0, 0),
  (22, 1, .aload_n 0, [0], 0, 0),
  (23, 3, .getfield 35, [3, 6], 0, 0),
  (26, 2, .bipush 7, [], 7, 0),
  (28, 3, .invokestatic 133, [93, 2], 0, 0),
  (31, 3, .goto 9, [21], 0, 0),
  (34, 1, .aload_n 0, [0], 0, 0),
  (35, 3, .getfield 35, [3, 6], 0, 0),
  (38, 1, .iload_n 1, [1], 0, 0),
  (39, 1, .iaload, [], 0, 0),
  (40, 1, .ireturn, [], 0, 0)]
set_option maxRecDepth 100000 in
theorem kX3_status : na_okP (na_mi MX3_status) PX3_status := ⟨by decide +kernel, na_lks_s lk_RX3 (by decide +kernel)⟩
def PX3_finding : List En := [(0, 2, .ldc 51, [], (-1000000001), 0),
  (2, 1, .iload_n 1, [1], 0, 0),
  (3, 1, .isub, [], 0, 0),
  (4, 1, .istore_n 2, [2], 0, 0),
  (5, 1, .iload_n 2, [2], 0, 0),
  (6, 1, .iconst 0, [], 0, 0),
  (7, 2, .bipush 6, [], 6, 0),
  (9, 3, .invokestatic 44, [86, 3], 0, 0),
  (12, 3, .ifCond .ne 13, [17], 0, 0),
  (15, 1, .aload_n 0, [0], 0, 0),
  (16, 3, .getfield 35, [3, 6], 0, 0),
  (19, 1, .iload_n 2, [2], 0, 0),
  (20, 1, .dup2, [], 0, 0),
  (21, 1, .iaload, [], 0, 0),
  (22, 1, .iconst 1, [], 1, 0),
  (23, 1, .iadd, [], 0, 0),
  (24, 1, .iastore, [], 0, 0),
  (25, 1, .iload_n 1, [1], 0, 0),
  (26, 1, .ireturn, [], 0, 0)]
set_option maxRecDepth 100000 in
theorem kX3_finding : na_okP (na_mi MX3_finding) PX3_finding := ⟨by decide +kernel, na_lks_s lk_RX3 (by decide +kernel)⟩
def PX3_nobody : List En := [(0, 1, .iload_n 1, [1], 0, 0),
  (1, 1, .iconst 0, [], 0, 0),
  (2, 1, .aload_n 0, [0], 0, 0),
  (3, 3, .getfield 12, [3, 0], 0, 0),
  (6, 3, .getfield 179, [0, 7], 0, 0),
  (9, 1, .iconst 1, [], 1, 0),
  (10, 1, .isub, [], 0, 0),
  (11, 3, .invokestatic 44, [86, 3], 0, 0),
  (14, 1, .ireturn, [], 0, 0)]
set_option maxRecDepth 100000 in
theorem kX3_nobody : na_okP (na_mi MX3_nobody) PX3_nobody := ⟨by decide +kernel, na_lks_s lk_RX3 (by decide +kernel)⟩
def PX3_startAhead : List En := [(0, 1, .aload_n 0, [0], 0, 0),
  (1, 3, .getfield 19, [3, 2], 0, 0),
  (4, 1, .aload_n 0, [0], 0, 0),
  (5, 3, .getfield 12, [3, 0], 0, 0),
  (8, 3, .invokevirtual 217, [0, 2, 0], 0, 0),
  (11, 1, .aload_n 0, [0], 0, 0),
  (12, 3, .getfield 19, [3, 2], 0, 0),
  (15, 1, .areturn, [], 0, 0)]
set_option maxRecDepth 100000 in
theorem kX3_startAhead : na_okP (na_mi MX3_startAhead) PX3_startAhead := ⟨by decide +kernel, na_lks_s lk_RX3 (by decide +kernel)⟩
def PX3_twoFiresDo : List En := [(0, 1, .iload_n 3, [3], 0, 0),
  (1, 2, .bipush 20, [], 20, 0),
  (3, 3, .invokestatic 263, [997], 0, 0),
  (6, 2, .istore 5, [5], 0, 0),
  (8, 1, .iload_n 3, [3], 0, 0),
  (9, 2, .iload 5, [5], 0, 0),
  (11, 1, .isub, [], 0, 0),
  (12, 2, .istore 6, [6], 0, 0),
  (14, 2, .iload 6, [6], 0, 0),
  (16, 2, .iload 5, [5], 0, 0),
  (18, 3, .if_icmp .gt 52, [36], 0, 0),
  (21, 1, .aload_n 0, [0], 0, 0),
  (22, 3, .invokevirtual 150, [84, 1, 3], 0, 0),
  (25, 2, .astore 7, [7], 0, 0),
  (27, 2, .aload 7, [7], 0, 0),
  (29, 3, .getfield 140, [0, 2], 0, 0),
  (32, 1, .iload_n 1, [1], 0, 0),
  (33, 2, .iload 6, [6], 0, 0),
  (35, 1, .iastore, [], 0, 0),
  (36, 2, .aload 7, [7], 0, 0),
  (38, 3, .getfield 140, [0, 2], 0, 0),
  (41, 1, .iload_n 2, [2], 0, 0),
  (42, 1, .iload_n 3, [3], 0, 0),
  (43, 2, .iload 6, [6], 0, 0),
  (45, 1, .isub, [], 0, 0),
  (46, 1, .iastore, [], 0, 0),
  (47, 2, .aload 7, [7], 0, 0),
  (49, 3, .sipush 255, [], 255, 0),
  (52, 2, .iload 4, [4], 0, 0),
  (54, 3, .invokevirtual 157, [20, 3, 0], 0, 0),
  (57, 2, .iload 4, [4], 0, 0),
  (59, 3, .if_icmp .ne 5, [34], 0, 0),
  (62, 1, .iconst 1, [], 1, 0),
  (63, 1, .ireturn, [], 0, 0),
  (64, 3, .iinc 6 1, [6], 1, 0),
  (67, 3, .goto (-53), [8], 0, 0),
  (70, 1, .iconst 0, [], 0, 0),
  (71, 1, .ireturn, [], 0, 0)]
set_option maxRecDepth 100000 in
theorem kX3_twoFiresDo : na_okP (na_mi MX3_twoFiresDo) PX3_twoFiresDo := ⟨by decide +kernel, na_lks_s lk_RX3 (by decide +kernel)⟩
def PX3_outside : List En := [(0, 1, .iload_n 0, [0], 0, 0),
  (1, 1, .iload_n 1, [1], 0, 0),
  (2, 3, .if_icmp .lt 8, [6], 0, 0),
  (5, 1, .iload_n 0, [0], 0, 0),
  (6, 1, .iload_n 2, [2], 0, 0),
  (7, 3, .if_icmp .le 7, [8], 0, 0),
  (10, 1, .iconst 1, [], 1, 0),
  (11, 3, .goto 4, [9], 0, 0),
  (14, 1, .iconst 0, [], 0, 0),
  (15, 1, .ireturn, [], 0, 0)]
set_option maxRecDepth 100000 in
theorem kX3_outside : na_okP (na_mi MX3_outside) PX3_outside := ⟨by decide +kernel, na_lks_s lk_RX3 (by decide +kernel)⟩
def PX3_noRoom : List En := [(0, 1, .iload_n 0, [0], 0, 0),
  (1, 1, .iconst 0, [], 0, 0),
  (2, 2, .bipush 7, [], 7, 0),
  (4, 3, .invokestatic 44, [86, 3], 0, 0),
  (7, 1, .ireturn, [], 0, 0)]
set_option maxRecDepth 100000 in
theorem kX3_noRoom : na_okP (na_mi MX3_noRoom) PX3_noRoom := ⟨by decide +kernel, na_lks_s lk_RX3 (by decide +kernel)⟩
def PX3_noKind : List En := [(0, 1, .iload_n 0, [0], 0, 0),
  (1, 1, .iconst 0, [], 0, 0),
  (2, 1, .iconst 5, [], 5, 0),
  (3, 3, .invokestatic 44, [86, 3], 0, 0),
  (6, 1, .ireturn, [], 0, 0)]
set_option maxRecDepth 100000 in
theorem kX3_noKind : na_okP (na_mi MX3_noKind) PX3_noKind := ⟨by decide +kernel, na_lks_s lk_RX3 (by decide +kernel)⟩
def PX3_noSheet : List En := [(0, 1, .iload_n 0, [0], 0, 0),
  (1, 1, .iconst 0, [], 0, 0),
  (2, 1, .iconst 3, [], 3, 0),
  (3, 3, .invokestatic 44, [86, 3], 0, 0),
  (6, 1, .ireturn, [], 0, 0)]
set_option maxRecDepth 100000 in
theorem kX3_noSheet : na_okP (na_mi MX3_noSheet) PX3_noSheet := ⟨by decide +kernel, na_lks_s lk_RX3 (by decide +kernel)⟩
end
section
/-! the programs of X3, checked (by program) -/
def PX3_isKindOf : List En := [(0, 1, .iload_n 0, [0], 0, 0),
  (1, 1, .istore_n 2, [2], 0, 0),
  (2, 1, .iconst 0, [], 0, 0),
  (3, 1, .istore_n 3, [3], 0, 0),
  (4, 1, .iload_n 3, [3], 0, 0),
  (5, 2, .bipush 6, [], 6, 0),
  (7, 3, .if_icmp .ge 29, [21], 0, 0),
  (10, 1, .iload_n 2, [2], 0, 0),
  (11, 3, .invokestatic 78, [88, 1], 0, 0),
  (14, 3, .ifCond .ne 22, [21], 0, 0),
  (17, 1, .iload_n 2, [2], 0, 0),
  (18, 1, .iload_n 1, [1], 0, 0),
  (19, 3, .if_icmp .ne 5, [15], 0, 0),
  (22, 1, .iconst 1, [], 1, 0),
  (23, 1, .ireturn, [], 0, 0),
  (24, 3, .getstatic 266, [3], 0, 0),
  (27, 1, .iload_n 2, [2], 0, 0),
  (28, 1, .iaload, [], 0, 0),
  (29, 1, .istore_n 2, [2], 0, 0),
  (30, 3, .iinc 3 1, [3], 1, 0),
  (33, 3, .goto (-29), [4], 0, 0),
  (36, 1, .iconst 0, [], 0, 0),
  (37, 1, .ireturn, [], 0, 0)]
set_option maxRecDepth 100000 in
theorem kX3_isKindOf : na_okP (na_mi MX3_isKindOf) PX3_isKindOf := ⟨by decide +kernel, na_lks_s lk_RX3 (by decide +kernel)⟩
def PX3_has : List En := [(0, 1, .iload_n 0, [0], 0, 0),
  (1, 1, .iload_n 1, [1], 0, 0),
  (2, 1, .ishr, [], 0, 0),
  (3, 1, .iconst 1, [], 1, 0),
  (4, 1, .iand, [], 0, 0),
  (5, 1, .iconst 1, [], 1, 0),
  (6, 3, .if_icmp .ne 7, [9], 0, 0),
  (9, 1, .iconst 1, [], 1, 0),
  (10, 3, .goto 4, [10], 0, 0),
  (13, 1, .iconst 0, [], 0, 0),
  (14, 1, .ireturn, [], 0, 0)]
set_option maxRecDepth 100000 in
theorem kX3_has : na_okP (na_mi MX3_has) PX3_has := ⟨by decide +kernel, na_lks_s lk_RX3 (by decide +kernel)⟩
def PX3_exchange : List En := [(0, 1, .aload_n 0, [0], 0, 0),
  (1, 1, .iload_n 1, [1], 0, 0),
  (2, 1, .iaload, [], 0, 0),
  (3, 1, .istore_n 3, [3], 0, 0),
  (4, 1, .aload_n 0, [0], 0, 0),
  (5, 1, .iload_n 1, [1], 0, 0),
  (6, 1, .iload_n 2, [2], 0, 0),
  (7, 1, .iastore, [], 0, 0),
  (8, 1, .iload_n 3, [3], 0, 0),
  (9, 1, .ireturn, [], 0, 0)]
set_option maxRecDepth 100000 in
theorem kX3_exchange : na_okP (na_mi MX3_exchange) PX3_exchange := ⟨by decide +kernel, na_lks_s lk_RX3 (by decide +kernel)⟩
def PX3_sum : List En := [(0, 1, .iconst 0, [], 0, 0),
  (1, 1, .istore_n 2, [2], 0, 0),
  (2, 1, .iconst 0, [], 0, 0),
  (3, 1, .istore_n 3, [3], 0, 0),
  (4, 1, .iload_n 3, [3], 0, 0),
  (5, 1, .iload_n 1, [1], 0, 0),
  (6, 3, .if_icmp .ge 21, [19], 0, 0),
  (9, 1, .iload_n 3, [3], 0, 0),
  (10, 1, .aload_n 0, [0], 0, 0),
  (11, 1, .arraylength, [], 0, 0),
  (12, 3, .if_icmp .ge 15, [19], 0, 0),
  (15, 1, .iload_n 2, [2], 0, 0),
  (16, 1, .aload_n 0, [0], 0, 0),
  (17, 1, .iload_n 3, [3], 0, 0),
  (18, 1, .iaload, [], 0, 0),
  (19, 1, .iadd, [], 0, 0),
  (20, 1, .istore_n 2, [2], 0, 0),
  (21, 3, .iinc 3 1, [3], 1, 0),
  (24, 3, .goto (-20), [4], 0, 0),
  (27, 1, .iload_n 2, [2], 0, 0),
  (28, 1, .ireturn, [], 0, 0)]
set_option maxRecDepth 100000 in
theorem kX3_sum : na_okP (na_mi MX3_sum) PX3_sum := ⟨by decide +kernel, na_lks_s lk_RX3 (by decide +kernel)⟩
end
section
/-! the programs of X4, checked (by program) -/
def PX4_in : List En := [(0, 1, .iload_n 0, [0], 0, 0),
  (1, 1, .iload_n 1, [1], 0, 0),
  (2, 3, .if_icmp .lt 12, [8], 0, 0),
  (5, 1, .iload_n 0, [0], 0, 0),
  (6, 1, .iload_n 2, [2], 0, 0),
  (7, 3, .if_icmp .gt 7, [8], 0, 0),
  (10, 1, .iconst 1, [], 1, 0),
  (11, 3, .goto 4, [9], 0, 0),
  (14, 1, .iconst 0, [], 0, 0),
  (15, 1, .ireturn, [], 0, 0)]
set_option maxRecDepth 100000 in
theorem kX4_in : na_okP (na_mi MX4_in) PX4_in := ⟨by decide +kernel, na_lks_s lk_RX4 (by decide +kernel)⟩
def PX4_finds : List En := [(0, 1, .aload_n 0, [0], 0, 0),
  (1, 3, .getfield 13, [4, 1], 0, 0),
  (4, 2, .ldc 41, [], (-1000000001), 0),
  (6, 1, .iload_n 1, [1], 0, 0),
  (7, 1, .isub, [], 0, 0),
  (8, 1, .dup2, [], 0, 0),
  (9, 1, .iaload, [], 0, 0),
  (10, 1, .iconst 1, [], 1, 0),
  (11, 1, .iadd, [], 0, 0),
  (12, 1, .iastore, [], 0, 0),
  (13, 1, .iload_n 1, [1], 0, 0),
  (14, 1, .ireturn, [], 0, 0)]
set_option maxRecDepth 100000 in
theorem kX4_finds : na_okP (na_mi MX4_finds) PX4_finds := ⟨by decide +kernel, na_lks_s lk_RX4 (by decide +kernel)⟩
def PX4_has : List En := [(0, 1, .iload_n 0, [0], 0, 0),
  (1, 1, .iload_n 1, [1], 0, 0),
  (2, 1, .ishr, [], 0, 0),
  (3, 1, .iconst 1, [], 1, 0),
  (4, 1, .iand, [], 0, 0),
  (5, 1, .iconst 1, [], 1, 0),
  (6, 3, .if_icmp .ne 7, [9], 0, 0),
  (9, 1, .iconst 1, [], 1, 0),
  (10, 3, .goto 4, [10], 0, 0),
  (13, 1, .iconst 0, [], 0, 0),
  (14, 1, .ireturn, [], 0, 0)]
set_option maxRecDepth 100000 in
theorem kX4_has : na_okP (na_mi MX4_has) PX4_has := ⟨by decide +kernel, na_lks_s lk_RX4 (by decide +kernel)⟩
def PX4_bits : List En := [(0, 1, .iconst 0, [], 0, 0),
  (1, 1, .istore_n 1, [1], 0, 0),
  (2, 1, .iconst 0, [], 0, 0),
  (3, 1, .istore_n 2, [2], 0, 0),
  (4, 1, .iload_n 2, [2], 0, 0),
  (5, 2, .bipush 8, [], 8, 0),
  (7, 3, .if_icmp .ge 17, [17], 0, 0),
  (10, 1, .iload_n 1, [1], 0, 0),
  (11, 1, .iload_n 0, [0], 0, 0),
  (12, 1, .iload_n 2, [2], 0, 0),
  (13, 1, .ishr, [], 0, 0),
  (14, 1, .iconst 1, [], 1, 0),
  (15, 1, .iand, [], 0, 0),
  (16, 1, .iadd, [], 0, 0),
  (17, 1, .istore_n 1, [1], 0, 0),
  (18, 3, .iinc 2 1, [2], 1, 0),
  (21, 3, .goto (-17), [4], 0, 0),
  (24, 1, .iload_n 1, [1], 0, 0),
  (25, 1, .ireturn, [], 0, 0)]
set_option maxRecDepth 100000 in
theorem kX4_bits : na_okP (na_mi MX4_bits) PX4_bits := ⟨by decide +kernel, na_lks_s lk_RX4 (by decide +kernel)⟩
def PX4_its : List En := [(0, 1, .aload_n 0, [0], 0, 0),
  (1, 3, .getfield 7, [4, 0], 0, 0),
  (4, 2, .bipush 36, [], 36, 0),
  (6, 1, .iconst 5, [], 5, 0),
  (7, 1, .iload_n 1, [1], 0, 0),
  (8, 1, .imul, [], 0, 0),
  (9, 1, .iadd, [], 0, 0),
  (10, 1, .iload_n 2, [2], 0, 0),
  (11, 1, .iadd, [], 0, 0),
  (12, 1, .iaload, [], 0, 0),
  (13, 1, .ireturn, [], 0, 0)]
set_option maxRecDepth 100000 in
theorem kX4_its : na_okP (na_mi MX4_its) PX4_its := ⟨by decide +kernel, na_lks_s lk_RX4 (by decide +kernel)⟩
def PX4_puts : List En := [(0, 1, .aload_n 0, [0], 0, 0),
  (1, 3, .getfield 7, [4, 0], 0, 0),
  (4, 2, .bipush 36, [], 36, 0),
  (6, 1, .iconst 5, [], 5, 0),
  (7, 1, .iload_n 1, [1], 0, 0),
  (8, 1, .imul, [], 0, 0),
  (9, 1, .iadd, [], 0, 0),
  (10, 1, .iload_n 2, [2], 0, 0),
  (11, 1, .iadd, [], 0, 0),
  (12, 1, .iload_n 3, [3], 0, 0),
  (13, 1, .iastore, [], 0, 0),
  (14, 1, .return_, [], 0, 0)]
set_option maxRecDepth 100000 in
theorem kX4_puts : na_okP (na_mi MX4_puts) PX4_puts := ⟨by decide +kernel, na_lks_s lk_RX4 (by decide +kernel)⟩
def PX4_there : List En := [(0, 1, .aload_n 0, [0], 0, 0),
  (1, 3, .getfield 7, [4, 0], 0, 0),
  (4, 1, .iconst 4, [], 4, 0),
  (5, 1, .iconst 4, [], 4, 0),
  (6, 1, .iload_n 1, [1], 0, 0),
  (7, 1, .imul, [], 0, 0),
  (8, 1, .iadd, [], 0, 0),
  (9, 1, .iload_n 2, [2], 0, 0),
  (10, 1, .iadd, [], 0, 0),
  (11, 1, .iaload, [], 0, 0),
  (12, 1, .ireturn, [], 0, 0)]
set_option maxRecDepth 100000 in
theorem kX4_there : na_okP (na_mi MX4_there) PX4_there := ⟨by decide +kernel, na_lks_s lk_RX4 (by decide +kernel)⟩
def PX4_lies : List En := [(0, 1, .aload_n 0, [0], 0, 0),
  (1, 3, .getfield 7, [4, 0], 0, 0),
  (4, 1, .iconst 4, [], 4, 0),
  (5, 1, .iconst 4, [], 4, 0),
  (6, 1, .iload_n 1, [1], 0, 0),
  (7, 1, .imul, [], 0, 0),
  (8, 1, .iadd, [], 0, 0),
  (9, 1, .iload_n 2, [2], 0, 0),
  (10, 1, .iadd, [], 0, 0),
  (11, 1, .iload_n 3, [3], 0, 0),
  (12, 3, .sipush 9999, [], 9999, 0),
  (15, 3, .if_icmp .le 9, [14], 0, 0),
  (18, 3, .sipush 9999, [], 9999, 0),
  (21, 3, .goto 4, [15], 0, 0),
  (24, 1, .iload_n 3, [3], 0, 0),
  (25, 1, .iastore, [], 0, 0),
  (26, 1, .return_, [], 0, 0)]
set_option maxRecDepth 100000 in
theorem kX4_lies : na_okP (na_mi MX4_lies) PX4_lies := ⟨by decide +kernel, na_lks_s lk_RX4 (by decide +kernel)⟩
def PX4_isOne : List En := [(0, 1, .iload_n 1, [1], 0, 0),
  (1, 1, .iconst 0, [], 0, 0),
  (2, 1, .aload_n 0, [0], 0, 0),
  (3, 3, .getfield 7, [4, 0], 0, 0),
  (6, 1, .iconst 3, [], 3, 0),
  (7, 1, .iaload, [], 0, 0),
  (8, 1, .iconst 1, [], 1, 0),
  (9, 1, .isub, [], 0, 0),
  (10, 3, .invokestatic 42, [94, 3], 0, 0),
  (13, 1, .ireturn, [], 0, 0)]
set_option maxRecDepth 100000 in
theorem kX4_isOne : na_okP (na_mi MX4_isOne) PX4_isOne := ⟨by decide +kernel, na_lks_s lk_RX4 (by decide +kernel)⟩
def PX4_isRoom : List En := [(0, 1, .iload_n 0, [0], 0, 0),
  (1, 1, .iconst 0, [], 0, 0),
  (2, 2, .bipush 7, [], 7, 0),
  (4, 3, .invokestatic 42, [94, 3], 0, 0),
  (7, 1, .ireturn, [], 0, 0)]
set_option maxRecDepth 100000 in
theorem kX4_isRoom : na_okP (na_mi MX4_isRoom) PX4_isRoom := ⟨by decide +kernel, na_lks_s lk_RX4 (by decide +kernel)⟩
def PX4_isKind : List En := [(0, 1, .iload_n 0, [0], 0, 0),
  (1, 1, .iconst 0, [], 0, 0),
  (2, 1, .iconst 5, [], 5, 0),
  (3, 3, .invokestatic 42, [94, 3], 0, 0),
  (6, 1, .ireturn, [], 0, 0)]
set_option maxRecDepth 100000 in
theorem kX4_isKind : na_okP (na_mi MX4_isKind) PX4_isKind := ⟨by decide +kernel, na_lks_s lk_RX4 (by decide +kernel)⟩
def PX4_isSpan : List En := [(0, 1, .iload_n 0, [0], 0, 0),
  (1, 1, .iconst 0, [], 0, 0),
  (2, 2, .bipush 40, [], 40, 0),
  (4, 3, .invokestatic 42, [94, 3], 0, 0),
  (7, 1, .ireturn, [], 0, 0)]
set_option maxRecDepth 100000 in
theorem kX4_isSpan : na_okP (na_mi MX4_isSpan) PX4_isSpan := ⟨by decide +kernel, na_lks_s lk_RX4 (by decide +kernel)⟩
def PX4_isTold : List En := [(0, 1, .iload_n 0, [0], 0, 0),
  (1, 3, .ifCond .eq 8, [5], 0, 0),
  (4, 1, .iload_n 0, [0], 0, 0),
  (5, 1, .iconst 1, [], 1, 0),
  (6, 3, .if_icmp .ne 14, [10], 0, 0),
  (9, 1, .iload_n 1, [1], 0, 0),
  (10, 1, .iconst 0, [], 0, 0),
  (11, 3, .sipush 9999, [], 9999, 0),
  (14, 3, .invokestatic 42, [94, 3], 0, 0),
  (17, 3, .goto 38, [29], 0, 0),
  (20, 1, .iload_n 0, [0], 0, 0),
  (21, 1, .iconst 2, [], 2, 0),
  (22, 3, .if_icmp .ne 13, [18], 0, 0),
  (25, 1, .iload_n 1, [1], 0, 0),
  (26, 1, .iconst 0, [], 0, 0),
  (27, 2, .bipush 99, [], 99, 0),
  (29, 3, .invokestatic 42, [94, 3], 0, 0),
  (32, 3, .goto 23, [29], 0, 0),
  (35, 1, .iload_n 0, [0], 0, 0),
  (36, 1, .iconst 3, [], 3, 0),
  (37, 3, .if_icmp .ne 17, [28], 0, 0),
  (40, 1, .iload_n 1, [1], 0, 0),
  (41, 1, .iconst 0, [], 0, 0),
  (42, 2, .bipush 9, [], 9, 0),
  (44, 3, .invokestatic 42, [94, 3], 0, 0),
  (47, 3, .ifCond .eq 7, [28], 0, 0),
  (50, 1, .iconst 1, [], 1, 0),
  (51, 3, .goto 4, [29], 0, 0),
  (54, 1, .iconst 0, [], 0, 0),
  (55, 1, .ireturn, [], 0, 0)]
set_option maxRecDepth 100000 in
theorem kX4_isTold : na_okP (na_mi MX4_isTold) PX4_isTold := ⟨by decide +kernel, na_lks_s lk_RX4 (by decide +kernel)⟩
def PX4_room : List En := [(0, 1, .iload_n 1, [1], 0, 0),
  (1, 3, .invokestatic 46, [103, 1], 0, 0),
  (4, 3, .ifCond .eq 11, [7], 0, 0),
  (7, 1, .iload_n 2, [2], 0, 0),
  (8, 1, .iload_n 3, [3], 0, 0),
  (9, 3, .invokestatic 50, [106, 2], 0, 0),
  (12, 3, .ifCond .ne 10, [11], 0, 0),
  (15, 1, .aload_n 0, [0], 0, 0),
  (16, 2, .ldc 41, [], (-1000000001), 0),
  (18, 3, .invokevirtual 54, [95, 2, 4], 0, 0),
  (21, 1, .ireturn, [], 0, 0),
  (22, 1, .aload_n 0, [0], 0, 0),
  (23, 1, .iload_n 1, [1], 0, 0),
  (24, 1, .iload_n 2, [2], 0, 0),
  (25, 3, .invokevirtual 58, [100, 3, 4], 0, 0),
  (28, 2, .istore 4, [4], 0, 0),
  (30, 1, .aload_n 0, [0], 0, 0),
  (31, 1, .iload_n 1, [1], 0, 0),
  (32, 1, .iload_n 2, [2], 0, 0),
  (33, 1, .iload_n 3, [3], 0, 0),
  (34, 3, .invokevirtual 62, [101, 4, 4], 0, 0),
  (37, 2, .iload 4, [4], 0, 0),
  (39, 1, .ireturn, [], 0, 0)]
set_option maxRecDepth 100000 in
theorem kX4_room : na_okP (na_mi MX4_room) PX4_room := ⟨by decide +kernel, na_lks_s lk_RX4 (by decide +kernel)⟩
def PX4_inside : List En := [(0, 1, .iconst 0, [], 0, 0),
  (1, 1, .istore_n 2, [2], 0, 0),
  (2, 1, .iconst 0, [], 0, 0),
  (3, 1, .istore_n 3, [3], 0, 0),
  (4, 1, .iload_n 3, [3], 0, 0),
  (5, 1, .aload_n 0, [0], 0, 0),
  (6, 3, .getfield 7, [4, 0], 0, 0),
  (9, 1, .iconst 3, [], 3, 0),
  (10, 1, .iaload, [], 0, 0),
  (11, 3, .if_icmp .ge 29, [26], 0, 0),
  (14, 1, .iload_n 2, [2], 0, 0),
  (15, 1, .aload_n 0, [0], 0, 0),
  (16, 1, .iload_n 3, [3], 0, 0),
  (17, 1, .iconst 1, [], 1, 0),
  (18, 3, .invokevirtual 66, [98, 3, 4], 0, 0),
  (21, 1, .iload_n 1, [1], 0, 0),
  (22, 3, .if_icmp .ne 9, [21], 0, 0),
  (25, 1, .iconst 1, [], 1, 0),
  (26, 1, .iload_n 3, [3], 0, 0),
  (27, 1, .ishl, [], 0, 0),
  (28, 3, .goto 4, [22], 0, 0),
  (31, 1, .iconst 0, [], 0, 0),
  (32, 1, .ior, [], 0, 0),
  (33, 1, .istore_n 2, [2], 0, 0),
  (34, 3, .iinc 3 1, [3], 1, 0),
  (37, 3, .goto (-33), [4], 0, 0),
  (40, 1, .iload_n 2, [2], 0, 0),
  (41, 1, .ireturn, [], 0, 0)]
set_option maxRecDepth 100000 in
theorem kX4_inside : na_okP (na_mi MX4_inside) PX4_inside := ⟨by decide +kernel, na_lks_s lk_RX4 (by decide +kernel)⟩
def PX4_breathedIn : List En := [(0, 1, .iconst 0, [], 0, 0),
  (1, 1, .istore_n 2, [2], 0, 0),
  (2, 1, .iconst 0, [], 0, 0),
  (3, 1, .istore_n 3, [3], 0, 0),
  (4, 1, .iload_n 3, [3], 0, 0),
  (5, 1, .aload_n 0, [0], 0, 0),
  (6, 3, .getfield 7, [4, 0], 0, 0),
  (9, 1, .iconst 3, [], 3, 0),
  (10, 1, .iaload, [], 0, 0),
  (11, 3, .if_icmp .ge 31, [26], 0, 0),
  (14, 1, .iload_n 2, [2], 0, 0),
  (15, 1, .aload_n 0, [0], 0, 0),
  (16, 1, .iload_n 3, [3], 0, 0),
  (17, 1, .iconst 1, [], 1, 0),
  (18, 3, .invokevirtual 66, [98, 3, 4], 0, 0),
  (21, 1, .iload_n 1, [1], 0, 0),
  (22, 3, .if_icmp .ne 11, [21], 0, 0),
  (25, 1, .aload_n 0, [0], 0, 0),
  (26, 1, .iload_n 3, [3], 0, 0),
  (27, 3, .invokevirtual 69, [117, 2, 4], 0, 0),
  (30, 3, .goto 4, [22], 0, 0),
  (33, 1, .iconst 0, [], 0, 0),
  (34, 1, .iadd, [], 0, 0),
  (35, 1, .istore_n 2, [2], 0, 0),
  (36, 3, .iinc 3 1, [3], 1, 0),
  (39, 3, .goto (-35), [4], 0, 0),
  (42, 1, .iload_n 2, [2], 0, 0),
  (43, 1, .ireturn, [], 0, 0)]
set_option maxRecDepth 100000 in
theorem kX4_breathedIn : na_okP (na_mi MX4_breathedIn) PX4_breathedIn := ⟨by decide +kernel, na_lks_s lk_RX4 (by decide +kernel)⟩
def PX4_roomOf : List En := [(0, 1, .iload_n 1, [1], 0, 0),
  (1, 3, .invokestatic 46, [103, 1], 0, 0),
  (4, 3, .ifCond .eq 12, [8], 0, 0),
  (7, 1, .iload_n 2, [2], 0, 0),
  (8, 1, .iconst 0, [], 0, 0),
  (9, 1, .iconst 5, [], 5, 0),
  (10, 3, .invokestatic 42, [94, 3], 0, 0),
  (13, 3, .ifCond .ne 10, [12], 0, 0),
  (16, 1, .aload_n 0, [0], 0, 0),
  (17, 2, .ldc 41, [], (-1000000001), 0),
  (19, 3, .invokevirtual 54, [95, 2, 4], 0, 0),
  (22, 1, .ireturn, [], 0, 0),
  (23, 1, .iload_n 2, [2], 0, 0),
  (24, 1, .iconst 4, [], 4, 0),
  (25, 3, .if_icmp .ne 11, [19], 0, 0),
  (28, 1, .aload_n 0, [0], 0, 0),
  (29, 1, .iload_n 1, [1], 0, 0),
  (30, 3, .invokevirtual 72, [108, 2, 4], 0, 0),
  (33, 3, .goto 22, [30], 0, 0),
  (36, 1, .iload_n 2, [2], 0, 0),
  (37, 1, .iconst 5, [], 5, 0),
  (38, 3, .if_icmp .ne 11, [26], 0, 0),
  (41, 1, .aload_n 0, [0], 0, 0),
  (42, 1, .iload_n 1, [1], 0, 0),
  (43, 3, .invokevirtual 75, [109, 2, 4], 0, 0),
  (46, 3, .goto 9, [30], 0, 0),
  (49, 1, .aload_n 0, [0], 0, 0),
  (50, 1, .iload_n 1, [1], 0, 0),
  (51, 1, .iload_n 2, [2], 0, 0),
  (52, 3, .invokevirtual 58, [100, 3, 4], 0, 0),
  (55, 1, .ireturn, [], 0, 0)]
set_option maxRecDepth 100000 in
theorem kX4_roomOf : na_okP (na_mi MX4_roomOf) PX4_roomOf := ⟨by decide +kernel, na_lks_s lk_RX4 (by decide +kernel)⟩
def PX4_opens : List En := [(0, 1, .aload_n 0, [0], 0, 0),
  (1, 3, .getfield 7, [4, 0], 0, 0),
  (4, 1, .iconst 2, [], 2, 0),
  (5, 1, .aload_n 0, [0], 0, 0),
  (6, 3, .getfield 7, [4, 0], 0, 0),
  (9, 1, .iconst 2, [], 2, 0),
  (10, 1, .iaload, [], 0, 0),
  (11, 1, .iconst 1, [], 1, 0),
  (12, 1, .iload_n 1, [1], 0, 0),
  (13, 1, .ishl, [], 0, 0),
  (14, 1, .iconst (-1), [], (-1), 0),
  (15, 1, .ixor, [], 0, 0),
  (16, 1, .iand, [], 0, 0),
  (17, 1, .iload_n 2, [2], 0, 0),
  (18, 1, .iload_n 1, [1], 0, 0),
  (19, 1, .ishl, [], 0, 0),
  (20, 1, .ior, [], 0, 0),
  (21, 1, .iastore, [], 0, 0),
  (22, 1, .return_, [], 0, 0)]
set_option maxRecDepth 100000 in
theorem kX4_opens : na_okP (na_mi MX4_opens) PX4_opens := ⟨by decide +kernel, na_lks_s lk_RX4 (by decide +kernel)⟩
def PX4_door : List En := [(0, 1, .iload_n 1, [1], 0, 0),
  (1, 1, .iconst 0, [], 0, 0),
  (2, 2, .bipush 6, [], 6, 0),
  (4, 3, .invokestatic 42, [94, 3], 0, 0),
  (7, 3, .ifCond .eq 12, [10], 0, 0),
  (10, 1, .iload_n 2, [2], 0, 0),
  (11, 1, .iconst 0, [], 0, 0),
  (12, 1, .iconst 1, [], 1, 0),
  (13, 3, .invokestatic 42, [94, 3], 0, 0),
  (16, 3, .ifCond .ne 10, [14], 0, 0),
  (19, 1, .aload_n 0, [0], 0, 0),
  (20, 2, .ldc 41, [], (-1000000001), 0),
  (22, 3, .invokevirtual 54, [95, 2, 4], 0, 0),
  (25, 1, .ireturn, [], 0, 0),
  (26, 1, .aload_n 0, [0], 0, 0),
  (27, 3, .getfield 7, [4, 0], 0, 0),
  (30, 1, .iconst 2, [], 2, 0),
  (31, 1, .iaload, [], 0, 0),
  (32, 1, .iload_n 1, [1], 0, 0),
  (33, 1, .ishr, [], 0, 0),
  (34, 1, .iconst 1, [], 1, 0),
  (35, 1, .iand, [], 0, 0),
  (36, 1, .istore_n 3, [3], 0, 0),
  (37, 1, .aload_n 0, [0], 0, 0),
  (38, 1, .iload_n 1, [1], 0, 0),
  (39, 1, .iload_n 2, [2], 0, 0),
  (40, 3, .invokevirtual 78, [111, 3, 4], 0, 0),
  (43, 1, .iload_n 3, [3], 0, 0),
  (44, 1, .ireturn, [], 0, 0)]
set_option maxRecDepth 100000 in
theorem kX4_door : na_okP (na_mi MX4_door) PX4_door := ⟨by decide +kernel, na_lks_s lk_RX4 (by decide +kernel)⟩
def PX4_cold : List En := [(0, 1, .iload_n 1, [1], 0, 0),
  (1, 1, .iconst 0, [], 0, 0),
  (2, 1, .iconst 1, [], 1, 0),
  (3, 3, .invokestatic 42, [94, 3], 0, 0),
  (6, 3, .ifCond .ne 10, [9], 0, 0),
  (9, 1, .aload_n 0, [0], 0, 0),
  (10, 2, .ldc 41, [], (-1000000001), 0),
  (12, 3, .invokevirtual 54, [95, 2, 4], 0, 0),
  (15, 1, .ireturn, [], 0, 0),
  (16, 1, .aload_n 0, [0], 0, 0),
  (17, 3, .getfield 7, [4, 0], 0, 0),
  (20, 1, .iconst 1, [], 1, 0),
  (21, 1, .iaload, [], 0, 0),
  (22, 1, .istore_n 2, [2], 0, 0),
  (23, 1, .aload_n 0, [0], 0, 0),
  (24, 3, .getfield 7, [4, 0], 0, 0),
  (27, 1, .iconst 1, [], 1, 0),
  (28, 1, .iload_n 1, [1], 0, 0),
  (29, 1, .iastore, [], 0, 0),
  (30, 1, .iload_n 2, [2], 0, 0),
  (31, 1, .ireturn, [], 0, 0)]
set_option maxRecDepth 100000 in
theorem kX4_cold : na_okP (na_mi MX4_cold) PX4_cold := ⟨by decide +kernel, na_lks_s lk_RX4 (by decide +kernel)⟩
def PX4_addOne : List En := [(0, 1, .aload_n 0, [0], 0, 0),
  (1, 3, .getfield 7, [4, 0], 0, 0),
  (4, 1, .iconst 3, [], 3, 0),
  (5, 1, .iaload, [], 0, 0),
  (6, 2, .istore 4, [4], 0, 0),
  (8, 1, .aload_n 0, [0], 0, 0),
  (9, 2, .iload 4, [4], 0, 0),
  (11, 1, .iconst 0, [], 0, 0),
  (12, 1, .iload_n 1, [1], 0, 0),
  (13, 3, .invokevirtual 82, [99, 4, 4], 0, 0),
  (16, 1, .aload_n 0, [0], 0, 0),
  (17, 2, .iload 4, [4], 0, 0),
  (19, 1, .iconst 1, [], 1, 0),
  (20, 1, .iload_n 2, [2], 0, 0),
  (21, 3, .invokevirtual 82, [99, 4, 4], 0, 0),
  (24, 1, .aload_n 0, [0], 0, 0),
  (25, 2, .iload 4, [4], 0, 0),
  (27, 1, .iconst 2, [], 2, 0),
  (28, 1, .iload_n 3, [3], 0, 0),
  (29, 3, .invokevirtual 82, [99, 4, 4], 0, 0),
  (32, 1, .aload_n 0, [0], 0, 0),
  (33, 2, .iload 4, [4], 0, 0),
  (35, 1, .iconst 3, [], 3, 0),
  (36, 1, .iconst 0, [], 0, 0),
  (37, 3, .invokevirtual 82, [99, 4, 4], 0, 0),
  (40, 1, .aload_n 0, [0], 0, 0),
  (41, 2, .iload 4, [4], 0, 0),
  (43, 1, .iconst 4, [], 4, 0),
  (44, 1, .iconst 0, [], 0, 0),
  (45, 3, .invokevirtual 82, [99, 4, 4], 0, 0),
  (48, 1, .aload_n 0, [0], 0, 0),
  (49, 3, .getfield 7, [4, 0], 0, 0),
  (52, 1, .iconst 3, [], 3, 0),
  (53, 1, .dup2, [], 0, 0),
  (54, 1, .iaload, [], 0, 0),
  (55, 1, .iconst 1, [], 1, 0),
  (56, 1, .iadd, [], 0, 0),
  (57, 1, .iastore, [], 0, 0),
  (58, 1, .return_, [], 0, 0)]
set_option maxRecDepth 100000 in
theorem kX4_addOne : na_okP (na_mi MX4_addOne) PX4_addOne := ⟨by decide +kernel, na_lks_s lk_RX4 (by decide +kernel)⟩
def PX4_one : List En := [(0, 1, .iload_n 1, [1], 0, 0),
  (1, 3, .invokestatic 85, [104, 1], 0, 0),
  (4, 3, .ifCond .eq 10, [6], 0, 0),
  (7, 1, .iload_n 2, [2], 0, 0),
  (8, 3, .invokestatic 46, [103, 1], 0, 0),
  (11, 3, .ifCond .ne 10, [10], 0, 0),
  (14, 1, .aload_n 0, [0], 0, 0),
  (15, 2, .ldc 41, [], (-1000000001), 0),
  (17, 3, .invokevirtual 54, [95, 2, 4], 0, 0),
  (20, 1, .ireturn, [], 0, 0),
  (21, 1, .aload_n 0, [0], 0, 0),
  (22, 3, .getfield 7, [4, 0], 0, 0),
  (25, 1, .iconst 3, [], 3, 0),
  (26, 1, .iaload, [], 0, 0),
  (27, 2, .bipush 8, [], 8, 0),
  (29, 3, .if_icmp .ne 10, [20], 0, 0),
  (32, 1, .aload_n 0, [0], 0, 0),
  (33, 2, .ldc 88, [], (-1000000002), 0),
  (35, 3, .invokevirtual 54, [95, 2, 4], 0, 0),
  (38, 1, .ireturn, [], 0, 0),
  (39, 1, .aload_n 0, [0], 0, 0),
  (40, 1, .iload_n 1, [1], 0, 0),
  (41, 1, .iload_n 2, [2], 0, 0),
  (42, 1, .iconst 3, [], 3, 0),
  (43, 3, .invokevirtual 89, [114, 4, 4], 0, 0),
  (46, 1, .aload_n 0, [0], 0, 0),
  (47, 3, .getfield 7, [4, 0], 0, 0),
  (50, 1, .iconst 3, [], 3, 0),
  (51, 1, .iaload, [], 0, 0),
  (52, 1, .iconst 1, [], 1, 0),
  (53, 1, .isub, [], 0, 0),
  (54, 1, .ireturn, [], 0, 0)]
set_option maxRecDepth 100000 in
theorem kX4_one : na_okP (na_mi MX4_one) PX4_one := ⟨by decide +kernel, na_lks_s lk_RX4 (by decide +kernel)⟩
def PX4_singers : List En := [(0, 1, .iconst 0, [], 0, 0),
  (1, 1, .istore_n 2, [2], 0, 0),
  (2, 1, .iconst 0, [], 0, 0),
  (3, 1, .istore_n 3, [3], 0, 0),
  (4, 1, .iload_n 3, [3], 0, 0),
  (5, 1, .aload_n 0, [0], 0, 0),
  (6, 3, .getfield 7, [4, 0], 0, 0),
  (9, 1, .iconst 3, [], 3, 0),
  (10, 1, .iaload, [], 0, 0),
  (11, 3, .if_icmp .ge 56, [41], 0, 0),
  (14, 1, .iload_n 2, [2], 0, 0),
  (15, 1, .iload_n 3, [3], 0, 0),
  (16, 1, .iload_n 1, [1], 0, 0),
  (17, 3, .if_icmp .eq 41, [36], 0, 0),
  (20, 1, .aload_n 0, [0], 0, 0),
  (21, 1, .iload_n 3, [3], 0, 0),
  (22, 1, .iconst 0, [], 0, 0),
  (23, 3, .invokevirtual 66, [98, 3, 4], 0, 0),
  (26, 1, .iconst 4, [], 4, 0),
  (27, 3, .if_icmp .ne 31, [36], 0, 0),
  (30, 1, .aload_n 0, [0], 0, 0),
  (31, 1, .iload_n 3, [3], 0, 0),
  (32, 1, .iconst 1, [], 1, 0),
  (33, 3, .invokevirtual 66, [98, 3, 4], 0, 0),
  (36, 1, .aload_n 0, [0], 0, 0),
  (37, 1, .iload_n 1, [1], 0, 0),
  (38, 1, .iconst 1, [], 1, 0),
  (39, 3, .invokevirtual 66, [98, 3, 4], 0, 0),
  (42, 3, .if_icmp .ne 16, [36], 0, 0),
  (45, 1, .aload_n 0, [0], 0, 0),
  (46, 1, .iload_n 3, [3], 0, 0),
  (47, 1, .iconst 4, [], 4, 0),
  (48, 3, .invokevirtual 66, [98, 3, 4], 0, 0),
  (51, 3, .ifCond .ne 7, [36], 0, 0),
  (54, 1, .iconst 1, [], 1, 0),
  (55, 3, .goto 4, [37], 0, 0),
  (58, 1, .iconst 0, [], 0, 0),
  (59, 1, .iadd, [], 0, 0),
  (60, 1, .istore_n 2, [2], 0, 0),
  (61, 3, .iinc 3 1, [3], 1, 0),
  (64, 3, .goto (-60), [4], 0, 0),
  (67, 1, .iload_n 2, [2], 0, 0),
  (68, 1, .ireturn, [], 0, 0)]
set_option maxRecDepth 100000 in
theorem kX4_singers : na_okP (na_mi MX4_singers) PX4_singers := ⟨by decide +kernel, na_lks_s lk_RX4 (by decide +kernel)⟩
def PX4_breathes : List En := [(0, 1, .aload_n 0, [0], 0, 0),
  (1, 1, .iload_n 1, [1], 0, 0),
  (2, 1, .iconst 2, [], 2, 0),
  (3, 3, .invokevirtual 66, [98, 3, 4], 0, 0),
  (6, 1, .istore_n 2, [2], 0, 0),
  (7, 1, .aload_n 0, [0], 0, 0),
  (8, 1, .iload_n 1, [1], 0, 0),
  (9, 1, .iconst 4, [], 4, 0),
  (10, 3, .invokevirtual 66, [98, 3, 4], 0, 0),
  (13, 1, .iconst 1, [], 1, 0),
  (14, 3, .if_icmp .ne 5, [13], 0, 0),
  (17, 1, .iconst 0, [], 0, 0),
  (18, 1, .ireturn, [], 0, 0),
  (19, 1, .aload_n 0, [0], 0, 0),
  (20, 1, .iload_n 1, [1], 0, 0),
  (21, 1, .iconst 0, [], 0, 0),
  (22, 3, .invokevirtual 66, [98, 3, 4], 0, 0),
  (25, 35, .tableswitch 77 1 5 #[35, 39, 45, 61, 71], [52, 18, 22, 28, 38, 46], 0, 0),
  (60, 1, .iconst 2, [], 2, 0),
  (61, 1, .iload_n 2, [2], 0, 0),
  (62, 1, .imul, [], 0, 0),
  (63, 1, .ireturn, [], 0, 0),
  (64, 1, .iload_n 2, [2], 0, 0),
  (65, 1, .iconst 2, [], 2, 0),
  (66, 1, .idiv, [], 0, 0),
  (67, 1, .iconst 1, [], 1, 0),
  (68, 1, .iadd, [], 0, 0),
  (69, 1, .ireturn, [], 0, 0),
  (70, 1, .aload_n 0, [0], 0, 0),
  (71, 1, .iload_n 1, [1], 0, 0),
  (72, 1, .iconst 3, [], 3, 0),
  (73, 3, .invokevirtual 66, [98, 3, 4], 0, 0),
  (76, 1, .iload_n 2, [2], 0, 0),
  (77, 3, .if_icmp .ge 7, [36], 0, 0),
  (80, 1, .iconst 0, [], 0, 0),
  (81, 3, .goto 4, [37], 0, 0),
  (84, 1, .iload_n 2, [2], 0, 0),
  (85, 1, .ireturn, [], 0, 0),
  (86, 1, .iconst 2, [], 2, 0),
  (87, 1, .iload_n 2, [2], 0, 0),
  (88, 1, .imul, [], 0, 0),
  (89, 1, .aload_n 0, [0], 0, 0),
  (90, 1, .iload_n 1, [1], 0, 0),
  (91, 3, .invokevirtual 92, [116, 2, 4], 0, 0),
  (94, 1, .iadd, [], 0, 0),
  (95, 1, .ireturn, [], 0, 0),
  (96, 1, .iload_n 2, [2], 0, 0),
  (97, 1, .iconst 2, [], 2, 0),
  (98, 1, .idiv, [], 0, 0),
  (99, 1, .iconst 2, [], 2, 0),
  (100, 1, .iadd, [], 0, 0),
  (101, 1, .ireturn, [], 0, 0),
  (102, 1, .iload_n 2, [2], 0, 0),
  (103, 1, .ireturn, [], 0, 0)]
set_option maxRecDepth 100000 in
theorem kX4_breathes : na_okP (na_mi MX4_breathes) PX4_breathes := ⟨by decide +kernel, na_lks_s lk_RX4 (by decide +kernel)⟩
def PX4_of : List En := [(0, 1, .aload_n 0, [0], 0, 0),
  (1, 1, .iload_n 1, [1], 0, 0),
  (2, 3, .invokevirtual 95, [102, 2, 4], 0, 0),
  (5, 3, .ifCond .eq 12, [9], 0, 0),
  (8, 1, .iload_n 2, [2], 0, 0),
  (9, 1, .iconst 0, [], 0, 0),
  (10, 1, .iconst 5, [], 5, 0),
  (11, 3, .invokestatic 42, [94, 3], 0, 0),
  (14, 3, .ifCond .ne 10, [13], 0, 0),
  (17, 1, .aload_n 0, [0], 0, 0),
  (18, 2, .ldc 41, [], (-1000000001), 0),
  (20, 3, .invokevirtual 54, [95, 2, 4], 0, 0),
  (23, 1, .ireturn, [], 0, 0),
  (24, 1, .iload_n 2, [2], 0, 0),
  (25, 1, .iconst 5, [], 5, 0),
  (26, 3, .if_icmp .ne 11, [20], 0, 0),
  (29, 1, .aload_n 0, [0], 0, 0),
  (30, 1, .iload_n 1, [1], 0, 0),
  (31, 3, .invokevirtual 69, [117, 2, 4], 0, 0),
  (34, 3, .goto 9, [24], 0, 0),
  (37, 1, .aload_n 0, [0], 0, 0),
  (38, 1, .iload_n 1, [1], 0, 0),
  (39, 1, .iload_n 2, [2], 0, 0),
  (40, 3, .invokevirtual 66, [98, 3, 4], 0, 0),
  (43, 1, .ireturn, [], 0, 0)]
set_option maxRecDepth 100000 in
theorem kX4_of : na_okP (na_mi MX4_of) PX4_of := ⟨by decide +kernel, na_lks_s lk_RX4 (by decide +kernel)⟩
def PX4_set : List En := [(0, 1, .iload_n 2, [2], 0, 0),
  (1, 1, .iconst 1, [], 1, 0),
  (2, 3, .if_icmp .ne 10, [6], 0, 0),
  (5, 1, .iload_n 3, [3], 0, 0),
  (6, 3, .invokestatic 46, [103, 1], 0, 0),
  (9, 3, .goto 53, [33], 0, 0),
  (12, 1, .iload_n 2, [2], 0, 0),
  (13, 1, .iconst 2, [], 2, 0),
  (14, 3, .if_icmp .ne 13, [14], 0, 0),
  (17, 1, .iload_n 3, [3], 0, 0),
  (18, 1, .iconst 1, [], 1, 0),
  (19, 2, .bipush 20, [], 20, 0),
  (21, 3, .invokestatic 42, [94, 3], 0, 0),
  (24, 3, .goto 38, [33], 0, 0),
  (27, 1, .iload_n 2, [2], 0, 0),
  (28, 1, .iconst 3, [], 3, 0),
  (29, 3, .if_icmp .ne 14, [22], 0, 0),
  (32, 1, .iload_n 3, [3], 0, 0),
  (33, 1, .iconst 0, [], 0, 0),
  (34, 3, .sipush 999, [], 999, 0),
  (37, 3, .invokestatic 42, [94, 3], 0, 0),
  (40, 3, .goto 22, [33], 0, 0),
  (43, 1, .iload_n 2, [2], 0, 0),
  (44, 1, .iconst 4, [], 4, 0),
  (45, 3, .if_icmp .ne 16, [32], 0, 0),
  (48, 1, .iload_n 3, [3], 0, 0),
  (49, 1, .iconst 0, [], 0, 0),
  (50, 1, .iconst 1, [], 1, 0),
  (51, 3, .invokestatic 42, [94, 3], 0, 0),
  (54, 3, .ifCond .eq 7, [32], 0, 0),
  (57, 1, .iconst 1, [], 1, 0),
  (58, 3, .goto 4, [33], 0, 0),
  (61, 1, .iconst 0, [], 0, 0),
  (62, 2, .istore 4, [4], 0, 0),
  (64, 1, .aload_n 0, [0], 0, 0),
  (65, 1, .iload_n 1, [1], 0, 0),
  (66, 3, .invokevirtual 95, [102, 2, 4], 0, 0),
  (69, 3, .ifCond .eq 8, [40], 0, 0),
  (72, 2, .iload 4, [4], 0, 0),
  (74, 3, .ifCond .ne 10, [44], 0, 0),
  (77, 1, .aload_n 0, [0], 0, 0),
  (78, 2, .ldc 41, [], (-1000000001), 0),
  (80, 3, .invokevirtual 54, [95, 2, 4], 0, 0),
  (83, 1, .ireturn, [], 0, 0),
  (84, 1, .aload_n 0, [0], 0, 0),
  (85, 1, .iload_n 1, [1], 0, 0),
  (86, 1, .iload_n 2, [2], 0, 0),
  (87, 3, .invokevirtual 66, [98, 3, 4], 0, 0),
  (90, 2, .istore 5, [5], 0, 0),
  (92, 1, .aload_n 0, [0], 0, 0),
  (93, 1, .iload_n 1, [1], 0, 0),
  (94, 1, .iload_n 2, [2], 0, 0),
  (95, 1, .iload_n 3, [3], 0, 0),
  (96, 3, .invokevirtual 82, [99, 4, 4], 0, 0),
  (99, 2, .iload 5, [5], 0, 0),
  (101, 1, .ireturn, [], 0, 0)]
set_option maxRecDepth 100000 in
theorem kX4_set : na_okP (na_mi MX4_set) PX4_set := ⟨by decide +kernel, na_lks_s lk_RX4 (by decide +kernel)⟩
def PX4_turn : List En := [(0, 1, .aload_n 0, [0], 0, 0),
  (1, 1, .iload_n 1, [1], 0, 0),
  (2, 3, .invokevirtual 95, [102, 2, 4], 0, 0),
  (5, 3, .ifCond .eq 10, [7], 0, 0),
  (8, 1, .iload_n 2, [2], 0, 0),
  (9, 3, .invokestatic 85, [104, 1], 0, 0),
  (12, 3, .ifCond .ne 10, [11], 0, 0),
  (15, 1, .aload_n 0, [0], 0, 0),
  (16, 2, .ldc 41, [], (-1000000001), 0),
  (18, 3, .invokevirtual 54, [95, 2, 4], 0, 0),
  (21, 1, .ireturn, [], 0, 0),
  (22, 1, .aload_n 0, [0], 0, 0),
  (23, 1, .iload_n 1, [1], 0, 0),
  (24, 1, .iconst 0, [], 0, 0),
  (25, 3, .invokevirtual 66, [98, 3, 4], 0, 0),
  (28, 1, .istore_n 3, [3], 0, 0),
  (29, 1, .aload_n 0, [0], 0, 0),
  (30, 1, .iload_n 1, [1], 0, 0),
  (31, 1, .iconst 0, [], 0, 0),
  (32, 1, .iload_n 2, [2], 0, 0),
  (33, 3, .invokevirtual 82, [99, 4, 4], 0, 0),
  (36, 1, .iload_n 3, [3], 0, 0),
  (37, 1, .ireturn, [], 0, 0)]
set_option maxRecDepth 100000 in
theorem kX4_turn : na_okP (na_mi MX4_turn) PX4_turn := ⟨by decide +kernel, na_lks_s lk_RX4 (by decide +kernel)⟩
def PX4_as : List En := [(0, 1, .aload_n 0, [0], 0, 0),
  (1, 1, .iload_n 1, [1], 0, 0),
  (2, 3, .invokevirtual 95, [102, 2, 4], 0, 0),
  (5, 3, .ifCond .eq 10, [7], 0, 0),
  (8, 1, .iload_n 2, [2], 0, 0),
  (9, 3, .invokestatic 85, [104, 1], 0, 0),
  (12, 3, .ifCond .ne 10, [11], 0, 0),
  (15, 1, .aload_n 0, [0], 0, 0),
  (16, 2, .ldc 41, [], (-1000000001), 0),
  (18, 3, .invokevirtual 54, [95, 2, 4], 0, 0),
  (21, 1, .ireturn, [], 0, 0),
  (22, 1, .aload_n 0, [0], 0, 0),
  (23, 1, .iload_n 1, [1], 0, 0),
  (24, 1, .iconst 0, [], 0, 0),
  (25, 3, .invokevirtual 66, [98, 3, 4], 0, 0),
  (28, 1, .istore_n 3, [3], 0, 0),
  (29, 1, .iload_n 2, [2], 0, 0),
  (30, 3, .ifCond .eq 28, [33], 0, 0),
  (33, 1, .iload_n 2, [2], 0, 0),
  (34, 1, .iload_n 3, [3], 0, 0),
  (35, 3, .if_icmp .eq 23, [33], 0, 0),
  (38, 1, .iload_n 2, [2], 0, 0),
  (39, 1, .iconst 1, [], 1, 0),
  (40, 3, .if_icmp .ne 8, [27], 0, 0),
  (43, 1, .iload_n 3, [3], 0, 0),
  (44, 1, .iconst 4, [], 4, 0),
  (45, 3, .if_icmp .eq 13, [33], 0, 0),
  (48, 1, .iload_n 2, [2], 0, 0),
  (49, 1, .iconst 2, [], 2, 0),
  (50, 3, .if_icmp .ne 12, [35], 0, 0),
  (53, 1, .iload_n 3, [3], 0, 0),
  (54, 1, .iconst 5, [], 5, 0),
  (55, 3, .if_icmp .ne 7, [35], 0, 0),
  (58, 1, .iconst 1, [], 1, 0),
  (59, 3, .goto 4, [36], 0, 0),
  (62, 1, .iconst 0, [], 0, 0),
  (63, 2, .istore 4, [4], 0, 0),
  (65, 2, .iload 4, [4], 0, 0),
  (67, 3, .ifCond .eq 12, [44], 0, 0),
  (70, 1, .aload_n 0, [0], 0, 0),
  (71, 1, .iload_n 1, [1], 0, 0),
  (72, 1, .iconst 2, [], 2, 0),
  (73, 3, .invokevirtual 66, [98, 3, 4], 0, 0),
  (76, 3, .goto 9, [47], 0, 0),
  (79, 1, .aload_n 0, [0], 0, 0),
  (80, 2, .ldc 98, [], (-1000000003), 0),
  (82, 3, .invokevirtual 54, [95, 2, 4], 0, 0),
  (85, 1, .ireturn, [], 0, 0)]
set_option maxRecDepth 100000 in
theorem kX4_as : na_okP (na_mi MX4_as) PX4_as := ⟨by decide +kernel, na_lks_s lk_RX4 (by decide +kernel)⟩
def PX4_leaves : List En := [(0, 2, .bipush 36, [], 36, 0),
  (2, 1, .iconst 5, [], 5, 0),
  (3, 1, .iload_n 1, [1], 0, 0),
  (4, 1, .imul, [], 0, 0),
  (5, 1, .iadd, [], 0, 0),
  (6, 1, .istore_n 2, [2], 0, 0),
  (7, 1, .iload_n 2, [2], 0, 0),
  (8, 2, .bipush 36, [], 36, 0),
  (10, 1, .iconst 5, [], 5, 0),
  (11, 1, .aload_n 0, [0], 0, 0),
  (12, 3, .getfield 7, [4, 0], 0, 0),
  (15, 1, .iconst 3, [], 3, 0),
  (16, 1, .iaload, [], 0, 0),
  (17, 1, .iconst 1, [], 1, 0),
  (18, 1, .isub, [], 0, 0),
  (19, 1, .imul, [], 0, 0),
  (20, 1, .iadd, [], 0, 0),
  (21, 3, .if_icmp .ge 23, [30], 0, 0),
  (24, 1, .aload_n 0, [0], 0, 0),
  (25, 3, .getfield 7, [4, 0], 0, 0),
  (28, 1, .iload_n 2, [2], 0, 0),
  (29, 1, .aload_n 0, [0], 0, 0),
  (30, 3, .getfield 7, [4, 0], 0, 0),
  (33, 1, .iload_n 2, [2], 0, 0),
  (34, 1, .iconst 5, [], 5, 0),
  (35, 1, .iadd, [], 0, 0),
  (36, 1, .iaload, [], 0, 0),
  (37, 1, .iastore, [], 0, 0),
  (38, 3, .iinc 2 1, [2], 1, 0),
  (41, 3, .goto (-34), [6], 0, 0),
  (44, 1, .aload_n 0, [0], 0, 0),
  (45, 3, .getfield 7, [4, 0], 0, 0),
  (48, 1, .iconst 3, [], 3, 0),
  (49, 1, .dup2, [], 0, 0),
  (50, 1, .iaload, [], 0, 0),
  (51, 1, .iconst 1, [], 1, 0),
  (52, 1, .isub, [], 0, 0),
  (53, 1, .iastore, [], 0, 0),
  (54, 1, .return_, [], 0, 0)]
set_option maxRecDepth 100000 in
theorem kX4_leaves : na_okP (na_mi MX4_leaves) PX4_leaves := ⟨by decide +kernel, na_lks_s lk_RX4 (by decide +kernel)⟩
def PX4_goes : List En := [(0, 1, .aload_n 0, [0], 0, 0),
  (1, 1, .iload_n 1, [1], 0, 0),
  (2, 3, .invokevirtual 95, [102, 2, 4], 0, 0),
  (5, 3, .ifCond .ne 10, [8], 0, 0),
  (8, 1, .aload_n 0, [0], 0, 0),
  (9, 2, .ldc 41, [], (-1000000001), 0),
  (11, 3, .invokevirtual 54, [95, 2, 4], 0, 0),
  (14, 1, .ireturn, [], 0, 0),
  (15, 1, .aload_n 0, [0], 0, 0),
  (16, 1, .iload_n 1, [1], 0, 0),
  (17, 1, .iconst 3, [], 3, 0),
  (18, 3, .invokevirtual 66, [98, 3, 4], 0, 0),
  (21, 1, .istore_n 2, [2], 0, 0),
  (22, 1, .aload_n 0, [0], 0, 0),
  (23, 1, .iload_n 1, [1], 0, 0),
  (24, 3, .invokevirtual 99, [122, 2, 4], 0, 0),
  (27, 1, .iload_n 2, [2], 0, 0),
  (28, 1, .ireturn, [], 0, 0)]
set_option maxRecDepth 100000 in
theorem kX4_goes : na_okP (na_mi MX4_goes) PX4_goes := ⟨by decide +kernel, na_lks_s lk_RX4 (by decide +kernel)⟩
def PX4_freezes : List En := [(0, 1, .aload_n 0, [0], 0, 0),
  (1, 1, .iload_n 1, [1], 0, 0),
  (2, 1, .iconst 0, [], 0, 0),
  (3, 3, .invokevirtual 58, [100, 3, 4], 0, 0),
  (6, 2, .bipush 9, [], 9, 0),
  (8, 1, .aload_n 0, [0], 0, 0),
  (9, 1, .iload_n 1, [1], 0, 0),
  (10, 1, .iconst 3, [], 3, 0),
  (11, 3, .invokevirtual 58, [100, 3, 4], 0, 0),
  (14, 1, .isub, [], 0, 0),
  (15, 1, .imul, [], 0, 0),
  (16, 2, .bipush 20, [], 20, 0),
  (18, 1, .idiv, [], 0, 0),
  (19, 1, .istore_n 2, [2], 0, 0),
  (20, 1, .aload_n 0, [0], 0, 0),
  (21, 1, .iload_n 1, [1], 0, 0),
  (22, 1, .iconst 1, [], 1, 0),
  (23, 1, .aload_n 0, [0], 0, 0),
  (24, 1, .iload_n 1, [1], 0, 0),
  (25, 1, .iconst 1, [], 1, 0),
  (26, 3, .invokevirtual 58, [100, 3, 4], 0, 0),
  (29, 1, .iload_n 2, [2], 0, 0),
  (30, 1, .iadd, [], 0, 0),
  (31, 3, .invokevirtual 62, [101, 4, 4], 0, 0),
  (34, 1, .aload_n 0, [0], 0, 0),
  (35, 1, .iload_n 1, [1], 0, 0),
  (36, 1, .iconst 0, [], 0, 0),
  (37, 1, .aload_n 0, [0], 0, 0),
  (38, 1, .iload_n 1, [1], 0, 0),
  (39, 1, .iconst 0, [], 0, 0),
  (40, 3, .invokevirtual 58, [100, 3, 4], 0, 0),
  (43, 1, .iload_n 2, [2], 0, 0),
  (44, 1, .isub, [], 0, 0),
  (45, 3, .invokevirtual 62, [101, 4, 4], 0, 0),
  (48, 1, .return_, [], 0, 0)]
set_option maxRecDepth 100000 in
theorem kX4_freezes : na_okP (na_mi MX4_freezes) PX4_freezes := ⟨by decide +kernel, na_lks_s lk_RX4 (by decide +kernel)⟩
def PX4_thaws : List En := [(0, 1, .aload_n 0, [0], 0, 0),
  (1, 1, .iload_n 1, [1], 0, 0),
  (2, 1, .iconst 2, [], 2, 0),
  (3, 3, .invokevirtual 58, [100, 3, 4], 0, 0),
  (6, 1, .aload_n 0, [0], 0, 0),
  (7, 1, .iload_n 1, [1], 0, 0),
  (8, 1, .iconst 1, [], 1, 0),
  (9, 3, .invokevirtual 58, [100, 3, 4], 0, 0),
  (12, 3, .if_icmp .ge 12, [14], 0, 0),
  (15, 1, .aload_n 0, [0], 0, 0),
  (16, 1, .iload_n 1, [1], 0, 0),
  (17, 1, .iconst 2, [], 2, 0),
  (18, 3, .invokevirtual 58, [100, 3, 4], 0, 0),
  (21, 3, .goto 9, [18], 0, 0),
  (24, 1, .aload_n 0, [0], 0, 0),
  (25, 1, .iload_n 1, [1], 0, 0),
  (26, 1, .iconst 1, [], 1, 0),
  (27, 3, .invokevirtual 58, [100, 3, 4], 0, 0),
  (30, 1, .istore_n 2, [2], 0, 0),
  (31, 1, .aload_n 0, [0], 0, 0),
  (32, 1, .iload_n 1, [1], 0, 0),
  (33, 1, .iconst 1, [], 1, 0),
  (34, 1, .aload_n 0, [0], 0, 0),
  (35, 1, .iload_n 1, [1], 0, 0),
  (36, 1, .iconst 1, [], 1, 0),
  (37, 3, .invokevirtual 58, [100, 3, 4], 0, 0),
  (40, 1, .iload_n 2, [2], 0, 0),
  (41, 1, .isub, [], 0, 0),
  (42, 3, .invokevirtual 62, [101, 4, 4], 0, 0),
  (45, 1, .aload_n 0, [0], 0, 0),
  (46, 1, .iload_n 1, [1], 0, 0),
  (47, 1, .iconst 0, [], 0, 0),
  (48, 1, .aload_n 0, [0], 0, 0),
  (49, 1, .iload_n 1, [1], 0, 0),
  (50, 1, .iconst 0, [], 0, 0),
  (51, 3, .invokevirtual 58, [100, 3, 4], 0, 0),
  (54, 1, .iload_n 2, [2], 0, 0),
  (55, 1, .iadd, [], 0, 0),
  (56, 3, .invokevirtual 62, [101, 4, 4], 0, 0),
  (59, 1, .return_, [], 0, 0)]
set_option maxRecDepth 100000 in
theorem kX4_thaws : na_okP (na_mi MX4_thaws) PX4_thaws := ⟨by decide +kernel, na_lks_s lk_RX4 (by decide +kernel)⟩
def PX4_draughts : List En := [(0, 1, .aload_n 0, [0], 0, 0),
  (1, 1, .iload_n 1, [1], 0, 0),
  (2, 1, .iconst 0, [], 0, 0),
  (3, 3, .invokevirtual 58, [100, 3, 4], 0, 0),
  (6, 1, .aload_n 0, [0], 0, 0),
  (7, 1, .iload_n 1, [1], 0, 0),
  (8, 1, .iconst 1, [], 1, 0),
  (9, 1, .iadd, [], 0, 0),
  (10, 1, .iconst 0, [], 0, 0),
  (11, 3, .invokevirtual 58, [100, 3, 4], 0, 0),
  (14, 1, .isub, [], 0, 0),
  (15, 1, .istore_n 2, [2], 0, 0),
  (16, 1, .iload_n 2, [2], 0, 0),
  (17, 3, .ifCond .ge 11, [20], 0, 0),
  (20, 1, .iload_n 2, [2], 0, 0),
  (21, 1, .ineg, [], 0, 0),
  (22, 1, .iconst 4, [], 4, 0),
  (23, 1, .idiv, [], 0, 0),
  (24, 1, .ineg, [], 0, 0),
  (25, 3, .goto 6, [23], 0, 0),
  (28, 1, .iload_n 2, [2], 0, 0),
  (29, 1, .iconst 4, [], 4, 0),
  (30, 1, .idiv, [], 0, 0),
  (31, 1, .istore_n 3, [3], 0, 0),
  (32, 1, .aload_n 0, [0], 0, 0),
  (33, 1, .iload_n 1, [1], 0, 0),
  (34, 1, .iconst 0, [], 0, 0),
  (35, 1, .aload_n 0, [0], 0, 0),
  (36, 1, .iload_n 1, [1], 0, 0),
  (37, 1, .iconst 0, [], 0, 0),
  (38, 3, .invokevirtual 58, [100, 3, 4], 0, 0),
  (41, 1, .iload_n 3, [3], 0, 0),
  (42, 1, .isub, [], 0, 0),
  (43, 3, .invokevirtual 62, [101, 4, 4], 0, 0),
  (46, 1, .aload_n 0, [0], 0, 0),
  (47, 1, .iload_n 1, [1], 0, 0),
  (48, 1, .iconst 1, [], 1, 0),
  (49, 1, .iadd, [], 0, 0),
  (50, 1, .iconst 0, [], 0, 0),
  (51, 1, .aload_n 0, [0], 0, 0),
  (52, 1, .iload_n 1, [1], 0, 0),
  (53, 1, .iconst 1, [], 1, 0),
  (54, 1, .iadd, [], 0, 0),
  (55, 1, .iconst 0, [], 0, 0),
  (56, 3, .invokevirtual 58, [100, 3, 4], 0, 0),
  (59, 1, .iload_n 3, [3], 0, 0),
  (60, 1, .iadd, [], 0, 0),
  (61, 3, .invokevirtual 62, [101, 4, 4], 0, 0),
  (64, 1, .return_, [], 0, 0)]
set_option maxRecDepth 100000 in
theorem kX4_draughts : na_okP (na_mi MX4_draughts) PX4_draughts := ⟨by decide +kernel, na_lks_s lk_RX4 (by decide +kernel)⟩
def PX4_breathe : List En := [(0, 1, .aload_n 0, [0], 0, 0),
  (1, 1, .iload_n 1, [1], 0, 0),
  (2, 1, .iconst 1, [], 1, 0),
  (3, 3, .invokevirtual 66, [98, 3, 4], 0, 0),
  (6, 1, .istore_n 2, [2], 0, 0),
  (7, 1, .aload_n 0, [0], 0, 0),
  (8, 1, .iload_n 1, [1], 0, 0),
  (9, 3, .invokevirtual 69, [117, 2, 4], 0, 0),
  (12, 1, .istore_n 3, [3], 0, 0),
  (13, 1, .aload_n 0, [0], 0, 0),
  (14, 1, .iload_n 2, [2], 0, 0),
  (15, 1, .iconst 0, [], 0, 0),
  (16, 3, .invokevirtual 58, [100, 3, 4], 0, 0),
  (19, 2, .istore 4, [4], 0, 0),
  (21, 1, .aload_n 0, [0], 0, 0),
  (22, 1, .iload_n 2, [2], 0, 0),
  (23, 1, .iconst 0, [], 0, 0),
  (24, 2, .iload 4, [4], 0, 0),
  (26, 1, .iload_n 3, [3], 0, 0),
  (27, 3, .if_icmp .ge 7, [22], 0, 0),
  (30, 1, .iconst 0, [], 0, 0),
  (31, 3, .goto 7, [25], 0, 0),
  (34, 2, .iload 4, [4], 0, 0),
  (36, 1, .iload_n 3, [3], 0, 0),
  (37, 1, .isub, [], 0, 0),
  (38, 3, .invokevirtual 62, [101, 4, 4], 0, 0),
  (41, 2, .iload 4, [4], 0, 0),
  (43, 1, .iload_n 3, [3], 0, 0),
  (44, 3, .if_icmp .ge 10, [34], 0, 0),
  (47, 1, .aload_n 0, [0], 0, 0),
  (48, 1, .iload_n 1, [1], 0, 0),
  (49, 1, .iconst 4, [], 4, 0),
  (50, 1, .iconst 1, [], 1, 0),
  (51, 3, .invokevirtual 82, [99, 4, 4], 0, 0),
  (54, 1, .aload_n 0, [0], 0, 0),
  (55, 1, .iload_n 1, [1], 0, 0),
  (56, 1, .iconst 3, [], 3, 0),
  (57, 1, .aload_n 0, [0], 0, 0),
  (58, 1, .iload_n 1, [1], 0, 0),
  (59, 1, .iconst 3, [], 3, 0),
  (60, 3, .invokevirtual 66, [98, 3, 4], 0, 0),
  (63, 3, .sipush 999, [], 999, 0),
  (66, 3, .if_icmp .ge 14, [50], 0, 0),
  (69, 1, .aload_n 0, [0], 0, 0),
  (70, 1, .iload_n 1, [1], 0, 0),
  (71, 1, .iconst 3, [], 3, 0),
  (72, 3, .invokevirtual 66, [98, 3, 4], 0, 0),
  (75, 1, .iconst 1, [], 1, 0),
  (76, 1, .iadd, [], 0, 0),
  (77, 3, .goto 6, [51], 0, 0),
  (80, 3, .sipush 999, [], 999, 0),
  (83, 3, .invokevirtual 82, [99, 4, 4], 0, 0),
  (86, 1, .return_, [], 0, 0)]
set_option maxRecDepth 100000 in
theorem kX4_breathe : na_okP (na_mi MX4_breathe) PX4_breathe := ⟨by decide +kernel, na_lks_s lk_RX4 (by decide +kernel)⟩
def PX4_oneHour : List En := [(0, 1, .iconst 0, [], 0, 0),
  (1, 1, .istore_n 1, [1], 0, 0),
  (2, 1, .iload_n 1, [1], 0, 0),
  (3, 2, .bipush 8, [], 8, 0),
  (5, 3, .if_icmp .ge 24, [16], 0, 0),
  (8, 1, .aload_n 0, [0], 0, 0),
  (9, 3, .getfield 7, [4, 0], 0, 0),
  (12, 1, .iconst 1, [], 1, 0),
  (13, 1, .iaload, [], 0, 0),
  (14, 1, .iconst 1, [], 1, 0),
  (15, 3, .if_icmp .ne 14, [16], 0, 0),
  (18, 1, .aload_n 0, [0], 0, 0),
  (19, 1, .iload_n 1, [1], 0, 0),
  (20, 3, .invokevirtual 103, [124, 2, 4], 0, 0),
  (23, 3, .iinc 1 1, [1], 1, 0),
  (26, 3, .goto (-24), [2], 0, 0),
  (29, 1, .iconst 0, [], 0, 0),
  (30, 1, .istore_n 1, [1], 0, 0),
  (31, 1, .iload_n 1, [1], 0, 0),
  (32, 2, .bipush 8, [], 8, 0),
  (34, 3, .if_icmp .ge 14, [26], 0, 0),
  (37, 1, .aload_n 0, [0], 0, 0),
  (38, 1, .iload_n 1, [1], 0, 0),
  (39, 3, .invokevirtual 106, [125, 2, 4], 0, 0),
  (42, 3, .iinc 1 1, [1], 1, 0),
  (45, 3, .goto (-14), [18], 0, 0),
  (48, 1, .iconst 0, [], 0, 0),
  (49, 1, .istore_n 1, [1], 0, 0),
  (50, 1, .iload_n 1, [1], 0, 0),
  (51, 2, .bipush 7, [], 7, 0),
  (53, 3, .if_icmp .ge 27, [43], 0, 0),
  (56, 1, .aload_n 0, [0], 0, 0),
  (57, 3, .getfield 7, [4, 0], 0, 0),
  (60, 1, .iconst 2, [], 2, 0),
  (61, 1, .iaload, [], 0, 0),
  (62, 1, .iload_n 1, [1], 0, 0),
  (63, 3, .invokestatic 109, [96, 2], 0, 0),
  (66, 3, .ifCond .eq 8, [41], 0, 0),
  (69, 1, .aload_n 0, [0], 0, 0),
  (70, 1, .iload_n 1, [1], 0, 0),
  (71, 3, .invokevirtual 112, [126, 2, 4], 0, 0),
  (74, 3, .iinc 1 1, [1], 1, 0),
  (77, 3, .goto (-27), [28], 0, 0),
  (80, 1, .iconst 0, [], 0, 0),
  (81, 1, .istore_n 1, [1], 0, 0),
  (82, 1, .iload_n 1, [1], 0, 0),
  (83, 1, .aload_n 0, [0], 0, 0),
  (84, 3, .getfield 7, [4, 0], 0, 0),
  (87, 1, .iconst 3, [], 3, 0),
  (88, 1, .iaload, [], 0, 0),
  (89, 3, .if_icmp .ge 14, [56], 0, 0),
  (92, 1, .aload_n 0, [0], 0, 0),
  (93, 1, .iload_n 1, [1], 0, 0),
  (94, 3, .invokevirtual 115, [127, 2, 4], 0, 0),
  (97, 3, .iinc 1 1, [1], 1, 0),
  (100, 3, .goto (-18), [45], 0, 0),
  (103, 1, .aload_n 0, [0], 0, 0),
  (104, 3, .getfield 7, [4, 0], 0, 0),
  (107, 1, .iconst 0, [], 0, 0),
  (108, 1, .dup2, [], 0, 0),
  (109, 1, .iaload, [], 0, 0),
  (110, 1, .iconst 1, [], 1, 0),
  (111, 1, .iadd, [], 0, 0),
  (112, 1, .iastore, [], 0, 0),
  (113, 1, .return_, [], 0, 0)]
set_option maxRecDepth 100000 in
theorem kX4_oneHour : na_okP (na_mi MX4_oneHour) PX4_oneHour := ⟨by decide +kernel, na_lks_s lk_RX4 (by decide +kernel)⟩
def PX4_sumOf : List En := [(0, 1, .iconst 0, [], 0, 0),
  (1, 1, .istore_n 2, [2], 0, 0),
  (2, 1, .iconst 0, [], 0, 0),
  (3, 1, .istore_n 3, [3], 0, 0),
  (4, 1, .iload_n 3, [3], 0, 0),
  (5, 2, .bipush 8, [], 8, 0),
  (7, 3, .if_icmp .ge 18, [16], 0, 0),
  (10, 1, .iload_n 2, [2], 0, 0),
  (11, 1, .aload_n 0, [0], 0, 0),
  (12, 1, .iload_n 3, [3], 0, 0),
  (13, 1, .iload_n 1, [1], 0, 0),
  (14, 3, .invokevirtual 58, [100, 3, 4], 0, 0),
  (17, 1, .iadd, [], 0, 0),
  (18, 1, .istore_n 2, [2], 0, 0),
  (19, 3, .iinc 3 1, [3], 1, 0),
  (22, 3, .goto (-18), [4], 0, 0),
  (25, 1, .iload_n 2, [2], 0, 0),
  (26, 1, .ireturn, [], 0, 0)]
set_option maxRecDepth 100000 in
theorem kX4_sumOf : na_okP (na_mi MX4_sumOf) PX4_sumOf := ⟨by decide +kernel, na_lks_s lk_RX4 (by decide +kernel)⟩
def PX4_stifled : List En := [(0, 1, .iconst 0, [], 0, 0),
  (1, 1, .istore_n 1, [1], 0, 0),
  (2, 1, .iconst 0, [], 0, 0),
  (3, 1, .istore_n 2, [2], 0, 0),
  (4, 1, .iload_n 2, [2], 0, 0),
  (5, 1, .aload_n 0, [0], 0, 0),
  (6, 3, .getfield 7, [4, 0], 0, 0),
  (9, 1, .iconst 3, [], 3, 0),
  (10, 1, .iaload, [], 0, 0),
  (11, 3, .if_icmp .ge 20, [21], 0, 0),
  (14, 1, .iload_n 1, [1], 0, 0),
  (15, 1, .aload_n 0, [0], 0, 0),
  (16, 1, .iload_n 2, [2], 0, 0),
  (17, 1, .iconst 4, [], 4, 0),
  (18, 3, .invokevirtual 66, [98, 3, 4], 0, 0),
  (21, 1, .iload_n 2, [2], 0, 0),
  (22, 1, .ishl, [], 0, 0),
  (23, 1, .ior, [], 0, 0),
  (24, 1, .istore_n 1, [1], 0, 0),
  (25, 3, .iinc 2 1, [2], 1, 0),
  (28, 3, .goto (-24), [4], 0, 0),
  (31, 1, .iload_n 1, [1], 0, 0),
  (32, 1, .ireturn, [], 0, 0)]
set_option maxRecDepth 100000 in
theorem kX4_stifled : na_okP (na_mi MX4_stifled) PX4_stifled := ⟨by decide +kernel, na_lks_s lk_RX4 (by decide +kernel)⟩
def PX4_allBreathe : List En := [(0, 1, .iconst 0, [], 0, 0),
  (1, 1, .istore_n 1, [1], 0, 0),
  (2, 1, .iconst 0, [], 0, 0),
  (3, 1, .istore_n 2, [2], 0, 0),
  (4, 1, .iload_n 2, [2], 0, 0),
  (5, 1, .aload_n 0, [0], 0, 0),
  (6, 3, .getfield 7, [4, 0], 0, 0),
  (9, 1, .iconst 3, [], 3, 0),
  (10, 1, .iaload, [], 0, 0),
  (11, 3, .if_icmp .ge 17, [18], 0, 0),
  (14, 1, .iload_n 1, [1], 0, 0),
  (15, 1, .aload_n 0, [0], 0, 0),
  (16, 1, .iload_n 2, [2], 0, 0),
  (17, 3, .invokevirtual 69, [117, 2, 4], 0, 0),
  (20, 1, .iadd, [], 0, 0),
  (21, 1, .istore_n 1, [1], 0, 0),
  (22, 3, .iinc 2 1, [2], 1, 0),
  (25, 3, .goto (-21), [4], 0, 0),
  (28, 1, .iload_n 1, [1], 0, 0),
  (29, 1, .ireturn, [], 0, 0)]
set_option maxRecDepth 100000 in
theorem kX4_allBreathe : na_okP (na_mi MX4_allBreathe) PX4_allBreathe := ⟨by decide +kernel, na_lks_s lk_RX4 (by decide +kernel)⟩
def PX4_hours : List En := [(0, 1, .iload_n 1, [1], 0, 0),
  (1, 1, .iconst 1, [], 1, 0),
  (2, 2, .bipush 60, [], 60, 0),
  (4, 3, .invokestatic 42, [94, 3], 0, 0),
  (7, 3, .ifCond .ne 10, [9], 0, 0),
  (10, 1, .aload_n 0, [0], 0, 0),
  (11, 2, .ldc 41, [], (-1000000001), 0),
  (13, 3, .invokevirtual 54, [95, 2, 4], 0, 0),
  (16, 1, .ireturn, [], 0, 0),
  (17, 1, .aload_n 0, [0], 0, 0),
  (18, 3, .getfield 7, [4, 0], 0, 0),
  (21, 1, .iconst 0, [], 0, 0),
  (22, 1, .iaload, [], 0, 0),
  (23, 1, .iload_n 1, [1], 0, 0),
  (24, 1, .iadd, [], 0, 0),
  (25, 3, .sipush 9999, [], 9999, 0),
  (28, 3, .if_icmp .le 10, [21], 0, 0),
  (31, 1, .aload_n 0, [0], 0, 0),
  (32, 2, .ldc 118, [], (-1000000005), 0),
  (34, 3, .invokevirtual 54, [95, 2, 4], 0, 0),
  (37, 1, .ireturn, [], 0, 0),
  (38, 1, .iconst 0, [], 0, 0),
  (39, 1, .istore_n 2, [2], 0, 0),
  (40, 1, .iload_n 2, [2], 0, 0),
  (41, 1, .iload_n 1, [1], 0, 0),
  (42, 3, .if_icmp .ge 13, [30], 0, 0),
  (45, 1, .aload_n 0, [0], 0, 0),
  (46, 3, .invokevirtual 119, [128, 1, 4], 0, 0),
  (49, 3, .iinc 2 1, [2], 1, 0),
  (52, 3, .goto (-12), [23], 0, 0),
  (55, 1, .aload_n 0, [0], 0, 0),
  (56, 1, .iconst 0, [], 0, 0),
  (57, 3, .invokevirtual 122, [129, 2, 4], 0, 0),
  (60, 1, .ireturn, [], 0, 0)]
set_option maxRecDepth 100000 in
theorem kX4_hours : na_okP (na_mi MX4_hours) PX4_hours := ⟨by decide +kernel, na_lks_s lk_RX4 (by decide +kernel)⟩
def PX4_now : List En := [(0, 1, .iload_n 1, [1], 0, 0),
  (1, 43, .tableswitch 85 0 6 #[43, 50, 56, 62, 68, 73, 78], [30, 2, 7, 11, 15, 19, 22, 25], 0, 0),
  (44, 1, .aload_n 0, [0], 0, 0),
  (45, 3, .getfield 7, [4, 0], 0, 0),
  (48, 1, .iconst 0, [], 0, 0),
  (49, 1, .iaload, [], 0, 0),
  (50, 1, .ireturn, [], 0, 0),
  (51, 1, .aload_n 0, [0], 0, 0),
  (52, 1, .iconst 0, [], 0, 0),
  (53, 3, .invokevirtual 122, [129, 2, 4], 0, 0),
  (56, 1, .ireturn, [], 0, 0),
  (57, 1, .aload_n 0, [0], 0, 0),
  (58, 1, .iconst 1, [], 1, 0),
  (59, 3, .invokevirtual 122, [129, 2, 4], 0, 0),
  (62, 1, .ireturn, [], 0, 0),
  (63, 1, .aload_n 0, [0], 0, 0),
  (64, 1, .iconst 2, [], 2, 0),
  (65, 3, .invokevirtual 122, [129, 2, 4], 0, 0),
  (68, 1, .ireturn, [], 0, 0),
  (69, 1, .aload_n 0, [0], 0, 0),
  (70, 3, .invokevirtual 125, [130, 1, 4], 0, 0),
  (73, 1, .ireturn, [], 0, 0),
  (74, 1, .aload_n 0, [0], 0, 0),
  (75, 3, .invokevirtual 129, [131, 1, 4], 0, 0),
  (78, 1, .ireturn, [], 0, 0),
  (79, 1, .aload_n 0, [0], 0, 0),
  (80, 3, .getfield 7, [4, 0], 0, 0),
  (83, 1, .iconst 2, [], 2, 0),
  (84, 1, .iaload, [], 0, 0),
  (85, 1, .ireturn, [], 0, 0),
  (86, 1, .aload_n 0, [0], 0, 0),
  (87, 2, .ldc 41, [], (-1000000001), 0),
  (89, 3, .invokevirtual 54, [95, 2, 4], 0, 0),
  (92, 1, .ireturn, [], 0, 0)]
set_option maxRecDepth 100000 in
theorem kX4_now : na_okP (na_mi MX4_now) PX4_now := ⟨by decide +kernel, na_lks_s lk_RX4 (by decide +kernel)⟩
def PX4_passes : List En := [(0, 1, .iconst 0, [], 0, 0),
  (1, 1, .istore_n 2, [2], 0, 0),
  (2, 1, .iload_n 2, [2], 0, 0),
  (3, 1, .iload_n 1, [1], 0, 0),
  (4, 3, .if_icmp .ge 13, [9], 0, 0),
  (7, 1, .aload_n 0, [0], 0, 0),
  (8, 3, .invokevirtual 119, [128, 1, 4], 0, 0),
  (11, 3, .iinc 2 1, [2], 1, 0),
  (14, 3, .goto (-12), [2], 0, 0),
  (17, 1, .return_, [], 0, 0)]
set_option maxRecDepth 100000 in
theorem kX4_passes : na_okP (na_mi MX4_passes) PX4_passes := ⟨by decide +kernel, na_lks_s lk_RX4 (by decide +kernel)⟩
def PX4_on : List En := [(0, 1, .iload_n 1, [1], 0, 0),
  (1, 3, .invokestatic 46, [103, 1], 0, 0),
  (4, 3, .ifCond .eq 22, [13], 0, 0),
  (7, 1, .iload_n 2, [2], 0, 0),
  (8, 1, .iconst 0, [], 0, 0),
  (9, 2, .bipush 60, [], 60, 0),
  (11, 3, .invokestatic 42, [94, 3], 0, 0),
  (14, 3, .ifCond .eq 12, [13], 0, 0),
  (17, 1, .iload_n 3, [3], 0, 0),
  (18, 1, .iconst 0, [], 0, 0),
  (19, 1, .iconst 1, [], 1, 0),
  (20, 3, .invokestatic 42, [94, 3], 0, 0),
  (23, 3, .ifCond .ne 10, [17], 0, 0),
  (26, 1, .aload_n 0, [0], 0, 0),
  (27, 2, .ldc 41, [], (-1000000001), 0),
  (29, 3, .invokevirtual 54, [95, 2, 4], 0, 0),
  (32, 1, .ireturn, [], 0, 0),
  (33, 1, .aload_n 0, [0], 0, 0),
  (34, 1, .iconst 1, [], 1, 0),
  (35, 1, .aload_n 0, [0], 0, 0),
  (36, 3, .getfield 16, [4, 2], 0, 0),
  (39, 3, .invokevirtual 132, [185, 3, 4], 0, 0),
  (42, 1, .aload_n 0, [0], 0, 0),
  (43, 1, .iload_n 2, [2], 0, 0),
  (44, 3, .invokevirtual 136, [134, 2, 4], 0, 0),
  (47, 1, .aload_n 0, [0], 0, 0),
  (48, 1, .iload_n 1, [1], 0, 0),
  (49, 1, .iload_n 3, [3], 0, 0),
  (50, 3, .invokevirtual 58, [100, 3, 4], 0, 0),
  (53, 2, .istore 4, [4], 0, 0),
  (55, 1, .aload_n 0, [0], 0, 0),
  (56, 1, .iconst 0, [], 0, 0),
  (57, 1, .aload_n 0, [0], 0, 0),
  (58, 3, .getfield 16, [4, 2], 0, 0),
  (61, 3, .invokevirtual 132, [185, 3, 4], 0, 0),
  (64, 2, .iload 4, [4], 0, 0),
  (66, 1, .ireturn, [], 0, 0)]
set_option maxRecDepth 100000 in
theorem kX4_on : na_okP (na_mi MX4_on) PX4_on := ⟨by decide +kernel, na_lks_s lk_RX4 (by decide +kernel)⟩
def PX4_untilOf : List En := [(0, 1, .aload_n 0, [0], 0, 0),
  (1, 1, .iconst 1, [], 1, 0),
  (2, 1, .aload_n 0, [0], 0, 0),
  (3, 3, .getfield 16, [4, 2], 0, 0),
  (6, 3, .invokevirtual 132, [185, 3, 4], 0, 0),
  (9, 1, .iconst 0, [], 0, 0),
  (10, 1, .istore_n 2, [2], 0, 0),
  (11, 1, .iload_n 2, [2], 0, 0),
  (12, 2, .bipush 60, [], 60, 0),
  (14, 3, .if_icmp .gt 22, [19], 0, 0),
  (17, 1, .aload_n 0, [0], 0, 0),
  (18, 3, .invokevirtual 125, [130, 1, 4], 0, 0),
  (21, 1, .iload_n 1, [1], 0, 0),
  (22, 1, .iand, [], 0, 0),
  (23, 3, .ifCond .ne 13, [19], 0, 0),
  (26, 1, .aload_n 0, [0], 0, 0),
  (27, 3, .invokevirtual 119, [128, 1, 4], 0, 0),
  (30, 3, .iinc 2 1, [2], 1, 0),
  (33, 3, .goto (-22), [7], 0, 0),
  (36, 1, .aload_n 0, [0], 0, 0),
  (37, 1, .iconst 0, [], 0, 0),
  (38, 1, .aload_n 0, [0], 0, 0),
  (39, 3, .getfield 16, [4, 2], 0, 0),
  (42, 3, .invokevirtual 132, [185, 3, 4], 0, 0),
  (45, 1, .iload_n 2, [2], 0, 0),
  (46, 1, .ireturn, [], 0, 0)]
set_option maxRecDepth 100000 in
theorem kX4_untilOf : na_okP (na_mi MX4_untilOf) PX4_untilOf := ⟨by decide +kernel, na_lks_s lk_RX4 (by decide +kernel)⟩
def PX4_when : List En := [(0, 1, .aload_n 0, [0], 0, 0),
  (1, 1, .iload_n 1, [1], 0, 0),
  (2, 3, .invokevirtual 95, [102, 2, 4], 0, 0),
  (5, 3, .ifCond .ne 10, [8], 0, 0),
  (8, 1, .aload_n 0, [0], 0, 0),
  (9, 2, .ldc 41, [], (-1000000001), 0),
  (11, 3, .invokevirtual 54, [95, 2, 4], 0, 0),
  (14, 1, .ireturn, [], 0, 0),
  (15, 1, .aload_n 0, [0], 0, 0),
  (16, 1, .iload_n 1, [1], 0, 0),
  (17, 1, .iconst 4, [], 4, 0),
  (18, 3, .invokevirtual 66, [98, 3, 4], 0, 0),
  (21, 1, .iconst 1, [], 1, 0),
  (22, 3, .if_icmp .ne 10, [18], 0, 0),
  (25, 1, .aload_n 0, [0], 0, 0),
  (26, 2, .ldc 118, [], (-1000000005), 0),
  (28, 3, .invokevirtual 54, [95, 2, 4], 0, 0),
  (31, 1, .ireturn, [], 0, 0),
  (32, 1, .aload_n 0, [0], 0, 0),
  (33, 1, .iconst 1, [], 1, 0),
  (34, 1, .iload_n 1, [1], 0, 0),
  (35, 1, .ishl, [], 0, 0),
  (36, 3, .invokevirtual 139, [136, 2, 4], 0, 0),
  (39, 1, .istore_n 2, [2], 0, 0),
  (40, 1, .iload_n 2, [2], 0, 0),
  (41, 2, .bipush 60, [], 60, 0),
  (43, 3, .if_icmp .le 12, [31], 0, 0),
  (46, 1, .aload_n 0, [0], 0, 0),
  (47, 2, .ldc 142, [], (-1000000004), 0),
  (49, 3, .invokevirtual 54, [95, 2, 4], 0, 0),
  (52, 3, .goto 4, [32], 0, 0),
  (55, 1, .iload_n 2, [2], 0, 0),
  (56, 1, .ireturn, [], 0, 0)]
set_option maxRecDepth 100000 in
theorem kX4_when : na_okP (na_mi MX4_when) PX4_when := ⟨by decide +kernel, na_lks_s lk_RX4 (by decide +kernel)⟩
def PX4_wellOnes : List En := [(0, 1, .iconst 1, [], 1, 0),
  (1, 1, .aload_n 0, [0], 0, 0),
  (2, 3, .getfield 7, [4, 0], 0, 0),
  (5, 1, .iconst 3, [], 3, 0),
  (6, 1, .iaload, [], 0, 0),
  (7, 1, .ishl, [], 0, 0),
  (8, 1, .iconst 1, [], 1, 0),
  (9, 1, .isub, [], 0, 0),
  (10, 1, .aload_n 0, [0], 0, 0),
  (11, 3, .invokevirtual 125, [130, 1, 4], 0, 0),
  (14, 1, .iconst (-1), [], (-1), 0),
  (15, 1, .ixor, [], 0, 0),
  (16, 1, .iand, [], 0, 0),
  (17, 1, .ireturn, [], 0, 0)]
set_option maxRecDepth 100000 in
theorem kX4_wellOnes : na_okP (na_mi MX4_wellOnes) PX4_wellOnes := ⟨by decide +kernel, na_lks_s lk_RX4 (by decide +kernel)⟩
def PX4_first : List En := [(0, 1, .aload_n 0, [0], 0, 0),
  (1, 3, .invokevirtual 143, [138, 1, 4], 0, 0),
  (4, 1, .istore_n 1, [1], 0, 0),
  (5, 1, .aload_n 0, [0], 0, 0),
  (6, 1, .iconst 1, [], 1, 0),
  (7, 1, .aload_n 0, [0], 0, 0),
  (8, 3, .getfield 16, [4, 2], 0, 0),
  (11, 3, .invokevirtual 132, [185, 3, 4], 0, 0),
  (14, 1, .iconst 0, [], 0, 0),
  (15, 1, .istore_n 2, [2], 0, 0),
  (16, 1, .iload_n 2, [2], 0, 0),
  (17, 2, .bipush 60, [], 60, 0),
  (19, 3, .if_icmp .ge 22, [22], 0, 0),
  (22, 1, .aload_n 0, [0], 0, 0),
  (23, 3, .invokevirtual 125, [130, 1, 4], 0, 0),
  (26, 1, .iload_n 1, [1], 0, 0),
  (27, 1, .iand, [], 0, 0),
  (28, 3, .ifCond .ne 13, [22], 0, 0),
  (31, 1, .aload_n 0, [0], 0, 0),
  (32, 3, .invokevirtual 119, [128, 1, 4], 0, 0),
  (35, 3, .iinc 2 1, [2], 1, 0),
  (38, 3, .goto (-22), [10], 0, 0),
  (41, 1, .aload_n 0, [0], 0, 0),
  (42, 3, .invokevirtual 125, [130, 1, 4], 0, 0),
  (45, 1, .iload_n 1, [1], 0, 0),
  (46, 1, .iand, [], 0, 0),
  (47, 1, .istore_n 2, [2], 0, 0),
  (48, 1, .aload_n 0, [0], 0, 0),
  (49, 1, .iconst 0, [], 0, 0),
  (50, 1, .aload_n 0, [0], 0, 0),
  (51, 3, .getfield 16, [4, 2], 0, 0),
  (54, 3, .invokevirtual 132, [185, 3, 4], 0, 0),
  (57, 1, .iconst 0, [], 0, 0),
  (58, 1, .istore_n 3, [3], 0, 0),
  (59, 1, .iload_n 3, [3], 0, 0),
  (60, 2, .bipush 8, [], 8, 0),
  (62, 3, .if_icmp .ge 17, [43], 0, 0),
  (65, 1, .iload_n 2, [2], 0, 0),
  (66, 1, .iload_n 3, [3], 0, 0),
  (67, 3, .invokestatic 109, [96, 2], 0, 0),
  (70, 3, .ifCond .ne 9, [43], 0, 0),
  (73, 3, .iinc 3 1, [3], 1, 0),
  (76, 3, .goto (-17), [34], 0, 0),
  (79, 1, .iload_n 3, [3], 0, 0),
  (80, 2, .bipush 8, [], 8, 0),
  (82, 3, .if_icmp .ne 12, [50], 0, 0),
  (85, 1, .aload_n 0, [0], 0, 0),
  (86, 2, .ldc 142, [], (-1000000004), 0),
  (88, 3, .invokevirtual 54, [95, 2, 4], 0, 0),
  (91, 3, .goto 4, [51], 0, 0),
  (94, 1, .iload_n 3, [3], 0, 0),
  (95, 1, .ireturn, [], 0, 0)]
set_option maxRecDepth 100000 in
theorem kX4_first : na_okP (na_mi MX4_first) PX4_first := ⟨by decide +kernel, na_lks_s lk_RX4 (by decide +kernel)⟩
def PX4_wellFor : List En := [(0, 1, .aload_n 0, [0], 0, 0),
  (1, 1, .aload_n 0, [0], 0, 0),
  (2, 3, .invokevirtual 143, [138, 1, 4], 0, 0),
  (5, 3, .invokevirtual 139, [136, 2, 4], 0, 0),
  (8, 1, .iconst 1, [], 1, 0),
  (9, 1, .isub, [], 0, 0),
  (10, 1, .ireturn, [], 0, 0)]
set_option maxRecDepth 100000 in
theorem kX4_wellFor : na_okP (na_mi MX4_wellFor) PX4_wellFor := ⟨by decide +kernel, na_lks_s lk_RX4 (by decide +kernel)⟩
def PX4_well : List En := [(0, 1, .aload_n 0, [0], 0, 0),
  (1, 3, .invokevirtual 146, [140, 1, 4], 0, 0),
  (4, 1, .ireturn, [], 0, 0)]
set_option maxRecDepth 100000 in
theorem kX4_well : na_okP (na_mi MX4_well) PX4_well := ⟨by decide +kernel, na_lks_s lk_RX4 (by decide +kernel)⟩
def PX4_doors : List En := [(0, 1, .aload_n 0, [0], 0, 0),
  (1, 3, .getfield 7, [4, 0], 0, 0),
  (4, 1, .iconst 2, [], 2, 0),
  (5, 1, .iaload, [], 0, 0),
  (6, 1, .istore_n 1, [1], 0, 0),
  (7, 1, .iconst 0, [], 0, 0),
  (8, 1, .istore_n 2, [2], 0, 0),
  (9, 1, .iconst (-1), [], (-1), 0),
  (10, 1, .istore_n 3, [3], 0, 0),
  (11, 1, .iconst 0, [], 0, 0),
  (12, 2, .istore 4, [4], 0, 0),
  (14, 2, .iload 4, [4], 0, 0),
  (16, 3, .sipush 128, [], 128, 0),
  (19, 3, .if_icmp .ge 49, [38], 0, 0),
  (22, 1, .aload_n 0, [0], 0, 0),
  (23, 3, .getfield 7, [4, 0], 0, 0),
  (26, 1, .iconst 2, [], 2, 0),
  (27, 2, .iload 4, [4], 0, 0),
  (29, 1, .iastore, [], 0, 0),
  (30, 1, .aload_n 0, [0], 0, 0),
  (31, 3, .invokevirtual 146, [140, 1, 4], 0, 0),
  (34, 2, .istore 5, [5], 0, 0),
  (36, 2, .iload 5, [5], 0, 0),
  (38, 1, .iload_n 3, [3], 0, 0),
  (39, 3, .if_icmp .le 8, [27], 0, 0),
  (42, 2, .iload 4, [4], 0, 0),
  (44, 3, .goto 4, [28], 0, 0),
  (47, 1, .iload_n 2, [2], 0, 0),
  (48, 1, .istore_n 2, [2], 0, 0),
  (49, 2, .iload 5, [5], 0, 0),
  (51, 1, .iload_n 3, [3], 0, 0),
  (52, 3, .if_icmp .le 8, [34], 0, 0),
  (55, 2, .iload 5, [5], 0, 0),
  (57, 3, .goto 4, [35], 0, 0),
  (60, 1, .iload_n 3, [3], 0, 0),
  (61, 1, .istore_n 3, [3], 0, 0),
  (62, 3, .iinc 4 1, [4], 1, 0),
  (65, 3, .goto (-51), [11], 0, 0),
  (68, 1, .aload_n 0, [0], 0, 0),
  (69, 3, .getfield 7, [4, 0], 0, 0),
  (72, 1, .iconst 2, [], 2, 0),
  (73, 1, .iload_n 1, [1], 0, 0),
  (74, 1, .iastore, [], 0, 0),
  (75, 1, .iload_n 2, [2], 0, 0),
  (76, 1, .ireturn, [], 0, 0)]
set_option maxRecDepth 100000 in
theorem kX4_doors : na_okP (na_mi MX4_doors) PX4_doors := ⟨by decide +kernel, na_lks_s lk_RX4 (by decide +kernel)⟩
def PX4_stifledOn : List En := [(0, 1, .aload_n 0, [0], 0, 0),
  (1, 1, .iconst 1, [], 1, 0),
  (2, 1, .aload_n 0, [0], 0, 0),
  (3, 3, .getfield 16, [4, 2], 0, 0),
  (6, 3, .invokevirtual 132, [185, 3, 4], 0, 0),
  (9, 1, .aload_n 0, [0], 0, 0),
  (10, 1, .iload_n 1, [1], 0, 0),
  (11, 3, .invokevirtual 136, [134, 2, 4], 0, 0),
  (14, 1, .aload_n 0, [0], 0, 0),
  (15, 3, .invokevirtual 125, [130, 1, 4], 0, 0),
  (18, 3, .invokestatic 149, [97, 1], 0, 0),
  (21, 1, .istore_n 2, [2], 0, 0),
  (22, 1, .aload_n 0, [0], 0, 0),
  (23, 1, .iconst 0, [], 0, 0),
  (24, 1, .aload_n 0, [0], 0, 0),
  (25, 3, .getfield 16, [4, 2], 0, 0),
  (28, 3, .invokevirtual 132, [185, 3, 4], 0, 0),
  (31, 1, .iload_n 2, [2], 0, 0),
  (32, 1, .ireturn, [], 0, 0)]
set_option maxRecDepth 100000 in
theorem kX4_stifledOn : na_okP (na_mi MX4_stifledOn) PX4_stifledOn := ⟨by decide +kernel, na_lks_s lk_RX4 (by decide +kernel)⟩
end
section
/-! the programs of X4, checked (by program) -/
def PX4_shut : List En := [(0, 1, .iload_n 1, [1], 0, 0),
  (1, 3, .invokestatic 152, [105, 1], 0, 0),
  (4, 3, .ifCond .ne 10, [7], 0, 0),
  (7, 1, .aload_n 0, [0], 0, 0),
  (8, 2, .ldc 41, [], (-1000000001), 0),
  (10, 3, .invokevirtual 54, [95, 2, 4], 0, 0),
  (13, 1, .ireturn, [], 0, 0),
  (14, 1, .aload_n 0, [0], 0, 0),
  (15, 3, .getfield 7, [4, 0], 0, 0),
  (18, 1, .iconst 2, [], 2, 0),
  (19, 1, .iaload, [], 0, 0),
  (20, 1, .istore_n 2, [2], 0, 0),
  (21, 1, .iconst (-1), [], (-1), 0),
  (22, 1, .istore_n 3, [3], 0, 0),
  (23, 1, .aload_n 0, [0], 0, 0),
  (24, 1, .iload_n 1, [1], 0, 0),
  (25, 3, .invokevirtual 155, [143, 2, 4], 0, 0),
  (28, 2, .istore 4, [4], 0, 0),
  (30, 1, .iconst 0, [], 0, 0),
  (31, 2, .istore 5, [5], 0, 0),
  (33, 2, .iload 5, [5], 0, 0),
  (35, 2, .bipush 7, [], 7, 0),
  (37, 3, .if_icmp .ge 58, [52], 0, 0),
  (40, 1, .aload_n 0, [0], 0, 0),
  (41, 3, .getfield 7, [4, 0], 0, 0),
  (44, 1, .iconst 2, [], 2, 0),
  (45, 1, .iload_n 2, [2], 0, 0),
  (46, 1, .iconst 1, [], 1, 0),
  (47, 2, .iload 5, [5], 0, 0),
  (49, 1, .ishl, [], 0, 0),
  (50, 1, .ixor, [], 0, 0),
  (51, 1, .iastore, [], 0, 0),
  (52, 1, .aload_n 0, [0], 0, 0),
  (53, 1, .iload_n 1, [1], 0, 0),
  (54, 3, .invokevirtual 155, [143, 2, 4], 0, 0),
  (57, 2, .istore 6, [6], 0, 0),
  (59, 2, .iload 6, [6], 0, 0),
  (61, 2, .iload 4, [4], 0, 0),
  (63, 3, .if_icmp .ge 8, [41], 0, 0),
  (66, 2, .iload 5, [5], 0, 0),
  (68, 3, .goto 4, [42], 0, 0),
  (71, 1, .iload_n 3, [3], 0, 0),
  (72, 1, .istore_n 3, [3], 0, 0),
  (73, 2, .iload 6, [6], 0, 0),
  (75, 2, .iload 4, [4], 0, 0),
  (77, 3, .if_icmp .ge 8, [48], 0, 0),
  (80, 2, .iload 6, [6], 0, 0),
  (82, 3, .goto 5, [49], 0, 0),
  (85, 2, .iload 4, [4], 0, 0),
  (87, 2, .istore 4, [4], 0, 0),
  (89, 3, .iinc 5 1, [5], 1, 0),
  (92, 3, .goto (-59), [20], 0, 0),
  (95, 1, .aload_n 0, [0], 0, 0),
  (96, 3, .getfield 7, [4, 0], 0, 0),
  (99, 1, .iconst 2, [], 2, 0),
  (100, 1, .iload_n 2, [2], 0, 0),
  (101, 1, .iastore, [], 0, 0),
  (102, 1, .iload_n 3, [3], 0, 0),
  (103, 3, .ifCond .ge 12, [63], 0, 0),
  (106, 1, .aload_n 0, [0], 0, 0),
  (107, 2, .ldc 142, [], (-1000000004), 0),
  (109, 3, .invokevirtual 54, [95, 2, 4], 0, 0),
  (112, 3, .goto 4, [64], 0, 0),
  (115, 1, .iload_n 3, [3], 0, 0),
  (116, 1, .ireturn, [], 0, 0)]
set_option maxRecDepth 100000 in
theorem kX4_shut : na_okP (na_mi MX4_shut) PX4_shut := ⟨by decide +kernel, na_lks_s lk_RX4 (by decide +kernel)⟩
def PX4_isWell : List En := [(0, 1, .aload_n 0, [0], 0, 0),
  (1, 3, .invokevirtual 143, [138, 1, 4], 0, 0),
  (4, 1, .istore_n 2, [2], 0, 0),
  (5, 1, .aload_n 0, [0], 0, 0),
  (6, 1, .iconst 1, [], 1, 0),
  (7, 1, .aload_n 0, [0], 0, 0),
  (8, 3, .getfield 16, [4, 2], 0, 0),
  (11, 3, .invokevirtual 132, [185, 3, 4], 0, 0),
  (14, 1, .aload_n 0, [0], 0, 0),
  (15, 1, .iload_n 1, [1], 0, 0),
  (16, 3, .invokevirtual 136, [134, 2, 4], 0, 0),
  (19, 1, .aload_n 0, [0], 0, 0),
  (20, 3, .invokevirtual 125, [130, 1, 4], 0, 0),
  (23, 1, .iload_n 2, [2], 0, 0),
  (24, 1, .iand, [], 0, 0),
  (25, 3, .ifCond .ne 7, [18], 0, 0),
  (28, 1, .iconst 1, [], 1, 0),
  (29, 3, .goto 4, [19], 0, 0),
  (32, 1, .iconst 0, [], 0, 0),
  (33, 1, .istore_n 3, [3], 0, 0),
  (34, 1, .aload_n 0, [0], 0, 0),
  (35, 1, .iconst 0, [], 0, 0),
  (36, 1, .aload_n 0, [0], 0, 0),
  (37, 3, .getfield 16, [4, 2], 0, 0),
  (40, 3, .invokevirtual 132, [185, 3, 4], 0, 0),
  (43, 1, .iload_n 3, [3], 0, 0),
  (44, 1, .ireturn, [], 0, 0)]
set_option maxRecDepth 100000 in
theorem kX4_isWell : na_okP (na_mi MX4_isWell) PX4_isWell := ⟨by decide +kernel, na_lks_s lk_RX4 (by decide +kernel)⟩
def PX4_fire : List En := [(0, 1, .iload_n 1, [1], 0, 0),
  (1, 3, .invokestatic 46, [103, 1], 0, 0),
  (4, 3, .ifCond .eq 10, [6], 0, 0),
  (7, 1, .iload_n 2, [2], 0, 0),
  (8, 3, .invokestatic 152, [105, 1], 0, 0),
  (11, 3, .ifCond .ne 10, [10], 0, 0),
  (14, 1, .aload_n 0, [0], 0, 0),
  (15, 2, .ldc 41, [], (-1000000001), 0),
  (17, 3, .invokevirtual 54, [95, 2, 4], 0, 0),
  (20, 1, .ireturn, [], 0, 0),
  (21, 1, .aload_n 0, [0], 0, 0),
  (22, 1, .iload_n 1, [1], 0, 0),
  (23, 1, .iconst 2, [], 2, 0),
  (24, 3, .invokevirtual 58, [100, 3, 4], 0, 0),
  (27, 1, .istore_n 3, [3], 0, 0),
  (28, 1, .iconst 0, [], 0, 0),
  (29, 2, .istore 4, [4], 0, 0),
  (31, 1, .aload_n 0, [0], 0, 0),
  (32, 1, .iload_n 1, [1], 0, 0),
  (33, 1, .iconst 2, [], 2, 0),
  (34, 2, .iload 4, [4], 0, 0),
  (36, 3, .invokevirtual 62, [101, 4, 4], 0, 0),
  (39, 2, .iload 4, [4], 0, 0),
  (41, 2, .bipush 99, [], 99, 0),
  (43, 3, .if_icmp .gt 25, [36], 0, 0),
  (46, 1, .aload_n 0, [0], 0, 0),
  (47, 1, .iload_n 2, [2], 0, 0),
  (48, 3, .invokevirtual 158, [145, 2, 4], 0, 0),
  (51, 3, .ifCond .ne 17, [36], 0, 0),
  (54, 3, .iinc 4 1, [4], 1, 0),
  (57, 1, .aload_n 0, [0], 0, 0),
  (58, 1, .iload_n 1, [1], 0, 0),
  (59, 1, .iconst 2, [], 2, 0),
  (60, 2, .iload 4, [4], 0, 0),
  (62, 3, .invokevirtual 62, [101, 4, 4], 0, 0),
  (65, 3, .goto (-26), [22], 0, 0),
  (68, 1, .aload_n 0, [0], 0, 0),
  (69, 1, .iload_n 1, [1], 0, 0),
  (70, 1, .iconst 2, [], 2, 0),
  (71, 1, .iload_n 3, [3], 0, 0),
  (72, 3, .invokevirtual 62, [101, 4, 4], 0, 0),
  (75, 2, .iload 4, [4], 0, 0),
  (77, 2, .bipush 99, [], 99, 0),
  (79, 3, .if_icmp .le 12, [48], 0, 0),
  (82, 1, .aload_n 0, [0], 0, 0),
  (83, 2, .ldc 142, [], (-1000000004), 0),
  (85, 3, .invokevirtual 54, [95, 2, 4], 0, 0),
  (88, 3, .goto 5, [49], 0, 0),
  (91, 2, .iload 4, [4], 0, 0),
  (93, 1, .ireturn, [], 0, 0)]
set_option maxRecDepth 100000 in
theorem kX4_fire : na_okP (na_mi MX4_fire) PX4_fire := ⟨by decide +kernel, na_lks_s lk_RX4 (by decide +kernel)⟩
def PX4_fires : List En := [(0, 1, .iload_n 1, [1], 0, 0),
  (1, 3, .invokestatic 46, [103, 1], 0, 0),
  (4, 3, .ifCond .eq 22, [12], 0, 0),
  (7, 1, .iload_n 2, [2], 0, 0),
  (8, 3, .invokestatic 46, [103, 1], 0, 0),
  (11, 3, .ifCond .eq 15, [12], 0, 0),
  (14, 1, .iload_n 1, [1], 0, 0),
  (15, 1, .iload_n 2, [2], 0, 0),
  (16, 3, .if_icmp .eq 10, [12], 0, 0),
  (19, 1, .iload_n 3, [3], 0, 0),
  (20, 3, .invokestatic 152, [105, 1], 0, 0),
  (23, 3, .ifCond .ne 10, [16], 0, 0),
  (26, 1, .aload_n 0, [0], 0, 0),
  (27, 2, .ldc 41, [], (-1000000001), 0),
  (29, 3, .invokevirtual 54, [95, 2, 4], 0, 0),
  (32, 1, .ireturn, [], 0, 0),
  (33, 1, .aload_n 0, [0], 0, 0),
  (34, 1, .iload_n 1, [1], 0, 0),
  (35, 1, .iconst 2, [], 2, 0),
  (36, 3, .invokevirtual 58, [100, 3, 4], 0, 0),
  (39, 2, .istore 4, [4], 0, 0),
  (41, 1, .aload_n 0, [0], 0, 0),
  (42, 1, .iload_n 2, [2], 0, 0),
  (43, 1, .iconst 2, [], 2, 0),
  (44, 3, .invokevirtual 58, [100, 3, 4], 0, 0),
  (47, 2, .istore 5, [5], 0, 0),
  (49, 1, .iconst (-1), [], (-1), 0),
  (50, 2, .istore 6, [6], 0, 0),
  (52, 1, .iconst 0, [], 0, 0),
  (53, 2, .istore 7, [7], 0, 0),
  (55, 2, .iload 7, [7], 0, 0),
  (57, 2, .bipush 40, [], 40, 0),
  (59, 3, .if_icmp .gt 93, [76], 0, 0),
  (62, 2, .iload 6, [6], 0, 0),
  (64, 3, .ifCond .ge 88, [76], 0, 0),
  (67, 2, .iload 7, [7], 0, 0),
  (69, 2, .bipush 20, [], 20, 0),
  (71, 3, .if_icmp .le 11, [42], 0, 0),
  (74, 2, .iload 7, [7], 0, 0),
  (76, 2, .bipush 20, [], 20, 0),
  (78, 1, .isub, [], 0, 0),
  (79, 3, .goto 4, [43], 0, 0),
  (82, 1, .iconst 0, [], 0, 0),
  (83, 2, .istore 8, [8], 0, 0),
  (85, 2, .iload 8, [8], 0, 0),
  (87, 2, .bipush 20, [], 20, 0),
  (89, 3, .if_icmp .gt 57, [74], 0, 0),
  (92, 2, .iload 8, [8], 0, 0),
  (94, 2, .iload 7, [7], 0, 0),
  (96, 3, .if_icmp .gt 50, [74], 0, 0),
  (99, 2, .iload 6, [6], 0, 0),
  (101, 3, .ifCond .ge 45, [74], 0, 0),
  (104, 1, .aload_n 0, [0], 0, 0),
  (105, 1, .iload_n 1, [1], 0, 0),
  (106, 1, .iconst 2, [], 2, 0),
  (107, 2, .iload 8, [8], 0, 0),
  (109, 3, .invokevirtual 62, [101, 4, 4], 0, 0),
  (112, 1, .aload_n 0, [0], 0, 0),
  (113, 1, .iload_n 2, [2], 0, 0),
  (114, 1, .iconst 2, [], 2, 0),
  (115, 2, .iload 7, [7], 0, 0),
  (117, 2, .iload 8, [8], 0, 0),
  (119, 1, .isub, [], 0, 0),
  (120, 3, .invokevirtual 62, [101, 4, 4], 0, 0),
  (123, 1, .aload_n 0, [0], 0, 0),
  (124, 1, .iload_n 3, [3], 0, 0),
  (125, 3, .invokevirtual 158, [145, 2, 4], 0, 0),
  (128, 3, .ifCond .eq 8, [70], 0, 0),
  (131, 2, .iload 7, [7], 0, 0),
  (133, 3, .goto 5, [71], 0, 0),
  (136, 2, .iload 6, [6], 0, 0),
  (138, 2, .istore 6, [6], 0, 0),
  (140, 3, .iinc 8 1, [8], 1, 0),
  (143, 3, .goto (-58), [44], 0, 0),
  (146, 3, .iinc 7 1, [7], 1, 0),
  (149, 3, .goto (-94), [30], 0, 0),
  (152, 1, .aload_n 0, [0], 0, 0),
  (153, 1, .iload_n 1, [1], 0, 0),
  (154, 1, .iconst 2, [], 2, 0),
  (155, 2, .iload 4, [4], 0, 0),
  (157, 3, .invokevirtual 62, [101, 4, 4], 0, 0),
  (160, 1, .aload_n 0, [0], 0, 0),
  (161, 1, .iload_n 2, [2], 0, 0),
  (162, 1, .iconst 2, [], 2, 0),
  (163, 2, .iload 5, [5], 0, 0),
  (165, 3, .invokevirtual 62, [101, 4, 4], 0, 0),
  (168, 2, .iload 6, [6], 0, 0),
  (170, 3, .ifCond .ge 12, [92], 0, 0),
  (173, 1, .aload_n 0, [0], 0, 0),
  (174, 2, .ldc 142, [], (-1000000004), 0),
  (176, 3, .invokevirtual 54, [95, 2, 4], 0, 0),
  (179, 3, .goto 5, [93], 0, 0),
  (182, 2, .iload 6, [6], 0, 0),
  (184, 1, .ireturn, [], 0, 0)]
set_option maxRecDepth 100000 in
theorem kX4_fires : na_okP (na_mi MX4_fires) PX4_fires := ⟨by decide +kernel, na_lks_s lk_RX4 (by decide +kernel)⟩
def PX4_sleep : List En := [(0, 1, .aload_n 0, [0], 0, 0),
  (1, 1, .iload_n 1, [1], 0, 0),
  (2, 3, .invokevirtual 95, [102, 2, 4], 0, 0),
  (5, 3, .ifCond .ne 10, [8], 0, 0),
  (8, 1, .aload_n 0, [0], 0, 0),
  (9, 2, .ldc 41, [], (-1000000001), 0),
  (11, 3, .invokevirtual 54, [95, 2, 4], 0, 0),
  (14, 1, .ireturn, [], 0, 0),
  (15, 1, .aload_n 0, [0], 0, 0),
  (16, 1, .iload_n 1, [1], 0, 0),
  (17, 1, .iconst 4, [], 4, 0),
  (18, 3, .invokevirtual 66, [98, 3, 4], 0, 0),
  (21, 1, .iconst 1, [], 1, 0),
  (22, 3, .if_icmp .ne 10, [18], 0, 0),
  (25, 1, .aload_n 0, [0], 0, 0),
  (26, 2, .ldc 118, [], (-1000000005), 0),
  (28, 3, .invokevirtual 54, [95, 2, 4], 0, 0),
  (31, 1, .ireturn, [], 0, 0),
  (32, 1, .aload_n 0, [0], 0, 0),
  (33, 1, .iload_n 1, [1], 0, 0),
  (34, 1, .iconst 1, [], 1, 0),
  (35, 3, .invokevirtual 66, [98, 3, 4], 0, 0),
  (38, 1, .istore_n 2, [2], 0, 0),
  (39, 1, .iconst 0, [], 0, 0),
  (40, 1, .istore_n 3, [3], 0, 0),
  (41, 1, .iconst (-1), [], (-1), 0),
  (42, 2, .istore 4, [4], 0, 0),
  (44, 1, .iconst 0, [], 0, 0),
  (45, 2, .istore 5, [5], 0, 0),
  (47, 2, .iload 5, [5], 0, 0),
  (49, 2, .bipush 8, [], 8, 0),
  (51, 3, .if_icmp .ge 56, [59], 0, 0),
  (54, 1, .aload_n 0, [0], 0, 0),
  (55, 1, .iload_n 1, [1], 0, 0),
  (56, 1, .iconst 1, [], 1, 0),
  (57, 2, .iload 5, [5], 0, 0),
  (59, 3, .invokevirtual 82, [99, 4, 4], 0, 0),
  (62, 1, .aload_n 0, [0], 0, 0),
  (63, 1, .iconst 1, [], 1, 0),
  (64, 1, .iload_n 1, [1], 0, 0),
  (65, 1, .ishl, [], 0, 0),
  (66, 3, .invokevirtual 139, [136, 2, 4], 0, 0),
  (69, 2, .istore 6, [6], 0, 0),
  (71, 2, .iload 6, [6], 0, 0),
  (73, 2, .iload 4, [4], 0, 0),
  (75, 3, .if_icmp .le 8, [48], 0, 0),
  (78, 2, .iload 5, [5], 0, 0),
  (80, 3, .goto 4, [49], 0, 0),
  (83, 1, .iload_n 3, [3], 0, 0),
  (84, 1, .istore_n 3, [3], 0, 0),
  (85, 2, .iload 6, [6], 0, 0),
  (87, 2, .iload 4, [4], 0, 0),
  (89, 3, .if_icmp .le 8, [55], 0, 0),
  (92, 2, .iload 6, [6], 0, 0),
  (94, 3, .goto 5, [56], 0, 0),
  (97, 2, .iload 4, [4], 0, 0),
  (99, 2, .istore 4, [4], 0, 0),
  (101, 3, .iinc 5 1, [5], 1, 0),
  (104, 3, .goto (-57), [29], 0, 0),
  (107, 1, .aload_n 0, [0], 0, 0),
  (108, 1, .iload_n 1, [1], 0, 0),
  (109, 1, .iconst 1, [], 1, 0),
  (110, 1, .iload_n 2, [2], 0, 0),
  (111, 3, .invokevirtual 82, [99, 4, 4], 0, 0),
  (114, 1, .iload_n 3, [3], 0, 0),
  (115, 1, .ireturn, [], 0, 0)]
set_option maxRecDepth 100000 in
theorem kX4_sleep : na_okP (na_mi MX4_sleep) PX4_sleep := ⟨by decide +kernel, na_lks_s lk_RX4 (by decide +kernel)⟩
def PX4_kind : List En := [(0, 1, .aload_n 0, [0], 0, 0),
  (1, 1, .iload_n 1, [1], 0, 0),
  (2, 3, .invokevirtual 95, [102, 2, 4], 0, 0),
  (5, 3, .ifCond .eq 10, [7], 0, 0),
  (8, 1, .iload_n 2, [2], 0, 0),
  (9, 3, .invokestatic 152, [105, 1], 0, 0),
  (12, 3, .ifCond .ne 10, [11], 0, 0),
  (15, 1, .aload_n 0, [0], 0, 0),
  (16, 2, .ldc 41, [], (-1000000001), 0),
  (18, 3, .invokevirtual 54, [95, 2, 4], 0, 0),
  (21, 1, .ireturn, [], 0, 0),
  (22, 1, .aload_n 0, [0], 0, 0),
  (23, 1, .iload_n 1, [1], 0, 0),
  (24, 1, .iconst 0, [], 0, 0),
  (25, 3, .invokevirtual 66, [98, 3, 4], 0, 0),
  (28, 1, .istore_n 3, [3], 0, 0),
  (29, 1, .iconst 0, [], 0, 0),
  (30, 2, .istore 4, [4], 0, 0),
  (32, 2, .bipush 9, [], 9, 0),
  (34, 2, .istore 5, [5], 0, 0),
  (36, 1, .iconst 0, [], 0, 0),
  (37, 2, .istore 6, [6], 0, 0),
  (39, 2, .iload 6, [6], 0, 0),
  (41, 1, .iconst 5, [], 5, 0),
  (42, 3, .if_icmp .gt 56, [50], 0, 0),
  (45, 1, .aload_n 0, [0], 0, 0),
  (46, 1, .iload_n 1, [1], 0, 0),
  (47, 1, .iconst 0, [], 0, 0),
  (48, 2, .iload 6, [6], 0, 0),
  (50, 3, .invokevirtual 82, [99, 4, 4], 0, 0),
  (53, 1, .aload_n 0, [0], 0, 0),
  (54, 1, .iload_n 2, [2], 0, 0),
  (55, 3, .invokevirtual 155, [143, 2, 4], 0, 0),
  (58, 2, .istore 7, [7], 0, 0),
  (60, 2, .iload 7, [7], 0, 0),
  (62, 2, .iload 5, [5], 0, 0),
  (64, 3, .if_icmp .ge 8, [39], 0, 0),
  (67, 2, .iload 6, [6], 0, 0),
  (69, 3, .goto 5, [40], 0, 0),
  (72, 2, .iload 4, [4], 0, 0),
  (74, 2, .istore 4, [4], 0, 0),
  (76, 2, .iload 7, [7], 0, 0),
  (78, 2, .iload 5, [5], 0, 0),
  (80, 3, .if_icmp .ge 8, [46], 0, 0),
  (83, 2, .iload 7, [7], 0, 0),
  (85, 3, .goto 5, [47], 0, 0),
  (88, 2, .iload 5, [5], 0, 0),
  (90, 2, .istore 5, [5], 0, 0),
  (92, 3, .iinc 6 1, [6], 1, 0),
  (95, 3, .goto (-56), [22], 0, 0),
  (98, 1, .aload_n 0, [0], 0, 0),
  (99, 1, .iload_n 1, [1], 0, 0),
  (100, 1, .iconst 0, [], 0, 0),
  (101, 1, .iload_n 3, [3], 0, 0),
  (102, 3, .invokevirtual 82, [99, 4, 4], 0, 0),
  (105, 2, .iload 4, [4], 0, 0),
  (107, 1, .ireturn, [], 0, 0)]
set_option maxRecDepth 100000 in
theorem kX4_kind : na_okP (na_mi MX4_kind) PX4_kind := ⟨by decide +kernel, na_lks_s lk_RX4 (by decide +kernel)⟩
def PX4_costs : List En := [(0, 1, .aload_n 0, [0], 0, 0),
  (1, 1, .iload_n 1, [1], 0, 0),
  (2, 3, .invokevirtual 95, [102, 2, 4], 0, 0),
  (5, 3, .ifCond .eq 10, [7], 0, 0),
  (8, 1, .iload_n 2, [2], 0, 0),
  (9, 3, .invokestatic 152, [105, 1], 0, 0),
  (12, 3, .ifCond .ne 10, [11], 0, 0),
  (15, 1, .aload_n 0, [0], 0, 0),
  (16, 2, .ldc 41, [], (-1000000001), 0),
  (18, 3, .invokevirtual 54, [95, 2, 4], 0, 0),
  (21, 1, .ireturn, [], 0, 0),
  (22, 1, .aload_n 0, [0], 0, 0),
  (23, 1, .iconst 1, [], 1, 0),
  (24, 1, .aload_n 0, [0], 0, 0),
  (25, 3, .getfield 16, [4, 2], 0, 0),
  (28, 3, .invokevirtual 132, [185, 3, 4], 0, 0),
  (31, 1, .aload_n 0, [0], 0, 0),
  (32, 1, .iload_n 2, [2], 0, 0),
  (33, 3, .invokevirtual 136, [134, 2, 4], 0, 0),
  (36, 1, .aload_n 0, [0], 0, 0),
  (37, 1, .iconst 0, [], 0, 0),
  (38, 3, .invokevirtual 122, [129, 2, 4], 0, 0),
  (41, 1, .istore_n 3, [3], 0, 0),
  (42, 1, .aload_n 0, [0], 0, 0),
  (43, 1, .iconst 0, [], 0, 0),
  (44, 1, .aload_n 0, [0], 0, 0),
  (45, 3, .getfield 16, [4, 2], 0, 0),
  (48, 3, .invokevirtual 132, [185, 3, 4], 0, 0),
  (51, 1, .aload_n 0, [0], 0, 0),
  (52, 1, .iload_n 1, [1], 0, 0),
  (53, 3, .invokevirtual 99, [122, 2, 4], 0, 0),
  (56, 1, .aload_n 0, [0], 0, 0),
  (57, 1, .iload_n 2, [2], 0, 0),
  (58, 3, .invokevirtual 136, [134, 2, 4], 0, 0),
  (61, 1, .aload_n 0, [0], 0, 0),
  (62, 1, .iconst 0, [], 0, 0),
  (63, 3, .invokevirtual 122, [129, 2, 4], 0, 0),
  (66, 2, .istore 4, [4], 0, 0),
  (68, 1, .aload_n 0, [0], 0, 0),
  (69, 1, .iconst 0, [], 0, 0),
  (70, 1, .aload_n 0, [0], 0, 0),
  (71, 3, .getfield 16, [4, 2], 0, 0),
  (74, 3, .invokevirtual 132, [185, 3, 4], 0, 0),
  (77, 2, .iload 4, [4], 0, 0),
  (79, 1, .iload_n 3, [3], 0, 0),
  (80, 1, .isub, [], 0, 0),
  (81, 1, .ireturn, [], 0, 0)]
set_option maxRecDepth 100000 in
theorem kX4_costs : na_okP (na_mi MX4_costs) PX4_costs := ⟨by decide +kernel, na_lks_s lk_RX4 (by decide +kernel)⟩
def PX4_product : List En := [(0, 1, .lconst 1, [], 0, 1),
  (1, 1, .lstore_n 1, [1], 0, 0),
  (2, 1, .iconst 2, [], 2, 0),
  (3, 1, .istore_n 3, [3], 0, 0),
  (4, 1, .iload_n 3, [3], 0, 0),
  (5, 1, .iload_n 0, [0], 0, 0),
  (6, 3, .if_icmp .gt 14, [14], 0, 0),
  (9, 1, .lload_n 1, [1], 0, 0),
  (10, 1, .iload_n 3, [3], 0, 0),
  (11, 1, .i2l, [], 0, 0),
  (12, 1, .lmul, [], 0, 0),
  (13, 1, .lstore_n 1, [1], 0, 0),
  (14, 3, .iinc 3 1, [3], 1, 0),
  (17, 3, .goto (-13), [4], 0, 0),
  (20, 1, .lload_n 1, [1], 0, 0),
  (21, 1, .lreturn, [], 0, 0)]
set_option maxRecDepth 100000 in
theorem kX4_product : na_okP (na_mi MX4_product) PX4_product := ⟨by decide +kernel, na_lks_s lk_RX4 (by decide +kernel)⟩
def PX4_greatest : List En := [(0, 1, .iconst 0, [], 0, 0),
  (1, 1, .istore_n 2, [2], 0, 0),
  (2, 1, .iconst 0, [], 0, 0),
  (3, 1, .istore_n 3, [3], 0, 0),
  (4, 1, .iload_n 3, [3], 0, 0),
  (5, 1, .aload_n 0, [0], 0, 0),
  (6, 3, .getfield 7, [4, 0], 0, 0),
  (9, 1, .iconst 3, [], 3, 0),
  (10, 1, .iaload, [], 0, 0),
  (11, 3, .if_icmp .ge 41, [29], 0, 0),
  (14, 1, .iload_n 1, [1], 0, 0),
  (15, 1, .iload_n 3, [3], 0, 0),
  (16, 3, .invokestatic 109, [96, 2], 0, 0),
  (19, 3, .ifCond .eq 11, [18], 0, 0),
  (22, 1, .aload_n 0, [0], 0, 0),
  (23, 1, .iload_n 3, [3], 0, 0),
  (24, 3, .invokevirtual 69, [117, 2, 4], 0, 0),
  (27, 3, .goto 4, [19], 0, 0),
  (30, 1, .iconst 0, [], 0, 0),
  (31, 2, .istore 4, [4], 0, 0),
  (33, 2, .iload 4, [4], 0, 0),
  (35, 1, .iload_n 2, [2], 0, 0),
  (36, 3, .if_icmp .le 8, [25], 0, 0),
  (39, 2, .iload 4, [4], 0, 0),
  (41, 3, .goto 4, [26], 0, 0),
  (44, 1, .iload_n 2, [2], 0, 0),
  (45, 1, .istore_n 2, [2], 0, 0),
  (46, 3, .iinc 3 1, [3], 1, 0),
  (49, 3, .goto (-45), [4], 0, 0),
  (52, 1, .iload_n 2, [2], 0, 0),
  (53, 1, .ireturn, [], 0, 0)]
set_option maxRecDepth 100000 in
theorem kX4_greatest : na_okP (na_mi MX4_greatest) PX4_greatest := ⟨by decide +kernel, na_lks_s lk_RX4 (by decide +kernel)⟩
def PX4_share : List En := [(0, 1, .iload_n 2, [2], 0, 0),
  (1, 1, .iconst 1, [], 1, 0),
  (2, 2, .bipush 6, [], 6, 0),
  (4, 3, .invokestatic 42, [94, 3], 0, 0),
  (7, 3, .ifCond .eq 24, [18], 0, 0),
  (10, 1, .iload_n 2, [2], 0, 0),
  (11, 1, .aload_n 0, [0], 0, 0),
  (12, 3, .getfield 7, [4, 0], 0, 0),
  (15, 1, .iconst 3, [], 3, 0),
  (16, 1, .iaload, [], 0, 0),
  (17, 3, .if_icmp .gt 14, [18], 0, 0),
  (20, 1, .iload_n 1, [1], 0, 0),
  (21, 1, .iconst 0, [], 0, 0),
  (22, 1, .iload_n 2, [2], 0, 0),
  (23, 1, .iconst 1, [], 1, 0),
  (24, 1, .isub, [], 0, 0),
  (25, 3, .invokestatic 42, [94, 3], 0, 0),
  (28, 3, .ifCond .ne 11, [23], 0, 0),
  (31, 1, .aload_n 0, [0], 0, 0),
  (32, 2, .ldc 41, [], (-1000000001), 0),
  (34, 3, .invokevirtual 54, [95, 2, 4], 0, 0),
  (37, 1, .i2l, [], 0, 0),
  (38, 1, .lreturn, [], 0, 0),
  (39, 1, .lconst 0, [], 0, 0),
  (40, 1, .lstore_n 3, [3], 0, 0),
  (41, 1, .iconst 0, [], 0, 0),
  (42, 2, .istore 5, [5], 0, 0),
  (44, 2, .iload 5, [5], 0, 0),
  (46, 1, .iconst 1, [], 1, 0),
  (47, 1, .iload_n 2, [2], 0, 0),
  (48, 1, .ishl, [], 0, 0),
  (49, 3, .if_icmp .ge 82, [75], 0, 0),
  (52, 2, .iload 5, [5], 0, 0),
  (54, 1, .iload_n 1, [1], 0, 0),
  (55, 3, .invokestatic 109, [96, 2], 0, 0),
  (58, 3, .ifCond .eq 7, [38], 0, 0),
  (61, 1, .iconst 0, [], 0, 0),
  (62, 3, .goto 20, [49], 0, 0),
  (65, 1, .aload_n 0, [0], 0, 0),
  (66, 2, .iload 5, [5], 0, 0),
  (68, 1, .iconst 1, [], 1, 0),
  (69, 1, .iload_n 1, [1], 0, 0),
  (70, 1, .ishl, [], 0, 0),
  (71, 1, .ior, [], 0, 0),
  (72, 3, .invokevirtual 161, [152, 2, 4], 0, 0),
  (75, 1, .aload_n 0, [0], 0, 0),
  (76, 2, .iload 5, [5], 0, 0),
  (78, 3, .invokevirtual 161, [152, 2, 4], 0, 0),
  (81, 1, .isub, [], 0, 0),
  (82, 2, .istore 6, [6], 0, 0),
  (84, 1, .lload_n 3, [3], 0, 0),
  (85, 2, .iload 6, [6], 0, 0),
  (87, 1, .i2l, [], 0, 0),
  (88, 2, .iload 5, [5], 0, 0),
  (90, 3, .invokestatic 149, [97, 1], 0, 0),
  (93, 3, .invokestatic 164, [151, 1], 0, 0),
  (96, 1, .lmul, [], 0, 0),
  (97, 2, .iload 5, [5], 0, 0),
  (99, 1, .iload_n 1, [1], 0, 0),
  (100, 3, .invokestatic 109, [96, 2], 0, 0),
  (103, 3, .ifCond .eq 7, [63], 0, 0),
  (106, 1, .lconst 0, [], 0, 0),
  (107, 3, .goto 15, [70], 0, 0),
  (110, 1, .iload_n 2, [2], 0, 0),
  (111, 1, .iconst 1, [], 1, 0),
  (112, 1, .isub, [], 0, 0),
  (113, 2, .iload 5, [5], 0, 0),
  (115, 3, .invokestatic 149, [97, 1], 0, 0),
  (118, 1, .isub, [], 0, 0),
  (119, 3, .invokestatic 164, [151, 1], 0, 0),
  (122, 1, .lmul, [], 0, 0),
  (123, 1, .ladd, [], 0, 0),
  (124, 1, .lstore_n 3, [3], 0, 0),
  (125, 3, .iinc 5 1, [5], 1, 0),
  (128, 3, .goto (-84), [27], 0, 0),
  (131, 1, .lload_n 3, [3], 0, 0),
  (132, 3, .ldc2_w 168, [], 0, 720),
  (135, 1, .iload_n 2, [2], 0, 0),
  (136, 3, .invokestatic 164, [151, 1], 0, 0),
  (139, 1, .ldiv, [], 0, 0),
  (140, 1, .lmul, [], 0, 0),
  (141, 1, .lreturn, [], 0, 0)]
set_option maxRecDepth 100000 in
theorem kX4_share : na_okP (na_mi MX4_share) PX4_share := ⟨by decide +kernel, na_lks_s lk_RX4 (by decide +kernel)⟩
def PX4_frostOf : List En := [(0, 1, .iconst 0, [], 0, 0),
  (1, 1, .istore_n 2, [2], 0, 0),
  (2, 1, .iconst 0, [], 0, 0),
  (3, 1, .istore_n 3, [3], 0, 0),
  (4, 1, .iload_n 3, [3], 0, 0),
  (5, 2, .bipush 8, [], 8, 0),
  (7, 3, .if_icmp .ge 30, [22], 0, 0),
  (10, 1, .iload_n 2, [2], 0, 0),
  (11, 1, .iload_n 1, [1], 0, 0),
  (12, 1, .iload_n 3, [3], 0, 0),
  (13, 3, .invokestatic 109, [96, 2], 0, 0),
  (16, 3, .ifCond .eq 12, [17], 0, 0),
  (19, 1, .aload_n 0, [0], 0, 0),
  (20, 1, .iload_n 3, [3], 0, 0),
  (21, 1, .iconst 1, [], 1, 0),
  (22, 3, .invokevirtual 58, [100, 3, 4], 0, 0),
  (25, 3, .goto 4, [18], 0, 0),
  (28, 1, .iconst 0, [], 0, 0),
  (29, 1, .iadd, [], 0, 0),
  (30, 1, .istore_n 2, [2], 0, 0),
  (31, 3, .iinc 3 1, [3], 1, 0),
  (34, 3, .goto (-30), [4], 0, 0),
  (37, 1, .iload_n 2, [2], 0, 0),
  (38, 1, .ireturn, [], 0, 0)]
set_option maxRecDepth 100000 in
theorem kX4_frostOf : na_okP (na_mi MX4_frostOf) PX4_frostOf := ⟨by decide +kernel, na_lks_s lk_RX4 (by decide +kernel)⟩
def PX4_swept : List En := [(0, 1, .iload_n 1, [1], 0, 0),
  (1, 1, .iconst 0, [], 0, 0),
  (2, 2, .ldc 170, [], 99999, 0),
  (4, 3, .invokestatic 42, [94, 3], 0, 0),
  (7, 3, .ifCond .ne 10, [9], 0, 0),
  (10, 1, .aload_n 0, [0], 0, 0),
  (11, 2, .ldc 41, [], (-1000000001), 0),
  (13, 3, .invokevirtual 54, [95, 2, 4], 0, 0),
  (16, 1, .ireturn, [], 0, 0),
  (17, 1, .iconst 0, [], 0, 0),
  (18, 1, .istore_n 2, [2], 0, 0),
  (19, 1, .iconst 0, [], 0, 0),
  (20, 1, .istore_n 3, [3], 0, 0),
  (21, 1, .iload_n 3, [3], 0, 0),
  (22, 3, .sipush 256, [], 256, 0),
  (25, 3, .if_icmp .ge 26, [29], 0, 0),
  (28, 1, .iload_n 2, [2], 0, 0),
  (29, 1, .aload_n 0, [0], 0, 0),
  (30, 1, .iload_n 3, [3], 0, 0),
  (31, 3, .invokevirtual 171, [154, 2, 4], 0, 0),
  (34, 1, .iload_n 1, [1], 0, 0),
  (35, 3, .if_icmp .ne 7, [24], 0, 0),
  (38, 1, .iconst 1, [], 1, 0),
  (39, 3, .goto 4, [25], 0, 0),
  (42, 1, .iconst 0, [], 0, 0),
  (43, 1, .iadd, [], 0, 0),
  (44, 1, .istore_n 2, [2], 0, 0),
  (45, 3, .iinc 3 1, [3], 1, 0),
  (48, 3, .goto (-27), [13], 0, 0),
  (51, 1, .iload_n 2, [2], 0, 0),
  (52, 1, .ireturn, [], 0, 0)]
set_option maxRecDepth 100000 in
theorem kX4_swept : na_okP (na_mi MX4_swept) PX4_swept := ⟨by decide +kernel, na_lks_s lk_RX4 (by decide +kernel)⟩
def PX4_sweeps : List En := [(0, 1, .iload_n 1, [1], 0, 0),
  (1, 1, .iconst 0, [], 0, 0),
  (2, 2, .ldc 170, [], 99999, 0),
  (4, 3, .invokestatic 42, [94, 3], 0, 0),
  (7, 3, .ifCond .ne 10, [9], 0, 0),
  (10, 1, .aload_n 0, [0], 0, 0),
  (11, 2, .ldc 41, [], (-1000000001), 0),
  (13, 3, .invokevirtual 54, [95, 2, 4], 0, 0),
  (16, 1, .ireturn, [], 0, 0),
  (17, 1, .iconst 0, [], 0, 0),
  (18, 1, .istore_n 2, [2], 0, 0),
  (19, 1, .iload_n 2, [2], 0, 0),
  (20, 3, .sipush 256, [], 256, 0),
  (23, 3, .if_icmp .ge 18, [21], 0, 0),
  (26, 1, .aload_n 0, [0], 0, 0),
  (27, 1, .iload_n 2, [2], 0, 0),
  (28, 3, .invokevirtual 171, [154, 2, 4], 0, 0),
  (31, 1, .iload_n 1, [1], 0, 0),
  (32, 3, .if_icmp .eq 9, [21], 0, 0),
  (35, 3, .iinc 2 1, [2], 1, 0),
  (38, 3, .goto (-19), [11], 0, 0),
  (41, 1, .iload_n 2, [2], 0, 0),
  (42, 3, .sipush 256, [], 256, 0),
  (45, 3, .if_icmp .ne 12, [28], 0, 0),
  (48, 1, .aload_n 0, [0], 0, 0),
  (49, 2, .ldc 142, [], (-1000000004), 0),
  (51, 3, .invokevirtual 54, [95, 2, 4], 0, 0),
  (54, 3, .goto 4, [29], 0, 0),
  (57, 1, .iload_n 2, [2], 0, 0),
  (58, 1, .ireturn, [], 0, 0)]
set_option maxRecDepth 100000 in
theorem kX4_sweeps : na_okP (na_mi MX4_sweeps) PX4_sweeps := ⟨by decide +kernel, na_lks_s lk_RX4 (by decide +kernel)⟩
def PX4_owed : List En := [(0, 1, .iconst 0, [], 0, 0),
  (1, 1, .istore_n 1, [1], 0, 0),
  (2, 1, .iconst 1, [], 1, 0),
  (3, 1, .istore_n 2, [2], 0, 0),
  (4, 1, .iload_n 2, [2], 0, 0),
  (5, 2, .bipush 8, [], 8, 0),
  (7, 3, .if_icmp .ge 30, [22], 0, 0),
  (10, 1, .aload_n 0, [0], 0, 0),
  (11, 1, .iload_n 2, [2], 0, 0),
  (12, 1, .iconst 1, [], 1, 0),
  (13, 3, .invokevirtual 58, [100, 3, 4], 0, 0),
  (16, 1, .aload_n 0, [0], 0, 0),
  (17, 1, .iload_n 1, [1], 0, 0),
  (18, 1, .iconst 1, [], 1, 0),
  (19, 3, .invokevirtual 58, [100, 3, 4], 0, 0),
  (22, 3, .if_icmp .le 7, [18], 0, 0),
  (25, 1, .iload_n 2, [2], 0, 0),
  (26, 3, .goto 4, [19], 0, 0),
  (29, 1, .iload_n 1, [1], 0, 0),
  (30, 1, .istore_n 1, [1], 0, 0),
  (31, 3, .iinc 2 1, [2], 1, 0),
  (34, 3, .goto (-30), [4], 0, 0),
  (37, 1, .iload_n 1, [1], 0, 0),
  (38, 1, .ireturn, [], 0, 0)]
set_option maxRecDepth 100000 in
theorem kX4_owed : na_okP (na_mi MX4_owed) PX4_owed := ⟨by decide +kernel, na_lks_s lk_RX4 (by decide +kernel)⟩
def PX4_leaked : List En := [(0, 1, .iload_n 1, [1], 0, 0),
  (1, 3, .invokestatic 46, [103, 1], 0, 0),
  (4, 3, .ifCond .eq 21, [11], 0, 0),
  (7, 1, .iload_n 2, [2], 0, 0),
  (8, 3, .invokestatic 152, [105, 1], 0, 0),
  (11, 3, .ifCond .eq 14, [11], 0, 0),
  (14, 1, .iload_n 3, [3], 0, 0),
  (15, 1, .iconst 0, [], 0, 0),
  (16, 3, .sipush 9999, [], 9999, 0),
  (19, 3, .invokestatic 42, [94, 3], 0, 0),
  (22, 3, .ifCond .ne 10, [15], 0, 0),
  (25, 1, .aload_n 0, [0], 0, 0),
  (26, 2, .ldc 41, [], (-1000000001), 0),
  (28, 3, .invokevirtual 54, [95, 2, 4], 0, 0),
  (31, 1, .ireturn, [], 0, 0),
  (32, 1, .iconst 0, [], 0, 0),
  (33, 2, .istore 4, [4], 0, 0),
  (35, 1, .aload_n 0, [0], 0, 0),
  (36, 1, .iconst 1, [], 1, 0),
  (37, 1, .aload_n 0, [0], 0, 0),
  (38, 3, .getfield 16, [4, 2], 0, 0),
  (41, 3, .invokevirtual 132, [185, 3, 4], 0, 0),
  (44, 1, .iconst 0, [], 0, 0),
  (45, 2, .istore 5, [5], 0, 0),
  (47, 2, .iload 5, [5], 0, 0),
  (49, 2, .bipush 10, [], 10, 0),
  (51, 3, .if_icmp .ge 51, [54], 0, 0),
  (54, 1, .aload_n 0, [0], 0, 0),
  (55, 1, .iload_n 1, [1], 0, 0),
  (56, 1, .iconst 3, [], 3, 0),
  (57, 2, .iload 5, [5], 0, 0),
  (59, 3, .invokevirtual 62, [101, 4, 4], 0, 0),
  (62, 1, .aload_n 0, [0], 0, 0),
  (63, 1, .iload_n 2, [2], 0, 0),
  (64, 3, .invokevirtual 136, [134, 2, 4], 0, 0),
  (67, 2, .iload 4, [4], 0, 0),
  (69, 1, .aload_n 0, [0], 0, 0),
  (70, 1, .iload_n 1, [1], 0, 0),
  (71, 1, .iconst 0, [], 0, 0),
  (72, 3, .invokevirtual 58, [100, 3, 4], 0, 0),
  (75, 1, .iload_n 3, [3], 0, 0),
  (76, 3, .if_icmp .ne 7, [44], 0, 0),
  (79, 1, .iconst 1, [], 1, 0),
  (80, 3, .goto 4, [45], 0, 0),
  (83, 1, .iconst 0, [], 0, 0),
  (84, 1, .iadd, [], 0, 0),
  (85, 2, .istore 4, [4], 0, 0),
  (87, 1, .aload_n 0, [0], 0, 0),
  (88, 1, .iconst 0, [], 0, 0),
  (89, 1, .aload_n 0, [0], 0, 0),
  (90, 3, .getfield 16, [4, 2], 0, 0),
  (93, 3, .invokevirtual 132, [185, 3, 4], 0, 0),
  (96, 3, .iinc 5 1, [5], 1, 0),
  (99, 3, .goto (-52), [24], 0, 0),
  (102, 2, .iload 4, [4], 0, 0),
  (104, 1, .ireturn, [], 0, 0)]
set_option maxRecDepth 100000 in
theorem kX4_leaked : na_okP (na_mi MX4_leaked) PX4_leaked := ⟨by decide +kernel, na_lks_s lk_RX4 (by decide +kernel)⟩
def PX4_feed : List En := [(0, 1, .iload_n 2, [2], 0, 0),
  (1, 1, .iconst 1, [], 1, 0),
  (2, 1, .iconst 4, [], 4, 0),
  (3, 3, .invokestatic 42, [94, 3], 0, 0),
  (6, 3, .ifCond .ne 10, [9], 0, 0),
  (9, 1, .aload_n 0, [0], 0, 0),
  (10, 2, .ldc 41, [], (-1000000001), 0),
  (12, 3, .invokevirtual 54, [95, 2, 4], 0, 0),
  (15, 1, .ireturn, [], 0, 0),
  (16, 1, .aload_n 0, [0], 0, 0),
  (17, 3, .getfield 174, [4, 4], 0, 0),
  (20, 1, .iload_n 2, [2], 0, 0),
  (21, 1, .iadd, [], 0, 0),
  (22, 2, .bipush 120, [], 120, 0),
  (24, 3, .if_icmp .le 10, [19], 0, 0),
  (27, 1, .aload_n 0, [0], 0, 0),
  (28, 2, .ldc 88, [], (-1000000002), 0),
  (30, 3, .invokevirtual 54, [95, 2, 4], 0, 0),
  (33, 1, .ireturn, [], 0, 0),
  (34, 1, .iload_n 2, [2], 0, 0),
  (35, 1, .iconst 1, [], 1, 0),
  (36, 1, .isub, [], 0, 0),
  (37, 1, .istore_n 3, [3], 0, 0),
  (38, 1, .iload_n 3, [3], 0, 0),
  (39, 3, .ifCond .lt 38, [45], 0, 0),
  (42, 1, .aload_n 0, [0], 0, 0),
  (43, 3, .getfield 19, [4, 3], 0, 0),
  (46, 1, .aload_n 0, [0], 0, 0),
  (47, 3, .getfield 174, [4, 4], 0, 0),
  (50, 1, .iload_n 1, [1], 0, 0),
  (51, 2, .bipush 8, [], 8, 0),
  (53, 1, .iload_n 3, [3], 0, 0),
  (54, 1, .imul, [], 0, 0),
  (55, 1, .ishr, [], 0, 0),
  (56, 3, .sipush 255, [], 255, 0),
  (59, 1, .iand, [], 0, 0),
  (60, 1, .iastore, [], 0, 0),
  (61, 1, .aload_n 0, [0], 0, 0),
  (62, 1, .dup, [], 0, 0),
  (63, 3, .getfield 174, [4, 4], 0, 0),
  (66, 1, .iconst 1, [], 1, 0),
  (67, 1, .iadd, [], 0, 0),
  (68, 3, .putfield 174, [4, 4, 0], 0, 0),
  (71, 3, .iinc 3 (-1), [3], (-1), 0),
  (74, 3, .goto (-36), [23], 0, 0),
  (77, 1, .aload_n 0, [0], 0, 0),
  (78, 3, .getfield 174, [4, 4], 0, 0),
  (81, 1, .ireturn, [], 0, 0)]
set_option maxRecDepth 100000 in
theorem kX4_feed : na_okP (na_mi MX4_feed) PX4_feed := ⟨by decide +kernel, na_lks_s lk_RX4 (by decide +kernel)⟩
def PX4_wipe : List En := [(0, 1, .aload_n 0, [0], 0, 0),
  (1, 3, .getfield 174, [4, 4], 0, 0),
  (4, 1, .istore_n 1, [1], 0, 0),
  (5, 1, .aload_n 0, [0], 0, 0),
  (6, 1, .iconst 0, [], 0, 0),
  (7, 3, .putfield 174, [4, 4, 0], 0, 0),
  (10, 1, .iload_n 1, [1], 0, 0),
  (11, 1, .ireturn, [], 0, 0)]
set_option maxRecDepth 100000 in
theorem kX4_wipe : na_okP (na_mi MX4_wipe) PX4_wipe := ⟨by decide +kernel, na_lks_s lk_RX4 (by decide +kernel)⟩
def PX4_byteAt : List En := [(0, 1, .iload_n 1, [1], 0, 0),
  (1, 1, .aload_n 0, [0], 0, 0),
  (2, 3, .getfield 174, [4, 4], 0, 0),
  (5, 3, .if_icmp .ge 12, [9], 0, 0),
  (8, 1, .aload_n 0, [0], 0, 0),
  (9, 3, .getfield 19, [4, 3], 0, 0),
  (12, 1, .iload_n 1, [1], 0, 0),
  (13, 1, .iaload, [], 0, 0),
  (14, 3, .goto 4, [10], 0, 0),
  (17, 1, .iconst (-1), [], (-1), 0),
  (18, 1, .ireturn, [], 0, 0)]
set_option maxRecDepth 100000 in
theorem kX4_byteAt : na_okP (na_mi MX4_byteAt) PX4_byteAt := ⟨by decide +kernel, na_lks_s lk_RX4 (by decide +kernel)⟩
def PX4_isLetter : List En := [(0, 1, .iload_n 0, [0], 0, 0),
  (1, 2, .bipush 97, [], 97, 0),
  (3, 2, .bipush 122, [], 122, 0),
  (5, 3, .invokestatic 42, [94, 3], 0, 0),
  (8, 1, .ireturn, [], 0, 0)]
set_option maxRecDepth 100000 in
theorem kX4_isLetter : na_okP (na_mi MX4_isLetter) PX4_isLetter := ⟨by decide +kernel, na_lks_s lk_RX4 (by decide +kernel)⟩
def PX4_isDigit : List En := [(0, 1, .iload_n 0, [0], 0, 0),
  (1, 2, .bipush 48, [], 48, 0),
  (3, 2, .bipush 57, [], 57, 0),
  (5, 3, .invokestatic 42, [94, 3], 0, 0),
  (8, 1, .ireturn, [], 0, 0)]
set_option maxRecDepth 100000 in
theorem kX4_isDigit : na_okP (na_mi MX4_isDigit) PX4_isDigit := ⟨by decide +kernel, na_lks_s lk_RX4 (by decide +kernel)⟩
def PX4_advance : List En := [(0, 1, .aload_n 0, [0], 0, 0),
  (1, 1, .aload_n 0, [0], 0, 0),
  (2, 3, .getfield 178, [4, 7], 0, 0),
  (5, 3, .putfield 181, [4, 6, 0], 0, 0),
  (8, 1, .aload_n 0, [0], 0, 0),
  (9, 1, .aload_n 0, [0], 0, 0),
  (10, 3, .getfield 181, [4, 6], 0, 0),
  (13, 3, .invokevirtual 184, [161, 2, 4], 0, 0),
  (16, 2, .bipush 32, [], 32, 0),
  (18, 3, .if_icmp .ne 16, [17], 0, 0),
  (21, 1, .aload_n 0, [0], 0, 0),
  (22, 1, .dup, [], 0, 0),
  (23, 3, .getfield 181, [4, 6], 0, 0),
  (26, 1, .iconst 1, [], 1, 0),
  (27, 1, .iadd, [], 0, 0),
  (28, 3, .putfield 181, [4, 6, 0], 0, 0),
  (31, 3, .goto (-23), [4], 0, 0),
  (34, 1, .aload_n 0, [0], 0, 0),
  (35, 1, .aload_n 0, [0], 0, 0),
  (36, 3, .getfield 181, [4, 6], 0, 0),
  (39, 3, .putfield 178, [4, 7, 0], 0, 0),
  (42, 1, .aload_n 0, [0], 0, 0),
  (43, 1, .aload_n 0, [0], 0, 0),
  (44, 3, .getfield 181, [4, 6], 0, 0),
  (47, 3, .invokevirtual 184, [161, 2, 4], 0, 0),
  (50, 1, .istore_n 1, [1], 0, 0),
  (51, 1, .aload_n 0, [0], 0, 0),
  (52, 1, .iload_n 1, [1], 0, 0),
  (53, 3, .ifCond .ge 7, [31], 0, 0),
  (56, 1, .iconst 0, [], 0, 0),
  (57, 3, .goto 26, [42], 0, 0),
  (60, 1, .iload_n 1, [1], 0, 0),
  (61, 3, .invokestatic 187, [162, 1], 0, 0),
  (64, 3, .ifCond .eq 7, [36], 0, 0),
  (67, 1, .iconst 1, [], 1, 0),
  (68, 3, .goto 15, [42], 0, 0),
  (71, 1, .iload_n 1, [1], 0, 0),
  (72, 3, .invokestatic 190, [163, 1], 0, 0),
  (75, 3, .ifCond .eq 7, [41], 0, 0),
  (78, 1, .iconst 2, [], 2, 0),
  (79, 3, .goto 4, [42], 0, 0),
  (82, 1, .iconst 3, [], 3, 0),
  (83, 3, .putfield 193, [4, 5, 0], 0, 0),
  (86, 1, .aload_n 0, [0], 0, 0),
  (87, 1, .lconst 0, [], 0, 0),
  (88, 3, .putfield 196, [4, 8, 2], 0, 0),
  (91, 1, .aload_n 0, [0], 0, 0),
  (92, 1, .aload_n 0, [0], 0, 0),
  (93, 3, .getfield 193, [4, 5], 0, 0),
  (96, 1, .iconst 2, [], 2, 0),
  (97, 3, .if_icmp .ne 7, [53], 0, 0),
  (100, 1, .iconst 0, [], 0, 0),
  (101, 3, .goto 4, [54], 0, 0),
  (104, 1, .iload_n 1, [1], 0, 0),
  (105, 3, .putfield 200, [4, 9, 0], 0, 0),
  (108, 1, .aload_n 0, [0], 0, 0),
  (109, 3, .getfield 193, [4, 5], 0, 0),
  (112, 1, .iconst 3, [], 3, 0),
  (113, 3, .if_icmp .ne 13, [65], 0, 0),
  (116, 1, .aload_n 0, [0], 0, 0),
  (117, 1, .dup, [], 0, 0),
  (118, 3, .getfield 178, [4, 7], 0, 0),
  (121, 1, .iconst 1, [], 1, 0),
  (122, 1, .iadd, [], 0, 0),
  (123, 3, .putfield 178, [4, 7, 0], 0, 0),
  (126, 1, .aload_n 0, [0], 0, 0),
  (127, 3, .getfield 193, [4, 5], 0, 0),
  (130, 1, .iconst 1, [], 1, 0),
  (131, 3, .if_icmp .ne 76, [105], 0, 0),
  (134, 1, .aload_n 0, [0], 0, 0),
  (135, 1, .aload_n 0, [0], 0, 0),
  (136, 3, .getfield 178, [4, 7], 0, 0),
  (139, 3, .invokevirtual 184, [161, 2, 4], 0, 0),
  (142, 3, .invokestatic 187, [162, 1], 0, 0),
  (145, 3, .ifCond .eq 62, [105], 0, 0),
  (148, 1, .aload_n 0, [0], 0, 0),
  (149, 1, .aload_n 0, [0], 0, 0),
  (150, 3, .getfield 178, [4, 7], 0, 0),
  (153, 1, .aload_n 0, [0], 0, 0),
  (154, 3, .getfield 181, [4, 6], 0, 0),
  (157, 1, .isub, [], 0, 0),
  (158, 2, .bipush 12, [], 12, 0),
  (160, 3, .if_icmp .ge 28, [96], 0, 0),
  (163, 3, .ldc2_w 203, [], 0, 27),
  (166, 1, .aload_n 0, [0], 0, 0),
  (167, 3, .getfield 196, [4, 8], 0, 0),
  (170, 1, .lmul, [], 0, 0),
  (171, 1, .aload_n 0, [0], 0, 0),
  (172, 1, .aload_n 0, [0], 0, 0),
  (173, 3, .getfield 178, [4, 7], 0, 0),
  (176, 3, .invokevirtual 184, [161, 2, 4], 0, 0),
  (179, 1, .i2l, [], 0, 0),
  (180, 1, .ladd, [], 0, 0),
  (181, 3, .ldc2_w 205, [], 0, 96),
  (184, 1, .lsub, [], 0, 0),
  (185, 3, .goto 6, [97], 0, 0),
  (188, 3, .ldc2_w 207, [], 0, (-1)),
  (191, 3, .putfield 196, [4, 8, 2], 0, 0),
  (194, 1, .aload_n 0, [0], 0, 0),
  (195, 1, .dup, [], 0, 0),
  (196, 3, .getfield 178, [4, 7], 0, 0),
  (199, 1, .iconst 1, [], 1, 0),
  (200, 1, .iadd, [], 0, 0),
  (201, 3, .putfield 178, [4, 7, 0], 0, 0),
  (204, 3, .goto (-78), [65], 0, 0),
  (207, 1, .aload_n 0, [0], 0, 0),
  (208, 3, .getfield 193, [4, 5], 0, 0),
  (211, 1, .iconst 2, [], 2, 0),
  (212, 3, .if_icmp .ne 69, [141], 0, 0),
  (215, 1, .aload_n 0, [0], 0, 0),
  (216, 1, .aload_n 0, [0], 0, 0),
  (217, 3, .getfield 178, [4, 7], 0, 0),
  (220, 3, .invokevirtual 184, [161, 2, 4], 0, 0),
  (223, 3, .invokestatic 190, [163, 1], 0, 0),
  (226, 3, .ifCond .eq 55, [141], 0, 0),
  (229, 1, .aload_n 0, [0], 0, 0),
  (230, 1, .aload_n 0, [0], 0, 0),
  (231, 3, .getfield 200, [4, 9], 0, 0),
  (234, 3, .sipush 999, [], 999, 0),
  (237, 3, .if_icmp .le 9, [122], 0, 0),
  (240, 3, .sipush 10000, [], 10000, 0),
  (243, 3, .goto 22, [133], 0, 0),
  (246, 2, .bipush 10, [], 10, 0),
  (248, 1, .aload_n 0, [0], 0, 0),
  (249, 3, .getfield 200, [4, 9], 0, 0),
  (252, 1, .imul, [], 0, 0),
  (253, 1, .aload_n 0, [0], 0, 0),
  (254, 1, .aload_n 0, [0], 0, 0),
  (255, 3, .getfield 178, [4, 7], 0, 0),
  (258, 3, .invokevirtual 184, [161, 2, 4], 0, 0),
  (261, 1, .iadd, [], 0, 0),
  (262, 2, .bipush 48, [], 48, 0),
  (264, 1, .isub, [], 0, 0),
  (265, 3, .putfield 200, [4, 9, 0], 0, 0),
  (268, 1, .aload_n 0, [0], 0, 0),
  (269, 1, .dup, [], 0, 0),
  (270, 3, .getfield 178, [4, 7], 0, 0),
  (273, 1, .iconst 1, [], 1, 0),
  (274, 1, .iadd, [], 0, 0),
  (275, 3, .putfield 178, [4, 7, 0], 0, 0),
  (278, 3, .goto (-71), [105], 0, 0),
  (281, 1, .return_, [], 0, 0)]
set_option maxRecDepth 100000 in
theorem kX4_advance : na_okP (na_mi MX4_advance) PX4_advance := ⟨by decide +kernel, na_lks_s lk_RX4 (by decide +kernel)⟩
def PX4_isWord : List En := [(0, 1, .aload_n 0, [0], 0, 0),
  (1, 3, .getfield 193, [4, 5], 0, 0),
  (4, 1, .iconst 1, [], 1, 0),
  (5, 3, .if_icmp .ne 16, [11], 0, 0),
  (8, 1, .aload_n 0, [0], 0, 0),
  (9, 3, .getfield 196, [4, 8], 0, 0),
  (12, 1, .lload_n 1, [1], 0, 0),
  (13, 1, .lcmp, [], 0, 0),
  (14, 3, .ifCond .ne 7, [11], 0, 0),
  (17, 1, .iconst 1, [], 1, 0),
  (18, 3, .goto 4, [12], 0, 0),
  (21, 1, .iconst 0, [], 0, 0),
  (22, 1, .ireturn, [], 0, 0)]
set_option maxRecDepth 100000 in
theorem kX4_isWord : na_okP (na_mi MX4_isWord) PX4_isWord := ⟨by decide +kernel, na_lks_s lk_RX4 (by decide +kernel)⟩
def PX4_kindHere : List En := [(0, 1, .aload_n 0, [0], 0, 0),
  (1, 3, .ldc2_w 209, [], 0, 232608281),
  (4, 3, .invokevirtual 211, [165, 2, 4], 0, 0),
  (7, 3, .ifCond .eq 7, [6], 0, 0),
  (10, 1, .iconst 0, [], 0, 0),
  (11, 3, .goto 74, [37], 0, 0),
  (14, 1, .aload_n 0, [0], 0, 0),
  (15, 3, .ldc2_w 215, [], 0, 58204971),
  (18, 3, .invokevirtual 211, [165, 2, 4], 0, 0),
  (21, 3, .ifCond .eq 7, [12], 0, 0),
  (24, 1, .iconst 1, [], 1, 0),
  (25, 3, .goto 60, [37], 0, 0),
  (28, 1, .aload_n 0, [0], 0, 0),
  (29, 3, .ldc2_w 217, [], 0, 7535943612),
  (32, 3, .invokevirtual 211, [165, 2, 4], 0, 0),
  (35, 3, .ifCond .eq 7, [18], 0, 0),
  (38, 1, .iconst 2, [], 2, 0),
  (39, 3, .goto 46, [37], 0, 0),
  (42, 1, .aload_n 0, [0], 0, 0),
  (43, 3, .ldc2_w 219, [], 0, 123002136),
  (46, 3, .invokevirtual 211, [165, 2, 4], 0, 0),
  (49, 3, .ifCond .eq 7, [24], 0, 0),
  (52, 1, .iconst 3, [], 3, 0),
  (53, 3, .goto 32, [37], 0, 0),
  (56, 1, .aload_n 0, [0], 0, 0),
  (57, 3, .ldc2_w 221, [], 0, 1762983),
  (60, 3, .invokevirtual 211, [165, 2, 4], 0, 0),
  (63, 3, .ifCond .eq 7, [30], 0, 0),
  (66, 1, .iconst 4, [], 4, 0),
  (67, 3, .goto 18, [37], 0, 0),
  (70, 1, .aload_n 0, [0], 0, 0),
  (71, 3, .ldc2_w 223, [], 0, 1810648800),
  (74, 3, .invokevirtual 211, [165, 2, 4], 0, 0),
  (77, 3, .ifCond .eq 7, [36], 0, 0),
  (80, 1, .iconst 5, [], 5, 0),
  (81, 3, .goto 4, [37], 0, 0),
  (84, 1, .iconst (-1), [], (-1), 0),
  (85, 1, .ireturn, [], 0, 0)]
set_option maxRecDepth 100000 in
theorem kX4_kindHere : na_okP (na_mi MX4_kindHere) PX4_kindHere := ⟨by decide +kernel, na_lks_s lk_RX4 (by decide +kernel)⟩
def PX4_wantNumber : List En := [(0, 1, .aload_n 0, [0], 0, 0),
  (1, 3, .getfield 200, [4, 9], 0, 0),
  (4, 1, .istore_n 3, [3], 0, 0),
  (5, 1, .aload_n 0, [0], 0, 0),
  (6, 1, .aload_n 0, [0], 0, 0),
  (7, 3, .getfield 225, [4, 10], 0, 0),
  (10, 3, .ifCond .eq 24, [18], 0, 0),
  (13, 1, .aload_n 0, [0], 0, 0),
  (14, 3, .getfield 193, [4, 5], 0, 0),
  (17, 1, .iconst 2, [], 2, 0),
  (18, 3, .if_icmp .ne 16, [18], 0, 0),
  (21, 1, .iload_n 3, [3], 0, 0),
  (22, 1, .iload_n 1, [1], 0, 0),
  (23, 1, .iload_n 2, [2], 0, 0),
  (24, 3, .invokestatic 42, [94, 3], 0, 0),
  (27, 3, .ifCond .eq 7, [18], 0, 0),
  (30, 1, .iconst 1, [], 1, 0),
  (31, 3, .goto 4, [19], 0, 0),
  (34, 1, .iconst 0, [], 0, 0),
  (35, 3, .putfield 225, [4, 10, 1], 0, 0),
  (38, 1, .aload_n 0, [0], 0, 0),
  (39, 3, .getfield 225, [4, 10], 0, 0),
  (42, 3, .ifCond .eq 7, [25], 0, 0),
  (45, 1, .aload_n 0, [0], 0, 0),
  (46, 3, .invokevirtual 229, [164, 1, 4], 0, 0),
  (49, 1, .iload_n 3, [3], 0, 0),
  (50, 1, .ireturn, [], 0, 0)]
set_option maxRecDepth 100000 in
theorem kX4_wantNumber : na_okP (na_mi MX4_wantNumber) PX4_wantNumber := ⟨by decide +kernel, na_lks_s lk_RX4 (by decide +kernel)⟩
def PX4_mayWant : List En := [(0, 1, .aload_n 0, [0], 0, 0),
  (1, 3, .getfield 225, [4, 10], 0, 0),
  (4, 3, .ifCond .eq 11, [7], 0, 0),
  (7, 1, .aload_n 0, [0], 0, 0),
  (8, 1, .lload_n 1, [1], 0, 0),
  (9, 3, .invokevirtual 211, [165, 2, 4], 0, 0),
  (12, 3, .ifCond .ne 6, [9], 0, 0),
  (15, 2, .iload 5, [5], 0, 0),
  (17, 1, .ireturn, [], 0, 0),
  (18, 1, .aload_n 0, [0], 0, 0),
  (19, 3, .invokevirtual 229, [164, 1, 4], 0, 0),
  (22, 1, .aload_n 0, [0], 0, 0),
  (23, 1, .iload_n 3, [3], 0, 0),
  (24, 2, .iload 4, [4], 0, 0),
  (26, 3, .invokevirtual 232, [167, 3, 4], 0, 0),
  (29, 1, .ireturn, [], 0, 0)]
set_option maxRecDepth 100000 in
theorem kX4_mayWant : na_okP (na_mi MX4_mayWant) PX4_mayWant := ⟨by decide +kernel, na_lks_s lk_RX4 (by decide +kernel)⟩
def PX4_wantOne : List En := [(0, 1, .aload_n 0, [0], 0, 0),
  (1, 1, .aload_n 0, [0], 0, 0),
  (2, 3, .getfield 7, [4, 0], 0, 0),
  (5, 1, .iconst 3, [], 3, 0),
  (6, 1, .iaload, [], 0, 0),
  (7, 2, .bipush 8, [], 8, 0),
  (9, 3, .if_icmp .ge 7, [9], 0, 0),
  (12, 1, .iconst 1, [], 1, 0),
  (13, 3, .goto 4, [10], 0, 0),
  (16, 1, .iconst 0, [], 0, 0),
  (17, 3, .putfield 225, [4, 10, 1], 0, 0),
  (20, 1, .aload_n 0, [0], 0, 0),
  (21, 3, .getfield 225, [4, 10], 0, 0),
  (24, 3, .ifCond .ne 4, [15], 0, 0),
  (27, 1, .return_, [], 0, 0),
  (28, 1, .aload_n 0, [0], 0, 0),
  (29, 3, .invokevirtual 229, [164, 1, 4], 0, 0),
  (32, 1, .aload_n 0, [0], 0, 0),
  (33, 1, .aload_n 0, [0], 0, 0),
  (34, 3, .ldc2_w 235, [], 0, 257),
  (37, 3, .invokevirtual 211, [165, 2, 4], 0, 0),
  (40, 3, .putfield 225, [4, 10, 1], 0, 0),
  (43, 1, .aload_n 0, [0], 0, 0),
  (44, 3, .getfield 225, [4, 10], 0, 0),
  (47, 3, .ifCond .ne 4, [26], 0, 0),
  (50, 1, .return_, [], 0, 0),
  (51, 1, .aload_n 0, [0], 0, 0),
  (52, 3, .invokevirtual 229, [164, 1, 4], 0, 0),
  (55, 1, .aload_n 0, [0], 0, 0),
  (56, 1, .iconst 0, [], 0, 0),
  (57, 2, .bipush 7, [], 7, 0),
  (59, 3, .invokevirtual 232, [167, 3, 4], 0, 0),
  (62, 1, .istore_n 2, [2], 0, 0),
  (63, 1, .aload_n 0, [0], 0, 0),
  (64, 3, .ldc2_w 237, [], 0, 279346),
  (67, 1, .iconst 1, [], 1, 0),
  (68, 2, .bipush 20, [], 20, 0),
  (70, 1, .iconst 3, [], 3, 0),
  (71, 3, .invokevirtual 239, [168, 5, 4], 0, 0),
  (74, 1, .istore_n 3, [3], 0, 0),
  (75, 1, .aload_n 0, [0], 0, 0),
  (76, 3, .getfield 225, [4, 10], 0, 0),
  (79, 3, .ifCond .eq 10, [48], 0, 0),
  (82, 1, .aload_n 0, [0], 0, 0),
  (83, 1, .iload_n 1, [1], 0, 0),
  (84, 1, .iload_n 2, [2], 0, 0),
  (85, 1, .iload_n 3, [3], 0, 0),
  (86, 3, .invokevirtual 89, [114, 4, 4], 0, 0),
  (89, 1, .return_, [], 0, 0)]
set_option maxRecDepth 100000 in
theorem kX4_wantOne : na_okP (na_mi MX4_wantOne) PX4_wantOne := ⟨by decide +kernel, na_lks_s lk_RX4 (by decide +kernel)⟩
def PX4_wantRoom : List En := [(0, 1, .aload_n 0, [0], 0, 0),
  (1, 3, .invokevirtual 229, [164, 1, 4], 0, 0),
  (4, 1, .aload_n 0, [0], 0, 0),
  (5, 1, .iconst 0, [], 0, 0),
  (6, 2, .bipush 7, [], 7, 0),
  (8, 3, .invokevirtual 232, [167, 3, 4], 0, 0),
  (11, 1, .istore_n 1, [1], 0, 0),
  (12, 1, .aload_n 0, [0], 0, 0),
  (13, 3, .getfield 225, [4, 10], 0, 0),
  (16, 3, .ifCond .ne 4, [11], 0, 0),
  (19, 1, .return_, [], 0, 0),
  (20, 1, .aload_n 0, [0], 0, 0),
  (21, 3, .ldc2_w 243, [], 0, 990),
  (24, 1, .iconst 0, [], 0, 0),
  (25, 3, .sipush 9999, [], 9999, 0),
  (28, 1, .aload_n 0, [0], 0, 0),
  (29, 1, .iload_n 1, [1], 0, 0),
  (30, 1, .iconst 0, [], 0, 0),
  (31, 3, .invokevirtual 58, [100, 3, 4], 0, 0),
  (34, 3, .invokevirtual 239, [168, 5, 4], 0, 0),
  (37, 1, .istore_n 2, [2], 0, 0),
  (38, 1, .aload_n 0, [0], 0, 0),
  (39, 3, .ldc2_w 245, [], 0, 3554408),
  (42, 1, .iconst 0, [], 0, 0),
  (43, 3, .sipush 9999, [], 9999, 0),
  (46, 1, .aload_n 0, [0], 0, 0),
  (47, 1, .iload_n 1, [1], 0, 0),
  (48, 1, .iconst 1, [], 1, 0),
  (49, 3, .invokevirtual 58, [100, 3, 4], 0, 0),
  (52, 3, .invokevirtual 239, [168, 5, 4], 0, 0),
  (55, 1, .istore_n 3, [3], 0, 0),
  (56, 1, .aload_n 0, [0], 0, 0),
  (57, 3, .ldc2_w 247, [], 0, 125150),
  (60, 1, .iconst 0, [], 0, 0),
  (61, 2, .bipush 99, [], 99, 0),
  (63, 1, .aload_n 0, [0], 0, 0),
  (64, 1, .iload_n 1, [1], 0, 0),
  (65, 1, .iconst 2, [], 2, 0),
  (66, 3, .invokevirtual 58, [100, 3, 4], 0, 0),
  (69, 3, .invokevirtual 239, [168, 5, 4], 0, 0),
  (72, 2, .istore 4, [4], 0, 0),
  (74, 1, .aload_n 0, [0], 0, 0),
  (75, 3, .ldc2_w 249, [], 0, 10811306),
  (78, 1, .iconst 0, [], 0, 0),
  (79, 2, .bipush 9, [], 9, 0),
  (81, 1, .aload_n 0, [0], 0, 0),
  (82, 1, .iload_n 1, [1], 0, 0),
  (83, 1, .iconst 3, [], 3, 0),
  (84, 3, .invokevirtual 58, [100, 3, 4], 0, 0),
  (87, 3, .invokevirtual 239, [168, 5, 4], 0, 0),
  (90, 2, .istore 5, [5], 0, 0),
  (92, 1, .aload_n 0, [0], 0, 0),
  (93, 3, .getfield 225, [4, 10], 0, 0),
  (96, 3, .ifCond .eq 33, [74], 0, 0),
  (99, 1, .aload_n 0, [0], 0, 0),
  (100, 1, .iload_n 1, [1], 0, 0),
  (101, 1, .iconst 0, [], 0, 0),
  (102, 1, .iload_n 2, [2], 0, 0),
  (103, 3, .invokevirtual 62, [101, 4, 4], 0, 0),
  (106, 1, .aload_n 0, [0], 0, 0),
  (107, 1, .iload_n 1, [1], 0, 0),
  (108, 1, .iconst 1, [], 1, 0),
  (109, 1, .iload_n 3, [3], 0, 0),
  (110, 3, .invokevirtual 62, [101, 4, 4], 0, 0),
  (113, 1, .aload_n 0, [0], 0, 0),
  (114, 1, .iload_n 1, [1], 0, 0),
  (115, 1, .iconst 2, [], 2, 0),
  (116, 2, .iload 4, [4], 0, 0),
  (118, 3, .invokevirtual 62, [101, 4, 4], 0, 0),
  (121, 1, .aload_n 0, [0], 0, 0),
  (122, 1, .iload_n 1, [1], 0, 0),
  (123, 1, .iconst 3, [], 3, 0),
  (124, 2, .iload 5, [5], 0, 0),
  (126, 3, .invokevirtual 62, [101, 4, 4], 0, 0),
  (129, 1, .return_, [], 0, 0)]
set_option maxRecDepth 100000 in
theorem kX4_wantRoom : na_okP (na_mi MX4_wantRoom) PX4_wantRoom := ⟨by decide +kernel, na_lks_s lk_RX4 (by decide +kernel)⟩
def PX4_wantDoor : List En := [(0, 1, .aload_n 0, [0], 0, 0),
  (1, 3, .invokevirtual 229, [164, 1, 4], 0, 0),
  (4, 1, .aload_n 0, [0], 0, 0),
  (5, 1, .iconst 0, [], 0, 0),
  (6, 2, .bipush 6, [], 6, 0),
  (8, 3, .invokevirtual 232, [167, 3, 4], 0, 0),
  (11, 1, .istore_n 2, [2], 0, 0),
  (12, 1, .aload_n 0, [0], 0, 0),
  (13, 3, .getfield 225, [4, 10], 0, 0),
  (16, 3, .ifCond .eq 9, [14], 0, 0),
  (19, 1, .aload_n 0, [0], 0, 0),
  (20, 1, .iload_n 2, [2], 0, 0),
  (21, 1, .iload_n 1, [1], 0, 0),
  (22, 3, .invokevirtual 78, [111, 3, 4], 0, 0),
  (25, 1, .return_, [], 0, 0)]
set_option maxRecDepth 100000 in
theorem kX4_wantDoor : na_okP (na_mi MX4_wantDoor) PX4_wantDoor := ⟨by decide +kernel, na_lks_s lk_RX4 (by decide +kernel)⟩
def PX4_wantItem : List En := [(0, 1, .aload_n 0, [0], 0, 0),
  (1, 3, .invokevirtual 251, [166, 1, 4], 0, 0),
  (4, 3, .ifCond .lt 14, [8], 0, 0),
  (7, 1, .aload_n 0, [0], 0, 0),
  (8, 1, .aload_n 0, [0], 0, 0),
  (9, 3, .invokevirtual 251, [166, 1, 4], 0, 0),
  (12, 3, .invokevirtual 254, [169, 2, 4], 0, 0),
  (15, 3, .goto 109, [56], 0, 0),
  (18, 1, .aload_n 0, [0], 0, 0),
  (19, 3, .ldc2_w 257, [], 0, 365647),
  (22, 3, .invokevirtual 211, [165, 2, 4], 0, 0),
  (25, 3, .ifCond .eq 10, [15], 0, 0),
  (28, 1, .aload_n 0, [0], 0, 0),
  (29, 3, .invokevirtual 259, [170, 1, 4], 0, 0),
  (32, 3, .goto 92, [56], 0, 0),
  (35, 1, .aload_n 0, [0], 0, 0),
  (36, 3, .ldc2_w 262, [], 0, 307058),
  (39, 3, .invokevirtual 211, [165, 2, 4], 0, 0),
  (42, 3, .ifCond .eq 11, [23], 0, 0),
  (45, 1, .aload_n 0, [0], 0, 0),
  (46, 1, .iconst 1, [], 1, 0),
  (47, 3, .invokevirtual 264, [171, 2, 4], 0, 0),
  (50, 3, .goto 74, [56], 0, 0),
  (53, 1, .aload_n 0, [0], 0, 0),
  (54, 3, .ldc2_w 267, [], 0, 380396),
  (57, 3, .invokevirtual 211, [165, 2, 4], 0, 0),
  (60, 3, .ifCond .eq 11, [31], 0, 0),
  (63, 1, .aload_n 0, [0], 0, 0),
  (64, 1, .iconst 0, [], 0, 0),
  (65, 3, .invokevirtual 264, [171, 2, 4], 0, 0),
  (68, 3, .goto 56, [56], 0, 0),
  (71, 1, .aload_n 0, [0], 0, 0),
  (72, 3, .ldc2_w 269, [], 0, 70312),
  (75, 3, .invokevirtual 211, [165, 2, 4], 0, 0),
  (78, 3, .ifCond .ne 13, [39], 0, 0),
  (81, 1, .aload_n 0, [0], 0, 0),
  (82, 3, .ldc2_w 271, [], 0, 262768),
  (85, 3, .invokevirtual 211, [165, 2, 4], 0, 0),
  (88, 3, .ifCond .eq 31, [53], 0, 0),
  (91, 1, .aload_n 0, [0], 0, 0),
  (92, 3, .getfield 7, [4, 0], 0, 0),
  (95, 1, .iconst 1, [], 1, 0),
  (96, 1, .aload_n 0, [0], 0, 0),
  (97, 3, .ldc2_w 269, [], 0, 70312),
  (100, 3, .invokevirtual 211, [165, 2, 4], 0, 0),
  (103, 3, .ifCond .eq 7, [48], 0, 0),
  (106, 1, .iconst 1, [], 1, 0),
  (107, 3, .goto 4, [49], 0, 0),
  (110, 1, .iconst 0, [], 0, 0),
  (111, 1, .iastore, [], 0, 0),
  (112, 1, .aload_n 0, [0], 0, 0),
  (113, 3, .invokevirtual 229, [164, 1, 4], 0, 0),
  (116, 3, .goto 8, [56], 0, 0),
  (119, 1, .aload_n 0, [0], 0, 0),
  (120, 1, .iconst 0, [], 0, 0),
  (121, 3, .putfield 225, [4, 10, 1], 0, 0),
  (124, 1, .return_, [], 0, 0)]
set_option maxRecDepth 100000 in
theorem kX4_wantItem : na_okP (na_mi MX4_wantItem) PX4_wantItem := ⟨by decide +kernel, na_lks_s lk_RX4 (by decide +kernel)⟩
def PX4_text : List En := [(0, 1, .aload_n 0, [0], 0, 0),
  (1, 1, .iconst 1, [], 1, 0),
  (2, 1, .aload_n 0, [0], 0, 0),
  (3, 3, .getfield 38, [4, 16], 0, 0),
  (6, 3, .invokevirtual 132, [185, 3, 4], 0, 0),
  (9, 1, .aload_n 0, [0], 0, 0),
  (10, 1, .iconst 0, [], 0, 0),
  (11, 3, .putfield 178, [4, 7, 0], 0, 0),
  (14, 1, .aload_n 0, [0], 0, 0),
  (15, 1, .iconst 1, [], 1, 0),
  (16, 3, .putfield 225, [4, 10, 1], 0, 0),
  (19, 1, .iconst 0, [], 0, 0),
  (20, 1, .istore_n 1, [1], 0, 0),
  (21, 1, .iconst 1, [], 1, 0),
  (22, 1, .istore_n 2, [2], 0, 0),
  (23, 1, .iload_n 2, [2], 0, 0),
  (24, 3, .ifCond .eq 47, [38], 0, 0),
  (27, 1, .aload_n 0, [0], 0, 0),
  (28, 3, .invokevirtual 229, [164, 1, 4], 0, 0),
  (31, 1, .aload_n 0, [0], 0, 0),
  (32, 3, .invokevirtual 273, [172, 1, 4], 0, 0),
  (35, 3, .iinc 1 1, [1], 1, 0),
  (38, 1, .aload_n 0, [0], 0, 0),
  (39, 3, .getfield 225, [4, 10], 0, 0),
  (42, 3, .ifCond .eq 24, [35], 0, 0),
  (45, 1, .aload_n 0, [0], 0, 0),
  (46, 3, .getfield 193, [4, 5], 0, 0),
  (49, 1, .iconst 3, [], 3, 0),
  (50, 3, .if_icmp .ne 16, [35], 0, 0),
  (53, 1, .aload_n 0, [0], 0, 0),
  (54, 3, .getfield 200, [4, 9], 0, 0),
  (57, 2, .bipush 59, [], 59, 0),
  (59, 3, .if_icmp .ne 7, [35], 0, 0),
  (62, 1, .iconst 1, [], 1, 0),
  (63, 3, .goto 4, [36], 0, 0),
  (66, 1, .iconst 0, [], 0, 0),
  (67, 1, .istore_n 2, [2], 0, 0),
  (68, 3, .goto (-45), [15], 0, 0),
  (71, 1, .aload_n 0, [0], 0, 0),
  (72, 1, .aload_n 0, [0], 0, 0),
  (73, 3, .getfield 225, [4, 10], 0, 0),
  (76, 3, .ifCond .eq 14, [47], 0, 0),
  (79, 1, .aload_n 0, [0], 0, 0),
  (80, 3, .getfield 193, [4, 5], 0, 0),
  (83, 3, .ifCond .ne 7, [47], 0, 0),
  (86, 1, .iconst 1, [], 1, 0),
  (87, 3, .goto 4, [48], 0, 0),
  (90, 1, .iconst 0, [], 0, 0),
  (91, 3, .putfield 225, [4, 10, 1], 0, 0),
  (94, 1, .aload_n 0, [0], 0, 0),
  (95, 1, .iconst 0, [], 0, 0),
  (96, 3, .putfield 174, [4, 4, 0], 0, 0),
  (99, 1, .aload_n 0, [0], 0, 0),
  (100, 3, .getfield 225, [4, 10], 0, 0),
  (103, 3, .ifCond .ne 19, [65], 0, 0),
  (106, 1, .aload_n 0, [0], 0, 0),
  (107, 1, .iconst 0, [], 0, 0),
  (108, 1, .aload_n 0, [0], 0, 0),
  (109, 3, .getfield 38, [4, 16], 0, 0),
  (112, 3, .invokevirtual 132, [185, 3, 4], 0, 0),
  (115, 1, .iconst (-1), [], (-1), 0),
  (116, 1, .aload_n 0, [0], 0, 0),
  (117, 3, .getfield 181, [4, 6], 0, 0),
  (120, 1, .isub, [], 0, 0),
  (121, 1, .ireturn, [], 0, 0),
  (122, 1, .iload_n 1, [1], 0, 0),
  (123, 1, .ireturn, [], 0, 0)]
set_option maxRecDepth 100000 in
theorem kX4_text : na_okP (na_mi MX4_text) PX4_text := ⟨by decide +kernel, na_lks_s lk_RX4 (by decide +kernel)⟩
def PX4_isSheet : List En := [(0, 1, .iload_n 0, [0], 0, 0),
  (1, 1, .iconst 0, [], 0, 0),
  (2, 1, .iconst 3, [], 3, 0),
  (3, 3, .invokestatic 42, [94, 3], 0, 0),
  (6, 1, .ireturn, [], 0, 0)]
set_option maxRecDepth 100000 in
theorem kX4_isSheet : na_okP (na_mi MX4_isSheet) PX4_isSheet := ⟨by decide +kernel, na_lks_s lk_RX4 (by decide +kernel)⟩
def PX4_narrow : List En := [(0, 1, .iload_n 0, [0], 0, 0),
  (1, 2, .bipush 8, [], 8, 0),
  (3, 3, .if_icmp .ne 13, [9], 0, 0),
  (6, 1, .lload_n 1, [1], 0, 0),
  (7, 2, .bipush 56, [], 56, 0),
  (9, 1, .lshl, [], 0, 0),
  (10, 2, .bipush 56, [], 56, 0),
  (12, 1, .lshr, [], 0, 0),
  (13, 3, .goto 20, [19], 0, 0),
  (16, 1, .iload_n 0, [0], 0, 0),
  (17, 2, .bipush 16, [], 16, 0),
  (19, 3, .if_icmp .ne 13, [18], 0, 0),
  (22, 1, .lload_n 1, [1], 0, 0),
  (23, 2, .bipush 48, [], 48, 0),
  (25, 1, .lshl, [], 0, 0),
  (26, 2, .bipush 48, [], 48, 0),
  (28, 1, .lshr, [], 0, 0),
  (29, 3, .goto 4, [19], 0, 0),
  (32, 1, .lload_n 1, [1], 0, 0),
  (33, 1, .lreturn, [], 0, 0)]
set_option maxRecDepth 100000 in
theorem kX4_narrow : na_okP (na_mi MX4_narrow) PX4_narrow := ⟨by decide +kernel, na_lks_s lk_RX4 (by decide +kernel)⟩
def PX4_sheet : List En := [(0, 1, .iload_n 1, [1], 0, 0),
  (1, 3, .invokestatic 276, [174, 1], 0, 0),
  (4, 3, .ifCond .eq 25, [14], 0, 0),
  (7, 1, .iload_n 2, [2], 0, 0),
  (8, 3, .ifCond .eq 28, [18], 0, 0),
  (11, 1, .iload_n 2, [2], 0, 0),
  (12, 2, .bipush 8, [], 8, 0),
  (14, 3, .if_icmp .eq 22, [18], 0, 0),
  (17, 1, .iload_n 2, [2], 0, 0),
  (18, 2, .bipush 16, [], 16, 0),
  (20, 3, .if_icmp .eq 16, [18], 0, 0),
  (23, 1, .iload_n 2, [2], 0, 0),
  (24, 2, .bipush 64, [], 64, 0),
  (26, 3, .if_icmp .eq 10, [18], 0, 0),
  (29, 1, .aload_n 0, [0], 0, 0),
  (30, 2, .ldc 41, [], (-1000000001), 0),
  (32, 3, .invokevirtual 54, [95, 2, 4], 0, 0),
  (35, 1, .ireturn, [], 0, 0),
  (36, 1, .iload_n 3, [3], 0, 0),
  (37, 3, .ifCond .ge 11, [24], 0, 0),
  (40, 1, .aload_n 0, [0], 0, 0),
  (41, 3, .ldc_w 279, [], (-1000000007), 0),
  (44, 3, .invokevirtual 54, [95, 2, 4], 0, 0),
  (47, 1, .ireturn, [], 0, 0),
  (48, 1, .iload_n 3, [3], 0, 0),
  (49, 2, .bipush 40, [], 40, 0),
  (51, 3, .if_icmp .le 10, [31], 0, 0),
  (54, 1, .aload_n 0, [0], 0, 0),
  (55, 2, .ldc 41, [], (-1000000001), 0),
  (57, 3, .invokevirtual 54, [95, 2, 4], 0, 0),
  (60, 1, .ireturn, [], 0, 0),
  (61, 1, .aload_n 0, [0], 0, 0),
  (62, 3, .getfield 22, [4, 11], 0, 0),
  (65, 1, .iload_n 1, [1], 0, 0),
  (66, 1, .iload_n 2, [2], 0, 0),
  (67, 1, .iastore, [], 0, 0),
  (68, 1, .aload_n 0, [0], 0, 0),
  (69, 3, .getfield 25, [4, 12], 0, 0),
  (72, 1, .iload_n 1, [1], 0, 0),
  (73, 1, .iload_n 2, [2], 0, 0),
  (74, 3, .ifCond .ne 7, [43], 0, 0),
  (77, 1, .iconst 0, [], 0, 0),
  (78, 3, .goto 4, [44], 0, 0),
  (81, 1, .iload_n 3, [3], 0, 0),
  (82, 1, .iastore, [], 0, 0),
  (83, 1, .iconst 0, [], 0, 0),
  (84, 2, .istore 4, [4], 0, 0),
  (86, 2, .iload 4, [4], 0, 0),
  (88, 2, .bipush 40, [], 40, 0),
  (90, 3, .if_icmp .ge 22, [61], 0, 0),
  (93, 1, .aload_n 0, [0], 0, 0),
  (94, 3, .getfield 28, [4, 13], 0, 0),
  (97, 2, .bipush 40, [], 40, 0),
  (99, 1, .iload_n 1, [1], 0, 0),
  (100, 1, .imul, [], 0, 0),
  (101, 2, .iload 4, [4], 0, 0),
  (103, 1, .iadd, [], 0, 0),
  (104, 1, .lconst 0, [], 0, 0),
  (105, 1, .lastore, [], 0, 0),
  (106, 3, .iinc 4 1, [4], 1, 0),
  (109, 3, .goto (-23), [47], 0, 0),
  (112, 1, .aload_n 0, [0], 0, 0),
  (113, 3, .getfield 25, [4, 12], 0, 0),
  (116, 1, .iload_n 1, [1], 0, 0),
  (117, 1, .iaload, [], 0, 0),
  (118, 1, .ireturn, [], 0, 0)]
set_option maxRecDepth 100000 in
theorem kX4_sheet : na_okP (na_mi MX4_sheet) PX4_sheet := ⟨by decide +kernel, na_lks_s lk_RX4 (by decide +kernel)⟩
def PX4_write : List En := [(0, 1, .iload_n 1, [1], 0, 0),
  (1, 3, .invokestatic 276, [174, 1], 0, 0),
  (4, 3, .ifCond .ne 11, [8], 0, 0),
  (7, 1, .aload_n 0, [0], 0, 0),
  (8, 2, .ldc 41, [], (-1000000001), 0),
  (10, 3, .invokevirtual 54, [95, 2, 4], 0, 0),
  (13, 1, .i2l, [], 0, 0),
  (14, 1, .lreturn, [], 0, 0),
  (15, 1, .aload_n 0, [0], 0, 0),
  (16, 3, .getfield 22, [4, 11], 0, 0),
  (19, 1, .iload_n 1, [1], 0, 0),
  (20, 1, .iaload, [], 0, 0),
  (21, 3, .ifCond .ne 12, [18], 0, 0),
  (24, 1, .aload_n 0, [0], 0, 0),
  (25, 3, .ldc_w 280, [], (-1000000006), 0),
  (28, 3, .invokevirtual 54, [95, 2, 4], 0, 0),
  (31, 1, .i2l, [], 0, 0),
  (32, 1, .lreturn, [], 0, 0),
  (33, 1, .iload_n 2, [2], 0, 0),
  (34, 1, .iconst 0, [], 0, 0),
  (35, 1, .aload_n 0, [0], 0, 0),
  (36, 3, .getfield 25, [4, 12], 0, 0),
  (39, 1, .iload_n 1, [1], 0, 0),
  (40, 1, .iaload, [], 0, 0),
  (41, 1, .iconst 1, [], 1, 0),
  (42, 1, .isub, [], 0, 0),
  (43, 3, .invokestatic 42, [94, 3], 0, 0),
  (46, 3, .ifCond .ne 11, [33], 0, 0),
  (49, 1, .aload_n 0, [0], 0, 0),
  (50, 2, .ldc 41, [], (-1000000001), 0),
  (52, 3, .invokevirtual 54, [95, 2, 4], 0, 0),
  (55, 1, .i2l, [], 0, 0),
  (56, 1, .lreturn, [], 0, 0),
  (57, 1, .aload_n 0, [0], 0, 0),
  (58, 3, .getfield 28, [4, 13], 0, 0),
  (61, 2, .bipush 40, [], 40, 0),
  (63, 1, .iload_n 1, [1], 0, 0),
  (64, 1, .imul, [], 0, 0),
  (65, 1, .iload_n 2, [2], 0, 0),
  (66, 1, .iadd, [], 0, 0),
  (67, 1, .laload, [], 0, 0),
  (68, 2, .lstore 5, [5], 0, 0),
  (70, 1, .aload_n 0, [0], 0, 0),
  (71, 3, .getfield 28, [4, 13], 0, 0),
  (74, 2, .bipush 40, [], 40, 0),
  (76, 1, .iload_n 1, [1], 0, 0),
  (77, 1, .imul, [], 0, 0),
  (78, 1, .iload_n 2, [2], 0, 0),
  (79, 1, .iadd, [], 0, 0),
  (80, 1, .aload_n 0, [0], 0, 0),
  (81, 3, .getfield 22, [4, 11], 0, 0),
  (84, 1, .iload_n 1, [1], 0, 0),
  (85, 1, .iaload, [], 0, 0),
  (86, 1, .lload_n 3, [3], 0, 0),
  (87, 3, .invokestatic 281, [175, 2], 0, 0),
  (90, 1, .lastore, [], 0, 0),
  (91, 2, .lload 5, [5], 0, 0),
  (93, 1, .lreturn, [], 0, 0)]
set_option maxRecDepth 100000 in
theorem kX4_write : na_okP (na_mi MX4_write) PX4_write := ⟨by decide +kernel, na_lks_s lk_RX4 (by decide +kernel)⟩
def PX4_isPart : List En := [(0, 1, .iload_n 2, [2], 0, 0),
  (1, 3, .ifCond .lt 33, [20], 0, 0),
  (4, 1, .iload_n 3, [3], 0, 0),
  (5, 3, .ifCond .lt 29, [20], 0, 0),
  (8, 1, .iload_n 3, [3], 0, 0),
  (9, 1, .aload_n 0, [0], 0, 0),
  (10, 3, .getfield 25, [4, 12], 0, 0),
  (13, 1, .iload_n 1, [1], 0, 0),
  (14, 1, .iaload, [], 0, 0),
  (15, 3, .if_icmp .gt 19, [20], 0, 0),
  (18, 1, .iload_n 2, [2], 0, 0),
  (19, 1, .aload_n 0, [0], 0, 0),
  (20, 3, .getfield 25, [4, 12], 0, 0),
  (23, 1, .iload_n 1, [1], 0, 0),
  (24, 1, .iaload, [], 0, 0),
  (25, 1, .iload_n 3, [3], 0, 0),
  (26, 1, .isub, [], 0, 0),
  (27, 3, .if_icmp .gt 7, [20], 0, 0),
  (30, 1, .iconst 1, [], 1, 0),
  (31, 3, .goto 4, [21], 0, 0),
  (34, 1, .iconst 0, [], 0, 0),
  (35, 1, .ireturn, [], 0, 0)]
set_option maxRecDepth 100000 in
theorem kX4_isPart : na_okP (na_mi MX4_isPart) PX4_isPart := ⟨by decide +kernel, na_lks_s lk_RX4 (by decide +kernel)⟩
def PX4_copy : List En := [(0, 1, .iload_n 1, [1], 0, 0),
  (1, 3, .invokestatic 276, [174, 1], 0, 0),
  (4, 3, .ifCond .eq 10, [6], 0, 0),
  (7, 1, .iload_n 3, [3], 0, 0),
  (8, 3, .invokestatic 276, [174, 1], 0, 0),
  (11, 3, .ifCond .ne 10, [10], 0, 0),
  (14, 1, .aload_n 0, [0], 0, 0),
  (15, 2, .ldc 41, [], (-1000000001), 0),
  (17, 3, .invokevirtual 54, [95, 2, 4], 0, 0),
  (20, 1, .ireturn, [], 0, 0),
  (21, 1, .aload_n 0, [0], 0, 0),
  (22, 3, .getfield 22, [4, 11], 0, 0),
  (25, 1, .iload_n 1, [1], 0, 0),
  (26, 1, .iaload, [], 0, 0),
  (27, 3, .ifCond .eq 12, [20], 0, 0),
  (30, 1, .aload_n 0, [0], 0, 0),
  (31, 3, .getfield 22, [4, 11], 0, 0),
  (34, 1, .iload_n 3, [3], 0, 0),
  (35, 1, .iaload, [], 0, 0),
  (36, 3, .ifCond .ne 11, [24], 0, 0),
  (39, 1, .aload_n 0, [0], 0, 0),
  (40, 3, .ldc_w 280, [], (-1000000006), 0),
  (43, 3, .invokevirtual 54, [95, 2, 4], 0, 0),
  (46, 1, .ireturn, [], 0, 0),
  (47, 1, .aload_n 0, [0], 0, 0),
  (48, 3, .getfield 22, [4, 11], 0, 0),
  (51, 1, .iload_n 1, [1], 0, 0),
  (52, 1, .iaload, [], 0, 0),
  (53, 1, .aload_n 0, [0], 0, 0),
  (54, 3, .getfield 22, [4, 11], 0, 0),
  (57, 1, .iload_n 3, [3], 0, 0),
  (58, 1, .iaload, [], 0, 0),
  (59, 3, .if_icmp .eq 10, [37], 0, 0),
  (62, 1, .aload_n 0, [0], 0, 0),
  (63, 2, .ldc 98, [], (-1000000003), 0),
  (65, 3, .invokevirtual 54, [95, 2, 4], 0, 0),
  (68, 1, .ireturn, [], 0, 0),
  (69, 1, .aload_n 0, [0], 0, 0),
  (70, 1, .iload_n 1, [1], 0, 0),
  (71, 1, .iload_n 2, [2], 0, 0),
  (72, 2, .iload 5, [5], 0, 0),
  (74, 3, .invokevirtual 285, [178, 4, 4], 0, 0),
  (77, 3, .ifCond .eq 15, [49], 0, 0),
  (80, 1, .aload_n 0, [0], 0, 0),
  (81, 1, .iload_n 3, [3], 0, 0),
  (82, 2, .iload 4, [4], 0, 0),
  (84, 2, .iload 5, [5], 0, 0),
  (86, 3, .invokevirtual 285, [178, 4, 4], 0, 0),
  (89, 3, .ifCond .ne 10, [53], 0, 0),
  (92, 1, .aload_n 0, [0], 0, 0),
  (93, 2, .ldc 41, [], (-1000000001), 0),
  (95, 3, .invokevirtual 54, [95, 2, 4], 0, 0),
  (98, 1, .ireturn, [], 0, 0),
  (99, 1, .iconst 0, [], 0, 0),
  (100, 2, .istore 6, [6], 0, 0),
  (102, 2, .iload 6, [6], 0, 0),
  (104, 2, .iload 5, [5], 0, 0),
  (106, 3, .if_icmp .ge 30, [74], 0, 0),
  (109, 1, .aload_n 0, [0], 0, 0),
  (110, 3, .getfield 32, [4, 14], 0, 0),
  (113, 2, .iload 6, [6], 0, 0),
  (115, 1, .aload_n 0, [0], 0, 0),
  (116, 3, .getfield 28, [4, 13], 0, 0),
  (119, 2, .bipush 40, [], 40, 0),
  (121, 1, .iload_n 1, [1], 0, 0),
  (122, 1, .imul, [], 0, 0),
  (123, 1, .iload_n 2, [2], 0, 0),
  (124, 1, .iadd, [], 0, 0),
  (125, 2, .iload 6, [6], 0, 0),
  (127, 1, .iadd, [], 0, 0),
  (128, 1, .laload, [], 0, 0),
  (129, 1, .lastore, [], 0, 0),
  (130, 3, .iinc 6 1, [6], 1, 0),
  (133, 3, .goto (-31), [55], 0, 0),
  (136, 1, .iconst 0, [], 0, 0),
  (137, 2, .istore 6, [6], 0, 0),
  (139, 2, .iload 6, [6], 0, 0),
  (141, 2, .iload 5, [5], 0, 0),
  (143, 3, .if_icmp .ge 31, [95], 0, 0),
  (146, 1, .aload_n 0, [0], 0, 0),
  (147, 3, .getfield 28, [4, 13], 0, 0),
  (150, 2, .bipush 40, [], 40, 0),
  (152, 1, .iload_n 3, [3], 0, 0),
  (153, 1, .imul, [], 0, 0),
  (154, 2, .iload 4, [4], 0, 0),
  (156, 1, .iadd, [], 0, 0),
  (157, 2, .iload 6, [6], 0, 0),
  (159, 1, .iadd, [], 0, 0),
  (160, 1, .aload_n 0, [0], 0, 0),
  (161, 3, .getfield 32, [4, 14], 0, 0),
  (164, 2, .iload 6, [6], 0, 0),
  (166, 1, .laload, [], 0, 0),
  (167, 1, .lastore, [], 0, 0),
  (168, 3, .iinc 6 1, [6], 1, 0),
  (171, 3, .goto (-32), [76], 0, 0),
  (174, 2, .iload 5, [5], 0, 0),
  (176, 1, .ireturn, [], 0, 0)]
set_option maxRecDepth 100000 in
theorem kX4_copy : na_okP (na_mi MX4_copy) PX4_copy := ⟨by decide +kernel, na_lks_s lk_RX4 (by decide +kernel)⟩
def PX4_badSheet : List En := [(0, 1, .iload_n 1, [1], 0, 0),
  (1, 3, .invokestatic 276, [174, 1], 0, 0),
  (4, 3, .ifCond .ne 8, [5], 0, 0),
  (7, 2, .ldc 41, [], (-1000000001), 0),
  (9, 3, .goto 19, [13], 0, 0),
  (12, 1, .aload_n 0, [0], 0, 0),
  (13, 3, .getfield 22, [4, 11], 0, 0),
  (16, 1, .iload_n 1, [1], 0, 0),
  (17, 1, .iaload, [], 0, 0),
  (18, 3, .ifCond .ne 9, [12], 0, 0),
  (21, 3, .ldc_w 280, [], (-1000000006), 0),
  (24, 3, .goto 4, [13], 0, 0),
  (27, 1, .iconst 0, [], 0, 0),
  (28, 1, .ireturn, [], 0, 0)]
set_option maxRecDepth 100000 in
theorem kX4_badSheet : na_okP (na_mi MX4_badSheet) PX4_badSheet := ⟨by decide +kernel, na_lks_s lk_RX4 (by decide +kernel)⟩
def PX4_lays : List En := [(0, 1, .aload_n 0, [0], 0, 0),
  (1, 1, .iload_n 1, [1], 0, 0),
  (2, 3, .invokevirtual 288, [180, 2, 4], 0, 0),
  (5, 1, .istore_n 2, [2], 0, 0),
  (6, 1, .iload_n 2, [2], 0, 0),
  (7, 3, .ifCond .eq 9, [10], 0, 0),
  (10, 1, .aload_n 0, [0], 0, 0),
  (11, 1, .iload_n 2, [2], 0, 0),
  (12, 3, .invokevirtual 54, [95, 2, 4], 0, 0),
  (15, 1, .ireturn, [], 0, 0),
  (16, 1, .iconst 0, [], 0, 0),
  (17, 1, .istore_n 3, [3], 0, 0),
  (18, 1, .iconst 0, [], 0, 0),
  (19, 2, .istore 4, [4], 0, 0),
  (21, 2, .iload 4, [4], 0, 0),
  (23, 1, .aload_n 0, [0], 0, 0),
  (24, 3, .getfield 25, [4, 12], 0, 0),
  (27, 1, .iload_n 1, [1], 0, 0),
  (28, 1, .iaload, [], 0, 0),
  (29, 3, .if_icmp .ge 59, [49], 0, 0),
  (32, 2, .iload 4, [4], 0, 0),
  (34, 2, .bipush 8, [], 8, 0),
  (36, 3, .if_icmp .ge 52, [49], 0, 0),
  (39, 1, .aload_n 0, [0], 0, 0),
  (40, 3, .getfield 28, [4, 13], 0, 0),
  (43, 2, .bipush 40, [], 40, 0),
  (45, 1, .iload_n 1, [1], 0, 0),
  (46, 1, .imul, [], 0, 0),
  (47, 2, .iload 4, [4], 0, 0),
  (49, 1, .iadd, [], 0, 0),
  (50, 1, .laload, [], 0, 0),
  (51, 2, .lstore 5, [5], 0, 0),
  (53, 2, .lload 5, [5], 0, 0),
  (55, 1, .lconst 0, [], 0, 0),
  (56, 1, .lcmp, [], 0, 0),
  (57, 3, .ifCond .lt 25, [47], 0, 0),
  (60, 2, .lload 5, [5], 0, 0),
  (62, 3, .ldc2_w 291, [], 0, 9999),
  (65, 1, .lcmp, [], 0, 0),
  (66, 3, .ifCond .gt 16, [47], 0, 0),
  (69, 1, .aload_n 0, [0], 0, 0),
  (70, 2, .iload 4, [4], 0, 0),
  (72, 1, .iconst 0, [], 0, 0),
  (73, 2, .lload 5, [5], 0, 0),
  (75, 1, .l2i, [], 0, 0),
  (76, 3, .invokevirtual 62, [101, 4, 4], 0, 0),
  (79, 3, .iinc 3 1, [3], 1, 0),
  (82, 3, .iinc 4 1, [4], 1, 0),
  (85, 3, .goto (-64), [14], 0, 0),
  (88, 1, .iload_n 3, [3], 0, 0),
  (89, 1, .ireturn, [], 0, 0)]
set_option maxRecDepth 100000 in
theorem kX4_lays : na_okP (na_mi MX4_lays) PX4_lays := ⟨by decide +kernel, na_lks_s lk_RX4 (by decide +kernel)⟩
def PX4_book : List En := [(0, 1, .aload_n 0, [0], 0, 0),
  (1, 1, .iload_n 1, [1], 0, 0),
  (2, 3, .invokevirtual 288, [180, 2, 4], 0, 0),
  (5, 1, .istore_n 3, [3], 0, 0),
  (6, 1, .iload_n 3, [3], 0, 0),
  (7, 3, .ifCond .eq 9, [10], 0, 0),
  (10, 1, .aload_n 0, [0], 0, 0),
  (11, 1, .iload_n 3, [3], 0, 0),
  (12, 3, .invokevirtual 54, [95, 2, 4], 0, 0),
  (15, 1, .ireturn, [], 0, 0),
  (16, 1, .iload_n 2, [2], 0, 0),
  (17, 3, .invokestatic 46, [103, 1], 0, 0),
  (20, 3, .ifCond .ne 10, [17], 0, 0),
  (23, 1, .aload_n 0, [0], 0, 0),
  (24, 2, .ldc 41, [], (-1000000001), 0),
  (26, 3, .invokevirtual 54, [95, 2, 4], 0, 0),
  (29, 1, .ireturn, [], 0, 0),
  (30, 1, .aload_n 0, [0], 0, 0),
  (31, 1, .iconst 1, [], 1, 0),
  (32, 1, .aload_n 0, [0], 0, 0),
  (33, 3, .getfield 16, [4, 2], 0, 0),
  (36, 3, .invokevirtual 132, [185, 3, 4], 0, 0),
  (39, 1, .iconst 0, [], 0, 0),
  (40, 2, .istore 4, [4], 0, 0),
  (42, 2, .iload 4, [4], 0, 0),
  (44, 1, .aload_n 0, [0], 0, 0),
  (45, 3, .getfield 25, [4, 12], 0, 0),
  (48, 1, .iload_n 1, [1], 0, 0),
  (49, 1, .iaload, [], 0, 0),
  (50, 3, .if_icmp .ge 41, [52], 0, 0),
  (53, 1, .aload_n 0, [0], 0, 0),
  (54, 3, .getfield 28, [4, 13], 0, 0),
  (57, 2, .bipush 40, [], 40, 0),
  (59, 1, .iload_n 1, [1], 0, 0),
  (60, 1, .imul, [], 0, 0),
  (61, 2, .iload 4, [4], 0, 0),
  (63, 1, .iadd, [], 0, 0),
  (64, 1, .aload_n 0, [0], 0, 0),
  (65, 3, .getfield 22, [4, 11], 0, 0),
  (68, 1, .iload_n 1, [1], 0, 0),
  (69, 1, .iaload, [], 0, 0),
  (70, 1, .aload_n 0, [0], 0, 0),
  (71, 1, .iload_n 2, [2], 0, 0),
  (72, 1, .iconst 0, [], 0, 0),
  (73, 3, .invokevirtual 58, [100, 3, 4], 0, 0),
  (76, 1, .i2l, [], 0, 0),
  (77, 3, .invokestatic 281, [175, 2], 0, 0),
  (80, 1, .lastore, [], 0, 0),
  (81, 1, .aload_n 0, [0], 0, 0),
  (82, 3, .invokevirtual 119, [128, 1, 4], 0, 0),
  (85, 3, .iinc 4 1, [4], 1, 0),
  (88, 3, .goto (-46), [24], 0, 0),
  (91, 1, .aload_n 0, [0], 0, 0),
  (92, 1, .iconst 0, [], 0, 0),
  (93, 1, .aload_n 0, [0], 0, 0),
  (94, 3, .getfield 16, [4, 2], 0, 0),
  (97, 3, .invokevirtual 132, [185, 3, 4], 0, 0),
  (100, 1, .aload_n 0, [0], 0, 0),
  (101, 3, .getfield 25, [4, 12], 0, 0),
  (104, 1, .iload_n 1, [1], 0, 0),
  (105, 1, .iaload, [], 0, 0),
  (106, 1, .ireturn, [], 0, 0)]
set_option maxRecDepth 100000 in
theorem kX4_book : na_okP (na_mi MX4_book) PX4_book := ⟨by decide +kernel, na_lks_s lk_RX4 (by decide +kernel)⟩
def PX4_isSo : List En := [(0, 1, .iconst 1, [], 1, 0),
  (1, 1, .istore_n 3, [3], 0, 0),
  (2, 1, .iconst 0, [], 0, 0),
  (3, 2, .istore 4, [4], 0, 0),
  (5, 2, .iload 4, [4], 0, 0),
  (7, 1, .aload_n 0, [0], 0, 0),
  (8, 3, .getfield 25, [4, 12], 0, 0),
  (11, 1, .iload_n 1, [1], 0, 0),
  (12, 1, .iaload, [], 0, 0),
  (13, 3, .if_icmp .ge 46, [35], 0, 0),
  (16, 1, .iload_n 3, [3], 0, 0),
  (17, 3, .ifCond .eq 42, [35], 0, 0),
  (20, 1, .aload_n 0, [0], 0, 0),
  (21, 3, .getfield 28, [4, 13], 0, 0),
  (24, 2, .bipush 40, [], 40, 0),
  (26, 1, .iload_n 1, [1], 0, 0),
  (27, 1, .imul, [], 0, 0),
  (28, 2, .iload 4, [4], 0, 0),
  (30, 1, .iadd, [], 0, 0),
  (31, 1, .laload, [], 0, 0),
  (32, 1, .aload_n 0, [0], 0, 0),
  (33, 1, .iload_n 2, [2], 0, 0),
  (34, 1, .iconst 0, [], 0, 0),
  (35, 3, .invokevirtual 58, [100, 3, 4], 0, 0),
  (38, 1, .i2l, [], 0, 0),
  (39, 1, .lcmp, [], 0, 0),
  (40, 3, .ifCond .ne 7, [29], 0, 0),
  (43, 1, .iconst 1, [], 1, 0),
  (44, 3, .goto 4, [30], 0, 0),
  (47, 1, .iconst 0, [], 0, 0),
  (48, 1, .istore_n 3, [3], 0, 0),
  (49, 1, .aload_n 0, [0], 0, 0),
  (50, 3, .invokevirtual 119, [128, 1, 4], 0, 0),
  (53, 3, .iinc 4 1, [4], 1, 0),
  (56, 3, .goto (-51), [4], 0, 0),
  (59, 1, .iload_n 3, [3], 0, 0),
  (60, 1, .ireturn, [], 0, 0)]
set_option maxRecDepth 100000 in
theorem kX4_isSo : na_okP (na_mi MX4_isSo) PX4_isSo := ⟨by decide +kernel, na_lks_s lk_RX4 (by decide +kernel)⟩
def PX4_read : List En := [(0, 1, .aload_n 0, [0], 0, 0),
  (1, 1, .iload_n 1, [1], 0, 0),
  (2, 3, .invokevirtual 288, [180, 2, 4], 0, 0),
  (5, 1, .istore_n 3, [3], 0, 0),
  (6, 1, .iload_n 3, [3], 0, 0),
  (7, 3, .ifCond .eq 9, [10], 0, 0),
  (10, 1, .aload_n 0, [0], 0, 0),
  (11, 1, .iload_n 3, [3], 0, 0),
  (12, 3, .invokevirtual 54, [95, 2, 4], 0, 0),
  (15, 1, .ireturn, [], 0, 0),
  (16, 1, .iload_n 2, [2], 0, 0),
  (17, 3, .invokestatic 46, [103, 1], 0, 0),
  (20, 3, .ifCond .ne 10, [17], 0, 0),
  (23, 1, .aload_n 0, [0], 0, 0),
  (24, 2, .ldc 41, [], (-1000000001), 0),
  (26, 3, .invokevirtual 54, [95, 2, 4], 0, 0),
  (29, 1, .ireturn, [], 0, 0),
  (30, 1, .iconst 0, [], 0, 0),
  (31, 2, .istore 4, [4], 0, 0),
  (33, 1, .aload_n 0, [0], 0, 0),
  (34, 1, .iconst 1, [], 1, 0),
  (35, 1, .aload_n 0, [0], 0, 0),
  (36, 3, .getfield 16, [4, 2], 0, 0),
  (39, 3, .invokevirtual 132, [185, 3, 4], 0, 0),
  (42, 1, .iconst 0, [], 0, 0),
  (43, 2, .istore 5, [5], 0, 0),
  (45, 2, .iload 5, [5], 0, 0),
  (47, 3, .sipush 1000, [], 1000, 0),
  (50, 3, .if_icmp .ge 59, [61], 0, 0),
  (53, 1, .aload_n 0, [0], 0, 0),
  (54, 1, .iload_n 2, [2], 0, 0),
  (55, 1, .iconst 3, [], 3, 0),
  (56, 2, .iload 5, [5], 0, 0),
  (58, 2, .bipush 100, [], 100, 0),
  (60, 1, .idiv, [], 0, 0),
  (61, 3, .invokevirtual 62, [101, 4, 4], 0, 0),
  (64, 1, .aload_n 0, [0], 0, 0),
  (65, 1, .iload_n 2, [2], 0, 0),
  (66, 1, .iconst 2, [], 2, 0),
  (67, 2, .iload 5, [5], 0, 0),
  (69, 2, .bipush 100, [], 100, 0),
  (71, 1, .irem, [], 0, 0),
  (72, 3, .invokevirtual 62, [101, 4, 4], 0, 0),
  (75, 2, .iload 4, [4], 0, 0),
  (77, 1, .aload_n 0, [0], 0, 0),
  (78, 1, .iload_n 1, [1], 0, 0),
  (79, 1, .iload_n 2, [2], 0, 0),
  (80, 3, .invokevirtual 293, [183, 3, 4], 0, 0),
  (83, 3, .ifCond .eq 7, [51], 0, 0),
  (86, 1, .iconst 1, [], 1, 0),
  (87, 3, .goto 4, [52], 0, 0),
  (90, 1, .iconst 0, [], 0, 0),
  (91, 1, .iadd, [], 0, 0),
  (92, 2, .istore 4, [4], 0, 0),
  (94, 1, .aload_n 0, [0], 0, 0),
  (95, 1, .iconst 0, [], 0, 0),
  (96, 1, .aload_n 0, [0], 0, 0),
  (97, 3, .getfield 16, [4, 2], 0, 0),
  (100, 3, .invokevirtual 132, [185, 3, 4], 0, 0),
  (103, 3, .iinc 5 1, [5], 1, 0),
  (106, 3, .goto (-61), [26], 0, 0),
  (109, 2, .iload 4, [4], 0, 0),
  (111, 1, .ireturn, [], 0, 0)]
set_option maxRecDepth 100000 in
theorem kX4_read : na_okP (na_mi MX4_read) PX4_read := ⟨by decide +kernel, na_lks_s lk_RX4 (by decide +kernel)⟩
def PX4_moveAll : List En := [(0, 1, .iconst 0, [], 0, 0),
  (1, 1, .istore_n 3, [3], 0, 0),
  (2, 1, .iload_n 3, [3], 0, 0),
  (3, 2, .bipush 76, [], 76, 0),
  (5, 3, .if_icmp .ge 34, [24], 0, 0),
  (8, 1, .iload_n 1, [1], 0, 0),
  (9, 3, .ifCond .eq 15, [15], 0, 0),
  (12, 1, .aload_n 2, [2], 0, 0),
  (13, 1, .iload_n 3, [3], 0, 0),
  (14, 1, .aload_n 0, [0], 0, 0),
  (15, 3, .getfield 7, [4, 0], 0, 0),
  (18, 1, .iload_n 3, [3], 0, 0),
  (19, 1, .iaload, [], 0, 0),
  (20, 1, .iastore, [], 0, 0),
  (21, 3, .goto 12, [22], 0, 0),
  (24, 1, .aload_n 0, [0], 0, 0),
  (25, 3, .getfield 7, [4, 0], 0, 0),
  (28, 1, .iload_n 3, [3], 0, 0),
  (29, 1, .aload_n 2, [2], 0, 0),
  (30, 1, .iload_n 3, [3], 0, 0),
  (31, 1, .iaload, [], 0, 0),
  (32, 1, .iastore, [], 0, 0),
  (33, 3, .iinc 3 1, [3], 1, 0),
  (36, 3, .goto (-34), [2], 0, 0),
  (39, 1, .return_, [], 0, 0)]
set_option maxRecDepth 100000 in
theorem kX4_moveAll : na_okP (na_mi MX4_moveAll) PX4_moveAll := ⟨by decide +kernel, na_lks_s lk_RX4 (by decide +kernel)⟩
def PX4_image : List En := [(0, 1, .aload_n 0, [0], 0, 0),
  (1, 1, .iconst 1, [], 1, 0),
  (2, 1, .aload_n 0, [0], 0, 0),
  (3, 3, .getfield 35, [4, 15], 0, 0),
  (6, 3, .invokevirtual 132, [185, 3, 4], 0, 0),
  (9, 1, .aload_n 0, [0], 0, 0),
  (10, 1, .iconst 1, [], 1, 0),
  (11, 3, .putfield 296, [4, 17, 1], 0, 0),
  (14, 1, .iconst 1, [], 1, 0),
  (15, 1, .ireturn, [], 0, 0)]
set_option maxRecDepth 100000 in
theorem kX4_image : na_okP (na_mi MX4_image) PX4_image := ⟨by decide +kernel, na_lks_s lk_RX4 (by decide +kernel)⟩
def PX4_undo : List En := [(0, 1, .aload_n 0, [0], 0, 0),
  (1, 3, .getfield 296, [4, 17], 0, 0),
  (4, 3, .ifCond .ne 10, [7], 0, 0),
  (7, 1, .aload_n 0, [0], 0, 0),
  (8, 2, .ldc 142, [], (-1000000004), 0),
  (10, 3, .invokevirtual 54, [95, 2, 4], 0, 0),
  (13, 1, .ireturn, [], 0, 0),
  (14, 1, .aload_n 0, [0], 0, 0),
  (15, 1, .iconst 0, [], 0, 0),
  (16, 1, .aload_n 0, [0], 0, 0),
  (17, 3, .getfield 35, [4, 15], 0, 0),
  (20, 3, .invokevirtual 132, [185, 3, 4], 0, 0),
  (23, 1, .aload_n 0, [0], 0, 0),
  (24, 3, .getfield 7, [4, 0], 0, 0),
  (27, 1, .iconst 3, [], 3, 0),
  (28, 1, .iaload, [], 0, 0),
  (29, 1, .ireturn, [], 0, 0)]
set_option maxRecDepth 100000 in
theorem kX4_undo : na_okP (na_mi MX4_undo) PX4_undo := ⟨by decide +kernel, na_lks_s lk_RX4 (by decide +kernel)⟩
def PX4_tear : List En := [(0, 1, .aload_n 0, [0], 0, 0),
  (1, 3, .getfield 296, [4, 17], 0, 0),
  (4, 3, .ifCond .eq 7, [5], 0, 0),
  (7, 1, .iconst 1, [], 1, 0),
  (8, 3, .goto 4, [6], 0, 0),
  (11, 1, .iconst 0, [], 0, 0),
  (12, 1, .istore_n 1, [1], 0, 0),
  (13, 1, .aload_n 0, [0], 0, 0),
  (14, 1, .iconst 0, [], 0, 0),
  (15, 3, .putfield 296, [4, 17, 1], 0, 0),
  (18, 1, .iload_n 1, [1], 0, 0),
  (19, 1, .ireturn, [], 0, 0)]
set_option maxRecDepth 100000 in
theorem kX4_tear : na_okP (na_mi MX4_tear) PX4_tear := ⟨by decide +kernel, na_lks_s lk_RX4 (by decide +kernel)⟩
def PX4_count : List En := [(0, 1, .iload_n 1, [1], 0, 0),
  (1, 1, .iconst 0, [], 0, 0),
  (2, 1, .iconst 3, [], 3, 0),
  (3, 3, .invokestatic 42, [94, 3], 0, 0),
  (6, 3, .ifCond .ne 10, [9], 0, 0),
  (9, 1, .aload_n 0, [0], 0, 0),
  (10, 2, .ldc 41, [], (-1000000001), 0),
  (12, 3, .invokevirtual 54, [95, 2, 4], 0, 0),
  (15, 1, .ireturn, [], 0, 0),
  (16, 1, .iconst 0, [], 0, 0),
  (17, 1, .istore_n 2, [2], 0, 0),
  (18, 1, .iconst 0, [], 0, 0),
  (19, 1, .istore_n 3, [3], 0, 0),
  (20, 1, .iload_n 3, [3], 0, 0),
  (21, 1, .aload_n 0, [0], 0, 0),
  (22, 3, .getfield 7, [4, 0], 0, 0),
  (25, 1, .iconst 3, [], 3, 0),
  (26, 1, .iaload, [], 0, 0),
  (27, 3, .if_icmp .ge 18, [28], 0, 0),
  (30, 1, .iload_n 2, [2], 0, 0),
  (31, 1, .aload_n 0, [0], 0, 0),
  (32, 1, .iload_n 3, [3], 0, 0),
  (33, 1, .iconst 2, [], 2, 0),
  (34, 3, .invokevirtual 66, [98, 3, 4], 0, 0),
  (37, 1, .iadd, [], 0, 0),
  (38, 1, .istore_n 2, [2], 0, 0),
  (39, 3, .iinc 3 1, [3], 1, 0),
  (42, 3, .goto (-22), [13], 0, 0),
  (45, 1, .iload_n 1, [1], 0, 0),
  (46, 3, .ifCond .ne 12, [35], 0, 0),
  (49, 1, .aload_n 0, [0], 0, 0),
  (50, 3, .getfield 7, [4, 0], 0, 0),
  (53, 1, .iconst 3, [], 3, 0),
  (54, 1, .iaload, [], 0, 0),
  (55, 3, .goto 29, [49], 0, 0),
  (58, 1, .iload_n 1, [1], 0, 0),
  (59, 1, .iconst 1, [], 1, 0),
  (60, 3, .if_icmp .ne 10, [41], 0, 0),
  (63, 1, .aload_n 0, [0], 0, 0),
  (64, 3, .getfield 174, [4, 4], 0, 0),
  (67, 3, .goto 17, [49], 0, 0),
  (70, 1, .iload_n 1, [1], 0, 0),
  (71, 1, .iconst 2, [], 2, 0),
  (72, 3, .if_icmp .ne 7, [46], 0, 0),
  (75, 1, .iload_n 2, [2], 0, 0),
  (76, 3, .goto 8, [49], 0, 0),
  (79, 1, .aload_n 0, [0], 0, 0),
  (80, 1, .iconst 3, [], 3, 0),
  (81, 3, .invokevirtual 122, [129, 2, 4], 0, 0),
  (84, 1, .ireturn, [], 0, 0)]
set_option maxRecDepth 100000 in
theorem kX4_count : na_okP (na_mi MX4_count) PX4_count := ⟨by decide +kernel, na_lks_s lk_RX4 (by decide +kernel)⟩
def PX4_status : List En := [(0, 1, .iload_n 1, [1], 0, 0),
  (1, 1, .iconst (-1), [], (-1), 0),
  (2, 2, .bipush 6, [], 6, 0),
  (4, 3, .invokestatic 42, [94, 3], 0, 0),
  (7, 3, .ifCond .ne 10, [9], 0, 0),
  (10, 1, .aload_n 0, [0], 0, 0),
  (11, 2, .ldc 41, [], (-1000000001), 0),
  (13, 3, .invokevirtual 54, [95, 2, 4], 0, 0),
  (16, 1, .ireturn, [], 0, 0),
  (17, 1, .iconst 0, [], 0, 0),
  (18, 1, .istore_n 2, [2], 0, 0),
  (19, 1, .iconst 0, [], 0, 0),
  (20, 1, .istore_n 3, [3], 0, 0),
  (21, 1, .iload_n 3, [3], 0, 0),
  (22, 2, .bipush 7, [], 7, 0),
  (24, 3, .if_icmp .ge 18, [25], 0, 0),
  (27, 1, .iload_n 2, [2], 0, 0),
  (28, 1, .aload_n 0, [0], 0, 0),
  (29, 3, .getfield 13, [4, 1], 0, 0),
  (32, 1, .iload_n 3, [3], 0, 0),
  (33, 1, .iaload, [], 0, 0),
  (34, 1, .iadd, [], 0, 0),
  (35, 1, .istore_n 2, [2], 0, 0),
  (36, 3, .iinc 3 1, [3], 1, 0),
  (39, 3, .goto (-18), [13], 0, 0),
  (42, 1, .iload_n 1, [1], 0, 0),
  (43, 3, .ifCond .ge 7, [29], 0, 0),
  (46, 1, .iload_n 2, [2], 0, 0),
  (47, 3, .goto 17, [37], 0, 0),
  (50, 1, .aload_n 0, [0], 0, 0),
  (51, 3, .getfield 13, [4, 1], 0, 0),
  (54, 1, .iload_n 1, [1], 0, 0),
  (55, 3, .ifCond .ge 7, [35], 0, 0),
  (58, 1, .iconst 0, [], 0, 0),
  (59, 3, .goto 4, [36], 0, 0),
  (62, 1, .iload_n 1, [1], 0, 0),
  (63, 1, .iaload, [], 0, 0),
  (64, 1, .ireturn, [], 0, 0)]
set_option maxRecDepth 100000 in
theorem kX4_status : na_okP (na_mi MX4_status) PX4_status := ⟨by decide +kernel, na_lks_s lk_RX4 (by decide +kernel)⟩
end
section
/-! the programs of J6, checked (by program) -/
def PJ6_numberOfTrailingZeros_0f7a4 : List En := [(0, 1, .iload_n 0, [0], 0, 0),
  (1, 1, .iconst (-1), [], (-1), 0),
  (2, 1, .ixor, [], 0, 0),
  (3, 1, .iload_n 0, [0], 0, 0),
  (4, 1, .iconst 1, [], 1, 0),
  (5, 1, .isub, [], 0, 0),
  (6, 1, .iand, [], 0, 0),
  (7, 1, .istore_n 0, [0], 0, 0),
  (8, 1, .iload_n 0, [0], 0, 0),
  (9, 3, .ifCond .gt 8, [14], 0, 0),
  (12, 1, .iload_n 0, [0], 0, 0),
  (13, 2, .bipush 32, [], 32, 0),
  (15, 1, .iand, [], 0, 0),
  (16, 1, .ireturn, [], 0, 0),
  (17, 1, .iconst 1, [], 1, 0),
  (18, 1, .istore_n 1, [1], 0, 0),
  (19, 1, .iload_n 0, [0], 0, 0),
  (20, 3, .ldc_w 264, [], 65536, 0),
  (23, 3, .if_icmp .le 11, [24], 0, 0),
  (26, 3, .iinc 1 16, [1], 16, 0),
  (29, 1, .iload_n 0, [0], 0, 0),
  (30, 2, .bipush 16, [], 16, 0),
  (32, 1, .iushr, [], 0, 0),
  (33, 1, .istore_n 0, [0], 0, 0),
  (34, 1, .iload_n 0, [0], 0, 0),
  (35, 3, .sipush 256, [], 256, 0),
  (38, 3, .if_icmp .le 11, [32], 0, 0),
  (41, 3, .iinc 1 8, [1], 8, 0),
  (44, 1, .iload_n 0, [0], 0, 0),
  (45, 2, .bipush 8, [], 8, 0),
  (47, 1, .iushr, [], 0, 0),
  (48, 1, .istore_n 0, [0], 0, 0),
  (49, 1, .iload_n 0, [0], 0, 0),
  (50, 2, .bipush 16, [], 16, 0),
  (52, 3, .if_icmp .le 10, [40], 0, 0),
  (55, 3, .iinc 1 4, [1], 4, 0),
  (58, 1, .iload_n 0, [0], 0, 0),
  (59, 1, .iconst 4, [], 4, 0),
  (60, 1, .iushr, [], 0, 0),
  (61, 1, .istore_n 0, [0], 0, 0),
  (62, 1, .iload_n 0, [0], 0, 0),
  (63, 1, .iconst 4, [], 4, 0),
  (64, 3, .if_icmp .le 10, [48], 0, 0),
  (67, 3, .iinc 1 2, [1], 2, 0),
  (70, 1, .iload_n 0, [0], 0, 0),
  (71, 1, .iconst 2, [], 2, 0),
  (72, 1, .iushr, [], 0, 0),
  (73, 1, .istore_n 0, [0], 0, 0),
  (74, 1, .iload_n 1, [1], 0, 0),
  (75, 1, .iload_n 0, [0], 0, 0),
  (76, 1, .iconst 1, [], 1, 0),
  (77, 1, .iushr, [], 0, 0),
  (78, 1, .iadd, [], 0, 0),
  (79, 1, .ireturn, [], 0, 0)]
set_option maxRecDepth 100000 in
theorem kJ6_numberOfTrailingZeros_0f7a4 : na_okP (na_mi MJ6_numberOfTrailingZeros_0f7a4) PJ6_numberOfTrailingZeros_0f7a4 := ⟨by decide +kernel, na_lks_s lk_RJ6 (by decide +kernel)⟩
def PJ6_bitCount_0f7a4 : List En := [(0, 1, .iload_n 0, [0], 0, 0),
  (1, 1, .iload_n 0, [0], 0, 0),
  (2, 1, .iconst 1, [], 1, 0),
  (3, 1, .iushr, [], 0, 0),
  (4, 3, .ldc_w 265, [], 1431655765, 0),
  (7, 1, .iand, [], 0, 0),
  (8, 1, .isub, [], 0, 0),
  (9, 1, .istore_n 0, [0], 0, 0),
  (10, 1, .iload_n 0, [0], 0, 0),
  (11, 3, .ldc_w 266, [], 858993459, 0),
  (14, 1, .iand, [], 0, 0),
  (15, 1, .iload_n 0, [0], 0, 0),
  (16, 1, .iconst 2, [], 2, 0),
  (17, 1, .iushr, [], 0, 0),
  (18, 3, .ldc_w 266, [], 858993459, 0),
  (21, 1, .iand, [], 0, 0),
  (22, 1, .iadd, [], 0, 0),
  (23, 1, .istore_n 0, [0], 0, 0),
  (24, 1, .iload_n 0, [0], 0, 0),
  (25, 1, .iload_n 0, [0], 0, 0),
  (26, 1, .iconst 4, [], 4, 0),
  (27, 1, .iushr, [], 0, 0),
  (28, 1, .iadd, [], 0, 0),
  (29, 3, .ldc_w 267, [], 252645135, 0),
  (32, 1, .iand, [], 0, 0),
  (33, 1, .istore_n 0, [0], 0, 0),
  (34, 1, .iload_n 0, [0], 0, 0),
  (35, 1, .iload_n 0, [0], 0, 0),
  (36, 2, .bipush 8, [], 8, 0),
  (38, 1, .iushr, [], 0, 0),
  (39, 1, .iadd, [], 0, 0),
  (40, 1, .istore_n 0, [0], 0, 0),
  (41, 1, .iload_n 0, [0], 0, 0),
  (42, 1, .iload_n 0, [0], 0, 0),
  (43, 2, .bipush 16, [], 16, 0),
  (45, 1, .iushr, [], 0, 0),
  (46, 1, .iadd, [], 0, 0),
  (47, 1, .istore_n 0, [0], 0, 0),
  (48, 1, .iload_n 0, [0], 0, 0),
  (49, 2, .bipush 63, [], 63, 0),
  (51, 1, .iand, [], 0, 0),
  (52, 1, .ireturn, [], 0, 0)]
set_option maxRecDepth 100000 in
theorem kJ6_bitCount_0f7a4 : na_okP (na_mi MJ6_bitCount_0f7a4) PJ6_bitCount_0f7a4 := ⟨by decide +kernel, na_lks_s lk_RJ6 (by decide +kernel)⟩
end
section
/-! the programs of J0, checked (by program) -/
def PJ0_length_8abf5 : List En := [(0, 1, .aload_n 0, [0], 0, 0),
  (1, 3, .getfield 9, [9, 1], 0, 0),
  (4, 1, .arraylength, [], 0, 0),
  (5, 1, .aload_n 0, [0], 0, 0),
  (6, 3, .invokevirtual 335, [195, 1, 9], 0, 0),
  (9, 1, .ishr, [], 0, 0),
  (10, 1, .ireturn, [], 0, 0)]
set_option maxRecDepth 100000 in
theorem kJ0_length_8abf5 : na_okP (na_mi MJ0_length_8abf5) PJ0_length_8abf5 := ⟨by decide +kernel, na_lks_s lk_RJ0 (by decide +kernel)⟩
def PJ0_charAt_5068e : List En := [(0, 1, .aload_n 0, [0], 0, 0),
  (1, 3, .invokevirtual 492, [196, 1, 9], 0, 0),
  (4, 3, .ifCond .eq 12, [8], 0, 0),
  (7, 1, .aload_n 0, [0], 0, 0),
  (8, 3, .getfield 9, [9, 1], 0, 0),
  (11, 1, .iload_n 1, [1], 0, 0),
  (12, 3, .invokestatic 495, [198, 2], 0, 0),
  (15, 1, .ireturn, [], 0, 0),
  (16, 1, .aload_n 0, [0], 0, 0),
  (17, 3, .getfield 9, [9, 1], 0, 0),
  (20, 1, .iload_n 1, [1], 0, 0),
  (21, 3, .invokestatic 498, [998], 0, 0),
  (24, 1, .ireturn, [], 0, 0)]
set_option maxRecDepth 100000 in
theorem kJ0_charAt_5068e : na_okP (na_mi MJ0_charAt_5068e) PJ0_charAt_5068e := ⟨by decide +kernel, na_lks_s lk_RJ0 (by decide +kernel)⟩
def PJ0_coder_7d493 : List En := [(0, 3, .getstatic 38, [5], 0, 0),
  (3, 3, .ifCond .eq 10, [5], 0, 0),
  (6, 1, .aload_n 0, [0], 0, 0),
  (7, 3, .getfield 15, [9, 0], 0, 0),
  (10, 3, .goto 4, [6], 0, 0),
  (13, 1, .iconst 1, [], 1, 0),
  (14, 1, .ireturn, [], 0, 0)]
set_option maxRecDepth 100000 in
theorem kJ0_coder_7d493 : na_okP (na_mi MJ0_coder_7d493) PJ0_coder_7d493 := ⟨by decide +kernel, na_lks_s lk_RJ0 (by decide +kernel)⟩
def PJ0_isLatin1_aae02 : List En := [(0, 3, .getstatic 38, [5], 0, 0),
  (3, 3, .ifCond .eq 14, [7], 0, 0),
  (6, 1, .aload_n 0, [0], 0, 0),
  (7, 3, .getfield 15, [9, 0], 0, 0),
  (10, 3, .ifCond .ne 7, [7], 0, 0),
  (13, 1, .iconst 1, [], 1, 0),
  (14, 3, .goto 4, [8], 0, 0),
  (17, 1, .iconst 0, [], 0, 0),
  (18, 1, .ireturn, [], 0, 0)]
set_option maxRecDepth 100000 in
theorem kJ0_isLatin1_aae02 : na_okP (na_mi MJ0_isLatin1_aae02) PJ0_isLatin1_aae02 := ⟨by decide +kernel, na_lks_s lk_RJ0 (by decide +kernel)⟩
def PJ0_checkIndex_df160 : List En := [(0, 1, .iload_n 0, [0], 0, 0),
  (1, 1, .iload_n 1, [1], 0, 0),
  (2, 3, .getstatic 1053, [6], 0, 0),
  (5, 3, .invokestatic 1059, [199, 3], 0, 0),
  (8, 1, .pop, [], 0, 0),
  (9, 1, .return_, [], 0, 0)]
set_option maxRecDepth 100000 in
theorem kJ0_checkIndex_df160 : na_okP (na_mi MJ0_checkIndex_df160) PJ0_checkIndex_df160 := ⟨by decide +kernel, na_lks_s lk_RJ0 (by decide +kernel)⟩
end
section
/-! the programs of J1, checked (by program) -/
def PJ1_charAt_3b067 : List En := [(0, 1, .iload_n 1, [1], 0, 0),
  (1, 1, .aload_n 0, [0], 0, 0),
  (2, 1, .arraylength, [], 0, 0),
  (3, 3, .invokestatic 9, [197, 2], 0, 0),
  (6, 1, .aload_n 0, [0], 0, 0),
  (7, 1, .iload_n 1, [1], 0, 0),
  (8, 1, .baload, [], 0, 0),
  (9, 3, .sipush 255, [], 255, 0),
  (12, 1, .iand, [], 0, 0),
  (13, 1, .i2c, [], 0, 0),
  (14, 1, .ireturn, [], 0, 0)]
set_option maxRecDepth 100000 in
theorem kJ1_charAt_3b067 : na_okP (na_mi MJ1_charAt_3b067) PJ1_charAt_3b067 := ⟨by decide +kernel, na_lks_s lk_RJ1 (by decide +kernel)⟩
end
section
/-! the programs of J3, checked (by program) -/
def PJ3_checkIndex_8e157 : List En := [(0, 1, .iload_n 0, [0], 0, 0),
  (1, 3, .ifCond .lt 8, [5], 0, 0),
  (4, 1, .iload_n 0, [0], 0, 0),
  (5, 1, .iload_n 1, [1], 0, 0),
  (6, 3, .if_icmp .lt 10, [10], 0, 0),
  (9, 1, .aload_n 2, [2], 0, 0),
  (10, 1, .iload_n 0, [0], 0, 0),
  (11, 1, .iload_n 1, [1], 0, 0),
  (12, 3, .invokestatic 95, [998], 0, 0),
  (15, 1, .athrow, [], 0, 0),
  (16, 1, .iload_n 0, [0], 0, 0),
  (17, 1, .ireturn, [], 0, 0)]
set_option maxRecDepth 100000 in
theorem kJ3_checkIndex_8e157 : na_okP (na_mi MJ3_checkIndex_8e157) PJ3_checkIndex_8e157 := ⟨by decide +kernel, na_lks_s lk_RJ3 (by decide +kernel)⟩
end
section
/-! SMALL METHODS -/
def na_pad : Nat → Lo → Lo
  | 0, ls => ls
  | n + 1, [] => none :: na_pad n []
  | n + 1, x :: r => x :: na_pad n r
theorem na_le_refl : ∀ a : Lo, na_le a a
  | [] => trivial
  | none :: a => na_le_refl a
  | some v :: a => ⟨rfl, na_le_refl a⟩
theorem na_le_pad : ∀ (n : Nat) (a : Lo), na_le (na_pad n a) a
  | 0, a => na_le_refl a
  | n + 1, [] => na_le_pad n []
  | n + 1, none :: a => na_le_pad n a
  | n + 1, some v :: a => ⟨rfl, na_le_pad n a⟩
theorem Mt.of2 {sx : Nat × (Nat → Int32)} {j : Nat} (q : MI) (hq : na_mi j = q) (hpn : plainName q.1.cls = true) {av : List Value} {I : Mm} {J : Ml} {Post : Option Value → Mm → Ml → Prop} (hct : na_ct av ≤ q.2.2.1) (h : GW sx q Post 0 (na_pad q.2.2.1 (na_ent av)) [] I J) : Mt sx j av I J Post :=
  Mt.of q hq hpn hct (h.weak (na_le_pad _ _))
def na_b (I : Mm) (J : Ml) (c : Prop) : Option Value → Mm → Ml → Prop := fun r I' J' => I = I' ∧ J = J' ∧ ((c ∧ r = some (.int 1)) ∨ (¬ c ∧ r = some (.int 0)))
def na_v (I : Mm) (J : Ml) (v : Int32) : Option Value → Mm → Ml → Prop := fun r I' J' => I = I' ∧ J = J' ∧ r = some (.int v)
/-- the same memory, an answer -/
abbrev hasP (set k : Int32) : Prop := (set >>> (k &&& 31)) &&& 1 = 1
abbrev outP (v a b : Int32) : Prop := v < a ∨ b < v
theorem na_nl_b1 : na_nl .boolean 1 := rfl
theorem na_nl_b0 : na_nl .boolean 0 := rfl
/-- the first n numbers together -/
def sumI (f : Nat → Int32) : Nat → Int32
  | 0 => 0
  | n + 1 => sumI f n + f n
set_option maxRecDepth 100000 in
set_option maxHeartbeats 4000000 in
theorem c_outside (sx : Nat × (Nat → Int32)) (v a b : Int32) (I : Mm) (J : Ml) : Mt sx MX3_outside [.int v, .int a, .int b] I J (na_b I J (outP v a b)) := by
  refine Mt.of2 _ rfl (by decide +kernel) (Nat.le_of_ble_eq_true rfl) ?_
  refine GW.run kX3_outside (fun _ => false) 40 0 rfl ?_
  refine And.intro (fun h1 => ?_) (fun h1 => ?_)
  · -- pc 2 .if_icmp .lt 8: yes
    exact ⟨na_nl_b1, rfl, rfl, Or.inl ⟨Or.inl h1, rfl⟩⟩
  · -- pc 2 .if_icmp .lt 8: no
    refine And.intro (fun h2 => ?_) (fun h2 => ?_)
    · -- pc 7 .if_icmp .le 7: yes
      exact ⟨na_nl_b0, rfl, rfl, Or.inr ⟨fun q => q.elim h1 (fun q => absurd h2 (Int32.not_le.mpr q)), rfl⟩⟩
    · -- pc 7 .if_icmp .le 7: no
      exact ⟨na_nl_b1, rfl, rfl, Or.inl ⟨Or.inr (Int32.not_le.mp h2), rfl⟩⟩
set_option maxRecDepth 100000 in
set_option maxHeartbeats 4000000 in
theorem c_noRoom (sx : Nat × (Nat → Int32)) (v : Int32) (I : Mm) (J : Ml) : Mt sx MX3_noRoom [.int v] I J (na_b I J (outP v 0 7)) := by
  refine Mt.of2 _ rfl (by decide +kernel) (Nat.le_of_ble_eq_true rfl) ?_
  refine GW.run kX3_noRoom (fun _ => false) 35 0 rfl ?_
  refine Mt.conseq (c_outside _ _ _ _ _ _) ?_
  rintro _ _ _ ⟨rfl, rfl, ⟨h1, rfl⟩ | ⟨h1, rfl⟩⟩
  · -- pc 4 call X3_outside true
    exact ⟨na_nl_b1, rfl, rfl, Or.inl ⟨h1, rfl⟩⟩
  · -- pc 4 call X3_outside false
    exact ⟨na_nl_b0, rfl, rfl, Or.inr ⟨h1, rfl⟩⟩
set_option maxRecDepth 100000 in
set_option maxHeartbeats 4000000 in
theorem c_noKind (sx : Nat × (Nat → Int32)) (v : Int32) (I : Mm) (J : Ml) : Mt sx MX3_noKind [.int v] I J (na_b I J (outP v 0 5)) := by
  refine Mt.of2 _ rfl (by decide +kernel) (Nat.le_of_ble_eq_true rfl) ?_
  refine GW.run kX3_noKind (fun _ => false) 35 0 rfl ?_
  refine Mt.conseq (c_outside _ _ _ _ _ _) ?_
  rintro _ _ _ ⟨rfl, rfl, ⟨h1, rfl⟩ | ⟨h1, rfl⟩⟩
  · -- pc 3 call X3_outside true
    exact ⟨na_nl_b1, rfl, rfl, Or.inl ⟨h1, rfl⟩⟩
  · -- pc 3 call X3_outside false
    exact ⟨na_nl_b0, rfl, rfl, Or.inr ⟨h1, rfl⟩⟩
set_option maxRecDepth 100000 in
set_option maxHeartbeats 4000000 in
theorem c_noSheet (sx : Nat × (Nat → Int32)) (v : Int32) (I : Mm) (J : Ml) : Mt sx MX3_noSheet [.int v] I J (na_b I J (outP v 0 3)) := by
  refine Mt.of2 _ rfl (by decide +kernel) (Nat.le_of_ble_eq_true rfl) ?_
  refine GW.run kX3_noSheet (fun _ => false) 35 0 rfl ?_
  refine Mt.conseq (c_outside _ _ _ _ _ _) ?_
  rintro _ _ _ ⟨rfl, rfl, ⟨h1, rfl⟩ | ⟨h1, rfl⟩⟩
  · -- pc 3 call X3_outside true
    exact ⟨na_nl_b1, rfl, rfl, Or.inl ⟨h1, rfl⟩⟩
  · -- pc 3 call X3_outside false
    exact ⟨na_nl_b0, rfl, rfl, Or.inr ⟨h1, rfl⟩⟩
set_option maxRecDepth 100000 in
set_option maxHeartbeats 4000000 in
theorem c_has (sx : Nat × (Nat → Int32)) (v a : Int32) (I : Mm) (J : Ml) : Mt sx MX3_has [.int v, .int a] I J (na_b I J (hasP v a)) := by
  refine Mt.of2 _ rfl (by decide +kernel) (Nat.le_of_ble_eq_true rfl) ?_
  refine GW.run kX3_has (fun _ => false) 41 0 rfl ?_
  refine And.intro (fun h1 => ?_) (fun h1 => ?_)
  · -- pc 6 .if_icmp .ne 7: yes
    exact ⟨na_nl_b0, rfl, rfl, Or.inr ⟨h1, rfl⟩⟩
  · -- pc 6 .if_icmp .ne 7: no
    exact ⟨na_nl_b1, rfl, rfl, Or.inl ⟨h1, rfl⟩⟩
set_option maxRecDepth 100000 in
set_option maxHeartbeats 4000000 in
theorem m_has (sx : Nat × (Nat → Int32)) (v a : Int32) (I : Mm) (J : Ml) : Mt sx MX4_has [.int v, .int a] I J (na_b I J (hasP v a)) := by
  refine Mt.of2 _ rfl (by decide +kernel) (Nat.le_of_ble_eq_true rfl) ?_
  refine GW.run kX4_has (fun _ => false) 41 0 rfl ?_
  refine And.intro (fun h1 => ?_) (fun h1 => ?_)
  · -- pc 6 .if_icmp .ne 7: yes
    exact ⟨na_nl_b0, rfl, rfl, Or.inr ⟨h1, rfl⟩⟩
  · -- pc 6 .if_icmp .ne 7: no
    exact ⟨na_nl_b1, rfl, rfl, Or.inl ⟨h1, rfl⟩⟩
set_option maxRecDepth 100000 in
set_option maxHeartbeats 4000000 in
theorem m_in (sx : Nat × (Nat → Int32)) (v a b : Int32) (I : Mm) (J : Ml) : Mt sx MX4_in [.int v, .int a, .int b] I J (na_b I J (a ≤ v ∧ v ≤ b)) := by
  refine Mt.of2 _ rfl (by decide +kernel) (Nat.le_of_ble_eq_true rfl) ?_
  refine GW.run kX4_in (fun _ => false) 40 0 rfl ?_
  refine And.intro (fun h1 => ?_) (fun h1 => ?_)
  · -- pc 2 .if_icmp .lt 12: yes
    exact ⟨na_nl_b0, rfl, rfl, Or.inr ⟨fun q => absurd h1 (Int32.not_lt.mpr q.1), rfl⟩⟩
  · -- pc 2 .if_icmp .lt 12: no
    refine And.intro (fun h2 => ?_) (fun h2 => ?_)
    · -- pc 7 .if_icmp .gt 7: yes
      exact ⟨na_nl_b0, rfl, rfl, Or.inr ⟨fun q => absurd h2 (Int32.not_lt.mpr q.2), rfl⟩⟩
    · -- pc 7 .if_icmp .gt 7: no
      exact ⟨na_nl_b1, rfl, rfl, Or.inl ⟨⟨Int32.not_lt.mp h1, Int32.not_lt.mp h2⟩, rfl⟩⟩
set_option maxRecDepth 100000 in
set_option maxHeartbeats 4000000 in
theorem m_isRoom (sx : Nat × (Nat → Int32)) (v : Int32) (I : Mm) (J : Ml) : Mt sx MX4_isRoom [.int v] I J (na_b I J (0 ≤ v ∧ v ≤ 7)) := by
  refine Mt.of2 _ rfl (by decide +kernel) (Nat.le_of_ble_eq_true rfl) ?_
  refine GW.run kX4_isRoom (fun _ => false) 35 0 rfl ?_
  refine Mt.conseq (m_in _ _ _ _ _ _) ?_
  rintro _ _ _ ⟨rfl, rfl, ⟨h1, rfl⟩ | ⟨h1, rfl⟩⟩
  · -- pc 4 call X4_in true
    exact ⟨na_nl_b1, rfl, rfl, Or.inl ⟨h1, rfl⟩⟩
  · -- pc 4 call X4_in false
    exact ⟨na_nl_b0, rfl, rfl, Or.inr ⟨h1, rfl⟩⟩
set_option maxRecDepth 100000 in
set_option maxHeartbeats 4000000 in
theorem m_isKind (sx : Nat × (Nat → Int32)) (v : Int32) (I : Mm) (J : Ml) : Mt sx MX4_isKind [.int v] I J (na_b I J (0 ≤ v ∧ v ≤ 5)) := by
  refine Mt.of2 _ rfl (by decide +kernel) (Nat.le_of_ble_eq_true rfl) ?_
  refine GW.run kX4_isKind (fun _ => false) 35 0 rfl ?_
  refine Mt.conseq (m_in _ _ _ _ _ _) ?_
  rintro _ _ _ ⟨rfl, rfl, ⟨h1, rfl⟩ | ⟨h1, rfl⟩⟩
  · -- pc 3 call X4_in true
    exact ⟨na_nl_b1, rfl, rfl, Or.inl ⟨h1, rfl⟩⟩
  · -- pc 3 call X4_in false
    exact ⟨na_nl_b0, rfl, rfl, Or.inr ⟨h1, rfl⟩⟩
set_option maxRecDepth 100000 in
set_option maxHeartbeats 4000000 in
theorem m_isSpan (sx : Nat × (Nat → Int32)) (v : Int32) (I : Mm) (J : Ml) : Mt sx MX4_isSpan [.int v] I J (na_b I J (0 ≤ v ∧ v ≤ 40)) := by
  refine Mt.of2 _ rfl (by decide +kernel) (Nat.le_of_ble_eq_true rfl) ?_
  refine GW.run kX4_isSpan (fun _ => false) 35 0 rfl ?_
  refine Mt.conseq (m_in _ _ _ _ _ _) ?_
  rintro _ _ _ ⟨rfl, rfl, ⟨h1, rfl⟩ | ⟨h1, rfl⟩⟩
  · -- pc 4 call X4_in true
    exact ⟨na_nl_b1, rfl, rfl, Or.inl ⟨h1, rfl⟩⟩
  · -- pc 4 call X4_in false
    exact ⟨na_nl_b0, rfl, rfl, Or.inr ⟨h1, rfl⟩⟩
set_option maxRecDepth 100000 in
set_option maxHeartbeats 4000000 in
theorem m_isSheet (sx : Nat × (Nat → Int32)) (v : Int32) (I : Mm) (J : Ml) : Mt sx MX4_isSheet [.int v] I J (na_b I J (0 ≤ v ∧ v ≤ 3)) := by
  refine Mt.of2 _ rfl (by decide +kernel) (Nat.le_of_ble_eq_true rfl) ?_
  refine GW.run kX4_isSheet (fun _ => false) 35 0 rfl ?_
  refine Mt.conseq (m_in _ _ _ _ _ _) ?_
  rintro _ _ _ ⟨rfl, rfl, ⟨h1, rfl⟩ | ⟨h1, rfl⟩⟩
  · -- pc 3 call X4_in true
    exact ⟨na_nl_b1, rfl, rfl, Or.inl ⟨h1, rfl⟩⟩
  · -- pc 3 call X4_in false
    exact ⟨na_nl_b0, rfl, rfl, Or.inr ⟨h1, rfl⟩⟩
set_option maxRecDepth 100000 in
set_option maxHeartbeats 4000000 in
theorem m_isLetter (sx : Nat × (Nat → Int32)) (v : Int32) (I : Mm) (J : Ml) : Mt sx MX4_isLetter [.int v] I J (na_b I J (97 ≤ v ∧ v ≤ 122)) := by
  refine Mt.of2 _ rfl (by decide +kernel) (Nat.le_of_ble_eq_true rfl) ?_
  refine GW.run kX4_isLetter (fun _ => false) 35 0 rfl ?_
  refine Mt.conseq (m_in _ _ _ _ _ _) ?_
  rintro _ _ _ ⟨rfl, rfl, ⟨h1, rfl⟩ | ⟨h1, rfl⟩⟩
  · -- pc 5 call X4_in true
    exact ⟨na_nl_b1, rfl, rfl, Or.inl ⟨h1, rfl⟩⟩
  · -- pc 5 call X4_in false
    exact ⟨na_nl_b0, rfl, rfl, Or.inr ⟨h1, rfl⟩⟩
set_option maxRecDepth 100000 in
set_option maxHeartbeats 4000000 in
theorem m_isDigit (sx : Nat × (Nat → Int32)) (v : Int32) (I : Mm) (J : Ml) : Mt sx MX4_isDigit [.int v] I J (na_b I J (48 ≤ v ∧ v ≤ 57)) := by
  refine Mt.of2 _ rfl (by decide +kernel) (Nat.le_of_ble_eq_true rfl) ?_
  refine GW.run kX4_isDigit (fun _ => false) 35 0 rfl ?_
  refine Mt.conseq (m_in _ _ _ _ _ _) ?_
  rintro _ _ _ ⟨rfl, rfl, ⟨h1, rfl⟩ | ⟨h1, rfl⟩⟩
  · -- pc 5 call X4_in true
    exact ⟨na_nl_b1, rfl, rfl, Or.inl ⟨h1, rfl⟩⟩
  · -- pc 5 call X4_in false
    exact ⟨na_nl_b0, rfl, rfl, Or.inr ⟨h1, rfl⟩⟩
end
section
/-! A NIGHT: its cells by their places from nb on: 0 the object (4 openDoors, 5 cold, 6 hour, 7 people), 1 airs, 2 frosts, 3 fires, 4 tights, 5 kinds, 6 places, 7 needs, 8 stays, 9 stifled -/
def gN (nb : Nat) (I : Mm) : Mm := fun k => I (nb + k)
def pN (nb : Nat) (N I : Mm) : Mm := fun k => bif Nat.ble nb k && Nat.ble k (nb + 9) then N (k - nb) else I k
theorem pN_in {nb : Nat} {N I : Mm} {k : Nat} (h : nb ≤ k ∧ k ≤ nb + 9) : pN nb N I k = N (k - nb) := by
  unfold pN
  rw [Nat.ble_eq_true_of_le h.1, Nat.ble_eq_true_of_le h.2]
  rfl
theorem pN_out {nb : Nat} {N I : Mm} {k : Nat} (h : ¬ (nb ≤ k ∧ k ≤ nb + 9)) : pN nb N I k = I k := by
  unfold pN
  cases h1 : Nat.ble nb k with
  | false => rfl
  | true =>
    cases h2 : Nat.ble k (nb + 9) with
    | false => rfl
    | true => exact absurd ⟨Nat.le_of_ble_eq_true h1, Nat.le_of_ble_eq_true h2⟩ h
theorem pN_gN (nb : Nat) (I : Mm) : pN nb (gN nb I) I = I := by
  funext k
  by_cases h : nb ≤ k ∧ k ≤ nb + 9
  · rw [pN_in h, gN, show nb + (k - nb) = k by omega]
  · rw [pN_out h]
theorem pN_set {nb k pl : Nat} {N I : Mm} {j : Nat} {v : Int32} (hk : k < 10) (hp : pl = nb + k) : na_set (pN nb N I) pl j v = pN nb (na_set N k j v) I := by
  subst hp
  funext a
  by_cases h : nb ≤ a ∧ a ≤ nb + 9
  · rw [pN_in h]
    unfold na_set
    by_cases ha : a = nb + k
    · subst ha
      rw [if_pos rfl, if_pos (by omega), pN_in (by omega)]
      simp
    · rw [if_neg ha, if_neg (by omega), pN_in h]
  · rw [pN_out h]
    unfold na_set
    rw [if_neg (by omega), pN_out h]
theorem pN_pN {nb : Nat} {N M I : Mm} : pN nb N (pN nb M I) = pN nb N I := by
  funext a
  by_cases h : nb ≤ a ∧ a ≤ nb + 9
  · rw [pN_in h, pN_in h]
  · rw [pN_out h, pN_out h, pN_out h]
/-- two nights lie apart -/
theorem pN_swap {N M I : Mm} : pN 21 N (pN 1 M I) = pN 1 M (pN 21 N I) := by
  funext a
  by_cases h : 21 ≤ a ∧ a ≤ 21 + 9
  · rw [pN_in h, pN_out (by omega), pN_in h]
  · rw [pN_out h]
    by_cases h2 : 1 ≤ a ∧ a ≤ 1 + 9
    · rw [pN_in h2, pN_in h2]
    · rw [pN_out h2, pN_out h2, pN_out h]
theorem pNg_1_0 {N I : Mm} : pN 1 N I 1 = N 0 := rfl
theorem pNs_1_0 {N I : Mm} {j : Nat} {v : Int32} : na_set (pN 1 N I) 1 j v = pN 1 (na_set N 0 j v) I := pN_set (by decide) rfl
theorem pNg_1_1 {N I : Mm} : pN 1 N I 2 = N 1 := rfl
theorem pNs_1_1 {N I : Mm} {j : Nat} {v : Int32} : na_set (pN 1 N I) 2 j v = pN 1 (na_set N 1 j v) I := pN_set (by decide) rfl
theorem pNg_1_2 {N I : Mm} : pN 1 N I 3 = N 2 := rfl
theorem pNs_1_2 {N I : Mm} {j : Nat} {v : Int32} : na_set (pN 1 N I) 3 j v = pN 1 (na_set N 2 j v) I := pN_set (by decide) rfl
theorem pNg_1_3 {N I : Mm} : pN 1 N I 4 = N 3 := rfl
theorem pNs_1_3 {N I : Mm} {j : Nat} {v : Int32} : na_set (pN 1 N I) 4 j v = pN 1 (na_set N 3 j v) I := pN_set (by decide) rfl
theorem pNg_1_4 {N I : Mm} : pN 1 N I 5 = N 4 := rfl
theorem pNs_1_4 {N I : Mm} {j : Nat} {v : Int32} : na_set (pN 1 N I) 5 j v = pN 1 (na_set N 4 j v) I := pN_set (by decide) rfl
theorem pNg_1_5 {N I : Mm} : pN 1 N I 6 = N 5 := rfl
theorem pNs_1_5 {N I : Mm} {j : Nat} {v : Int32} : na_set (pN 1 N I) 6 j v = pN 1 (na_set N 5 j v) I := pN_set (by decide) rfl
theorem pNg_1_6 {N I : Mm} : pN 1 N I 7 = N 6 := rfl
theorem pNs_1_6 {N I : Mm} {j : Nat} {v : Int32} : na_set (pN 1 N I) 7 j v = pN 1 (na_set N 6 j v) I := pN_set (by decide) rfl
theorem pNg_1_7 {N I : Mm} : pN 1 N I 8 = N 7 := rfl
theorem pNs_1_7 {N I : Mm} {j : Nat} {v : Int32} : na_set (pN 1 N I) 8 j v = pN 1 (na_set N 7 j v) I := pN_set (by decide) rfl
theorem pNg_1_8 {N I : Mm} : pN 1 N I 9 = N 8 := rfl
theorem pNs_1_8 {N I : Mm} {j : Nat} {v : Int32} : na_set (pN 1 N I) 9 j v = pN 1 (na_set N 8 j v) I := pN_set (by decide) rfl
theorem pNg_1_9 {N I : Mm} : pN 1 N I 10 = N 9 := rfl
theorem pNs_1_9 {N I : Mm} {j : Nat} {v : Int32} : na_set (pN 1 N I) 10 j v = pN 1 (na_set N 9 j v) I := pN_set (by decide) rfl
theorem pNg_21_0 {N I : Mm} : pN 21 N I 21 = N 0 := rfl
theorem pNs_21_0 {N I : Mm} {j : Nat} {v : Int32} : na_set (pN 21 N I) 21 j v = pN 21 (na_set N 0 j v) I := pN_set (by decide) rfl
theorem pNg_21_1 {N I : Mm} : pN 21 N I 22 = N 1 := rfl
theorem pNs_21_1 {N I : Mm} {j : Nat} {v : Int32} : na_set (pN 21 N I) 22 j v = pN 21 (na_set N 1 j v) I := pN_set (by decide) rfl
theorem pNg_21_2 {N I : Mm} : pN 21 N I 23 = N 2 := rfl
theorem pNs_21_2 {N I : Mm} {j : Nat} {v : Int32} : na_set (pN 21 N I) 23 j v = pN 21 (na_set N 2 j v) I := pN_set (by decide) rfl
theorem pNg_21_3 {N I : Mm} : pN 21 N I 24 = N 3 := rfl
theorem pNs_21_3 {N I : Mm} {j : Nat} {v : Int32} : na_set (pN 21 N I) 24 j v = pN 21 (na_set N 3 j v) I := pN_set (by decide) rfl
theorem pNg_21_4 {N I : Mm} : pN 21 N I 25 = N 4 := rfl
theorem pNs_21_4 {N I : Mm} {j : Nat} {v : Int32} : na_set (pN 21 N I) 25 j v = pN 21 (na_set N 4 j v) I := pN_set (by decide) rfl
theorem pNg_21_5 {N I : Mm} : pN 21 N I 26 = N 5 := rfl
theorem pNs_21_5 {N I : Mm} {j : Nat} {v : Int32} : na_set (pN 21 N I) 26 j v = pN 21 (na_set N 5 j v) I := pN_set (by decide) rfl
theorem pNg_21_6 {N I : Mm} : pN 21 N I 27 = N 6 := rfl
theorem pNs_21_6 {N I : Mm} {j : Nat} {v : Int32} : na_set (pN 21 N I) 27 j v = pN 21 (na_set N 6 j v) I := pN_set (by decide) rfl
theorem pNg_21_7 {N I : Mm} : pN 21 N I 28 = N 7 := rfl
theorem pNs_21_7 {N I : Mm} {j : Nat} {v : Int32} : na_set (pN 21 N I) 28 j v = pN 21 (na_set N 7 j v) I := pN_set (by decide) rfl
theorem pNg_21_8 {N I : Mm} : pN 21 N I 29 = N 8 := rfl
theorem pNs_21_8 {N I : Mm} {j : Nat} {v : Int32} : na_set (pN 21 N I) 29 j v = pN 21 (na_set N 8 j v) I := pN_set (by decide) rfl
theorem pNg_21_9 {N I : Mm} : pN 21 N I 30 = N 9 := rfl
theorem pNs_21_9 {N I : Mm} {j : Nat} {v : Int32} : na_set (pN 21 N I) 30 j v = pN 21 (na_set N 9 j v) I := pN_set (by decide) rfl
theorem na_set_ne {I : Mm} {k j a b : Nat} {v : Int32} (h : b ≠ j) : na_set I k j v a b = I a b := by
  unfold na_set
  split
  · rename_i h2
    subst h2
    simp [upd, h]
  · rfl
theorem GW.eqI {sx : Nat × (Nat → Int32)} {q : MI} {Rt : Option Value → Mm → Ml → Prop} {pc : Nat} {ls : Lo} {st : List Value} {I I2 : Mm} {J : Ml} (h : I2 = I) (g : GW sx q Rt pc ls st I J) : GW sx q Rt pc ls st I2 J := h ▸ g
theorem GW.eqIJ {sx : Nat × (Nat → Int32)} {q : MI} {Rt : Option Value → Mm → Ml → Prop} {pc : Nat} {ls : Lo} {st : List Value} {I I2 : Mm} {J J2 : Ml} (h : I2 = I) (h2 : J2 = J) (g : GW sx q Rt pc ls st I J) : GW sx q Rt pc ls st I2 J2 := h ▸ h2 ▸ g
theorem GW.eqL {sx : Nat × (Nat → Int32)} {q : MI} {Rt : Option Value → Mm → Ml → Prop} {pc : Nat} {ls ls2 : Lo} {st : List Value} {I I2 : Mm} {J J2 : Ml} (hl : ls2 = ls) (h : I2 = I) (h2 : J2 = J) (g : GW sx q Rt pc ls st I J) : GW sx q Rt pc ls2 st I2 J2 := hl ▸ h ▸ h2 ▸ g
def itN (f : Mm → Nat → Mm) : Nat → Mm → Mm
  | 0, N => N
  | n + 1, N => f (itN f n N) n
def frzR (N : Mm) (r : Nat) : Mm := na_set (na_set N 1 r (N 1 r - N 1 r * (9 - N 4 r) / 20)) 2 r (jmin 9999 (N 2 r + N 1 r * (9 - N 4 r) / 20))
def brnR (N : Mm) (r : Nat) : Mm := na_set (na_set N 2 r (N 2 r - jmin (N 3 r) (N 2 r))) 1 r (jmin 9999 (N 1 r + jmin (N 3 r) (N 2 r)))
def mixR (N : Mm) (d : Nat) : Mm := if hasP (N 0 4) (nI d) then na_set (na_set N 1 d (N 1 d - (N 1 d - N 1 (d + 1)) / 4)) 1 (d + 1) (N 1 (d + 1) + (N 1 d - N 1 (d + 1)) / 4) else N
set_option maxRecDepth 100000 in
set_option maxHeartbeats 4000000 in
theorem l_freeze (sx : Nat × (Nat → Int32)) (nb : Nat) (hnb : nb = 1 ∨ nb = 21) (N : Mm) (I : Mm) (J : Ml) (Rt : Option Value → Mm → Ml → Prop) (hR : Rt none (pN nb (itN frzR 8 N) I) J) : ∀ m n, n + m = 8 → GW sx (na_mi MX0_freeze) Rt 2 [some (.ref nb), some (.int (nI n)), none] [] (pN nb (itN frzR n N) I) J := by
  intro m
  induction m with
  | zero =>
    intro n hn
    obtain rfl : n = 8 := by omega
    have hz : (8 : Int32) ≤ nI 8 := by decide
    rcases hnb with rfl | rfl
    all_goals
      refine GW.run kX0_freeze (fun pc => Nat.beq pc 2) 72 2 rfl ?_
      refine And.intro (fun _ => ?_) (fun hh => absurd hz hh)
      exact hR
  | succ m ih =>
    intro n hn
    have hz : ¬ (8 : Int32) ≤ nI n := nI_ge (a := n) (b := 8) (by omega) (by omega)
    have hb : vp_in (nI n) 8 := vp_in_nI (by omega) (by omega)
    have hc := nI_clamp (n := n) (by omega)
    have ih := ih (n + 1) (by omega)
    rcases hnb with rfl | rfl
    all_goals
      refine GW.run kX0_freeze (fun pc => Nat.beq pc 2) 72 2 rfl ?_
      refine And.intro (fun hh => absurd hh hz) (fun _ => ?_)
      refine And.intro (hb) ?_
      refine And.intro (hb) ?_
      refine And.intro (by decide) ?_
      refine And.intro (hb) ?_
      refine And.intro (hb) ?_
      refine And.intro (hb) ?_
      refine And.intro (hb) ?_
      refine GW.weak (GW.eqI ?_ ih) ⟨rfl, by rw [nI_1], trivial⟩
      simp only [pNg_1_0, pNs_1_0, pNg_1_1, pNs_1_1, pNg_1_2, pNs_1_2, pNg_1_3, pNs_1_3, pNg_1_4, pNs_1_4, pNg_1_5, pNs_1_5, pNg_1_6, pNs_1_6, pNg_1_7, pNs_1_7, pNg_1_8, pNs_1_8, pNg_1_9, pNs_1_9, pNg_21_0, pNs_21_0, pNg_21_1, pNs_21_1, pNg_21_2, pNs_21_2, pNg_21_3, pNs_21_3, pNg_21_4, pNs_21_4, pNg_21_5, pNs_21_5, pNg_21_6, pNs_21_6, pNg_21_7, pNs_21_7, pNg_21_8, pNs_21_8, pNg_21_9, pNs_21_9, na_h1, na_h2, na_h0, List.tail_cons, itN, frzR, hc]
      rfl
set_option maxRecDepth 100000 in
set_option maxHeartbeats 4000000 in
theorem c_freeze (sx : Nat × (Nat → Int32)) (nb : Nat) (hnb : nb = 1 ∨ nb = 21) (N I : Mm) (J : Ml) : Mt sx MX0_freeze [.ref nb] (pN nb N I) J (fun r I' J' => pN nb (itN frzR 8 N) I = I' ∧ J = J' ∧ r = none) := by
  refine Mt.of2 _ rfl (by decide +kernel) (Nat.le_of_ble_eq_true rfl) ?_
  have hnb2 := hnb
  rcases hnb with rfl | rfl
  all_goals
    refine GW.run kX0_freeze (fun pc => Nat.beq pc 2) 72 0 rfl ?_
    exact l_freeze sx _ hnb2 N I J _ ⟨rfl, rfl, rfl⟩ 8 0 rfl
set_option maxRecDepth 100000 in
set_option maxHeartbeats 4000000 in
theorem l_burn (sx : Nat × (Nat → Int32)) (nb : Nat) (hnb : nb = 1 ∨ nb = 21) (N : Mm) (I : Mm) (J : Ml) (Rt : Option Value → Mm → Ml → Prop) (hR : Rt none (pN nb (itN brnR 8 N) I) J) : ∀ m n, n + m = 8 → GW sx (na_mi MX0_burn) Rt 2 [some (.ref nb), some (.int (nI n)), none] [] (pN nb (itN brnR n N) I) J := by
  intro m
  induction m with
  | zero =>
    intro n hn
    obtain rfl : n = 8 := by omega
    have hz : (8 : Int32) ≤ nI 8 := by decide
    rcases hnb with rfl | rfl
    all_goals
      refine GW.run kX0_burn (fun pc => Nat.beq pc 2) 68 2 rfl ?_
      refine And.intro (fun _ => ?_) (fun hh => absurd hz hh)
      exact hR
  | succ m ih =>
    intro n hn
    have hz : ¬ (8 : Int32) ≤ nI n := nI_ge (a := n) (b := 8) (by omega) (by omega)
    have hb : vp_in (nI n) 8 := vp_in_nI (by omega) (by omega)
    have hc := nI_clamp (n := n) (by omega)
    have ih := ih (n + 1) (by omega)
    rcases hnb with rfl | rfl
    all_goals
      refine GW.run kX0_burn (fun pc => Nat.beq pc 2) 68 2 rfl ?_
      refine And.intro (fun hh => absurd hh hz) (fun _ => ?_)
      refine And.intro (hb) ?_
      refine And.intro (hb) ?_
      refine And.intro (hb) ?_
      refine And.intro (hb) ?_
      refine And.intro (hb) ?_
      refine And.intro (hb) ?_
      refine GW.weak (GW.eqI ?_ ih) ⟨rfl, by rw [nI_1], trivial⟩
      simp only [pNg_1_0, pNs_1_0, pNg_1_1, pNs_1_1, pNg_1_2, pNs_1_2, pNg_1_3, pNs_1_3, pNg_1_4, pNs_1_4, pNg_1_5, pNs_1_5, pNg_1_6, pNs_1_6, pNg_1_7, pNs_1_7, pNg_1_8, pNs_1_8, pNg_1_9, pNs_1_9, pNg_21_0, pNs_21_0, pNg_21_1, pNs_21_1, pNg_21_2, pNs_21_2, pNg_21_3, pNs_21_3, pNg_21_4, pNs_21_4, pNg_21_5, pNs_21_5, pNg_21_6, pNs_21_6, pNg_21_7, pNs_21_7, pNg_21_8, pNs_21_8, pNg_21_9, pNs_21_9, na_h1, na_h2, na_h0, List.tail_cons, itN, brnR, hc]
      rfl
set_option maxRecDepth 100000 in
set_option maxHeartbeats 4000000 in
theorem c_burn (sx : Nat × (Nat → Int32)) (nb : Nat) (hnb : nb = 1 ∨ nb = 21) (N I : Mm) (J : Ml) : Mt sx MX0_burn [.ref nb] (pN nb N I) J (fun r I' J' => pN nb (itN brnR 8 N) I = I' ∧ J = J' ∧ r = none) := by
  refine Mt.of2 _ rfl (by decide +kernel) (Nat.le_of_ble_eq_true rfl) ?_
  have hnb2 := hnb
  rcases hnb with rfl | rfl
  all_goals
    refine GW.run kX0_burn (fun pc => Nat.beq pc 2) 68 0 rfl ?_
    exact l_burn sx _ hnb2 N I J _ ⟨rfl, rfl, rfl⟩ 8 0 rfl
set_option maxRecDepth 100000 in
set_option maxHeartbeats 4000000 in
theorem l_mix (sx : Nat × (Nat → Int32)) (nb : Nat) (hnb : nb = 1 ∨ nb = 21) (N : Mm) (I : Mm) (J : Ml) (Rt : Option Value → Mm → Ml → Prop) (hR : Rt none (pN nb (itN mixR 7 N) I) J) : ∀ m n, n + m = 7 → GW sx (na_mi MX0_mix) Rt 2 [some (.ref nb), some (.int (nI n)), none] [] (pN nb (itN mixR n N) I) J := by
  intro m
  induction m with
  | zero =>
    intro n hn
    obtain rfl : n = 7 := by omega
    have hz : (7 : Int32) ≤ nI 7 := by decide
    rcases hnb with rfl | rfl
    all_goals
      refine GW.run kX0_mix (fun pc => Nat.beq pc 2) 75 2 rfl ?_
      refine And.intro (fun _ => ?_) (fun hh => absurd hz hh)
      exact hR
  | succ m ih =>
    intro n hn
    have hz : ¬ (7 : Int32) ≤ nI n := nI_ge (a := n) (b := 7) (by omega) (by omega)
    have hb : vp_in (nI n) 8 := vp_in_nI (by omega) (by omega)
    have hc := nI_clamp (n := n) (by omega)
    have ih := ih (n + 1) (by omega)
    have hc2 := nI_clamp (n := n + 1) (by omega)
    have hb2 : vp_in (nI n + 1) 8 := by rw [nI_1]; exact vp_in_nI (by omega) (by omega)
    rcases hnb with rfl | rfl
    all_goals
      refine GW.run kX0_mix (fun pc => Nat.beq pc 2) 75 2 rfl ?_
      refine And.intro (fun hh => absurd hh hz) (fun _ => ?_)
      refine Mt.conseq (c_has _ _ _ _ _) ?_
      rintro _ _ _ ⟨rfl, rfl, ⟨h1, rfl⟩ | ⟨h1, rfl⟩⟩
      · -- pc 13 call X3_has true
        refine And.intro (fun hh => absurd hh (by decide)) (fun _ => ?_)
        refine And.intro (hb) ?_
        refine And.intro (hb2) ?_
        refine And.intro (by decide) ?_
        refine And.intro (hb) ?_
        refine And.intro (hb) ?_
        refine And.intro (hb2) ?_
        refine And.intro (hb2) ?_
        refine GW.weak (GW.eqI ?_ ih) ⟨rfl, by rw [nI_1], trivial⟩
        rw [itN, mixR, if_pos (show hasP (itN mixR n N 0 4) (nI n) from h1)]
        simp only [pNg_1_0, pNs_1_0, pNg_1_1, pNs_1_1, pNg_1_2, pNs_1_2, pNg_1_3, pNs_1_3, pNg_1_4, pNs_1_4, pNg_1_5, pNs_1_5, pNg_1_6, pNs_1_6, pNg_1_7, pNs_1_7, pNg_1_8, pNs_1_8, pNg_1_9, pNs_1_9, pNg_21_0, pNs_21_0, pNg_21_1, pNs_21_1, pNg_21_2, pNs_21_2, pNg_21_3, pNs_21_3, pNg_21_4, pNs_21_4, pNg_21_5, pNs_21_5, pNg_21_6, pNs_21_6, pNg_21_7, pNs_21_7, pNg_21_8, pNs_21_8, pNg_21_9, pNs_21_9, na_h1, na_h2, na_h0, List.tail_cons, hc, nI_1, hc2]
        rw [na_set_ne (by omega : n + 1 ≠ n)]
      · -- pc 13 call X3_has false
        refine And.intro (fun _ => ?_) (fun hh => absurd hh (by decide))
        refine GW.weak (GW.eqI ?_ ih) ⟨rfl, by rw [nI_1], trivial⟩
        rw [itN, mixR, if_neg (show ¬ hasP (itN mixR n N 0 4) (nI n) from h1)]
set_option maxRecDepth 100000 in
set_option maxHeartbeats 4000000 in
theorem c_mix (sx : Nat × (Nat → Int32)) (nb : Nat) (hnb : nb = 1 ∨ nb = 21) (N I : Mm) (J : Ml) : Mt sx MX0_mix [.ref nb] (pN nb N I) J (fun r I' J' => pN nb (itN mixR 7 N) I = I' ∧ J = J' ∧ r = none) := by
  refine Mt.of2 _ rfl (by decide +kernel) (Nat.le_of_ble_eq_true rfl) ?_
  have hnb2 := hnb
  rcases hnb with rfl | rfl
  all_goals
    refine GW.run kX0_mix (fun pc => Nat.beq pc 2) 75 0 rfl ?_
    exact l_mix sx _ hnb2 N I J _ ⟨rfl, rfl, rfl⟩ 7 0 rfl
end
section
/-! PEOPLE OF A NIGHT: who breathes what -/
def voi (N : Mm) (p : Nat) : Nat → Int32
  | 0 => 0
  | q + 1 => if ¬ q = p ∧ N 5 q = 4 ∧ N 6 q = N 6 p ∧ N 9 q = 0 then voi N p q + 1 else voi N p q
def brt (N : Mm) (P p : Nat) : Int32 := if N 9 p = 1 then 0 else if N 5 p = 1 then 2 * N 7 p else if N 5 p = 2 then N 7 p / 2 + 1 else if N 5 p = 3 then (if N 8 p < N 7 p then 0 else N 7 p) else if N 5 p = 4 then 2 * N 7 p + voi N p P else if N 5 p = 5 then N 7 p / 2 + 2 else N 7 p
def insP (N : Mm) (room : Int32) : Nat → Int32
  | 0 => 0
  | q + 1 => if N 6 q = room then insP N room q ||| (1 <<< (nI q &&& 31)) else insP N room q
def stf (N : Mm) : Nat → Int32
  | 0 => 0
  | q + 1 => stf N q ||| (N 9 q <<< (nI q &&& 31))
def bri (N : Mm) (P : Nat) (set : Int32) : Nat → Int32
  | 0 => 0
  | q + 1 => if hasP set (nI q) then bri N P set q + brt N P q else bri N P set q
def gre (N : Mm) (P : Nat) (set : Int32) : Nat → Int32
  | 0 => 0
  | q + 1 => if hasP set (nI q) then jmax (gre N P set q) (brt N P q) else gre N P set q
def fri (N : Mm) (set : Int32) : Nat → Int32
  | 0 => 0
  | q + 1 => if hasP set (nI q) then fri N set q + N 2 q else fri N set q
theorem toI_eq {x : Int32} {k : Int32} {a : Int} (h : x.toInt = a) (hk : k.toInt = a) : x = k := Int32.toInt_inj.mp (h.trans hk.symm)
theorem toI_ne {x : Int32} {k : Int32} {lo hi : Int} (h : x.toInt < lo ∨ hi < x.toInt) (hk : lo ≤ k.toInt ∧ k.toInt ≤ hi) : ¬ x = k := fun q => by subst q; omega
set_option maxRecDepth 100000 in
set_option maxHeartbeats 4000000 in
theorem l_voi (sx : Nat × (Nat → Int32)) (nb : Nat) (hnb : nb = 1 ∨ nb = 21) (N : Mm) (P : Nat) (hP : N 0 7 = nI P) (hP8 : P ≤ 8) (p : Nat) (hp : p < 8) (I : Mm) (J : Ml) (Rt : Option Value → Mm → Ml → Prop) (hR : Rt (some (.int (voi N p P))) (pN nb N I) J) : ∀ m n, n + m = P → GW sx (na_mi MX0_otherVoices) Rt 4 [some (.ref nb), some (.int (nI p)), some (.int (voi N p n)), some (.int (nI n))] [] (pN nb N I) J := by
  intro m
  induction m with
  | zero =>
    intro n hn
    obtain rfl : P = n := by omega
    have hz : N 0 7 ≤ nI P := by rw [hP]; exact Int32.le_refl _
    rcases hnb with rfl | rfl
    all_goals
      refine GW.run kX0_otherVoices (fun pc => Nat.beq pc 4) 66 4 rfl ?_
      refine And.intro (fun _ => ?_) (fun hh => absurd hz hh)
      exact ⟨trivial, hR⟩
  | succ m ih =>
    intro n hn
    have hz : ¬ N 0 7 ≤ nI n := by rw [hP]; exact nI_ge (by omega) (by omega)
    have hb : vp_in (nI n) 8 := vp_in_nI (by omega) (by omega)
    have hc := nI_clamp (n := n) (by omega)
    have ih := ih (n + 1) (by omega)
    have hbp : vp_in (nI p) 8 := vp_in_nI (by omega) (by omega)
    have hcp := nI_clamp (n := p) (by omega)
    rcases hnb with rfl | rfl
    all_goals
      refine GW.run kX0_otherVoices (fun pc => Nat.beq pc 4) 66 4 rfl ?_
      refine And.intro (fun hh => absurd hh hz) (fun _ => ?_)
      refine And.intro (fun h1 => ?_) (fun h1 => ?_)
      · -- pc 14 .if_icmp .eq 40: yes
        exact GW.weak ih ⟨rfl, rfl, by rw [voi, if_neg (fun z => z.1 ((nI_eq (by omega) (by omega)).mp h1))], by rw [nI_1], trivial⟩
      · -- pc 14 .if_icmp .eq 40: no
        refine And.intro (hb) ?_
        refine And.intro (fun h2 => ?_) (fun h2 => ?_)
        · -- pc 24 .if_icmp .ne 30: yes
          exact GW.weak ih ⟨rfl, rfl, by rw [voi, if_neg (fun z => h2 (by simp only [pNg_1_0, pNs_1_0, pNg_1_1, pNs_1_1, pNg_1_2, pNs_1_2, pNg_1_3, pNs_1_3, pNg_1_4, pNs_1_4, pNg_1_5, pNs_1_5, pNg_1_6, pNs_1_6, pNg_1_7, pNs_1_7, pNg_1_8, pNs_1_8, pNg_1_9, pNs_1_9, pNg_21_0, pNs_21_0, pNg_21_1, pNs_21_1, pNg_21_2, pNs_21_2, pNg_21_3, pNs_21_3, pNg_21_4, pNs_21_4, pNg_21_5, pNs_21_5, pNg_21_6, pNs_21_6, pNg_21_7, pNs_21_7, pNg_21_8, pNs_21_8, pNg_21_9, pNs_21_9, na_h1, na_h2, na_h0, List.tail_cons, hc]; exact z.2.1))], by rw [nI_1], trivial⟩
        · -- pc 24 .if_icmp .ne 30: no
          refine And.intro (hb) ?_
          refine And.intro (hbp) ?_
          refine And.intro (fun h3 => ?_) (fun h3 => ?_)
          · -- pc 39 .if_icmp .ne 15: yes
            exact GW.weak ih ⟨rfl, rfl, by rw [voi, if_neg (fun z => h3 (by simp only [pNg_1_0, pNs_1_0, pNg_1_1, pNs_1_1, pNg_1_2, pNs_1_2, pNg_1_3, pNs_1_3, pNg_1_4, pNs_1_4, pNg_1_5, pNs_1_5, pNg_1_6, pNs_1_6, pNg_1_7, pNs_1_7, pNg_1_8, pNs_1_8, pNg_1_9, pNs_1_9, pNg_21_0, pNs_21_0, pNg_21_1, pNs_21_1, pNg_21_2, pNs_21_2, pNg_21_3, pNs_21_3, pNg_21_4, pNs_21_4, pNg_21_5, pNs_21_5, pNg_21_6, pNs_21_6, pNg_21_7, pNs_21_7, pNg_21_8, pNs_21_8, pNg_21_9, pNs_21_9, na_h1, na_h2, na_h0, List.tail_cons, hc, hcp]; exact z.2.2.1))], by rw [nI_1], trivial⟩
          · -- pc 39 .if_icmp .ne 15: no
            refine And.intro (hb) ?_
            refine And.intro (fun h4 => ?_) (fun h4 => ?_)
            · -- pc 48 .ifCond .ne 6: yes
              exact GW.weak ih ⟨rfl, rfl, by rw [voi, if_neg (fun z => h4 (by simp only [pNg_1_0, pNs_1_0, pNg_1_1, pNs_1_1, pNg_1_2, pNs_1_2, pNg_1_3, pNs_1_3, pNg_1_4, pNs_1_4, pNg_1_5, pNs_1_5, pNg_1_6, pNs_1_6, pNg_1_7, pNs_1_7, pNg_1_8, pNs_1_8, pNg_1_9, pNs_1_9, pNg_21_0, pNs_21_0, pNg_21_1, pNs_21_1, pNg_21_2, pNs_21_2, pNg_21_3, pNs_21_3, pNg_21_4, pNs_21_4, pNg_21_5, pNs_21_5, pNg_21_6, pNs_21_6, pNg_21_7, pNs_21_7, pNg_21_8, pNs_21_8, pNg_21_9, pNs_21_9, na_h1, na_h2, na_h0, List.tail_cons, hc]; exact z.2.2.2))], by rw [nI_1], trivial⟩
            · -- pc 48 .ifCond .ne 6: no
              exact GW.weak ih ⟨rfl, rfl, by rw [voi, if_pos ⟨fun z => h1 (by rw [z]), (by have q := h2; simp only [pNg_1_0, pNs_1_0, pNg_1_1, pNs_1_1, pNg_1_2, pNs_1_2, pNg_1_3, pNs_1_3, pNg_1_4, pNs_1_4, pNg_1_5, pNs_1_5, pNg_1_6, pNs_1_6, pNg_1_7, pNs_1_7, pNg_1_8, pNs_1_8, pNg_1_9, pNs_1_9, pNg_21_0, pNs_21_0, pNg_21_1, pNs_21_1, pNg_21_2, pNs_21_2, pNg_21_3, pNs_21_3, pNg_21_4, pNs_21_4, pNg_21_5, pNs_21_5, pNg_21_6, pNs_21_6, pNg_21_7, pNs_21_7, pNg_21_8, pNs_21_8, pNg_21_9, pNs_21_9, na_h1, na_h2, na_h0, List.tail_cons, hc] at q; exact q), (by have q := h3; simp only [pNg_1_0, pNs_1_0, pNg_1_1, pNs_1_1, pNg_1_2, pNs_1_2, pNg_1_3, pNs_1_3, pNg_1_4, pNs_1_4, pNg_1_5, pNs_1_5, pNg_1_6, pNs_1_6, pNg_1_7, pNs_1_7, pNg_1_8, pNs_1_8, pNg_1_9, pNs_1_9, pNg_21_0, pNs_21_0, pNg_21_1, pNs_21_1, pNg_21_2, pNs_21_2, pNg_21_3, pNs_21_3, pNg_21_4, pNs_21_4, pNg_21_5, pNs_21_5, pNg_21_6, pNs_21_6, pNg_21_7, pNs_21_7, pNg_21_8, pNs_21_8, pNg_21_9, pNs_21_9, na_h1, na_h2, na_h0, List.tail_cons, hc, hcp] at q; exact q), (by have q := h4; simp only [pNg_1_0, pNs_1_0, pNg_1_1, pNs_1_1, pNg_1_2, pNs_1_2, pNg_1_3, pNs_1_3, pNg_1_4, pNs_1_4, pNg_1_5, pNs_1_5, pNg_1_6, pNs_1_6, pNg_1_7, pNs_1_7, pNg_1_8, pNs_1_8, pNg_1_9, pNs_1_9, pNg_21_0, pNs_21_0, pNg_21_1, pNs_21_1, pNg_21_2, pNs_21_2, pNg_21_3, pNs_21_3, pNg_21_4, pNs_21_4, pNg_21_5, pNs_21_5, pNg_21_6, pNs_21_6, pNg_21_7, pNs_21_7, pNg_21_8, pNs_21_8, pNg_21_9, pNs_21_9, na_h1, na_h2, na_h0, List.tail_cons, hc] at q; exact q)⟩], by rw [nI_1], trivial⟩
set_option maxRecDepth 100000 in
set_option maxHeartbeats 4000000 in
theorem c_voi (sx : Nat × (Nat → Int32)) (nb : Nat) (hnb : nb = 1 ∨ nb = 21) (N : Mm) (P : Nat) (hP : N 0 7 = nI P) (hP8 : P ≤ 8) (p : Nat) (hp : p < 8) (I : Mm) (J : Ml) : Mt sx MX0_otherVoices [.ref nb, .int (nI p)] (pN nb N I) J (na_v (pN nb N I) J (voi N p P)) := by
  refine Mt.of2 _ rfl (by decide +kernel) (Nat.le_of_ble_eq_true rfl) ?_
  have hnb2 := hnb
  rcases hnb with rfl | rfl
  all_goals
    refine GW.run kX0_otherVoices (fun pc => Nat.beq pc 4) 66 0 rfl ?_
    exact l_voi sx _ hnb2 N P hP hP8 p hp I J _ ⟨rfl, rfl, rfl⟩ P 0 (by omega)
set_option maxRecDepth 100000 in
set_option maxHeartbeats 4000000 in
theorem c_brt (sx : Nat × (Nat → Int32)) (nb : Nat) (hnb : nb = 1 ∨ nb = 21) (N : Mm) (P : Nat) (hP : N 0 7 = nI P) (hP8 : P ≤ 8) (p : Nat) (hp : p < 8) (I : Mm) (J : Ml) : Mt sx MX0_breathOf [.ref nb, .int (nI p)] (pN nb N I) J (na_v (pN nb N I) J (brt N P p)) := by
  refine Mt.of2 _ rfl (by decide +kernel) (Nat.le_of_ble_eq_true rfl) ?_
  have hnb2 := hnb
  rcases hnb with rfl | rfl
  all_goals
    have hbp : vp_in (nI p) 8 := vp_in_nI (by omega) (by omega)
    have hcp := nI_clamp (n := p) (by omega)
    refine GW.run kX0_breathOf (fun _ => false) 84 0 rfl ?_
    refine And.intro (hbp) ?_
    refine And.intro (fun h1 => ?_) (fun h1 => ?_)
    · -- pc 7 .if_icmp .ne 5: yes
      refine And.intro (hbp) ?_
      refine And.intro (hbp) ?_
      refine And.intro (fun h2 => ?_) (And.intro (fun h2 => ?_) (And.intro (fun h2 => ?_) (And.intro (fun h2 => ?_) (And.intro (fun h2 => ?_) (And.intro (fun h2 => ?_) (trivial))))))
      · -- pc 25 switch None
        exact ⟨trivial, rfl, rfl, by rw [brt, if_neg (by have q := h1; simp only [pNg_1_0, pNs_1_0, pNg_1_1, pNs_1_1, pNg_1_2, pNs_1_2, pNg_1_3, pNs_1_3, pNg_1_4, pNs_1_4, pNg_1_5, pNs_1_5, pNg_1_6, pNs_1_6, pNg_1_7, pNs_1_7, pNg_1_8, pNs_1_8, pNg_1_9, pNs_1_9, pNg_21_0, pNs_21_0, pNg_21_1, pNs_21_1, pNg_21_2, pNs_21_2, pNg_21_3, pNs_21_3, pNg_21_4, pNs_21_4, pNg_21_5, pNs_21_5, pNg_21_6, pNs_21_6, pNg_21_7, pNs_21_7, pNg_21_8, pNs_21_8, pNg_21_9, pNs_21_9, na_h1, na_h2, na_h0, List.tail_cons, hcp] at q; exact q), if_neg (toI_ne (by have q := h2; simp only [pNg_1_0, pNs_1_0, pNg_1_1, pNs_1_1, pNg_1_2, pNs_1_2, pNg_1_3, pNs_1_3, pNg_1_4, pNs_1_4, pNg_1_5, pNs_1_5, pNg_1_6, pNs_1_6, pNg_1_7, pNs_1_7, pNg_1_8, pNs_1_8, pNg_1_9, pNs_1_9, pNg_21_0, pNs_21_0, pNg_21_1, pNs_21_1, pNg_21_2, pNs_21_2, pNg_21_3, pNs_21_3, pNg_21_4, pNs_21_4, pNg_21_5, pNs_21_5, pNg_21_6, pNs_21_6, pNg_21_7, pNs_21_7, pNg_21_8, pNs_21_8, pNg_21_9, pNs_21_9, na_h1, na_h2, na_h0, List.tail_cons, hcp] at q; exact q) (by decide)), if_neg (toI_ne (by have q := h2; simp only [pNg_1_0, pNs_1_0, pNg_1_1, pNs_1_1, pNg_1_2, pNs_1_2, pNg_1_3, pNs_1_3, pNg_1_4, pNs_1_4, pNg_1_5, pNs_1_5, pNg_1_6, pNs_1_6, pNg_1_7, pNs_1_7, pNg_1_8, pNs_1_8, pNg_1_9, pNs_1_9, pNg_21_0, pNs_21_0, pNg_21_1, pNs_21_1, pNg_21_2, pNs_21_2, pNg_21_3, pNs_21_3, pNg_21_4, pNs_21_4, pNg_21_5, pNs_21_5, pNg_21_6, pNs_21_6, pNg_21_7, pNs_21_7, pNg_21_8, pNs_21_8, pNg_21_9, pNs_21_9, na_h1, na_h2, na_h0, List.tail_cons, hcp] at q; exact q) (by decide)), if_neg (toI_ne (by have q := h2; simp only [pNg_1_0, pNs_1_0, pNg_1_1, pNs_1_1, pNg_1_2, pNs_1_2, pNg_1_3, pNs_1_3, pNg_1_4, pNs_1_4, pNg_1_5, pNs_1_5, pNg_1_6, pNs_1_6, pNg_1_7, pNs_1_7, pNg_1_8, pNs_1_8, pNg_1_9, pNs_1_9, pNg_21_0, pNs_21_0, pNg_21_1, pNs_21_1, pNg_21_2, pNs_21_2, pNg_21_3, pNs_21_3, pNg_21_4, pNs_21_4, pNg_21_5, pNs_21_5, pNg_21_6, pNs_21_6, pNg_21_7, pNs_21_7, pNg_21_8, pNs_21_8, pNg_21_9, pNs_21_9, na_h1, na_h2, na_h0, List.tail_cons, hcp] at q; exact q) (by decide)), if_neg (toI_ne (by have q := h2; simp only [pNg_1_0, pNs_1_0, pNg_1_1, pNs_1_1, pNg_1_2, pNs_1_2, pNg_1_3, pNs_1_3, pNg_1_4, pNs_1_4, pNg_1_5, pNs_1_5, pNg_1_6, pNs_1_6, pNg_1_7, pNs_1_7, pNg_1_8, pNs_1_8, pNg_1_9, pNs_1_9, pNg_21_0, pNs_21_0, pNg_21_1, pNs_21_1, pNg_21_2, pNs_21_2, pNg_21_3, pNs_21_3, pNg_21_4, pNs_21_4, pNg_21_5, pNs_21_5, pNg_21_6, pNs_21_6, pNg_21_7, pNs_21_7, pNg_21_8, pNs_21_8, pNg_21_9, pNs_21_9, na_h1, na_h2, na_h0, List.tail_cons, hcp] at q; exact q) (by decide)), if_neg (toI_ne (by have q := h2; simp only [pNg_1_0, pNs_1_0, pNg_1_1, pNs_1_1, pNg_1_2, pNs_1_2, pNg_1_3, pNs_1_3, pNg_1_4, pNs_1_4, pNg_1_5, pNs_1_5, pNg_1_6, pNs_1_6, pNg_1_7, pNs_1_7, pNg_1_8, pNs_1_8, pNg_1_9, pNs_1_9, pNg_21_0, pNs_21_0, pNg_21_1, pNs_21_1, pNg_21_2, pNs_21_2, pNg_21_3, pNs_21_3, pNg_21_4, pNs_21_4, pNg_21_5, pNs_21_5, pNg_21_6, pNs_21_6, pNg_21_7, pNs_21_7, pNg_21_8, pNs_21_8, pNg_21_9, pNs_21_9, na_h1, na_h2, na_h0, List.tail_cons, hcp] at q; exact q) (by decide))]; simp only [pNg_1_0, pNs_1_0, pNg_1_1, pNs_1_1, pNg_1_2, pNs_1_2, pNg_1_3, pNs_1_3, pNg_1_4, pNs_1_4, pNg_1_5, pNs_1_5, pNg_1_6, pNs_1_6, pNg_1_7, pNs_1_7, pNg_1_8, pNs_1_8, pNg_1_9, pNs_1_9, pNg_21_0, pNs_21_0, pNg_21_1, pNs_21_1, pNg_21_2, pNs_21_2, pNg_21_3, pNs_21_3, pNg_21_4, pNs_21_4, pNg_21_5, pNs_21_5, pNg_21_6, pNs_21_6, pNg_21_7, pNs_21_7, pNg_21_8, pNs_21_8, pNg_21_9, pNs_21_9, na_h1, na_h2, na_h0, List.tail_cons, hcp]⟩
      · -- pc 25 switch 1
        have he : N 5 p = 1 := toI_eq (by have q := h2; simp only [pNg_1_0, pNs_1_0, pNg_1_1, pNs_1_1, pNg_1_2, pNs_1_2, pNg_1_3, pNs_1_3, pNg_1_4, pNs_1_4, pNg_1_5, pNs_1_5, pNg_1_6, pNs_1_6, pNg_1_7, pNs_1_7, pNg_1_8, pNs_1_8, pNg_1_9, pNs_1_9, pNg_21_0, pNs_21_0, pNg_21_1, pNs_21_1, pNg_21_2, pNs_21_2, pNg_21_3, pNs_21_3, pNg_21_4, pNs_21_4, pNg_21_5, pNs_21_5, pNg_21_6, pNs_21_6, pNg_21_7, pNs_21_7, pNg_21_8, pNs_21_8, pNg_21_9, pNs_21_9, na_h1, na_h2, na_h0, List.tail_cons, hcp] at q; exact q) (by decide)
        exact ⟨trivial, rfl, rfl, by rw [brt, if_neg (by have q := h1; simp only [pNg_1_0, pNs_1_0, pNg_1_1, pNs_1_1, pNg_1_2, pNs_1_2, pNg_1_3, pNs_1_3, pNg_1_4, pNs_1_4, pNg_1_5, pNs_1_5, pNg_1_6, pNs_1_6, pNg_1_7, pNs_1_7, pNg_1_8, pNs_1_8, pNg_1_9, pNs_1_9, pNg_21_0, pNs_21_0, pNg_21_1, pNs_21_1, pNg_21_2, pNs_21_2, pNg_21_3, pNs_21_3, pNg_21_4, pNs_21_4, pNg_21_5, pNs_21_5, pNg_21_6, pNs_21_6, pNg_21_7, pNs_21_7, pNg_21_8, pNs_21_8, pNg_21_9, pNs_21_9, na_h1, na_h2, na_h0, List.tail_cons, hcp] at q; exact q), if_pos he]; simp only [pNg_1_0, pNs_1_0, pNg_1_1, pNs_1_1, pNg_1_2, pNs_1_2, pNg_1_3, pNs_1_3, pNg_1_4, pNs_1_4, pNg_1_5, pNs_1_5, pNg_1_6, pNs_1_6, pNg_1_7, pNs_1_7, pNg_1_8, pNs_1_8, pNg_1_9, pNs_1_9, pNg_21_0, pNs_21_0, pNg_21_1, pNs_21_1, pNg_21_2, pNs_21_2, pNg_21_3, pNs_21_3, pNg_21_4, pNs_21_4, pNg_21_5, pNs_21_5, pNg_21_6, pNs_21_6, pNg_21_7, pNs_21_7, pNg_21_8, pNs_21_8, pNg_21_9, pNs_21_9, na_h1, na_h2, na_h0, List.tail_cons, hcp]⟩
      · -- pc 25 switch 2
        refine And.intro (by decide) ?_
        have he : N 5 p = 2 := toI_eq (by have q := h2; simp only [pNg_1_0, pNs_1_0, pNg_1_1, pNs_1_1, pNg_1_2, pNs_1_2, pNg_1_3, pNs_1_3, pNg_1_4, pNs_1_4, pNg_1_5, pNs_1_5, pNg_1_6, pNs_1_6, pNg_1_7, pNs_1_7, pNg_1_8, pNs_1_8, pNg_1_9, pNs_1_9, pNg_21_0, pNs_21_0, pNg_21_1, pNs_21_1, pNg_21_2, pNs_21_2, pNg_21_3, pNs_21_3, pNg_21_4, pNs_21_4, pNg_21_5, pNs_21_5, pNg_21_6, pNs_21_6, pNg_21_7, pNs_21_7, pNg_21_8, pNs_21_8, pNg_21_9, pNs_21_9, na_h1, na_h2, na_h0, List.tail_cons, hcp] at q; exact q) (by decide)
        exact ⟨trivial, rfl, rfl, by rw [brt, if_neg (by have q := h1; simp only [pNg_1_0, pNs_1_0, pNg_1_1, pNs_1_1, pNg_1_2, pNs_1_2, pNg_1_3, pNs_1_3, pNg_1_4, pNs_1_4, pNg_1_5, pNs_1_5, pNg_1_6, pNs_1_6, pNg_1_7, pNs_1_7, pNg_1_8, pNs_1_8, pNg_1_9, pNs_1_9, pNg_21_0, pNs_21_0, pNg_21_1, pNs_21_1, pNg_21_2, pNs_21_2, pNg_21_3, pNs_21_3, pNg_21_4, pNs_21_4, pNg_21_5, pNs_21_5, pNg_21_6, pNs_21_6, pNg_21_7, pNs_21_7, pNg_21_8, pNs_21_8, pNg_21_9, pNs_21_9, na_h1, na_h2, na_h0, List.tail_cons, hcp] at q; exact q), if_neg (show ¬ N 5 p = 1 by rw [he]; decide), if_pos he]; simp only [pNg_1_0, pNs_1_0, pNg_1_1, pNs_1_1, pNg_1_2, pNs_1_2, pNg_1_3, pNs_1_3, pNg_1_4, pNs_1_4, pNg_1_5, pNs_1_5, pNg_1_6, pNs_1_6, pNg_1_7, pNs_1_7, pNg_1_8, pNs_1_8, pNg_1_9, pNs_1_9, pNg_21_0, pNs_21_0, pNg_21_1, pNs_21_1, pNg_21_2, pNs_21_2, pNg_21_3, pNs_21_3, pNg_21_4, pNs_21_4, pNg_21_5, pNs_21_5, pNg_21_6, pNs_21_6, pNg_21_7, pNs_21_7, pNg_21_8, pNs_21_8, pNg_21_9, pNs_21_9, na_h1, na_h2, na_h0, List.tail_cons, hcp]⟩
      · -- pc 25 switch 3
        refine And.intro (hbp) ?_
        refine And.intro (fun h3 => ?_) (fun h3 => ?_)
        · -- pc 77 .if_icmp .ge 7: yes
          have he : N 5 p = 3 := toI_eq (by have q := h2; simp only [pNg_1_0, pNs_1_0, pNg_1_1, pNs_1_1, pNg_1_2, pNs_1_2, pNg_1_3, pNs_1_3, pNg_1_4, pNs_1_4, pNg_1_5, pNs_1_5, pNg_1_6, pNs_1_6, pNg_1_7, pNs_1_7, pNg_1_8, pNs_1_8, pNg_1_9, pNs_1_9, pNg_21_0, pNs_21_0, pNg_21_1, pNs_21_1, pNg_21_2, pNs_21_2, pNg_21_3, pNs_21_3, pNg_21_4, pNs_21_4, pNg_21_5, pNs_21_5, pNg_21_6, pNs_21_6, pNg_21_7, pNs_21_7, pNg_21_8, pNs_21_8, pNg_21_9, pNs_21_9, na_h1, na_h2, na_h0, List.tail_cons, hcp] at q; exact q) (by decide)
          exact ⟨trivial, rfl, rfl, by rw [brt, if_neg (by have q := h1; simp only [pNg_1_0, pNs_1_0, pNg_1_1, pNs_1_1, pNg_1_2, pNs_1_2, pNg_1_3, pNs_1_3, pNg_1_4, pNs_1_4, pNg_1_5, pNs_1_5, pNg_1_6, pNs_1_6, pNg_1_7, pNs_1_7, pNg_1_8, pNs_1_8, pNg_1_9, pNs_1_9, pNg_21_0, pNs_21_0, pNg_21_1, pNs_21_1, pNg_21_2, pNs_21_2, pNg_21_3, pNs_21_3, pNg_21_4, pNs_21_4, pNg_21_5, pNs_21_5, pNg_21_6, pNs_21_6, pNg_21_7, pNs_21_7, pNg_21_8, pNs_21_8, pNg_21_9, pNs_21_9, na_h1, na_h2, na_h0, List.tail_cons, hcp] at q; exact q), if_neg (show ¬ N 5 p = 1 by rw [he]; decide), if_neg (show ¬ N 5 p = 2 by rw [he]; decide), if_pos he, if_neg (by have q := h3; simp only [pNg_1_0, pNs_1_0, pNg_1_1, pNs_1_1, pNg_1_2, pNs_1_2, pNg_1_3, pNs_1_3, pNg_1_4, pNs_1_4, pNg_1_5, pNs_1_5, pNg_1_6, pNs_1_6, pNg_1_7, pNs_1_7, pNg_1_8, pNs_1_8, pNg_1_9, pNs_1_9, pNg_21_0, pNs_21_0, pNg_21_1, pNs_21_1, pNg_21_2, pNs_21_2, pNg_21_3, pNs_21_3, pNg_21_4, pNs_21_4, pNg_21_5, pNs_21_5, pNg_21_6, pNs_21_6, pNg_21_7, pNs_21_7, pNg_21_8, pNs_21_8, pNg_21_9, pNs_21_9, na_h1, na_h2, na_h0, List.tail_cons, hcp] at q; exact Int32.not_lt.mpr q)]; simp only [pNg_1_0, pNs_1_0, pNg_1_1, pNs_1_1, pNg_1_2, pNs_1_2, pNg_1_3, pNs_1_3, pNg_1_4, pNs_1_4, pNg_1_5, pNs_1_5, pNg_1_6, pNs_1_6, pNg_1_7, pNs_1_7, pNg_1_8, pNs_1_8, pNg_1_9, pNs_1_9, pNg_21_0, pNs_21_0, pNg_21_1, pNs_21_1, pNg_21_2, pNs_21_2, pNg_21_3, pNs_21_3, pNg_21_4, pNs_21_4, pNg_21_5, pNs_21_5, pNg_21_6, pNs_21_6, pNg_21_7, pNs_21_7, pNg_21_8, pNs_21_8, pNg_21_9, pNs_21_9, na_h1, na_h2, na_h0, List.tail_cons, hcp]⟩
        · -- pc 77 .if_icmp .ge 7: no
          have he : N 5 p = 3 := toI_eq (by have q := h2; simp only [pNg_1_0, pNs_1_0, pNg_1_1, pNs_1_1, pNg_1_2, pNs_1_2, pNg_1_3, pNs_1_3, pNg_1_4, pNs_1_4, pNg_1_5, pNs_1_5, pNg_1_6, pNs_1_6, pNg_1_7, pNs_1_7, pNg_1_8, pNs_1_8, pNg_1_9, pNs_1_9, pNg_21_0, pNs_21_0, pNg_21_1, pNs_21_1, pNg_21_2, pNs_21_2, pNg_21_3, pNs_21_3, pNg_21_4, pNs_21_4, pNg_21_5, pNs_21_5, pNg_21_6, pNs_21_6, pNg_21_7, pNs_21_7, pNg_21_8, pNs_21_8, pNg_21_9, pNs_21_9, na_h1, na_h2, na_h0, List.tail_cons, hcp] at q; exact q) (by decide)
          exact ⟨trivial, rfl, rfl, by rw [brt, if_neg (by have q := h1; simp only [pNg_1_0, pNs_1_0, pNg_1_1, pNs_1_1, pNg_1_2, pNs_1_2, pNg_1_3, pNs_1_3, pNg_1_4, pNs_1_4, pNg_1_5, pNs_1_5, pNg_1_6, pNs_1_6, pNg_1_7, pNs_1_7, pNg_1_8, pNs_1_8, pNg_1_9, pNs_1_9, pNg_21_0, pNs_21_0, pNg_21_1, pNs_21_1, pNg_21_2, pNs_21_2, pNg_21_3, pNs_21_3, pNg_21_4, pNs_21_4, pNg_21_5, pNs_21_5, pNg_21_6, pNs_21_6, pNg_21_7, pNs_21_7, pNg_21_8, pNs_21_8, pNg_21_9, pNs_21_9, na_h1, na_h2, na_h0, List.tail_cons, hcp] at q; exact q), if_neg (show ¬ N 5 p = 1 by rw [he]; decide), if_neg (show ¬ N 5 p = 2 by rw [he]; decide), if_pos he, if_pos (by have q := h3; simp only [pNg_1_0, pNs_1_0, pNg_1_1, pNs_1_1, pNg_1_2, pNs_1_2, pNg_1_3, pNs_1_3, pNg_1_4, pNs_1_4, pNg_1_5, pNs_1_5, pNg_1_6, pNs_1_6, pNg_1_7, pNs_1_7, pNg_1_8, pNs_1_8, pNg_1_9, pNs_1_9, pNg_21_0, pNs_21_0, pNg_21_1, pNs_21_1, pNg_21_2, pNs_21_2, pNg_21_3, pNs_21_3, pNg_21_4, pNs_21_4, pNg_21_5, pNs_21_5, pNg_21_6, pNs_21_6, pNg_21_7, pNs_21_7, pNg_21_8, pNs_21_8, pNg_21_9, pNs_21_9, na_h1, na_h2, na_h0, List.tail_cons, hcp] at q; exact Int32.not_le.mp q)]⟩
      · -- pc 25 switch 4
        refine Mt.conseq (c_voi _ _ hnb2 N P hP hP8 p hp _ _) ?_
        rintro _ _ _ ⟨rfl, rfl, rfl⟩
        have he : N 5 p = 4 := toI_eq (by have q := h2; simp only [pNg_1_0, pNs_1_0, pNg_1_1, pNs_1_1, pNg_1_2, pNs_1_2, pNg_1_3, pNs_1_3, pNg_1_4, pNs_1_4, pNg_1_5, pNs_1_5, pNg_1_6, pNs_1_6, pNg_1_7, pNs_1_7, pNg_1_8, pNs_1_8, pNg_1_9, pNs_1_9, pNg_21_0, pNs_21_0, pNg_21_1, pNs_21_1, pNg_21_2, pNs_21_2, pNg_21_3, pNs_21_3, pNg_21_4, pNs_21_4, pNg_21_5, pNs_21_5, pNg_21_6, pNs_21_6, pNg_21_7, pNs_21_7, pNg_21_8, pNs_21_8, pNg_21_9, pNs_21_9, na_h1, na_h2, na_h0, List.tail_cons, hcp] at q; exact q) (by decide)
        exact ⟨trivial, rfl, rfl, by rw [brt, if_neg (by have q := h1; simp only [pNg_1_0, pNs_1_0, pNg_1_1, pNs_1_1, pNg_1_2, pNs_1_2, pNg_1_3, pNs_1_3, pNg_1_4, pNs_1_4, pNg_1_5, pNs_1_5, pNg_1_6, pNs_1_6, pNg_1_7, pNs_1_7, pNg_1_8, pNs_1_8, pNg_1_9, pNs_1_9, pNg_21_0, pNs_21_0, pNg_21_1, pNs_21_1, pNg_21_2, pNs_21_2, pNg_21_3, pNs_21_3, pNg_21_4, pNs_21_4, pNg_21_5, pNs_21_5, pNg_21_6, pNs_21_6, pNg_21_7, pNs_21_7, pNg_21_8, pNs_21_8, pNg_21_9, pNs_21_9, na_h1, na_h2, na_h0, List.tail_cons, hcp] at q; exact q), if_neg (show ¬ N 5 p = 1 by rw [he]; decide), if_neg (show ¬ N 5 p = 2 by rw [he]; decide), if_neg (show ¬ N 5 p = 3 by rw [he]; decide), if_pos he]; simp only [pNg_1_0, pNs_1_0, pNg_1_1, pNs_1_1, pNg_1_2, pNs_1_2, pNg_1_3, pNs_1_3, pNg_1_4, pNs_1_4, pNg_1_5, pNs_1_5, pNg_1_6, pNs_1_6, pNg_1_7, pNs_1_7, pNg_1_8, pNs_1_8, pNg_1_9, pNs_1_9, pNg_21_0, pNs_21_0, pNg_21_1, pNs_21_1, pNg_21_2, pNs_21_2, pNg_21_3, pNs_21_3, pNg_21_4, pNs_21_4, pNg_21_5, pNs_21_5, pNg_21_6, pNs_21_6, pNg_21_7, pNs_21_7, pNg_21_8, pNs_21_8, pNg_21_9, pNs_21_9, na_h1, na_h2, na_h0, List.tail_cons, hcp]⟩
      · -- pc 25 switch 5
        refine And.intro (by decide) ?_
        have he : N 5 p = 5 := toI_eq (by have q := h2; simp only [pNg_1_0, pNs_1_0, pNg_1_1, pNs_1_1, pNg_1_2, pNs_1_2, pNg_1_3, pNs_1_3, pNg_1_4, pNs_1_4, pNg_1_5, pNs_1_5, pNg_1_6, pNs_1_6, pNg_1_7, pNs_1_7, pNg_1_8, pNs_1_8, pNg_1_9, pNs_1_9, pNg_21_0, pNs_21_0, pNg_21_1, pNs_21_1, pNg_21_2, pNs_21_2, pNg_21_3, pNs_21_3, pNg_21_4, pNs_21_4, pNg_21_5, pNs_21_5, pNg_21_6, pNs_21_6, pNg_21_7, pNs_21_7, pNg_21_8, pNs_21_8, pNg_21_9, pNs_21_9, na_h1, na_h2, na_h0, List.tail_cons, hcp] at q; exact q) (by decide)
        exact ⟨trivial, rfl, rfl, by rw [brt, if_neg (by have q := h1; simp only [pNg_1_0, pNs_1_0, pNg_1_1, pNs_1_1, pNg_1_2, pNs_1_2, pNg_1_3, pNs_1_3, pNg_1_4, pNs_1_4, pNg_1_5, pNs_1_5, pNg_1_6, pNs_1_6, pNg_1_7, pNs_1_7, pNg_1_8, pNs_1_8, pNg_1_9, pNs_1_9, pNg_21_0, pNs_21_0, pNg_21_1, pNs_21_1, pNg_21_2, pNs_21_2, pNg_21_3, pNs_21_3, pNg_21_4, pNs_21_4, pNg_21_5, pNs_21_5, pNg_21_6, pNs_21_6, pNg_21_7, pNs_21_7, pNg_21_8, pNs_21_8, pNg_21_9, pNs_21_9, na_h1, na_h2, na_h0, List.tail_cons, hcp] at q; exact q), if_neg (show ¬ N 5 p = 1 by rw [he]; decide), if_neg (show ¬ N 5 p = 2 by rw [he]; decide), if_neg (show ¬ N 5 p = 3 by rw [he]; decide), if_neg (show ¬ N 5 p = 4 by rw [he]; decide), if_pos he]; simp only [pNg_1_0, pNs_1_0, pNg_1_1, pNs_1_1, pNg_1_2, pNs_1_2, pNg_1_3, pNs_1_3, pNg_1_4, pNs_1_4, pNg_1_5, pNs_1_5, pNg_1_6, pNs_1_6, pNg_1_7, pNs_1_7, pNg_1_8, pNs_1_8, pNg_1_9, pNs_1_9, pNg_21_0, pNs_21_0, pNg_21_1, pNs_21_1, pNg_21_2, pNs_21_2, pNg_21_3, pNs_21_3, pNg_21_4, pNs_21_4, pNg_21_5, pNs_21_5, pNg_21_6, pNs_21_6, pNg_21_7, pNs_21_7, pNg_21_8, pNs_21_8, pNg_21_9, pNs_21_9, na_h1, na_h2, na_h0, List.tail_cons, hcp]⟩
    · -- pc 7 .if_icmp .ne 5: no
      exact ⟨trivial, rfl, rfl, by rw [brt, if_pos (by have q := h1; simp only [pNg_1_0, pNs_1_0, pNg_1_1, pNs_1_1, pNg_1_2, pNs_1_2, pNg_1_3, pNs_1_3, pNg_1_4, pNs_1_4, pNg_1_5, pNs_1_5, pNg_1_6, pNs_1_6, pNg_1_7, pNs_1_7, pNg_1_8, pNs_1_8, pNg_1_9, pNs_1_9, pNg_21_0, pNs_21_0, pNg_21_1, pNs_21_1, pNg_21_2, pNs_21_2, pNg_21_3, pNs_21_3, pNg_21_4, pNs_21_4, pNg_21_5, pNs_21_5, pNg_21_6, pNs_21_6, pNg_21_7, pNs_21_7, pNg_21_8, pNs_21_8, pNg_21_9, pNs_21_9, na_h1, na_h2, na_h0, List.tail_cons, hcp] at q; exact q)]⟩
set_option maxRecDepth 100000 in
set_option maxHeartbeats 4000000 in
theorem l_insP (sx : Nat × (Nat → Int32)) (nb : Nat) (hnb : nb = 1 ∨ nb = 21) (N : Mm) (P : Nat) (hP : N 0 7 = nI P) (hP8 : P ≤ 8) (room : Int32) (I : Mm) (J : Ml) (Rt : Option Value → Mm → Ml → Prop) (hR : Rt (some (.int (insP N room P))) (pN nb N I) J) : ∀ m n, n + m = P → GW sx (na_mi MX0_peopleIn) Rt 4 [some (.ref nb), some (.int room), some (.int (insP N room n)), some (.int (nI n))] [] (pN nb N I) J := by
  have hnb2 := hnb
  intro m
  induction m with
  | zero =>
    intro n hn
    obtain rfl : P = n := by omega
    have hz : N 0 7 ≤ nI P := by rw [hP]; exact Int32.le_refl _
    rcases hnb with rfl | rfl
    all_goals
      refine GW.run kX0_peopleIn (fun pc => Nat.beq pc 4) 54 4 rfl ?_
      refine And.intro (fun _ => ?_) (fun hh => absurd hz hh)
      exact ⟨trivial, hR⟩
  | succ m ih =>
    intro n hn
    have hz : ¬ N 0 7 ≤ nI n := by rw [hP]; exact nI_ge (by omega) (by omega)
    have hb : vp_in (nI n) 8 := vp_in_nI (by omega) (by omega)
    have hc := nI_clamp (n := n) (by omega)
    have ih := ih (n + 1) (by omega)
    rcases hnb with rfl | rfl
    all_goals
      refine GW.run kX0_peopleIn (fun pc => Nat.beq pc 4) 54 4 rfl ?_
      refine And.intro (fun hh => absurd hh hz) (fun _ => ?_)
      refine And.intro (hb) ?_
      refine And.intro (fun h1 => ?_) (fun h1 => ?_)
      · -- pc 19 .if_icmp .ne 9: yes
        exact GW.weak ih ⟨rfl, rfl, by rw [insP, if_neg (by have q := h1; simp only [pNg_1_0, pNs_1_0, pNg_1_1, pNs_1_1, pNg_1_2, pNs_1_2, pNg_1_3, pNs_1_3, pNg_1_4, pNs_1_4, pNg_1_5, pNs_1_5, pNg_1_6, pNs_1_6, pNg_1_7, pNs_1_7, pNg_1_8, pNs_1_8, pNg_1_9, pNs_1_9, pNg_21_0, pNs_21_0, pNg_21_1, pNs_21_1, pNg_21_2, pNs_21_2, pNg_21_3, pNs_21_3, pNg_21_4, pNs_21_4, pNg_21_5, pNs_21_5, pNg_21_6, pNs_21_6, pNg_21_7, pNs_21_7, pNg_21_8, pNs_21_8, pNg_21_9, pNs_21_9, na_h1, na_h2, na_h0, List.tail_cons, hc] at q; exact q)], by rw [nI_1], trivial⟩
      · -- pc 19 .if_icmp .ne 9: no
        exact GW.weak ih ⟨rfl, rfl, by rw [insP, if_pos (by have q := h1; simp only [pNg_1_0, pNs_1_0, pNg_1_1, pNs_1_1, pNg_1_2, pNs_1_2, pNg_1_3, pNs_1_3, pNg_1_4, pNs_1_4, pNg_1_5, pNs_1_5, pNg_1_6, pNs_1_6, pNg_1_7, pNs_1_7, pNg_1_8, pNs_1_8, pNg_1_9, pNs_1_9, pNg_21_0, pNs_21_0, pNg_21_1, pNs_21_1, pNg_21_2, pNs_21_2, pNg_21_3, pNs_21_3, pNg_21_4, pNs_21_4, pNg_21_5, pNs_21_5, pNg_21_6, pNs_21_6, pNg_21_7, pNs_21_7, pNg_21_8, pNs_21_8, pNg_21_9, pNs_21_9, na_h1, na_h2, na_h0, List.tail_cons, hc] at q; exact q)], by rw [nI_1], trivial⟩
set_option maxRecDepth 100000 in
set_option maxHeartbeats 4000000 in
theorem c_insP (sx : Nat × (Nat → Int32)) (nb : Nat) (hnb : nb = 1 ∨ nb = 21) (N : Mm) (P : Nat) (hP : N 0 7 = nI P) (hP8 : P ≤ 8) (room : Int32) (I : Mm) (J : Ml) : Mt sx MX0_peopleIn [.ref nb, .int room] (pN nb N I) J (na_v (pN nb N I) J (insP N room P)) := by
  refine Mt.of2 _ rfl (by decide +kernel) (Nat.le_of_ble_eq_true rfl) ?_
  have hnb2 := hnb
  rcases hnb with rfl | rfl
  all_goals
    refine GW.run kX0_peopleIn (fun pc => Nat.beq pc 4) 54 0 rfl ?_
    exact l_insP sx _ hnb2 N P hP hP8 room I J _ ⟨rfl, rfl, rfl⟩ P 0 (by omega)
set_option maxRecDepth 100000 in
set_option maxHeartbeats 4000000 in
theorem l_stf (sx : Nat × (Nat → Int32)) (nb : Nat) (hnb : nb = 1 ∨ nb = 21) (N : Mm) (P : Nat) (hP : N 0 7 = nI P) (hP8 : P ≤ 8) (I : Mm) (J : Ml) (Rt : Option Value → Mm → Ml → Prop) (hR : Rt (some (.int (stf N P))) (pN nb N I) J) : ∀ m n, n + m = P → GW sx (na_mi MX0_stifledSet) Rt 4 [some (.ref nb), some (.int (stf N n)), some (.int (nI n))] [] (pN nb N I) J := by
  have hnb2 := hnb
  intro m
  induction m with
  | zero =>
    intro n hn
    obtain rfl : P = n := by omega
    have hz : N 0 7 ≤ nI P := by rw [hP]; exact Int32.le_refl _
    rcases hnb with rfl | rfl
    all_goals
      refine GW.run kX0_stifledSet (fun pc => Nat.beq pc 4) 51 4 rfl ?_
      refine And.intro (fun _ => ?_) (fun hh => absurd hz hh)
      exact ⟨trivial, hR⟩
  | succ m ih =>
    intro n hn
    have hz : ¬ N 0 7 ≤ nI n := by rw [hP]; exact nI_ge (by omega) (by omega)
    have hb : vp_in (nI n) 8 := vp_in_nI (by omega) (by omega)
    have hc := nI_clamp (n := n) (by omega)
    have ih := ih (n + 1) (by omega)
    rcases hnb with rfl | rfl
    all_goals
      refine GW.run kX0_stifledSet (fun pc => Nat.beq pc 4) 51 4 rfl ?_
      refine And.intro (fun hh => absurd hh hz) (fun _ => ?_)
      refine And.intro (hb) ?_
      exact GW.weak ih ⟨rfl, by rw [stf]; simp only [pNg_1_0, pNs_1_0, pNg_1_1, pNs_1_1, pNg_1_2, pNs_1_2, pNg_1_3, pNs_1_3, pNg_1_4, pNs_1_4, pNg_1_5, pNs_1_5, pNg_1_6, pNs_1_6, pNg_1_7, pNs_1_7, pNg_1_8, pNs_1_8, pNg_1_9, pNs_1_9, pNg_21_0, pNs_21_0, pNg_21_1, pNs_21_1, pNg_21_2, pNs_21_2, pNg_21_3, pNs_21_3, pNg_21_4, pNs_21_4, pNg_21_5, pNs_21_5, pNg_21_6, pNs_21_6, pNg_21_7, pNs_21_7, pNg_21_8, pNs_21_8, pNg_21_9, pNs_21_9, na_h1, na_h2, na_h0, List.tail_cons, hc], by rw [nI_1], trivial⟩
set_option maxRecDepth 100000 in
set_option maxHeartbeats 4000000 in
theorem c_stf (sx : Nat × (Nat → Int32)) (nb : Nat) (hnb : nb = 1 ∨ nb = 21) (N : Mm) (P : Nat) (hP : N 0 7 = nI P) (hP8 : P ≤ 8) (I : Mm) (J : Ml) : Mt sx MX0_stifledSet [.ref nb] (pN nb N I) J (na_v (pN nb N I) J (stf N P)) := by
  refine Mt.of2 _ rfl (by decide +kernel) (Nat.le_of_ble_eq_true rfl) ?_
  have hnb2 := hnb
  rcases hnb with rfl | rfl
  all_goals
    refine GW.run kX0_stifledSet (fun pc => Nat.beq pc 4) 51 0 rfl ?_
    exact l_stf sx _ hnb2 N P hP hP8 I J _ ⟨rfl, rfl, rfl⟩ P 0 (by omega)
set_option maxRecDepth 100000 in
set_option maxHeartbeats 4000000 in
theorem l_bri (sx : Nat × (Nat → Int32)) (nb : Nat) (hnb : nb = 1 ∨ nb = 21) (N : Mm) (P : Nat) (hP : N 0 7 = nI P) (hP8 : P ≤ 8) (set : Int32) (I : Mm) (J : Ml) (Rt : Option Value → Mm → Ml → Prop) (hR : Rt (some (.int (bri N P set P))) (pN nb N I) J) : ∀ m n, n + m = P → GW sx (na_mi MX0_breathIn) Rt 4 [some (.ref nb), some (.int set), some (.int (bri N P set n)), some (.int (nI n))] [] (pN nb N I) J := by
  have hnb2 := hnb
  intro m
  induction m with
  | zero =>
    intro n hn
    obtain rfl : P = n := by omega
    have hz : N 0 7 ≤ nI P := by rw [hP]; exact Int32.le_refl _
    rcases hnb with rfl | rfl
    all_goals
      refine GW.run kX0_breathIn (fun pc => Nat.beq pc 4) 52 4 rfl ?_
      refine And.intro (fun _ => ?_) (fun hh => absurd hz hh)
      exact ⟨trivial, hR⟩
  | succ m ih =>
    intro n hn
    have hz : ¬ N 0 7 ≤ nI n := by rw [hP]; exact nI_ge (by omega) (by omega)
    have hb : vp_in (nI n) 8 := vp_in_nI (by omega) (by omega)
    have hc := nI_clamp (n := n) (by omega)
    have ih := ih (n + 1) (by omega)
    rcases hnb with rfl | rfl
    all_goals
      refine GW.run kX0_breathIn (fun pc => Nat.beq pc 4) 52 4 rfl ?_
      refine And.intro (fun hh => absurd hh hz) (fun _ => ?_)
      refine Mt.conseq (c_has _ _ _ _ _) ?_
      rintro _ _ _ ⟨rfl, rfl, ⟨h1, rfl⟩ | ⟨h1, rfl⟩⟩
      · -- pc 14 call X3_has true
        refine And.intro (fun hh => absurd hh (by decide)) (fun _ => ?_)
        refine Mt.conseq (c_brt _ _ hnb2 N P hP hP8 n (by omega) _ _) ?_
        rintro _ _ _ ⟨rfl, rfl, rfl⟩
        exact GW.weak ih ⟨rfl, rfl, by rw [bri, if_pos h1], by rw [nI_1], trivial⟩
      · -- pc 14 call X3_has false
        refine And.intro (fun _ => ?_) (fun hh => absurd hh (by decide))
        exact GW.weak ih ⟨rfl, rfl, by rw [bri, if_neg h1], by rw [nI_1], trivial⟩
set_option maxRecDepth 100000 in
set_option maxHeartbeats 4000000 in
theorem c_bri (sx : Nat × (Nat → Int32)) (nb : Nat) (hnb : nb = 1 ∨ nb = 21) (N : Mm) (P : Nat) (hP : N 0 7 = nI P) (hP8 : P ≤ 8) (set : Int32) (I : Mm) (J : Ml) : Mt sx MX0_breathIn [.ref nb, .int set] (pN nb N I) J (na_v (pN nb N I) J (bri N P set P)) := by
  refine Mt.of2 _ rfl (by decide +kernel) (Nat.le_of_ble_eq_true rfl) ?_
  have hnb2 := hnb
  rcases hnb with rfl | rfl
  all_goals
    refine GW.run kX0_breathIn (fun pc => Nat.beq pc 4) 52 0 rfl ?_
    exact l_bri sx _ hnb2 N P hP hP8 set I J _ ⟨rfl, rfl, rfl⟩ P 0 (by omega)
set_option maxRecDepth 100000 in
set_option maxHeartbeats 4000000 in
theorem l_gre (sx : Nat × (Nat → Int32)) (nb : Nat) (hnb : nb = 1 ∨ nb = 21) (N : Mm) (P : Nat) (hP : N 0 7 = nI P) (hP8 : P ≤ 8) (set : Int32) (I : Mm) (J : Ml) (Rt : Option Value → Mm → Ml → Prop) (hR : Rt (some (.int (gre N P set P))) (pN nb N I) J) : ∀ m n, n + m = P → GW sx (na_mi MX0_greatestBreathIn) Rt 4 [some (.ref nb), some (.int set), some (.int (gre N P set n)), some (.int (nI n))] [] (pN nb N I) J := by
  have hnb2 := hnb
  intro m
  induction m with
  | zero =>
    intro n hn
    obtain rfl : P = n := by omega
    have hz : N 0 7 ≤ nI P := by rw [hP]; exact Int32.le_refl _
    rcases hnb with rfl | rfl
    all_goals
      refine GW.run kX0_greatestBreathIn (fun pc => Nat.beq pc 4) 52 4 rfl ?_
      refine And.intro (fun _ => ?_) (fun hh => absurd hz hh)
      exact ⟨trivial, hR⟩
  | succ m ih =>
    intro n hn
    have hz : ¬ N 0 7 ≤ nI n := by rw [hP]; exact nI_ge (by omega) (by omega)
    have hb : vp_in (nI n) 8 := vp_in_nI (by omega) (by omega)
    have hc := nI_clamp (n := n) (by omega)
    have ih := ih (n + 1) (by omega)
    rcases hnb with rfl | rfl
    all_goals
      refine GW.run kX0_greatestBreathIn (fun pc => Nat.beq pc 4) 52 4 rfl ?_
      refine And.intro (fun hh => absurd hh hz) (fun _ => ?_)
      refine Mt.conseq (c_has _ _ _ _ _) ?_
      rintro _ _ _ ⟨rfl, rfl, ⟨h1, rfl⟩ | ⟨h1, rfl⟩⟩
      · -- pc 14 call X3_has true
        refine And.intro (fun hh => absurd hh (by decide)) (fun _ => ?_)
        refine Mt.conseq (c_brt _ _ hnb2 N P hP hP8 n (by omega) _ _) ?_
        rintro _ _ _ ⟨rfl, rfl, rfl⟩
        exact GW.weak ih ⟨rfl, rfl, by rw [gre, if_pos h1], by rw [nI_1], trivial⟩
      · -- pc 14 call X3_has false
        refine And.intro (fun _ => ?_) (fun hh => absurd hh (by decide))
        exact GW.weak ih ⟨rfl, rfl, by rw [gre, if_neg h1], by rw [nI_1], trivial⟩
set_option maxRecDepth 100000 in
set_option maxHeartbeats 4000000 in
theorem c_gre (sx : Nat × (Nat → Int32)) (nb : Nat) (hnb : nb = 1 ∨ nb = 21) (N : Mm) (P : Nat) (hP : N 0 7 = nI P) (hP8 : P ≤ 8) (set : Int32) (I : Mm) (J : Ml) : Mt sx MX0_greatestBreathIn [.ref nb, .int set] (pN nb N I) J (na_v (pN nb N I) J (gre N P set P)) := by
  refine Mt.of2 _ rfl (by decide +kernel) (Nat.le_of_ble_eq_true rfl) ?_
  have hnb2 := hnb
  rcases hnb with rfl | rfl
  all_goals
    refine GW.run kX0_greatestBreathIn (fun pc => Nat.beq pc 4) 52 0 rfl ?_
    exact l_gre sx _ hnb2 N P hP hP8 set I J _ ⟨rfl, rfl, rfl⟩ P 0 (by omega)
set_option maxRecDepth 100000 in
set_option maxHeartbeats 4000000 in
theorem l_fri (sx : Nat × (Nat → Int32)) (nb : Nat) (hnb : nb = 1 ∨ nb = 21) (N : Mm) (set : Int32) (I : Mm) (J : Ml) (Rt : Option Value → Mm → Ml → Prop) (hR : Rt (some (.int (fri N set 8))) (pN nb N I) J) : ∀ m n, n + m = 8 → GW sx (na_mi MX0_frostIn) Rt 4 [some (.ref nb), some (.int set), some (.int (fri N set n)), some (.int (nI n))] [] (pN nb N I) J := by
  have hnb2 := hnb
  intro m
  induction m with
  | zero =>
    intro n hn
    obtain rfl : n = 8 := by omega
    have hz : (8 : Int32) ≤ nI 8 := by decide
    rcases hnb with rfl | rfl
    all_goals
      refine GW.run kX0_frostIn (fun pc => Nat.beq pc 4) 52 4 rfl ?_
      refine And.intro (fun _ => ?_) (fun hh => absurd hz hh)
      exact ⟨trivial, hR⟩
  | succ m ih =>
    intro n hn
    have hz : ¬ (8 : Int32) ≤ nI n := nI_ge (a := n) (b := 8) (by omega) (by omega)
    have hb : vp_in (nI n) 8 := vp_in_nI (by omega) (by omega)
    have hc := nI_clamp (n := n) (by omega)
    have ih := ih (n + 1) (by omega)
    rcases hnb with rfl | rfl
    all_goals
      refine GW.run kX0_frostIn (fun pc => Nat.beq pc 4) 52 4 rfl ?_
      refine And.intro (fun hh => absurd hh hz) (fun _ => ?_)
      refine Mt.conseq (c_has _ _ _ _ _) ?_
      rintro _ _ _ ⟨rfl, rfl, ⟨h1, rfl⟩ | ⟨h1, rfl⟩⟩
      · -- pc 12 call X3_has true
        refine And.intro (fun hh => absurd hh (by decide)) (fun _ => ?_)
        refine And.intro (hb) ?_
        exact GW.weak ih ⟨rfl, rfl, by rw [fri, if_pos h1]; simp only [pNg_1_0, pNs_1_0, pNg_1_1, pNs_1_1, pNg_1_2, pNs_1_2, pNg_1_3, pNs_1_3, pNg_1_4, pNs_1_4, pNg_1_5, pNs_1_5, pNg_1_6, pNs_1_6, pNg_1_7, pNs_1_7, pNg_1_8, pNs_1_8, pNg_1_9, pNs_1_9, pNg_21_0, pNs_21_0, pNg_21_1, pNs_21_1, pNg_21_2, pNs_21_2, pNg_21_3, pNs_21_3, pNg_21_4, pNs_21_4, pNg_21_5, pNs_21_5, pNg_21_6, pNs_21_6, pNg_21_7, pNs_21_7, pNg_21_8, pNs_21_8, pNg_21_9, pNs_21_9, na_h1, na_h2, na_h0, List.tail_cons, hc], by rw [nI_1], trivial⟩
      · -- pc 12 call X3_has false
        refine And.intro (fun _ => ?_) (fun hh => absurd hh (by decide))
        exact GW.weak ih ⟨rfl, rfl, by rw [fri, if_neg h1], by rw [nI_1], trivial⟩
set_option maxRecDepth 100000 in
set_option maxHeartbeats 4000000 in
theorem c_fri (sx : Nat × (Nat → Int32)) (nb : Nat) (hnb : nb = 1 ∨ nb = 21) (N : Mm) (set : Int32) (I : Mm) (J : Ml) : Mt sx MX0_frostIn [.ref nb, .int set] (pN nb N I) J (na_v (pN nb N I) J (fri N set 8)) := by
  refine Mt.of2 _ rfl (by decide +kernel) (Nat.le_of_ble_eq_true rfl) ?_
  have hnb2 := hnb
  rcases hnb with rfl | rfl
  all_goals
    refine GW.run kX0_frostIn (fun pc => Nat.beq pc 4) 52 0 rfl ?_
    exact l_fri sx _ hnb2 N set I J _ ⟨rfl, rfl, rfl⟩ 8 0 (by omega)
end
section
/-! AN HOUR OF A NIGHT -/
/-- one of people breathes -/
def breR (P : Nat) (N : Mm) (p : Nat) : Mm :=
  if N 1 (N 6 p).toNatClampNeg < brt N P p then na_set (na_set (na_set N 1 (N 6 p).toNatClampNeg 0) 9 p 1) 8 p (jmin 999 (N 8 p + 1))
  else na_set (na_set N 1 (N 6 p).toNatClampNeg (N 1 (N 6 p).toNatClampNeg - brt N P p)) 8 p (jmin 999 (N 8 p + 1))
def newR (P : Nat) (N : Mm) : Nat → Int32
  | 0 => 0
  | p + 1 => if itN (breR P) p N 1 (itN (breR P) p N 6 p).toNatClampNeg < brt (itN (breR P) p N) P p then newR P N p ||| (1 <<< (nI p &&& 31)) else newR P N p
theorem breR_keep (P : Nat) (N : Mm) (p : Nat) {k : Nat} (h : k ≠ 1 ∧ k ≠ 8 ∧ k ≠ 9) : breR P N p k = N k := by
  unfold breR
  split <;> simp [na_set_off, h.1, h.2.1, h.2.2]
theorem itB_keep (P : Nat) (N : Mm) {k : Nat} (h : k ≠ 1 ∧ k ≠ 8 ∧ k ≠ 9) : ∀ n, itN (breR P) n N k = N k
  | 0 => rfl
  | n + 1 => by rw [itN, breR_keep P _ n h, itB_keep P N h n]
set_option maxRecDepth 100000 in
set_option maxHeartbeats 4000000 in
theorem l_bre (sx : Nat × (Nat → Int32)) (nb : Nat) (hnb : nb = 1 ∨ nb = 21) (N : Mm) (P : Nat) (hP : N 0 7 = nI P) (hP8 : P ≤ 8) (hpl : ∀ p, p < P → vp_in (N 6 p) 8) (I : Mm) (J : Ml) (Rt : Option Value → Mm → Ml → Prop) (hR : Rt (some (.int (newR P N P))) (pN nb (itN (breR P) P N) I) J) : ∀ m n, n + m = P → GW sx (na_mi MX0_breathe) Rt 4 [some (.ref nb), some (.int (newR P N n)), some (.int (nI n)), none, none] [] (pN nb (itN (breR P) n N) I) J := by
  have hnb2 := hnb
  intro m
  induction m with
  | zero =>
    intro n hn
    obtain rfl : P = n := by omega
    have hz : itN (breR P) P N 0 7 ≤ nI P := by rw [itB_keep P N (by decide), hP]; exact Int32.le_refl _
    rcases hnb with rfl | rfl
    all_goals
      refine GW.run kX0_breathe (fun pc => Nat.beq pc 4) 94 4 rfl ?_
      refine And.intro (fun _ => ?_) (fun hh => absurd hz hh)
      exact ⟨trivial, hR⟩
  | succ m ih =>
    intro n hn
    have hz : ¬ itN (breR P) n N 0 7 ≤ nI n := by rw [itB_keep P N (by decide), hP]; exact nI_ge (by omega) (by omega)
    have hb : vp_in (nI n) 8 := vp_in_nI (by omega) (by omega)
    have hc := nI_clamp (n := n) (by omega)
    have ih := ih (n + 1) (by omega)
    have hk6 : itN (breR P) n N 6 = N 6 := itB_keep P N (by decide) n
    have hbr : vp_in (itN (breR P) n N 6 (nI n).toNatClampNeg) 8 := by rw [hk6, hc]; exact hpl n (by omega)
    rcases hnb with rfl | rfl
    all_goals
      refine GW.run kX0_breathe (fun pc => Nat.beq pc 4) 94 4 rfl ?_
      refine And.intro (fun hh => absurd hh hz) (fun _ => ?_)
      refine Mt.conseq (c_brt _ _ hnb2 (itN (breR P) n N) P (by rw [itB_keep P N (by decide)]; exact hP) hP8 n (by omega) _ _) ?_
      rintro _ _ _ ⟨rfl, rfl, rfl⟩
      refine And.intro (hb) ?_
      refine And.intro (hbr) ?_
      refine And.intro (fun h2 => ?_) (fun h2 => ?_)
      · -- pc 34 .if_icmp .ge 27: yes
        refine And.intro (hbr) ?_
        refine And.intro (hbr) ?_
        refine And.intro (hb) ?_
        refine And.intro (hb) ?_
        refine GW.weak (GW.eqI ?_ ih) ⟨rfl, by rw [newR, if_neg (by have q := h2; simp only [pNg_1_0, pNs_1_0, pNg_1_1, pNs_1_1, pNg_1_2, pNs_1_2, pNg_1_3, pNs_1_3, pNg_1_4, pNs_1_4, pNg_1_5, pNs_1_5, pNg_1_6, pNs_1_6, pNg_1_7, pNs_1_7, pNg_1_8, pNs_1_8, pNg_1_9, pNs_1_9, pNg_21_0, pNs_21_0, pNg_21_1, pNs_21_1, pNg_21_2, pNs_21_2, pNg_21_3, pNs_21_3, pNg_21_4, pNs_21_4, pNg_21_5, pNs_21_5, pNg_21_6, pNs_21_6, pNg_21_7, pNs_21_7, pNg_21_8, pNs_21_8, pNg_21_9, pNs_21_9, na_h1, na_h2, na_h0, List.tail_cons, hc] at q; exact Int32.not_lt.mpr q)], by rw [nI_1], trivial⟩
        rw [itN, breR, if_neg (by have q := h2; simp only [pNg_1_0, pNs_1_0, pNg_1_1, pNs_1_1, pNg_1_2, pNs_1_2, pNg_1_3, pNs_1_3, pNg_1_4, pNs_1_4, pNg_1_5, pNs_1_5, pNg_1_6, pNs_1_6, pNg_1_7, pNs_1_7, pNg_1_8, pNs_1_8, pNg_1_9, pNs_1_9, pNg_21_0, pNs_21_0, pNg_21_1, pNs_21_1, pNg_21_2, pNs_21_2, pNg_21_3, pNs_21_3, pNg_21_4, pNs_21_4, pNg_21_5, pNs_21_5, pNg_21_6, pNs_21_6, pNg_21_7, pNs_21_7, pNg_21_8, pNs_21_8, pNg_21_9, pNs_21_9, na_h1, na_h2, na_h0, List.tail_cons, hc] at q; exact Int32.not_lt.mpr q)]
        simp only [pNg_1_0, pNs_1_0, pNg_1_1, pNs_1_1, pNg_1_2, pNs_1_2, pNg_1_3, pNs_1_3, pNg_1_4, pNs_1_4, pNg_1_5, pNs_1_5, pNg_1_6, pNs_1_6, pNg_1_7, pNs_1_7, pNg_1_8, pNs_1_8, pNg_1_9, pNs_1_9, pNg_21_0, pNs_21_0, pNg_21_1, pNs_21_1, pNg_21_2, pNs_21_2, pNg_21_3, pNs_21_3, pNg_21_4, pNs_21_4, pNg_21_5, pNs_21_5, pNg_21_6, pNs_21_6, pNg_21_7, pNs_21_7, pNg_21_8, pNs_21_8, pNg_21_9, pNs_21_9, na_h1, na_h2, na_h0, List.tail_cons, hc]
        rfl
      · -- pc 34 .if_icmp .ge 27: no
        refine And.intro (hbr) ?_
        refine And.intro (hb) ?_
        refine And.intro (hb) ?_
        refine And.intro (hb) ?_
        refine GW.weak (GW.eqI ?_ ih) ⟨rfl, by rw [newR, if_pos (by have q := h2; simp only [pNg_1_0, pNs_1_0, pNg_1_1, pNs_1_1, pNg_1_2, pNs_1_2, pNg_1_3, pNs_1_3, pNg_1_4, pNs_1_4, pNg_1_5, pNs_1_5, pNg_1_6, pNs_1_6, pNg_1_7, pNs_1_7, pNg_1_8, pNs_1_8, pNg_1_9, pNs_1_9, pNg_21_0, pNs_21_0, pNg_21_1, pNs_21_1, pNg_21_2, pNs_21_2, pNg_21_3, pNs_21_3, pNg_21_4, pNs_21_4, pNg_21_5, pNs_21_5, pNg_21_6, pNs_21_6, pNg_21_7, pNs_21_7, pNg_21_8, pNs_21_8, pNg_21_9, pNs_21_9, na_h1, na_h2, na_h0, List.tail_cons, hc] at q; exact Int32.not_le.mp q)], by rw [nI_1], trivial⟩
        rw [itN, breR, if_pos (by have q := h2; simp only [pNg_1_0, pNs_1_0, pNg_1_1, pNs_1_1, pNg_1_2, pNs_1_2, pNg_1_3, pNs_1_3, pNg_1_4, pNs_1_4, pNg_1_5, pNs_1_5, pNg_1_6, pNs_1_6, pNg_1_7, pNs_1_7, pNg_1_8, pNs_1_8, pNg_1_9, pNs_1_9, pNg_21_0, pNs_21_0, pNg_21_1, pNs_21_1, pNg_21_2, pNs_21_2, pNg_21_3, pNs_21_3, pNg_21_4, pNs_21_4, pNg_21_5, pNs_21_5, pNg_21_6, pNs_21_6, pNg_21_7, pNs_21_7, pNg_21_8, pNs_21_8, pNg_21_9, pNs_21_9, na_h1, na_h2, na_h0, List.tail_cons, hc] at q; exact Int32.not_le.mp q)]
        simp only [pNg_1_0, pNs_1_0, pNg_1_1, pNs_1_1, pNg_1_2, pNs_1_2, pNg_1_3, pNs_1_3, pNg_1_4, pNs_1_4, pNg_1_5, pNs_1_5, pNg_1_6, pNs_1_6, pNg_1_7, pNs_1_7, pNg_1_8, pNs_1_8, pNg_1_9, pNs_1_9, pNg_21_0, pNs_21_0, pNg_21_1, pNs_21_1, pNg_21_2, pNs_21_2, pNg_21_3, pNs_21_3, pNg_21_4, pNs_21_4, pNg_21_5, pNs_21_5, pNg_21_6, pNs_21_6, pNg_21_7, pNs_21_7, pNg_21_8, pNs_21_8, pNg_21_9, pNs_21_9, na_h1, na_h2, na_h0, List.tail_cons, hc]
        rfl
set_option maxRecDepth 100000 in
set_option maxHeartbeats 4000000 in
theorem c_bre (sx : Nat × (Nat → Int32)) (nb : Nat) (hnb : nb = 1 ∨ nb = 21) (N : Mm) (P : Nat) (hP : N 0 7 = nI P) (hP8 : P ≤ 8) (hpl : ∀ p, p < P → vp_in (N 6 p) 8) (I : Mm) (J : Ml) : Mt sx MX0_breathe [.ref nb] (pN nb N I) J (fun r I' J' => pN nb (itN (breR P) P N) I = I' ∧ J = J' ∧ r = some (.int (newR P N P))) := by
  refine Mt.of2 _ rfl (by decide +kernel) (Nat.le_of_ble_eq_true rfl) ?_
  have hnb2 := hnb
  rcases hnb with rfl | rfl
  all_goals
    refine GW.run kX0_breathe (fun pc => Nat.beq pc 4) 94 0 rfl ?_
    exact l_bre sx _ hnb2 N P hP hP8 hpl I J _ ⟨rfl, rfl, rfl⟩ P 0 (by omega)
/-- the night ahead of breathing -/
def pre1 (N : Mm) : Mm := if N 0 5 = 1 then itN frzR 8 N else N
def preN (N : Mm) : Mm := na_set (itN mixR 7 (itN brnR 8 (pre1 N))) 0 6 ((itN mixR 7 (itN brnR 8 (pre1 N))) 0 6 + 1)
def hrN (P : Nat) (N : Mm) : Mm := itN (breR P) P (preN N)
def hrW (P : Nat) (N : Mm) : Int32 := newR P (preN N) P
theorem itN_keep {f : Mm → Nat → Mm} {k : Nat} (hf : ∀ N r, f N r k = N k) (N : Mm) : ∀ n, itN f n N k = N k
  | 0 => rfl
  | n + 1 => by rw [itN, hf, itN_keep hf N n]
theorem frzR_keep {k : Nat} (h : k ≠ 1 ∧ k ≠ 2) (N : Mm) (r : Nat) : frzR N r k = N k := by simp [frzR, na_set_off, h.1, h.2]
theorem brnR_keep {k : Nat} (h : k ≠ 1 ∧ k ≠ 2) (N : Mm) (r : Nat) : brnR N r k = N k := by simp [brnR, na_set_off, h.1, h.2]
theorem mixR_keep {k : Nat} (h : k ≠ 1) (N : Mm) (r : Nat) : mixR N r k = N k := by
  unfold mixR
  split <;> simp [na_set_off, h]
theorem pre1_keep {k : Nat} (h : k ≠ 1 ∧ k ≠ 2) (N : Mm) : pre1 N k = N k := by
  unfold pre1
  split
  · exact itN_keep (fun N r => frzR_keep h N r) N 8
  · rfl
theorem pre3_keep {k : Nat} (h : k ≠ 1 ∧ k ≠ 2) (N : Mm) : itN mixR 7 (itN brnR 8 (pre1 N)) k = N k := by
  rw [itN_keep (fun N r => mixR_keep h.1 N r), itN_keep (fun N r => brnR_keep h N r), pre1_keep h]
theorem preN_keep {k : Nat} (h : k ≠ 0 ∧ k ≠ 1 ∧ k ≠ 2) (N : Mm) : preN N k = N k := by
  unfold preN
  rw [na_set_off h.1, pre3_keep h.2]
theorem preN_0 {j : Nat} (h : j ≠ 6) (N : Mm) : preN N 0 j = N 0 j := by
  unfold preN
  rw [na_set_ne h, pre3_keep (by decide)]
theorem hrN_keep {k : Nat} (h : k ≠ 0 ∧ k ≠ 1 ∧ k ≠ 2 ∧ k ≠ 8 ∧ k ≠ 9) (P : Nat) (N : Mm) : hrN P N k = N k := by
  unfold hrN
  rw [itB_keep P _ ⟨h.2.1, h.2.2.2⟩, preN_keep ⟨h.1, h.2.1, h.2.2.1⟩]
theorem hrN_0 {j : Nat} (h : j ≠ 6) (P : Nat) (N : Mm) : hrN P N 0 j = N 0 j := by
  unfold hrN
  rw [itB_keep P _ (by decide), preN_0 h]
set_option maxRecDepth 100000 in
set_option maxHeartbeats 4000000 in
theorem c_hr (sx : Nat × (Nat → Int32)) (nb : Nat) (hnb : nb = 1 ∨ nb = 21) (N : Mm) (P : Nat) (hP : N 0 7 = nI P) (hP8 : P ≤ 8) (hpl : ∀ p, p < P → vp_in (N 6 p) 8) (I : Mm) (J : Ml) : Mt sx MX0_passHour [.ref nb] (pN nb N I) J (fun r I' J' => pN nb (hrN P N) I = I' ∧ J = J' ∧ r = some (.int (hrW P N))) := by
  refine Mt.of2 _ rfl (by decide +kernel) (Nat.le_of_ble_eq_true rfl) ?_
  have hnb2 := hnb
  rcases hnb with rfl | rfl
  ·
    have hbr : ∀ M : Mm, (N 0 5 = 1 ∧ M = itN frzR 8 N ∨ ¬ N 0 5 = 1 ∧ M = N) → Mt sx MX0_breathe [.ref 1] (na_set (pN 1 (itN mixR 7 (itN brnR 8 M)) I) 1 6 (pN 1 (itN mixR 7 (itN brnR 8 M)) I 1 6 + 1)) J (fun r I' J' => pN 1 (hrN P N) I = I' ∧ J = J' ∧ r = some (.int (hrW P N))) := by
      intro M hM
      have e : M = pre1 N := by
        rcases hM with ⟨h1, h2⟩ | ⟨h1, h2⟩
        · rw [h2, pre1, if_pos h1]
        · rw [h2, pre1, if_neg h1]
      subst e
      have h := c_bre sx 1 hnb2 (preN N) P (by rw [preN_0 (by decide)]; exact hP) hP8 (by rw [preN_keep (by decide)]; exact hpl) I J
      simp only [pNg_1_0, pNs_1_0, pNg_1_1, pNs_1_1, pNg_1_2, pNs_1_2, pNg_1_3, pNs_1_3, pNg_1_4, pNs_1_4, pNg_1_5, pNs_1_5, pNg_1_6, pNs_1_6, pNg_1_7, pNs_1_7, pNg_1_8, pNs_1_8, pNg_1_9, pNs_1_9, pNg_21_0, pNs_21_0, pNg_21_1, pNs_21_1, pNg_21_2, pNs_21_2, pNg_21_3, pNs_21_3, pNg_21_4, pNs_21_4, pNg_21_5, pNs_21_5, pNg_21_6, pNs_21_6, pNg_21_7, pNs_21_7, pNg_21_8, pNs_21_8, pNg_21_9, pNs_21_9, na_h1, na_h2, na_h0, List.tail_cons]
      exact h
    refine GW.run kX0_passHour (fun _ => false) 49 0 rfl ?_
    refine And.intro (fun h1 => ?_) (fun h1 => ?_)
    · -- pc 5 .if_icmp .ne 7: yes
      refine Mt.conseq (c_burn _ _ hnb2 _ _ _) ?_
      rintro _ _ _ ⟨rfl, rfl, rfl⟩
      refine Mt.conseq (c_mix _ _ hnb2 _ _ _) ?_
      rintro _ _ _ ⟨rfl, rfl, rfl⟩
      refine Mt.conseq (hbr _ (Or.inr ⟨h1, rfl⟩)) ?_
      rintro _ _ _ ⟨rfl, rfl, rfl⟩
      exact ⟨trivial, rfl, rfl, rfl⟩
    · -- pc 5 .if_icmp .ne 7: no
      refine Mt.conseq (c_freeze _ _ hnb2 _ _ _) ?_
      rintro _ _ _ ⟨rfl, rfl, rfl⟩
      refine Mt.conseq (c_burn _ _ hnb2 _ _ _) ?_
      rintro _ _ _ ⟨rfl, rfl, rfl⟩
      refine Mt.conseq (c_mix _ _ hnb2 _ _ _) ?_
      rintro _ _ _ ⟨rfl, rfl, rfl⟩
      refine Mt.conseq (hbr _ (Or.inl ⟨h1, rfl⟩)) ?_
      rintro _ _ _ ⟨rfl, rfl, rfl⟩
      exact ⟨trivial, rfl, rfl, rfl⟩
  ·
    have hbr : ∀ M : Mm, (N 0 5 = 1 ∧ M = itN frzR 8 N ∨ ¬ N 0 5 = 1 ∧ M = N) → Mt sx MX0_breathe [.ref 21] (na_set (pN 21 (itN mixR 7 (itN brnR 8 M)) I) 21 6 (pN 21 (itN mixR 7 (itN brnR 8 M)) I 21 6 + 1)) J (fun r I' J' => pN 21 (hrN P N) I = I' ∧ J = J' ∧ r = some (.int (hrW P N))) := by
      intro M hM
      have e : M = pre1 N := by
        rcases hM with ⟨h1, h2⟩ | ⟨h1, h2⟩
        · rw [h2, pre1, if_pos h1]
        · rw [h2, pre1, if_neg h1]
      subst e
      have h := c_bre sx 21 hnb2 (preN N) P (by rw [preN_0 (by decide)]; exact hP) hP8 (by rw [preN_keep (by decide)]; exact hpl) I J
      simp only [pNg_1_0, pNs_1_0, pNg_1_1, pNs_1_1, pNg_1_2, pNs_1_2, pNg_1_3, pNs_1_3, pNg_1_4, pNs_1_4, pNg_1_5, pNs_1_5, pNg_1_6, pNs_1_6, pNg_1_7, pNs_1_7, pNg_1_8, pNs_1_8, pNg_1_9, pNs_1_9, pNg_21_0, pNs_21_0, pNg_21_1, pNs_21_1, pNg_21_2, pNs_21_2, pNg_21_3, pNs_21_3, pNg_21_4, pNs_21_4, pNg_21_5, pNs_21_5, pNg_21_6, pNs_21_6, pNg_21_7, pNs_21_7, pNg_21_8, pNs_21_8, pNg_21_9, pNs_21_9, na_h1, na_h2, na_h0, List.tail_cons]
      exact h
    refine GW.run kX0_passHour (fun _ => false) 49 0 rfl ?_
    refine And.intro (fun h1 => ?_) (fun h1 => ?_)
    · -- pc 5 .if_icmp .ne 7: yes
      refine Mt.conseq (c_burn _ _ hnb2 _ _ _) ?_
      rintro _ _ _ ⟨rfl, rfl, rfl⟩
      refine Mt.conseq (c_mix _ _ hnb2 _ _ _) ?_
      rintro _ _ _ ⟨rfl, rfl, rfl⟩
      refine Mt.conseq (hbr _ (Or.inr ⟨h1, rfl⟩)) ?_
      rintro _ _ _ ⟨rfl, rfl, rfl⟩
      exact ⟨trivial, rfl, rfl, rfl⟩
    · -- pc 5 .if_icmp .ne 7: no
      refine Mt.conseq (c_freeze _ _ hnb2 _ _ _) ?_
      rintro _ _ _ ⟨rfl, rfl, rfl⟩
      refine Mt.conseq (c_burn _ _ hnb2 _ _ _) ?_
      rintro _ _ _ ⟨rfl, rfl, rfl⟩
      refine Mt.conseq (c_mix _ _ hnb2 _ _ _) ?_
      rintro _ _ _ ⟨rfl, rfl, rfl⟩
      refine Mt.conseq (hbr _ (Or.inl ⟨h1, rfl⟩)) ?_
      rintro _ _ _ ⟨rfl, rfl, rfl⟩
      exact ⟨trivial, rfl, rfl, rfl⟩
end
section
/-! HOURS; ROWS; PEOPLE COME AND GO -/
def itH (P : Nat) : Nat → Mm → Mm
  | 0, N => N
  | n + 1, N => hrN P (itH P n N)
theorem itH_keep {k : Nat} (h : k ≠ 0 ∧ k ≠ 1 ∧ k ≠ 2 ∧ k ≠ 8 ∧ k ≠ 9) (P : Nat) (N : Mm) : ∀ n, itH P n N k = N k
  | 0 => rfl
  | n + 1 => by rw [itH, hrN_keep h, itH_keep h P N n]
theorem itH_0 {j : Nat} (h : j ≠ 6) (P : Nat) (N : Mm) : ∀ n, itH P n N 0 j = N 0 j
  | 0 => rfl
  | n + 1 => by rw [itH, hrN_0 h, itH_0 h P N n]
/-- for how many hours of m nobody of a set becomes stifled -/
def wl (P : Nat) (set : Int32) : Nat → Mm → Nat
  | 0, _ => 0
  | m + 1, N => if hrW P N &&& set = 0 then 1 + wl P set m (hrN P N) else 0
set_option maxRecDepth 100000 in
set_option maxHeartbeats 4000000 in
theorem l_ph (sx : Nat × (Nat → Int32)) (nb : Nat) (hnb : nb = 1 ∨ nb = 21) (N : Mm) (P : Nat) (hP : N 0 7 = nI P) (hP8 : P ≤ 8) (hpl : ∀ p, p < P → vp_in (N 6 p) 8) (K : Nat) (hK : K ≤ 60) (I : Mm) (J : Ml) (Rt : Option Value → Mm → Ml → Prop) (hR : Rt none (pN nb (itH P K N) I) J) : ∀ m n, n + m = K → GW sx (na_mi MX0_passHours) Rt 2 [some (.ref nb), some (.int (nI K)), some (.int (nI n))] [] (pN nb (itH P n N) I) J := by
  have hnb2 := hnb
  intro m
  induction m with
  | zero =>
    intro n hn
    obtain rfl : K = n := by omega
    have hz : nI K ≤ nI K := Int32.le_refl _
    rcases hnb with rfl | rfl
    all_goals
      refine GW.run kX0_passHours (fun pc => Nat.beq pc 2) 41 2 rfl ?_
      refine And.intro (fun _ => ?_) (fun hh => absurd hz hh)
      exact hR
  | succ m ih =>
    intro n hn
    have hz : ¬ nI K ≤ nI n := nI_ge (by omega) (by omega)
    have hc := nI_clamp (n := n) (by omega)
    have ih := ih (n + 1) (by omega)
    rcases hnb with rfl | rfl
    all_goals
      refine GW.run kX0_passHours (fun pc => Nat.beq pc 2) 41 2 rfl ?_
      refine And.intro (fun hh => absurd hh hz) (fun _ => ?_)
      refine Mt.conseq (c_hr _ _ hnb2 (itH P n N) P (by rw [itH_0 (by decide)]; exact hP) hP8 (by rw [itH_keep (by decide)]; exact hpl) _ _) ?_
      rintro _ _ _ ⟨rfl, rfl, rfl⟩
      exact GW.weak ih ⟨rfl, rfl, by rw [nI_1], trivial⟩
set_option maxRecDepth 100000 in
set_option maxHeartbeats 4000000 in
theorem c_ph (sx : Nat × (Nat → Int32)) (nb : Nat) (hnb : nb = 1 ∨ nb = 21) (N : Mm) (P : Nat) (hP : N 0 7 = nI P) (hP8 : P ≤ 8) (hpl : ∀ p, p < P → vp_in (N 6 p) 8) (K : Nat) (hK : K ≤ 60) (I : Mm) (J : Ml) : Mt sx MX0_passHours [.ref nb, .int (nI K)] (pN nb N I) J (fun r I' J' => pN nb (itH P K N) I = I' ∧ J = J' ∧ r = none) := by
  refine Mt.of2 _ rfl (by decide +kernel) (Nat.le_of_ble_eq_true rfl) ?_
  have hnb2 := hnb
  rcases hnb with rfl | rfl
  all_goals
    refine GW.run kX0_passHours (fun pc => Nat.beq pc 2) 41 0 rfl ?_
    exact l_ph sx _ hnb2 N P hP hP8 hpl K hK I J _ ⟨rfl, rfl, rfl⟩ K 0 (by omega)
set_option maxRecDepth 100000 in
set_option maxHeartbeats 4000000 in
theorem l_wl (sx : Nat × (Nat → Int32)) (nb : Nat) (hnb : nb = 1 ∨ nb = 21) (P : Nat) (hP8 : P ≤ 8) (set : Int32) (K : Nat) (hK : K ≤ 60) (I : Mm) (J : Ml) (W : Nat) (Rt : Option Value → Mm → Ml → Prop) (hR : ∀ M, Rt (some (.int (nI W))) (pN nb M I) J) : ∀ m n N, n + m = K → N 0 7 = nI P → (∀ p, p < P → vp_in (N 6 p) 8) → n + wl P set m N = W → GW sx (na_mi MX0_wellHours) Rt 2 [some (.ref nb), some (.int set), some (.int (nI K)), some (.int (nI n))] [] (pN nb N I) J := by
  have hnb2 := hnb
  intro m
  induction m with
  | zero =>
    intro n N hn hP hpl hw
    obtain rfl : K = n := by omega
    have hz : nI K ≤ nI K := Int32.le_refl _
    rcases hnb with rfl | rfl
    all_goals
      refine GW.run kX0_wellHours (fun pc => Nat.beq pc 2) 46 2 rfl ?_
      refine And.intro (fun _ => ?_) (fun hh => absurd hz hh)
      refine ⟨trivial, ?_⟩
      rw [wl] at hw
      obtain rfl : K = W := by omega
      exact hR _
  | succ m ih =>
    intro n N hn hP hpl hw
    have hz : ¬ nI K ≤ nI n := nI_ge (by omega) (by omega)
    rcases hnb with rfl | rfl
    all_goals
      refine GW.run kX0_wellHours (fun pc => Nat.beq pc 2) 46 2 rfl ?_
      refine And.intro (fun hh => absurd hh hz) (fun _ => ?_)
      refine Mt.conseq (c_hr _ _ hnb2 N P hP hP8 hpl _ _) ?_
      rintro _ _ _ ⟨rfl, rfl, rfl⟩
      refine And.intro (fun h2 => ?_) (fun h2 => ?_)
      · -- pc 13 .ifCond .eq 5: yes
        exact GW.weak (ih (n + 1) (hrN P N) (by omega) (by rw [hrN_0 (by decide)]; exact hP) (by rw [hrN_keep (by decide)]; exact hpl) (by rw [wl, if_pos h2] at hw; omega)) ⟨rfl, rfl, rfl, by rw [nI_1], trivial⟩
      · -- pc 13 .ifCond .eq 5: no
        refine ⟨trivial, ?_⟩
        rw [wl, if_neg h2] at hw
        obtain rfl : n = W := by omega
        exact hR _
set_option maxRecDepth 100000 in
set_option maxHeartbeats 4000000 in
theorem c_wl (sx : Nat × (Nat → Int32)) (nb : Nat) (hnb : nb = 1 ∨ nb = 21) (N : Mm) (P : Nat) (hP : N 0 7 = nI P) (hP8 : P ≤ 8) (hpl : ∀ p, p < P → vp_in (N 6 p) 8) (set : Int32) (K : Nat) (hK : K ≤ 60) (I : Mm) (J : Ml) : Mt sx MX0_wellHours [.ref nb, .int set, .int (nI K)] (pN nb N I) J (fun r I' J' => (∃ M, pN nb M I = I') ∧ J = J' ∧ r = some (.int (nI (wl P set K N)))) := by
  refine Mt.of2 _ rfl (by decide +kernel) (Nat.le_of_ble_eq_true rfl) ?_
  have hnb2 := hnb
  rcases hnb with rfl | rfl
  all_goals
    refine GW.run kX0_wellHours (fun pc => Nat.beq pc 2) 46 0 rfl ?_
    exact l_wl sx _ hnb2 P hP8 set K hK I J (wl P set K N) _ (fun M => ⟨⟨M, rfl⟩, rfl, rfl⟩) K 0 N (by omega) hP hpl (by omega)
def bcn (x0 : Int32) : Int32 :=
  let u := fun (x y : Int32) => (x.toUInt32 >>> (y.toUInt32 &&& Int32.toUInt32 31)).toInt32
  let x1 := x0 - (u x0 1 &&& 1431655765)
  let x2 := (x1 &&& 858993459) + (u x1 2 &&& 858993459)
  let x3 := (x2 + u x2 4) &&& 252645135
  let x4 := x3 + u x3 8
  let x5 := x4 + u x4 16
  x5 &&& 63
set_option maxRecDepth 100000 in
set_option maxHeartbeats 4000000 in
theorem c_bcn (sx : Nat × (Nat → Int32)) (x : Int32) (I : Mm) (J : Ml) : Mt sx MJ6_bitCount_0f7a4 [.int x] I J (na_v I J (bcn x)) := by
  refine Mt.of2 _ rfl (by decide +kernel) (Nat.le_of_ble_eq_true rfl) ?_
  refine GW.run kJ6_bitCount_0f7a4 (fun _ => false) 72 0 rfl ?_
  exact ⟨trivial, rfl, rfl, rfl⟩
set_option maxRecDepth 100000 in
set_option maxHeartbeats 4000000 in
theorem c_sa (sx : Nat × (Nat → Int32)) (nb : Nat) (hnb : nb = 1 ∨ nb = 21) (N : Mm) (P : Nat) (hP : N 0 7 = nI P) (hP8 : P ≤ 8) (hpl : ∀ p, p < P → vp_in (N 6 p) 8) (K : Nat) (hK : K ≤ 60) (I : Mm) (J : Ml) : Mt sx MX0_stifledAfter [.ref nb, .int (nI K)] (pN nb N I) J (fun r I' J' => (∃ M, pN nb M I = I') ∧ J = J' ∧ r = some (.int (bcn (stf (itH P K N) P)))) := by
  refine Mt.of2 _ rfl (by decide +kernel) (Nat.le_of_ble_eq_true rfl) ?_
  have hnb2 := hnb
  rcases hnb with rfl | rfl
  all_goals
    refine GW.run kX0_stifledAfter (fun _ => false) 37 0 rfl ?_
    refine Mt.conseq (c_ph _ _ hnb2 N P hP hP8 hpl K hK _ _) ?_
    rintro _ _ _ ⟨rfl, rfl, rfl⟩
    refine Mt.conseq (c_stf _ _ hnb2 (itH P K N) P (by rw [itH_0 (by decide)]; exact hP) hP8 _ _) ?_
    rintro _ _ _ ⟨rfl, rfl, rfl⟩
    refine Mt.conseq (c_bcn _ _ _ _) ?_
    rintro _ _ _ ⟨rfl, rfl, rfl⟩
    exact ⟨trivial, ⟨_, rfl⟩, rfl, rfl⟩
set_option maxRecDepth 100000 in
set_option maxHeartbeats 4000000 in
theorem c_ror (sx : Nat × (Nat → Int32)) (nb : Nat) (hnb : nb = 1 ∨ nb = 11 ∨ nb = 21) (w : Nat) (hw : w < 4) (x : Int32) (hx : x = nI w) (I : Mm) (J : Ml) : Mt sx MX0_rowOfRooms [.ref nb, .int x] I J (fun r I' J' => I = I' ∧ J = J' ∧ r = some (.ref (nb + 1 + w))) := by
  refine Mt.of2 _ rfl (by decide +kernel) (Nat.le_of_ble_eq_true rfl) ?_
  subst hx
  obtain rfl | rfl | rfl | rfl : w = 0 ∨ w = 1 ∨ w = 2 ∨ w = 3 := by omega
  · rcases hnb with rfl | rfl | rfl
    all_goals
      refine GW.run kX0_rowOfRooms (fun _ => false) 44 0 rfl ?_
      refine And.intro (fun hh => absurd hh (by decide)) (And.intro (fun _ => ?_) (And.intro (fun hh => absurd hh (by decide)) (And.intro (fun hh => absurd hh (by decide)) (trivial))))
      exact ⟨rfl, rfl, rfl⟩
  · rcases hnb with rfl | rfl | rfl
    all_goals
      refine GW.run kX0_rowOfRooms (fun _ => false) 44 0 rfl ?_
      refine And.intro (fun hh => absurd hh (by decide)) (And.intro (fun hh => absurd hh (by decide)) (And.intro (fun _ => ?_) (And.intro (fun hh => absurd hh (by decide)) (trivial))))
      exact ⟨rfl, rfl, rfl⟩
  · rcases hnb with rfl | rfl | rfl
    all_goals
      refine GW.run kX0_rowOfRooms (fun _ => false) 44 0 rfl ?_
      refine And.intro (fun hh => absurd hh (by decide)) (And.intro (fun hh => absurd hh (by decide)) (And.intro (fun hh => absurd hh (by decide)) (And.intro (fun _ => ?_) (trivial))))
      exact ⟨rfl, rfl, rfl⟩
  · rcases hnb with rfl | rfl | rfl
    all_goals
      refine GW.run kX0_rowOfRooms (fun _ => false) 44 0 rfl ?_
      refine And.intro (fun _ => ?_) (And.intro (fun hh => absurd hh (by decide)) (And.intro (fun hh => absurd hh (by decide)) (And.intro (fun hh => absurd hh (by decide)) (trivial))))
      exact ⟨rfl, rfl, rfl⟩

set_option maxRecDepth 100000 in
set_option maxHeartbeats 4000000 in
theorem c_rop (sx : Nat × (Nat → Int32)) (nb : Nat) (hnb : nb = 1 ∨ nb = 11 ∨ nb = 21) (w : Nat) (hw : w < 5) (x : Int32) (hx : x = nI w) (I : Mm) (J : Ml) : Mt sx MX0_rowOfPeople [.ref nb, .int x] I J (fun r I' J' => I = I' ∧ J = J' ∧ r = some (.ref (nb + 5 + w))) := by
  refine Mt.of2 _ rfl (by decide +kernel) (Nat.le_of_ble_eq_true rfl) ?_
  subst hx
  obtain rfl | rfl | rfl | rfl | rfl : w = 0 ∨ w = 1 ∨ w = 2 ∨ w = 3 ∨ w = 4 := by omega
  · rcases hnb with rfl | rfl | rfl
    all_goals
      refine GW.run kX0_rowOfPeople (fun _ => false) 47 0 rfl ?_
      refine And.intro (fun hh => absurd hh (by decide)) (And.intro (fun _ => ?_) (And.intro (fun hh => absurd hh (by decide)) (And.intro (fun hh => absurd hh (by decide)) (And.intro (fun hh => absurd hh (by decide)) (trivial)))))
      exact ⟨rfl, rfl, rfl⟩
  · rcases hnb with rfl | rfl | rfl
    all_goals
      refine GW.run kX0_rowOfPeople (fun _ => false) 47 0 rfl ?_
      refine And.intro (fun hh => absurd hh (by decide)) (And.intro (fun hh => absurd hh (by decide)) (And.intro (fun _ => ?_) (And.intro (fun hh => absurd hh (by decide)) (And.intro (fun hh => absurd hh (by decide)) (trivial)))))
      exact ⟨rfl, rfl, rfl⟩
  · rcases hnb with rfl | rfl | rfl
    all_goals
      refine GW.run kX0_rowOfPeople (fun _ => false) 47 0 rfl ?_
      refine And.intro (fun hh => absurd hh (by decide)) (And.intro (fun hh => absurd hh (by decide)) (And.intro (fun hh => absurd hh (by decide)) (And.intro (fun _ => ?_) (And.intro (fun hh => absurd hh (by decide)) (trivial)))))
      exact ⟨rfl, rfl, rfl⟩
  · rcases hnb with rfl | rfl | rfl
    all_goals
      refine GW.run kX0_rowOfPeople (fun _ => false) 47 0 rfl ?_
      refine And.intro (fun hh => absurd hh (by decide)) (And.intro (fun hh => absurd hh (by decide)) (And.intro (fun hh => absurd hh (by decide)) (And.intro (fun hh => absurd hh (by decide)) (And.intro (fun _ => ?_) (trivial)))))
      exact ⟨rfl, rfl, rfl⟩
  · rcases hnb with rfl | rfl | rfl
    all_goals
      refine GW.run kX0_rowOfPeople (fun _ => false) 47 0 rfl ?_
      refine And.intro (fun _ => ?_) (And.intro (fun hh => absurd hh (by decide)) (And.intro (fun hh => absurd hh (by decide)) (And.intro (fun hh => absurd hh (by decide)) (And.intro (fun hh => absurd hh (by decide)) (trivial)))))
      exact ⟨rfl, rfl, rfl⟩

set_option maxRecDepth 100000 in
set_option maxHeartbeats 4000000 in
theorem c_full (sx : Nat × (Nat → Int32)) (nb : Nat) (hnb : nb = 1 ∨ nb = 21) (N I : Mm) (J : Ml) : Mt sx MX0_isFull [.ref nb] (pN nb N I) J (na_b (pN nb N I) J (8 ≤ N 0 7)) := by
  refine Mt.of2 _ rfl (by decide +kernel) (Nat.le_of_ble_eq_true rfl) ?_
  have hnb2 := hnb
  rcases hnb with rfl | rfl
  all_goals
    refine GW.run kX0_isFull (fun _ => false) 38 0 rfl ?_
    refine And.intro (fun h1 => ?_) (fun h1 => ?_)
    · -- pc 6 .if_icmp .lt 7: yes
      exact ⟨na_nl_b0, rfl, rfl, Or.inr ⟨fun q => absurd q (Int32.not_le.mpr h1), rfl⟩⟩
    · -- pc 6 .if_icmp .lt 7: no
      exact ⟨na_nl_b1, rfl, rfl, Or.inl ⟨Int32.not_lt.mp h1, rfl⟩⟩
def tdW (N : Mm) (d : Int32) : Int32 := (N 0 4 >>> (d &&& 31)) &&& 1
def tdN (N : Mm) (d v : Int32) : Mm := na_set N 0 4 (N 0 4 ^^^ ((tdW N d ^^^ v) <<< (d &&& 31)))
set_option maxRecDepth 100000 in
set_option maxHeartbeats 4000000 in
theorem c_td (sx : Nat × (Nat → Int32)) (nb : Nat) (hnb : nb = 1 ∨ nb = 21) (d v : Int32) (N I : Mm) (J : Ml) : Mt sx MX0_turnDoor [.ref nb, .int d, .int v] (pN nb N I) J (fun r I' J' => pN nb (tdN N d v) I = I' ∧ J = J' ∧ r = some (.int (tdW N d))) := by
  refine Mt.of2 _ rfl (by decide +kernel) (Nat.le_of_ble_eq_true rfl) ?_
  have hnb2 := hnb
  rcases hnb with rfl | rfl
  all_goals
    refine GW.run kX0_turnDoor (fun _ => false) 49 0 rfl ?_
    refine ⟨trivial, ?_, rfl, rfl⟩
    simp only [pNg_1_0, pNs_1_0, pNg_1_1, pNs_1_1, pNg_1_2, pNs_1_2, pNg_1_3, pNs_1_3, pNg_1_4, pNs_1_4, pNg_1_5, pNs_1_5, pNg_1_6, pNs_1_6, pNg_1_7, pNs_1_7, pNg_1_8, pNs_1_8, pNg_1_9, pNs_1_9, pNg_21_0, pNs_21_0, pNg_21_1, pNs_21_1, pNg_21_2, pNs_21_2, pNg_21_3, pNs_21_3, pNg_21_4, pNs_21_4, pNg_21_5, pNs_21_5, pNg_21_6, pNs_21_6, pNg_21_7, pNs_21_7, pNg_21_8, pNs_21_8, pNg_21_9, pNs_21_9, na_h1, na_h2, na_h0, List.tail_cons]
    rfl
def adN (N : Mm) (P : Nat) (kd rm nd : Int32) : Mm := na_set (na_set (na_set (na_set (na_set (na_set N 5 P kd) 6 P rm) 7 P nd) 8 P 0) 9 P 0) 0 7 (nI (P + 1))
set_option maxRecDepth 100000 in
set_option maxHeartbeats 4000000 in
theorem c_add (sx : Nat × (Nat → Int32)) (nb : Nat) (hnb : nb = 1 ∨ nb = 21) (kd rm nd : Int32) (N : Mm) (P : Nat) (hP : N 0 7 = nI P) (hP7 : P < 8) (I : Mm) (J : Ml) : Mt sx MX0_add [.ref nb, .int kd, .int rm, .int nd] (pN nb N I) J (fun r I' J' => pN nb (adN N P kd rm nd) I = I' ∧ J = J' ∧ r = some (.int (nI P))) := by
  refine Mt.of2 _ rfl (by decide +kernel) (Nat.le_of_ble_eq_true rfl) ?_
  have hnb2 := hnb
  rcases hnb with rfl | rfl
  all_goals
    have hb : vp_in (N 0 7) 8 := by rw [hP]; exact vp_in_nI (by omega) (by omega)
    have hc := nI_clamp (n := P) (by omega)
    refine GW.run kX0_add (fun _ => false) 66 0 rfl ?_
    refine And.intro (hb) ?_
    refine And.intro (hb) ?_
    refine And.intro (hb) ?_
    refine And.intro (hb) ?_
    refine And.intro (hb) ?_
    refine ⟨trivial, ?_, rfl, ?_⟩
    · simp only [pNg_1_0, pNs_1_0, pNg_1_1, pNs_1_1, pNg_1_2, pNs_1_2, pNg_1_3, pNs_1_3, pNg_1_4, pNs_1_4, pNg_1_5, pNs_1_5, pNg_1_6, pNs_1_6, pNg_1_7, pNs_1_7, pNg_1_8, pNs_1_8, pNg_1_9, pNs_1_9, pNg_21_0, pNs_21_0, pNg_21_1, pNs_21_1, pNg_21_2, pNs_21_2, pNg_21_3, pNs_21_3, pNg_21_4, pNs_21_4, pNg_21_5, pNs_21_5, pNg_21_6, pNs_21_6, pNg_21_7, pNs_21_7, pNg_21_8, pNs_21_8, pNg_21_9, pNs_21_9, na_h1, na_h2, na_h0, List.tail_cons]
      simp only [na_set_off, ne_eq, Nat.reduceEqDiff, not_false_eq_true, hP, hc, nI_1, adN]
      try rfl
    · rw [show pN _ N I _ _ = N 0 7 from rfl, hP]
end
section
theorem pN_cp {nb k pl : Nat} {N I : Mm} {a b c : Nat} (hk : k < 10) (hp : pl = nb + k) : na_cpI (pN nb N I) pl pl a b c = pN nb (na_cpI N k k a b c) I := by
  subst hp
  funext x
  by_cases h : nb ≤ x ∧ x ≤ nb + 9
  · rw [pN_in h]
    unfold na_cpI
    by_cases hx : x = nb + k
    · subst hx
      rw [if_pos rfl, if_pos (by omega), pN_in (by omega)]
      simp
    · rw [if_neg hx, if_neg (by omega), pN_in h]
  · rw [pN_out h]
    unfold na_cpI
    rw [if_neg (by omega), pN_out h]
theorem pNc_1_5 {N I : Mm} {a b c : Nat} : na_cpI (pN 1 N I) 6 6 a b c = pN 1 (na_cpI N 5 5 a b c) I := pN_cp (by decide) rfl
theorem pNc_1_6 {N I : Mm} {a b c : Nat} : na_cpI (pN 1 N I) 7 7 a b c = pN 1 (na_cpI N 6 6 a b c) I := pN_cp (by decide) rfl
theorem pNc_1_7 {N I : Mm} {a b c : Nat} : na_cpI (pN 1 N I) 8 8 a b c = pN 1 (na_cpI N 7 7 a b c) I := pN_cp (by decide) rfl
theorem pNc_1_8 {N I : Mm} {a b c : Nat} : na_cpI (pN 1 N I) 9 9 a b c = pN 1 (na_cpI N 8 8 a b c) I := pN_cp (by decide) rfl
theorem pNc_1_9 {N I : Mm} {a b c : Nat} : na_cpI (pN 1 N I) 10 10 a b c = pN 1 (na_cpI N 9 9 a b c) I := pN_cp (by decide) rfl
theorem pNc_21_5 {N I : Mm} {a b c : Nat} : na_cpI (pN 21 N I) 26 26 a b c = pN 21 (na_cpI N 5 5 a b c) I := pN_cp (by decide) rfl
theorem pNc_21_6 {N I : Mm} {a b c : Nat} : na_cpI (pN 21 N I) 27 27 a b c = pN 21 (na_cpI N 6 6 a b c) I := pN_cp (by decide) rfl
theorem pNc_21_7 {N I : Mm} {a b c : Nat} : na_cpI (pN 21 N I) 28 28 a b c = pN 21 (na_cpI N 7 7 a b c) I := pN_cp (by decide) rfl
theorem pNc_21_8 {N I : Mm} {a b c : Nat} : na_cpI (pN 21 N I) 29 29 a b c = pN 21 (na_cpI N 8 8 a b c) I := pN_cp (by decide) rfl
theorem pNc_21_9 {N I : Mm} {a b c : Nat} : na_cpI (pN 21 N I) 30 30 a b c = pN 21 (na_cpI N 9 9 a b c) I := pN_cp (by decide) rfl
def rmN (N : Mm) (P p : Nat) : Mm := na_set (na_cpI (na_cpI (na_cpI (na_cpI (na_cpI N 5 5 (p + 1) p (P - p - 1)) 6 6 (p + 1) p (P - p - 1)) 7 7 (p + 1) p (P - p - 1)) 8 8 (p + 1) p (P - p - 1)) 9 9 (p + 1) p (P - p - 1)) 0 7 (nI (P - 1))
/-- what is moved of row w -/
def rmR (P p : Nat) (N : Mm) (w : Nat) : Mm := na_cpI N (5 + w) (5 + w) (p + 1) p (P - p - 1)
theorem rmR_0 (P p : Nat) (N : Mm) (w : Nat) : rmR P p N w 0 = N 0 := by
  unfold rmR
  rw [na_cpI_off (by omega)]
set_option maxRecDepth 100000 in
set_option maxHeartbeats 4000000 in
theorem l_rm5 (sx : Nat × (Nat → Int32)) (nb : Nat) (hnb : nb = 1 ∨ nb = 21) (N : Mm) (P p : Nat) (hP8 : P ≤ 8) (hp : p < P) (I : Mm) (J : Ml) (Rt : Option Value → Mm → Ml → Prop) (hR : Rt none (pN nb (na_set (itN (rmR P p) 5 N) 0 7 (N 0 7 - 1)) I) J) : GW sx (na_mi MX0_remove) Rt 11 [some (.ref nb), some (.int (nI p)), some (.int (nI (P - p - 1))), some (.int 5), none] [] (pN nb (itN (rmR P p) 5 N) I) J := by
  have e1 : nI p + 1 = nI (p + 1) := nI_1 p
  have hcp : ¬ nI p + 1 < 0 ∧ ¬ nI p < 0 ∧ ¬ nI (P - p - 1) < 0 ∧ (nI p + 1).toNatClampNeg + (nI (P - p - 1)).toNatClampNeg ≤ 8 ∧ (nI p).toNatClampNeg + (nI (P - p - 1)).toNatClampNeg ≤ 8 := by
    rw [e1, nI_clamp (n := p + 1) (by omega), nI_clamp (n := p) (by omega), nI_clamp (n := P - p - 1) (by omega)]
    exact ⟨nI_pos (by omega), nI_pos (by omega), nI_pos (by omega), by omega, by omega⟩
  have hc1 := nI_clamp (n := p + 1) (by omega)
  have hc2 := nI_clamp (n := p) (by omega)
  have hc3 := nI_clamp (n := P - p - 1) (by omega)
  have hnb2 := hnb
  rcases hnb with rfl | rfl
  all_goals
    refine GW.run kX0_remove (fun pc => Nat.beq pc 11) 63 9 rfl ?_
    refine And.intro (fun _ => ?_) (fun hh => absurd hh (by decide))
    refine Eq.mp (congrArg (fun X => Rt none X J) ?_) hR
    simp only [pNg_1_0, pNs_1_0, pNg_1_1, pNs_1_1, pNg_1_2, pNs_1_2, pNg_1_3, pNs_1_3, pNg_1_4, pNs_1_4, pNg_1_5, pNs_1_5, pNg_1_6, pNs_1_6, pNg_1_7, pNs_1_7, pNg_1_8, pNs_1_8, pNg_1_9, pNs_1_9, pNg_21_0, pNs_21_0, pNg_21_1, pNs_21_1, pNg_21_2, pNs_21_2, pNg_21_3, pNs_21_3, pNg_21_4, pNs_21_4, pNg_21_5, pNs_21_5, pNg_21_6, pNs_21_6, pNg_21_7, pNs_21_7, pNg_21_8, pNs_21_8, pNg_21_9, pNs_21_9, na_h1, na_h2, na_h0, List.tail_cons]
    simp only [itN, rmR_0]
set_option maxRecDepth 100000 in
set_option maxHeartbeats 4000000 in
theorem l_rm4 (sx : Nat × (Nat → Int32)) (nb : Nat) (hnb : nb = 1 ∨ nb = 21) (N : Mm) (P p : Nat) (hP8 : P ≤ 8) (hp : p < P) (I : Mm) (J : Ml) (Rt : Option Value → Mm → Ml → Prop) (hR : Rt none (pN nb (na_set (itN (rmR P p) 5 N) 0 7 (N 0 7 - 1)) I) J) : GW sx (na_mi MX0_remove) Rt 11 [some (.ref nb), some (.int (nI p)), some (.int (nI (P - p - 1))), some (.int 4), none] [] (pN nb (itN (rmR P p) 4 N) I) J := by
  have e1 : nI p + 1 = nI (p + 1) := nI_1 p
  have hcp : ¬ nI p + 1 < 0 ∧ ¬ nI p < 0 ∧ ¬ nI (P - p - 1) < 0 ∧ (nI p + 1).toNatClampNeg + (nI (P - p - 1)).toNatClampNeg ≤ 8 ∧ (nI p).toNatClampNeg + (nI (P - p - 1)).toNatClampNeg ≤ 8 := by
    rw [e1, nI_clamp (n := p + 1) (by omega), nI_clamp (n := p) (by omega), nI_clamp (n := P - p - 1) (by omega)]
    exact ⟨nI_pos (by omega), nI_pos (by omega), nI_pos (by omega), by omega, by omega⟩
  have hc1 := nI_clamp (n := p + 1) (by omega)
  have hc2 := nI_clamp (n := p) (by omega)
  have hc3 := nI_clamp (n := P - p - 1) (by omega)
  have hnb2 := hnb
  rcases hnb with rfl | rfl
  all_goals
    refine GW.run kX0_remove (fun pc => Nat.beq pc 11) 63 9 rfl ?_
    refine And.intro (fun hh => absurd hh (by decide)) (fun _ => ?_)
    refine Mt.conseq (c_rop _ _ (by first | exact Or.inl rfl | exact Or.inr (Or.inr rfl)) 4 (by decide) _ (by decide) _ _) ?_
    rintro _ _ _ ⟨rfl, rfl, rfl⟩
    refine And.intro (hcp) ?_
    refine GW.weak (GW.eqI ?_ (l_rm5 sx _ hnb2 N P p hP8 hp I J Rt hR)) ⟨rfl, rfl, rfl, by decide, trivial⟩
    simp only [Nat.reduceAdd, Nat.add_zero, pNc_1_5, pNc_1_6, pNc_1_7, pNc_1_8, pNc_1_9, pNc_21_5, pNc_21_6, pNc_21_7, pNc_21_8, pNc_21_9, pNg_1_0, pNs_1_0, pNg_1_1, pNs_1_1, pNg_1_2, pNs_1_2, pNg_1_3, pNs_1_3, pNg_1_4, pNs_1_4, pNg_1_5, pNs_1_5, pNg_1_6, pNs_1_6, pNg_1_7, pNs_1_7, pNg_1_8, pNs_1_8, pNg_1_9, pNs_1_9, pNg_21_0, pNs_21_0, pNg_21_1, pNs_21_1, pNg_21_2, pNs_21_2, pNg_21_3, pNs_21_3, pNg_21_4, pNs_21_4, pNg_21_5, pNs_21_5, pNg_21_6, pNs_21_6, pNg_21_7, pNs_21_7, pNg_21_8, pNs_21_8, pNg_21_9, pNs_21_9, na_h1, na_h2, na_h0, List.tail_cons, e1, hc1, hc2, hc3, itN, rmR]
set_option maxRecDepth 100000 in
set_option maxHeartbeats 4000000 in
theorem l_rm3 (sx : Nat × (Nat → Int32)) (nb : Nat) (hnb : nb = 1 ∨ nb = 21) (N : Mm) (P p : Nat) (hP8 : P ≤ 8) (hp : p < P) (I : Mm) (J : Ml) (Rt : Option Value → Mm → Ml → Prop) (hR : Rt none (pN nb (na_set (itN (rmR P p) 5 N) 0 7 (N 0 7 - 1)) I) J) : GW sx (na_mi MX0_remove) Rt 11 [some (.ref nb), some (.int (nI p)), some (.int (nI (P - p - 1))), some (.int 3), none] [] (pN nb (itN (rmR P p) 3 N) I) J := by
  have e1 : nI p + 1 = nI (p + 1) := nI_1 p
  have hcp : ¬ nI p + 1 < 0 ∧ ¬ nI p < 0 ∧ ¬ nI (P - p - 1) < 0 ∧ (nI p + 1).toNatClampNeg + (nI (P - p - 1)).toNatClampNeg ≤ 8 ∧ (nI p).toNatClampNeg + (nI (P - p - 1)).toNatClampNeg ≤ 8 := by
    rw [e1, nI_clamp (n := p + 1) (by omega), nI_clamp (n := p) (by omega), nI_clamp (n := P - p - 1) (by omega)]
    exact ⟨nI_pos (by omega), nI_pos (by omega), nI_pos (by omega), by omega, by omega⟩
  have hc1 := nI_clamp (n := p + 1) (by omega)
  have hc2 := nI_clamp (n := p) (by omega)
  have hc3 := nI_clamp (n := P - p - 1) (by omega)
  have hnb2 := hnb
  rcases hnb with rfl | rfl
  all_goals
    refine GW.run kX0_remove (fun pc => Nat.beq pc 11) 63 9 rfl ?_
    refine And.intro (fun hh => absurd hh (by decide)) (fun _ => ?_)
    refine Mt.conseq (c_rop _ _ (by first | exact Or.inl rfl | exact Or.inr (Or.inr rfl)) 3 (by decide) _ (by decide) _ _) ?_
    rintro _ _ _ ⟨rfl, rfl, rfl⟩
    refine And.intro (hcp) ?_
    refine GW.weak (GW.eqI ?_ (l_rm4 sx _ hnb2 N P p hP8 hp I J Rt hR)) ⟨rfl, rfl, rfl, by decide, trivial⟩
    simp only [Nat.reduceAdd, Nat.add_zero, pNc_1_5, pNc_1_6, pNc_1_7, pNc_1_8, pNc_1_9, pNc_21_5, pNc_21_6, pNc_21_7, pNc_21_8, pNc_21_9, pNg_1_0, pNs_1_0, pNg_1_1, pNs_1_1, pNg_1_2, pNs_1_2, pNg_1_3, pNs_1_3, pNg_1_4, pNs_1_4, pNg_1_5, pNs_1_5, pNg_1_6, pNs_1_6, pNg_1_7, pNs_1_7, pNg_1_8, pNs_1_8, pNg_1_9, pNs_1_9, pNg_21_0, pNs_21_0, pNg_21_1, pNs_21_1, pNg_21_2, pNs_21_2, pNg_21_3, pNs_21_3, pNg_21_4, pNs_21_4, pNg_21_5, pNs_21_5, pNg_21_6, pNs_21_6, pNg_21_7, pNs_21_7, pNg_21_8, pNs_21_8, pNg_21_9, pNs_21_9, na_h1, na_h2, na_h0, List.tail_cons, e1, hc1, hc2, hc3, itN, rmR]
set_option maxRecDepth 100000 in
set_option maxHeartbeats 4000000 in
theorem l_rm2 (sx : Nat × (Nat → Int32)) (nb : Nat) (hnb : nb = 1 ∨ nb = 21) (N : Mm) (P p : Nat) (hP8 : P ≤ 8) (hp : p < P) (I : Mm) (J : Ml) (Rt : Option Value → Mm → Ml → Prop) (hR : Rt none (pN nb (na_set (itN (rmR P p) 5 N) 0 7 (N 0 7 - 1)) I) J) : GW sx (na_mi MX0_remove) Rt 11 [some (.ref nb), some (.int (nI p)), some (.int (nI (P - p - 1))), some (.int 2), none] [] (pN nb (itN (rmR P p) 2 N) I) J := by
  have e1 : nI p + 1 = nI (p + 1) := nI_1 p
  have hcp : ¬ nI p + 1 < 0 ∧ ¬ nI p < 0 ∧ ¬ nI (P - p - 1) < 0 ∧ (nI p + 1).toNatClampNeg + (nI (P - p - 1)).toNatClampNeg ≤ 8 ∧ (nI p).toNatClampNeg + (nI (P - p - 1)).toNatClampNeg ≤ 8 := by
    rw [e1, nI_clamp (n := p + 1) (by omega), nI_clamp (n := p) (by omega), nI_clamp (n := P - p - 1) (by omega)]
    exact ⟨nI_pos (by omega), nI_pos (by omega), nI_pos (by omega), by omega, by omega⟩
  have hc1 := nI_clamp (n := p + 1) (by omega)
  have hc2 := nI_clamp (n := p) (by omega)
  have hc3 := nI_clamp (n := P - p - 1) (by omega)
  have hnb2 := hnb
  rcases hnb with rfl | rfl
  all_goals
    refine GW.run kX0_remove (fun pc => Nat.beq pc 11) 63 9 rfl ?_
    refine And.intro (fun hh => absurd hh (by decide)) (fun _ => ?_)
    refine Mt.conseq (c_rop _ _ (by first | exact Or.inl rfl | exact Or.inr (Or.inr rfl)) 2 (by decide) _ (by decide) _ _) ?_
    rintro _ _ _ ⟨rfl, rfl, rfl⟩
    refine And.intro (hcp) ?_
    refine GW.weak (GW.eqI ?_ (l_rm3 sx _ hnb2 N P p hP8 hp I J Rt hR)) ⟨rfl, rfl, rfl, by decide, trivial⟩
    simp only [Nat.reduceAdd, Nat.add_zero, pNc_1_5, pNc_1_6, pNc_1_7, pNc_1_8, pNc_1_9, pNc_21_5, pNc_21_6, pNc_21_7, pNc_21_8, pNc_21_9, pNg_1_0, pNs_1_0, pNg_1_1, pNs_1_1, pNg_1_2, pNs_1_2, pNg_1_3, pNs_1_3, pNg_1_4, pNs_1_4, pNg_1_5, pNs_1_5, pNg_1_6, pNs_1_6, pNg_1_7, pNs_1_7, pNg_1_8, pNs_1_8, pNg_1_9, pNs_1_9, pNg_21_0, pNs_21_0, pNg_21_1, pNs_21_1, pNg_21_2, pNs_21_2, pNg_21_3, pNs_21_3, pNg_21_4, pNs_21_4, pNg_21_5, pNs_21_5, pNg_21_6, pNs_21_6, pNg_21_7, pNs_21_7, pNg_21_8, pNs_21_8, pNg_21_9, pNs_21_9, na_h1, na_h2, na_h0, List.tail_cons, e1, hc1, hc2, hc3, itN, rmR]
set_option maxRecDepth 100000 in
set_option maxHeartbeats 4000000 in
theorem l_rm1 (sx : Nat × (Nat → Int32)) (nb : Nat) (hnb : nb = 1 ∨ nb = 21) (N : Mm) (P p : Nat) (hP8 : P ≤ 8) (hp : p < P) (I : Mm) (J : Ml) (Rt : Option Value → Mm → Ml → Prop) (hR : Rt none (pN nb (na_set (itN (rmR P p) 5 N) 0 7 (N 0 7 - 1)) I) J) : GW sx (na_mi MX0_remove) Rt 11 [some (.ref nb), some (.int (nI p)), some (.int (nI (P - p - 1))), some (.int 1), none] [] (pN nb (itN (rmR P p) 1 N) I) J := by
  have e1 : nI p + 1 = nI (p + 1) := nI_1 p
  have hcp : ¬ nI p + 1 < 0 ∧ ¬ nI p < 0 ∧ ¬ nI (P - p - 1) < 0 ∧ (nI p + 1).toNatClampNeg + (nI (P - p - 1)).toNatClampNeg ≤ 8 ∧ (nI p).toNatClampNeg + (nI (P - p - 1)).toNatClampNeg ≤ 8 := by
    rw [e1, nI_clamp (n := p + 1) (by omega), nI_clamp (n := p) (by omega), nI_clamp (n := P - p - 1) (by omega)]
    exact ⟨nI_pos (by omega), nI_pos (by omega), nI_pos (by omega), by omega, by omega⟩
  have hc1 := nI_clamp (n := p + 1) (by omega)
  have hc2 := nI_clamp (n := p) (by omega)
  have hc3 := nI_clamp (n := P - p - 1) (by omega)
  have hnb2 := hnb
  rcases hnb with rfl | rfl
  all_goals
    refine GW.run kX0_remove (fun pc => Nat.beq pc 11) 63 9 rfl ?_
    refine And.intro (fun hh => absurd hh (by decide)) (fun _ => ?_)
    refine Mt.conseq (c_rop _ _ (by first | exact Or.inl rfl | exact Or.inr (Or.inr rfl)) 1 (by decide) _ (by decide) _ _) ?_
    rintro _ _ _ ⟨rfl, rfl, rfl⟩
    refine And.intro (hcp) ?_
    refine GW.weak (GW.eqI ?_ (l_rm2 sx _ hnb2 N P p hP8 hp I J Rt hR)) ⟨rfl, rfl, rfl, by decide, trivial⟩
    simp only [Nat.reduceAdd, Nat.add_zero, pNc_1_5, pNc_1_6, pNc_1_7, pNc_1_8, pNc_1_9, pNc_21_5, pNc_21_6, pNc_21_7, pNc_21_8, pNc_21_9, pNg_1_0, pNs_1_0, pNg_1_1, pNs_1_1, pNg_1_2, pNs_1_2, pNg_1_3, pNs_1_3, pNg_1_4, pNs_1_4, pNg_1_5, pNs_1_5, pNg_1_6, pNs_1_6, pNg_1_7, pNs_1_7, pNg_1_8, pNs_1_8, pNg_1_9, pNs_1_9, pNg_21_0, pNs_21_0, pNg_21_1, pNs_21_1, pNg_21_2, pNs_21_2, pNg_21_3, pNs_21_3, pNg_21_4, pNs_21_4, pNg_21_5, pNs_21_5, pNg_21_6, pNs_21_6, pNg_21_7, pNs_21_7, pNg_21_8, pNs_21_8, pNg_21_9, pNs_21_9, na_h1, na_h2, na_h0, List.tail_cons, e1, hc1, hc2, hc3, itN, rmR]
set_option maxRecDepth 100000 in
set_option maxHeartbeats 4000000 in
theorem l_rm0 (sx : Nat × (Nat → Int32)) (nb : Nat) (hnb : nb = 1 ∨ nb = 21) (N : Mm) (P p : Nat) (hP8 : P ≤ 8) (hp : p < P) (I : Mm) (J : Ml) (Rt : Option Value → Mm → Ml → Prop) (hR : Rt none (pN nb (na_set (itN (rmR P p) 5 N) 0 7 (N 0 7 - 1)) I) J) : GW sx (na_mi MX0_remove) Rt 11 [some (.ref nb), some (.int (nI p)), some (.int (nI (P - p - 1))), some (.int 0), none] [] (pN nb (itN (rmR P p) 0 N) I) J := by
  have e1 : nI p + 1 = nI (p + 1) := nI_1 p
  have hcp : ¬ nI p + 1 < 0 ∧ ¬ nI p < 0 ∧ ¬ nI (P - p - 1) < 0 ∧ (nI p + 1).toNatClampNeg + (nI (P - p - 1)).toNatClampNeg ≤ 8 ∧ (nI p).toNatClampNeg + (nI (P - p - 1)).toNatClampNeg ≤ 8 := by
    rw [e1, nI_clamp (n := p + 1) (by omega), nI_clamp (n := p) (by omega), nI_clamp (n := P - p - 1) (by omega)]
    exact ⟨nI_pos (by omega), nI_pos (by omega), nI_pos (by omega), by omega, by omega⟩
  have hc1 := nI_clamp (n := p + 1) (by omega)
  have hc2 := nI_clamp (n := p) (by omega)
  have hc3 := nI_clamp (n := P - p - 1) (by omega)
  have hnb2 := hnb
  rcases hnb with rfl | rfl
  all_goals
    refine GW.run kX0_remove (fun pc => Nat.beq pc 11) 63 9 rfl ?_
    refine And.intro (fun hh => absurd hh (by decide)) (fun _ => ?_)
    refine Mt.conseq (c_rop _ _ (by first | exact Or.inl rfl | exact Or.inr (Or.inr rfl)) 0 (by decide) _ (by decide) _ _) ?_
    rintro _ _ _ ⟨rfl, rfl, rfl⟩
    refine And.intro (hcp) ?_
    refine GW.weak (GW.eqI ?_ (l_rm1 sx _ hnb2 N P p hP8 hp I J Rt hR)) ⟨rfl, rfl, rfl, by decide, trivial⟩
    simp only [Nat.reduceAdd, Nat.add_zero, pNc_1_5, pNc_1_6, pNc_1_7, pNc_1_8, pNc_1_9, pNc_21_5, pNc_21_6, pNc_21_7, pNc_21_8, pNc_21_9, pNg_1_0, pNs_1_0, pNg_1_1, pNs_1_1, pNg_1_2, pNs_1_2, pNg_1_3, pNs_1_3, pNg_1_4, pNs_1_4, pNg_1_5, pNs_1_5, pNg_1_6, pNs_1_6, pNg_1_7, pNs_1_7, pNg_1_8, pNs_1_8, pNg_1_9, pNs_1_9, pNg_21_0, pNs_21_0, pNg_21_1, pNs_21_1, pNg_21_2, pNs_21_2, pNg_21_3, pNs_21_3, pNg_21_4, pNs_21_4, pNg_21_5, pNs_21_5, pNg_21_6, pNs_21_6, pNg_21_7, pNs_21_7, pNg_21_8, pNs_21_8, pNg_21_9, pNs_21_9, na_h1, na_h2, na_h0, List.tail_cons, e1, hc1, hc2, hc3, itN, rmR]
def rmN2 (N : Mm) (P p : Nat) : Mm := na_set (itN (rmR P p) 5 N) 0 7 (N 0 7 - 1)
set_option maxRecDepth 100000 in
set_option maxHeartbeats 4000000 in
theorem c_rm (sx : Nat × (Nat → Int32)) (nb : Nat) (hnb : nb = 1 ∨ nb = 21) (N : Mm) (P : Nat) (hP : N 0 7 = nI P) (hP8 : P ≤ 8) (p : Nat) (hp : p < P) (I : Mm) (J : Ml) : Mt sx MX0_remove [.ref nb, .int (nI p)] (pN nb N I) J (fun r I' J' => pN nb (rmN2 N P p) I = I' ∧ J = J' ∧ r = none) := by
  refine Mt.of2 _ rfl (by decide +kernel) (Nat.le_of_ble_eq_true rfl) ?_
  have hnb2 := hnb
  rcases hnb with rfl | rfl
  all_goals
    have e2 : N 0 7 - nI p - 1 = nI (P - p - 1) := by
      rw [hP]
      have h1 : nI P = nI (P - p - 1) + 1 + nI p := by rw [nI_1, nI_add]; congr 1; omega
      rw [h1]
      apply Int32.toBitVec_inj.mp
      simp only [Int32.toBitVec_sub, Int32.toBitVec_add]
      generalize (nI (P - p - 1)).toBitVec = x
      generalize (nI p).toBitVec = y
      generalize (1 : Int32).toBitVec = z
      rw [BitVec.add_sub_cancel, BitVec.add_sub_cancel]
    refine GW.run kX0_remove (fun pc => Nat.beq pc 11) 63 0 rfl ?_
    exact GW.weak (l_rm0 sx _ hnb2 N P p hP8 hp I J _ ⟨rfl, rfl, rfl⟩) ⟨rfl, rfl, by simp only [pNg_1_0, pNs_1_0, pNg_1_1, pNs_1_1, pNg_1_2, pNs_1_2, pNg_1_3, pNs_1_3, pNg_1_4, pNs_1_4, pNg_1_5, pNs_1_5, pNg_1_6, pNs_1_6, pNg_1_7, pNs_1_7, pNg_1_8, pNs_1_8, pNg_1_9, pNs_1_9, pNg_21_0, pNs_21_0, pNg_21_1, pNs_21_1, pNg_21_2, pNs_21_2, pNg_21_3, pNs_21_3, pNg_21_4, pNs_21_4, pNg_21_5, pNs_21_5, pNg_21_6, pNs_21_6, pNg_21_7, pNs_21_7, pNg_21_8, pNs_21_8, pNg_21_9, pNs_21_9, na_h1, na_h2, na_h0, List.tail_cons]; rw [e2], rfl, trivial⟩
end
section
/-! BECOME -/
/-- M is as B is, in all that is told of a night of P people -/
def Agr (P : Nat) (M B : Mm) : Prop := (∀ j, 4 ≤ j → j < 8 → M 0 j = B 0 j) ∧ (∀ k j, 1 ≤ k → k < 5 → j < 8 → M k j = B k j) ∧ ∀ k j, 5 ≤ k → k < 10 → j < P → M k j = B k j
theorem pN_of {nb : Nat} {F I : Mm} (h : ∀ a, ¬ (nb ≤ a ∧ a ≤ nb + 9) → F a = I a) : pN nb (gN nb F) I = F := by
  funext a
  by_cases ha : nb ≤ a ∧ a ≤ nb + 9
  · rw [pN_in ha, gN, show nb + (a - nb) = a by omega]
  · rw [pN_out ha, h a ha]
def bcA (nb ob : Nat) (I : Mm) (w : Nat) : Mm := na_cpI I (ob + 1 + w) (nb + 1 + w) 0 0 8
def bcB (P nb ob : Nat) (I : Mm) (w : Nat) : Mm := na_cpI I (ob + 5 + w) (nb + 5 + w) 0 0 P
def bcS (nb ob : Nat) (I : Mm) : Mm := na_set (na_set (na_set (na_set I nb 4 (I ob 4)) nb 5 (I ob 5)) nb 6 (I ob 6)) nb 7 (I ob 7)
theorem z8 : (8 : Int32).toNatClampNeg = 8 := by decide
theorem z0 : (0 : Int32).toNatClampNeg = 0 := by decide
theorem bcP_21_1 (P : Nat) (I : Mm) (hP : I 1 7 = nI P) : ∀ w, w ≤ 5 → itN (bcB P 21 1) w (bcS 21 1 (itN (bcA 21 1) 4 I)) 21 7 = nI P := by
  intro w
  induction w with
  | zero =>
    intro _
    rw [← hP]
    rfl
  | succ w ih =>
    intro h
    rw [itN, bcB, na_cpI_off (by omega)]
    exact ih (by omega)
set_option maxRecDepth 100000 in
set_option maxHeartbeats 4000000 in
theorem l_bb21_1_5 (sx : Nat × (Nat → Int32)) (P : Nat) (hP8 : P ≤ 8) (I : Mm) (hP : I 1 7 = nI P) (J : Ml) (Rt : Option Value → Mm → Ml → Prop) (hR : Rt none (itN (bcB P 21 1) 5 (bcS 21 1 (itN (bcA 21 1) 4 I))) J) : GW sx (na_mi MX0_become) Rt 64 [some (.ref 21), some (.ref 1), some (.int 5)] [] (itN (bcB P 21 1) 5 (bcS 21 1 (itN (bcA 21 1) 4 I))) J := by
  have hc := nI_clamp (n := P) (by omega)
  have hcp : ¬ (0 : Int32) < 0 ∧ ¬ (0 : Int32) < 0 ∧ ¬ nI P < 0 ∧ (0 : Int32).toNatClampNeg + (nI P).toNatClampNeg ≤ 8 ∧ (0 : Int32).toNatClampNeg + (nI P).toNatClampNeg ≤ 8 := by
    rw [hc, z0]
    exact ⟨by decide, by decide, nI_pos (by omega), by omega, by omega⟩
  refine GW.run kX0_become (fun pc => Nat.beq pc 2 || Nat.beq pc 64) 82 35 rfl ?_
  refine And.intro (fun _ => ?_) (fun hh => absurd hh (by decide))
  exact hR
set_option maxRecDepth 100000 in
set_option maxHeartbeats 4000000 in
theorem l_bb21_1_4 (sx : Nat × (Nat → Int32)) (P : Nat) (hP8 : P ≤ 8) (I : Mm) (hP : I 1 7 = nI P) (J : Ml) (Rt : Option Value → Mm → Ml → Prop) (hR : Rt none (itN (bcB P 21 1) 5 (bcS 21 1 (itN (bcA 21 1) 4 I))) J) : GW sx (na_mi MX0_become) Rt 64 [some (.ref 21), some (.ref 1), some (.int 4)] [] (itN (bcB P 21 1) 4 (bcS 21 1 (itN (bcA 21 1) 4 I))) J := by
  have hc := nI_clamp (n := P) (by omega)
  have hcp : ¬ (0 : Int32) < 0 ∧ ¬ (0 : Int32) < 0 ∧ ¬ nI P < 0 ∧ (0 : Int32).toNatClampNeg + (nI P).toNatClampNeg ≤ 8 ∧ (0 : Int32).toNatClampNeg + (nI P).toNatClampNeg ≤ 8 := by
    rw [hc, z0]
    exact ⟨by decide, by decide, nI_pos (by omega), by omega, by omega⟩
  have hp7 : (itN (bcB P 21 1) 4 (bcS 21 1 (itN (bcA 21 1) 4 I))) 21 7 = nI P := bcP_21_1 P I hP 4 (by decide)
  have hcq := hcp
  rw [← hp7] at hcq
  refine GW.run kX0_become (fun pc => Nat.beq pc 2 || Nat.beq pc 64) 82 35 rfl ?_
  refine And.intro (fun hh => absurd hh (by decide)) (fun _ => ?_)
  refine Mt.conseq (c_rop _ _ (by decide) 4 (by decide) _ (by decide) _ _) ?_
  rintro _ _ _ ⟨rfl, rfl, rfl⟩
  refine Mt.conseq (c_rop _ _ (by decide) 4 (by decide) _ (by decide) _ _) ?_
  rintro _ _ _ ⟨rfl, rfl, rfl⟩
  refine And.intro (hcq) ?_
  refine GW.weak (GW.eqI ?_ (l_bb21_1_5 sx P hP8 I hP J Rt hR)) ⟨rfl, rfl, by decide, trivial⟩
  refine Eq.trans ?_ (show bcB P 21 1 (itN (bcB P 21 1) 4 (bcS 21 1 (itN (bcA 21 1) 4 I))) 4 = _ from rfl)
  rw [bcB, ← hc, ← hp7]
  rfl
set_option maxRecDepth 100000 in
set_option maxHeartbeats 4000000 in
theorem l_bb21_1_3 (sx : Nat × (Nat → Int32)) (P : Nat) (hP8 : P ≤ 8) (I : Mm) (hP : I 1 7 = nI P) (J : Ml) (Rt : Option Value → Mm → Ml → Prop) (hR : Rt none (itN (bcB P 21 1) 5 (bcS 21 1 (itN (bcA 21 1) 4 I))) J) : GW sx (na_mi MX0_become) Rt 64 [some (.ref 21), some (.ref 1), some (.int 3)] [] (itN (bcB P 21 1) 3 (bcS 21 1 (itN (bcA 21 1) 4 I))) J := by
  have hc := nI_clamp (n := P) (by omega)
  have hcp : ¬ (0 : Int32) < 0 ∧ ¬ (0 : Int32) < 0 ∧ ¬ nI P < 0 ∧ (0 : Int32).toNatClampNeg + (nI P).toNatClampNeg ≤ 8 ∧ (0 : Int32).toNatClampNeg + (nI P).toNatClampNeg ≤ 8 := by
    rw [hc, z0]
    exact ⟨by decide, by decide, nI_pos (by omega), by omega, by omega⟩
  have hp7 : (itN (bcB P 21 1) 3 (bcS 21 1 (itN (bcA 21 1) 4 I))) 21 7 = nI P := bcP_21_1 P I hP 3 (by decide)
  have hcq := hcp
  rw [← hp7] at hcq
  refine GW.run kX0_become (fun pc => Nat.beq pc 2 || Nat.beq pc 64) 82 35 rfl ?_
  refine And.intro (fun hh => absurd hh (by decide)) (fun _ => ?_)
  refine Mt.conseq (c_rop _ _ (by decide) 3 (by decide) _ (by decide) _ _) ?_
  rintro _ _ _ ⟨rfl, rfl, rfl⟩
  refine Mt.conseq (c_rop _ _ (by decide) 3 (by decide) _ (by decide) _ _) ?_
  rintro _ _ _ ⟨rfl, rfl, rfl⟩
  refine And.intro (hcq) ?_
  refine GW.weak (GW.eqI ?_ (l_bb21_1_4 sx P hP8 I hP J Rt hR)) ⟨rfl, rfl, by decide, trivial⟩
  refine Eq.trans ?_ (show bcB P 21 1 (itN (bcB P 21 1) 3 (bcS 21 1 (itN (bcA 21 1) 4 I))) 3 = _ from rfl)
  rw [bcB, ← hc, ← hp7]
  rfl
set_option maxRecDepth 100000 in
set_option maxHeartbeats 4000000 in
theorem l_bb21_1_2 (sx : Nat × (Nat → Int32)) (P : Nat) (hP8 : P ≤ 8) (I : Mm) (hP : I 1 7 = nI P) (J : Ml) (Rt : Option Value → Mm → Ml → Prop) (hR : Rt none (itN (bcB P 21 1) 5 (bcS 21 1 (itN (bcA 21 1) 4 I))) J) : GW sx (na_mi MX0_become) Rt 64 [some (.ref 21), some (.ref 1), some (.int 2)] [] (itN (bcB P 21 1) 2 (bcS 21 1 (itN (bcA 21 1) 4 I))) J := by
  have hc := nI_clamp (n := P) (by omega)
  have hcp : ¬ (0 : Int32) < 0 ∧ ¬ (0 : Int32) < 0 ∧ ¬ nI P < 0 ∧ (0 : Int32).toNatClampNeg + (nI P).toNatClampNeg ≤ 8 ∧ (0 : Int32).toNatClampNeg + (nI P).toNatClampNeg ≤ 8 := by
    rw [hc, z0]
    exact ⟨by decide, by decide, nI_pos (by omega), by omega, by omega⟩
  have hp7 : (itN (bcB P 21 1) 2 (bcS 21 1 (itN (bcA 21 1) 4 I))) 21 7 = nI P := bcP_21_1 P I hP 2 (by decide)
  have hcq := hcp
  rw [← hp7] at hcq
  refine GW.run kX0_become (fun pc => Nat.beq pc 2 || Nat.beq pc 64) 82 35 rfl ?_
  refine And.intro (fun hh => absurd hh (by decide)) (fun _ => ?_)
  refine Mt.conseq (c_rop _ _ (by decide) 2 (by decide) _ (by decide) _ _) ?_
  rintro _ _ _ ⟨rfl, rfl, rfl⟩
  refine Mt.conseq (c_rop _ _ (by decide) 2 (by decide) _ (by decide) _ _) ?_
  rintro _ _ _ ⟨rfl, rfl, rfl⟩
  refine And.intro (hcq) ?_
  refine GW.weak (GW.eqI ?_ (l_bb21_1_3 sx P hP8 I hP J Rt hR)) ⟨rfl, rfl, by decide, trivial⟩
  refine Eq.trans ?_ (show bcB P 21 1 (itN (bcB P 21 1) 2 (bcS 21 1 (itN (bcA 21 1) 4 I))) 2 = _ from rfl)
  rw [bcB, ← hc, ← hp7]
  rfl
set_option maxRecDepth 100000 in
set_option maxHeartbeats 4000000 in
theorem l_bb21_1_1 (sx : Nat × (Nat → Int32)) (P : Nat) (hP8 : P ≤ 8) (I : Mm) (hP : I 1 7 = nI P) (J : Ml) (Rt : Option Value → Mm → Ml → Prop) (hR : Rt none (itN (bcB P 21 1) 5 (bcS 21 1 (itN (bcA 21 1) 4 I))) J) : GW sx (na_mi MX0_become) Rt 64 [some (.ref 21), some (.ref 1), some (.int 1)] [] (itN (bcB P 21 1) 1 (bcS 21 1 (itN (bcA 21 1) 4 I))) J := by
  have hc := nI_clamp (n := P) (by omega)
  have hcp : ¬ (0 : Int32) < 0 ∧ ¬ (0 : Int32) < 0 ∧ ¬ nI P < 0 ∧ (0 : Int32).toNatClampNeg + (nI P).toNatClampNeg ≤ 8 ∧ (0 : Int32).toNatClampNeg + (nI P).toNatClampNeg ≤ 8 := by
    rw [hc, z0]
    exact ⟨by decide, by decide, nI_pos (by omega), by omega, by omega⟩
  have hp7 : (itN (bcB P 21 1) 1 (bcS 21 1 (itN (bcA 21 1) 4 I))) 21 7 = nI P := bcP_21_1 P I hP 1 (by decide)
  have hcq := hcp
  rw [← hp7] at hcq
  refine GW.run kX0_become (fun pc => Nat.beq pc 2 || Nat.beq pc 64) 82 35 rfl ?_
  refine And.intro (fun hh => absurd hh (by decide)) (fun _ => ?_)
  refine Mt.conseq (c_rop _ _ (by decide) 1 (by decide) _ (by decide) _ _) ?_
  rintro _ _ _ ⟨rfl, rfl, rfl⟩
  refine Mt.conseq (c_rop _ _ (by decide) 1 (by decide) _ (by decide) _ _) ?_
  rintro _ _ _ ⟨rfl, rfl, rfl⟩
  refine And.intro (hcq) ?_
  refine GW.weak (GW.eqI ?_ (l_bb21_1_2 sx P hP8 I hP J Rt hR)) ⟨rfl, rfl, by decide, trivial⟩
  refine Eq.trans ?_ (show bcB P 21 1 (itN (bcB P 21 1) 1 (bcS 21 1 (itN (bcA 21 1) 4 I))) 1 = _ from rfl)
  rw [bcB, ← hc, ← hp7]
  rfl
set_option maxRecDepth 100000 in
set_option maxHeartbeats 4000000 in
theorem l_bb21_1_0 (sx : Nat × (Nat → Int32)) (P : Nat) (hP8 : P ≤ 8) (I : Mm) (hP : I 1 7 = nI P) (J : Ml) (Rt : Option Value → Mm → Ml → Prop) (hR : Rt none (itN (bcB P 21 1) 5 (bcS 21 1 (itN (bcA 21 1) 4 I))) J) : GW sx (na_mi MX0_become) Rt 64 [some (.ref 21), some (.ref 1), some (.int 0)] [] (itN (bcB P 21 1) 0 (bcS 21 1 (itN (bcA 21 1) 4 I))) J := by
  have hc := nI_clamp (n := P) (by omega)
  have hcp : ¬ (0 : Int32) < 0 ∧ ¬ (0 : Int32) < 0 ∧ ¬ nI P < 0 ∧ (0 : Int32).toNatClampNeg + (nI P).toNatClampNeg ≤ 8 ∧ (0 : Int32).toNatClampNeg + (nI P).toNatClampNeg ≤ 8 := by
    rw [hc, z0]
    exact ⟨by decide, by decide, nI_pos (by omega), by omega, by omega⟩
  have hp7 : (itN (bcB P 21 1) 0 (bcS 21 1 (itN (bcA 21 1) 4 I))) 21 7 = nI P := bcP_21_1 P I hP 0 (by decide)
  have hcq := hcp
  rw [← hp7] at hcq
  refine GW.run kX0_become (fun pc => Nat.beq pc 2 || Nat.beq pc 64) 82 35 rfl ?_
  refine And.intro (fun hh => absurd hh (by decide)) (fun _ => ?_)
  refine Mt.conseq (c_rop _ _ (by decide) 0 (by decide) _ (by decide) _ _) ?_
  rintro _ _ _ ⟨rfl, rfl, rfl⟩
  refine Mt.conseq (c_rop _ _ (by decide) 0 (by decide) _ (by decide) _ _) ?_
  rintro _ _ _ ⟨rfl, rfl, rfl⟩
  refine And.intro (hcq) ?_
  refine GW.weak (GW.eqI ?_ (l_bb21_1_1 sx P hP8 I hP J Rt hR)) ⟨rfl, rfl, by decide, trivial⟩
  refine Eq.trans ?_ (show bcB P 21 1 (itN (bcB P 21 1) 0 (bcS 21 1 (itN (bcA 21 1) 4 I))) 0 = _ from rfl)
  rw [bcB, ← hc, ← hp7]
  rfl
set_option maxRecDepth 100000 in
set_option maxHeartbeats 4000000 in
theorem l_ba21_1_4 (sx : Nat × (Nat → Int32)) (P : Nat) (hP8 : P ≤ 8) (I : Mm) (hP : I 1 7 = nI P) (J : Ml) (Rt : Option Value → Mm → Ml → Prop) (hR : Rt none (itN (bcB P 21 1) 5 (bcS 21 1 (itN (bcA 21 1) 4 I))) J) : GW sx (na_mi MX0_become) Rt 2 [some (.ref 21), some (.ref 1), some (.int 4)] [] (itN (bcA 21 1) 4 I) J := by
  refine GW.run kX0_become (fun pc => Nat.beq pc 2 || Nat.beq pc 64) 82 2 rfl ?_
  refine And.intro (fun _ => ?_) (fun hh => absurd hh (by decide))
  refine GW.weak (GW.eqI ?_ (l_bb21_1_0 sx P hP8 I hP J Rt hR)) ⟨rfl, rfl, rfl, trivial⟩
  rfl
set_option maxRecDepth 100000 in
set_option maxHeartbeats 4000000 in
theorem l_ba21_1_3 (sx : Nat × (Nat → Int32)) (P : Nat) (hP8 : P ≤ 8) (I : Mm) (hP : I 1 7 = nI P) (J : Ml) (Rt : Option Value → Mm → Ml → Prop) (hR : Rt none (itN (bcB P 21 1) 5 (bcS 21 1 (itN (bcA 21 1) 4 I))) J) : GW sx (na_mi MX0_become) Rt 2 [some (.ref 21), some (.ref 1), some (.int 3)] [] (itN (bcA 21 1) 3 I) J := by
  refine GW.run kX0_become (fun pc => Nat.beq pc 2 || Nat.beq pc 64) 82 2 rfl ?_
  refine And.intro (fun hh => absurd hh (by decide)) (fun _ => ?_)
  refine Mt.conseq (c_ror _ _ (by decide) 3 (by decide) _ (by decide) _ _) ?_
  rintro _ _ _ ⟨rfl, rfl, rfl⟩
  refine Mt.conseq (c_ror _ _ (by decide) 3 (by decide) _ (by decide) _ _) ?_
  rintro _ _ _ ⟨rfl, rfl, rfl⟩
  refine And.intro (⟨by decide, by decide, by decide, by decide, by decide⟩) ?_
  refine GW.weak (GW.eqI ?_ (l_ba21_1_4 sx P hP8 I hP J Rt hR)) ⟨rfl, rfl, by decide, trivial⟩
  refine Eq.trans ?_ (show bcA 21 1 (itN (bcA 21 1) 3 I) 3 = _ from rfl)
  rw [bcA, ← z8]
  rfl
set_option maxRecDepth 100000 in
set_option maxHeartbeats 4000000 in
theorem l_ba21_1_2 (sx : Nat × (Nat → Int32)) (P : Nat) (hP8 : P ≤ 8) (I : Mm) (hP : I 1 7 = nI P) (J : Ml) (Rt : Option Value → Mm → Ml → Prop) (hR : Rt none (itN (bcB P 21 1) 5 (bcS 21 1 (itN (bcA 21 1) 4 I))) J) : GW sx (na_mi MX0_become) Rt 2 [some (.ref 21), some (.ref 1), some (.int 2)] [] (itN (bcA 21 1) 2 I) J := by
  refine GW.run kX0_become (fun pc => Nat.beq pc 2 || Nat.beq pc 64) 82 2 rfl ?_
  refine And.intro (fun hh => absurd hh (by decide)) (fun _ => ?_)
  refine Mt.conseq (c_ror _ _ (by decide) 2 (by decide) _ (by decide) _ _) ?_
  rintro _ _ _ ⟨rfl, rfl, rfl⟩
  refine Mt.conseq (c_ror _ _ (by decide) 2 (by decide) _ (by decide) _ _) ?_
  rintro _ _ _ ⟨rfl, rfl, rfl⟩
  refine And.intro (⟨by decide, by decide, by decide, by decide, by decide⟩) ?_
  refine GW.weak (GW.eqI ?_ (l_ba21_1_3 sx P hP8 I hP J Rt hR)) ⟨rfl, rfl, by decide, trivial⟩
  refine Eq.trans ?_ (show bcA 21 1 (itN (bcA 21 1) 2 I) 2 = _ from rfl)
  rw [bcA, ← z8]
  rfl
set_option maxRecDepth 100000 in
set_option maxHeartbeats 4000000 in
theorem l_ba21_1_1 (sx : Nat × (Nat → Int32)) (P : Nat) (hP8 : P ≤ 8) (I : Mm) (hP : I 1 7 = nI P) (J : Ml) (Rt : Option Value → Mm → Ml → Prop) (hR : Rt none (itN (bcB P 21 1) 5 (bcS 21 1 (itN (bcA 21 1) 4 I))) J) : GW sx (na_mi MX0_become) Rt 2 [some (.ref 21), some (.ref 1), some (.int 1)] [] (itN (bcA 21 1) 1 I) J := by
  refine GW.run kX0_become (fun pc => Nat.beq pc 2 || Nat.beq pc 64) 82 2 rfl ?_
  refine And.intro (fun hh => absurd hh (by decide)) (fun _ => ?_)
  refine Mt.conseq (c_ror _ _ (by decide) 1 (by decide) _ (by decide) _ _) ?_
  rintro _ _ _ ⟨rfl, rfl, rfl⟩
  refine Mt.conseq (c_ror _ _ (by decide) 1 (by decide) _ (by decide) _ _) ?_
  rintro _ _ _ ⟨rfl, rfl, rfl⟩
  refine And.intro (⟨by decide, by decide, by decide, by decide, by decide⟩) ?_
  refine GW.weak (GW.eqI ?_ (l_ba21_1_2 sx P hP8 I hP J Rt hR)) ⟨rfl, rfl, by decide, trivial⟩
  refine Eq.trans ?_ (show bcA 21 1 (itN (bcA 21 1) 1 I) 1 = _ from rfl)
  rw [bcA, ← z8]
  rfl
set_option maxRecDepth 100000 in
set_option maxHeartbeats 4000000 in
theorem l_ba21_1_0 (sx : Nat × (Nat → Int32)) (P : Nat) (hP8 : P ≤ 8) (I : Mm) (hP : I 1 7 = nI P) (J : Ml) (Rt : Option Value → Mm → Ml → Prop) (hR : Rt none (itN (bcB P 21 1) 5 (bcS 21 1 (itN (bcA 21 1) 4 I))) J) : GW sx (na_mi MX0_become) Rt 2 [some (.ref 21), some (.ref 1), some (.int 0)] [] (itN (bcA 21 1) 0 I) J := by
  refine GW.run kX0_become (fun pc => Nat.beq pc 2 || Nat.beq pc 64) 82 2 rfl ?_
  refine And.intro (fun hh => absurd hh (by decide)) (fun _ => ?_)
  refine Mt.conseq (c_ror _ _ (by decide) 0 (by decide) _ (by decide) _ _) ?_
  rintro _ _ _ ⟨rfl, rfl, rfl⟩
  refine Mt.conseq (c_ror _ _ (by decide) 0 (by decide) _ (by decide) _ _) ?_
  rintro _ _ _ ⟨rfl, rfl, rfl⟩
  refine And.intro (⟨by decide, by decide, by decide, by decide, by decide⟩) ?_
  refine GW.weak (GW.eqI ?_ (l_ba21_1_1 sx P hP8 I hP J Rt hR)) ⟨rfl, rfl, by decide, trivial⟩
  refine Eq.trans ?_ (show bcA 21 1 (itN (bcA 21 1) 0 I) 0 = _ from rfl)
  rw [bcA, ← z8]
  rfl
theorem bcF_21_1 (P : Nat) (I : Mm) : (pN 21 (gN 21 (itN (bcB P 21 1) 5 (bcS 21 1 (itN (bcA 21 1) 4 I)))) I = itN (bcB P 21 1) 5 (bcS 21 1 (itN (bcA 21 1) 4 I))) ∧ Agr P (gN 21 (itN (bcB P 21 1) 5 (bcS 21 1 (itN (bcA 21 1) 4 I)))) (gN 1 I) := by
  refine ⟨pN_of ?_, ?_, ?_, ?_⟩
  · intro a ha
    simp (discharger := omega) only [itN, bcA, bcB, bcS, na_cpI_off, na_set_off]
  · intro j h1 h2
    obtain rfl | rfl | rfl | rfl : j = 4 ∨ j = 5 ∨ j = 6 ∨ j = 7 := by omega
    all_goals rfl
  · intro q j h1 h2 h3
    obtain rfl | rfl | rfl | rfl : q = 1 ∨ q = 2 ∨ q = 3 ∨ q = 4 := by omega
    all_goals exact (if_pos (c := 0 ≤ j ∧ j < 0 + 8) ⟨Nat.zero_le _, by omega⟩).trans (congrArg (I _) (by show 0 + (j - 0) = j; omega))
  · intro q j h1 h2 h3
    obtain rfl | rfl | rfl | rfl | rfl : q = 5 ∨ q = 6 ∨ q = 7 ∨ q = 8 ∨ q = 9 := by omega
    all_goals exact (if_pos (c := 0 ≤ j ∧ j < 0 + P) ⟨Nat.zero_le _, by omega⟩).trans (congrArg (I _) (by show 0 + (j - 0) = j; omega))
set_option maxRecDepth 100000 in
set_option maxHeartbeats 4000000 in
theorem c_bec_21_1 (sx : Nat × (Nat → Int32)) (P : Nat) (hP8 : P ≤ 8) (I : Mm) (hP : I 1 7 = nI P) (J : Ml) : Mt sx MX0_become [.ref 21, .ref 1] I J (fun r I' J' => (∃ M, pN 21 M I = I' ∧ Agr P M (gN 1 I)) ∧ J = J' ∧ r = none) := by
  refine Mt.of2 _ rfl (by decide +kernel) (Nat.le_of_ble_eq_true rfl) ?_
  refine GW.run kX0_become (fun pc => Nat.beq pc 2 || Nat.beq pc 64) 82 0 rfl ?_
  exact l_ba21_1_0 sx P hP8 I hP J _ ⟨⟨_, (bcF_21_1 P I).1, (bcF_21_1 P I).2⟩, rfl, rfl⟩
theorem bcP_1_21 (P : Nat) (I : Mm) (hP : I 21 7 = nI P) : ∀ w, w ≤ 5 → itN (bcB P 1 21) w (bcS 1 21 (itN (bcA 1 21) 4 I)) 1 7 = nI P := by
  intro w
  induction w with
  | zero =>
    intro _
    rw [← hP]
    rfl
  | succ w ih =>
    intro h
    rw [itN, bcB, na_cpI_off (by omega)]
    exact ih (by omega)
set_option maxRecDepth 100000 in
set_option maxHeartbeats 4000000 in
theorem l_bb1_21_5 (sx : Nat × (Nat → Int32)) (P : Nat) (hP8 : P ≤ 8) (I : Mm) (hP : I 21 7 = nI P) (J : Ml) (Rt : Option Value → Mm → Ml → Prop) (hR : Rt none (itN (bcB P 1 21) 5 (bcS 1 21 (itN (bcA 1 21) 4 I))) J) : GW sx (na_mi MX0_become) Rt 64 [some (.ref 1), some (.ref 21), some (.int 5)] [] (itN (bcB P 1 21) 5 (bcS 1 21 (itN (bcA 1 21) 4 I))) J := by
  have hc := nI_clamp (n := P) (by omega)
  have hcp : ¬ (0 : Int32) < 0 ∧ ¬ (0 : Int32) < 0 ∧ ¬ nI P < 0 ∧ (0 : Int32).toNatClampNeg + (nI P).toNatClampNeg ≤ 8 ∧ (0 : Int32).toNatClampNeg + (nI P).toNatClampNeg ≤ 8 := by
    rw [hc, z0]
    exact ⟨by decide, by decide, nI_pos (by omega), by omega, by omega⟩
  refine GW.run kX0_become (fun pc => Nat.beq pc 2 || Nat.beq pc 64) 82 35 rfl ?_
  refine And.intro (fun _ => ?_) (fun hh => absurd hh (by decide))
  exact hR
set_option maxRecDepth 100000 in
set_option maxHeartbeats 4000000 in
theorem l_bb1_21_4 (sx : Nat × (Nat → Int32)) (P : Nat) (hP8 : P ≤ 8) (I : Mm) (hP : I 21 7 = nI P) (J : Ml) (Rt : Option Value → Mm → Ml → Prop) (hR : Rt none (itN (bcB P 1 21) 5 (bcS 1 21 (itN (bcA 1 21) 4 I))) J) : GW sx (na_mi MX0_become) Rt 64 [some (.ref 1), some (.ref 21), some (.int 4)] [] (itN (bcB P 1 21) 4 (bcS 1 21 (itN (bcA 1 21) 4 I))) J := by
  have hc := nI_clamp (n := P) (by omega)
  have hcp : ¬ (0 : Int32) < 0 ∧ ¬ (0 : Int32) < 0 ∧ ¬ nI P < 0 ∧ (0 : Int32).toNatClampNeg + (nI P).toNatClampNeg ≤ 8 ∧ (0 : Int32).toNatClampNeg + (nI P).toNatClampNeg ≤ 8 := by
    rw [hc, z0]
    exact ⟨by decide, by decide, nI_pos (by omega), by omega, by omega⟩
  have hp7 : (itN (bcB P 1 21) 4 (bcS 1 21 (itN (bcA 1 21) 4 I))) 1 7 = nI P := bcP_1_21 P I hP 4 (by decide)
  have hcq := hcp
  rw [← hp7] at hcq
  refine GW.run kX0_become (fun pc => Nat.beq pc 2 || Nat.beq pc 64) 82 35 rfl ?_
  refine And.intro (fun hh => absurd hh (by decide)) (fun _ => ?_)
  refine Mt.conseq (c_rop _ _ (by decide) 4 (by decide) _ (by decide) _ _) ?_
  rintro _ _ _ ⟨rfl, rfl, rfl⟩
  refine Mt.conseq (c_rop _ _ (by decide) 4 (by decide) _ (by decide) _ _) ?_
  rintro _ _ _ ⟨rfl, rfl, rfl⟩
  refine And.intro (hcq) ?_
  refine GW.weak (GW.eqI ?_ (l_bb1_21_5 sx P hP8 I hP J Rt hR)) ⟨rfl, rfl, by decide, trivial⟩
  refine Eq.trans ?_ (show bcB P 1 21 (itN (bcB P 1 21) 4 (bcS 1 21 (itN (bcA 1 21) 4 I))) 4 = _ from rfl)
  rw [bcB, ← hc, ← hp7]
  rfl
set_option maxRecDepth 100000 in
set_option maxHeartbeats 4000000 in
theorem l_bb1_21_3 (sx : Nat × (Nat → Int32)) (P : Nat) (hP8 : P ≤ 8) (I : Mm) (hP : I 21 7 = nI P) (J : Ml) (Rt : Option Value → Mm → Ml → Prop) (hR : Rt none (itN (bcB P 1 21) 5 (bcS 1 21 (itN (bcA 1 21) 4 I))) J) : GW sx (na_mi MX0_become) Rt 64 [some (.ref 1), some (.ref 21), some (.int 3)] [] (itN (bcB P 1 21) 3 (bcS 1 21 (itN (bcA 1 21) 4 I))) J := by
  have hc := nI_clamp (n := P) (by omega)
  have hcp : ¬ (0 : Int32) < 0 ∧ ¬ (0 : Int32) < 0 ∧ ¬ nI P < 0 ∧ (0 : Int32).toNatClampNeg + (nI P).toNatClampNeg ≤ 8 ∧ (0 : Int32).toNatClampNeg + (nI P).toNatClampNeg ≤ 8 := by
    rw [hc, z0]
    exact ⟨by decide, by decide, nI_pos (by omega), by omega, by omega⟩
  have hp7 : (itN (bcB P 1 21) 3 (bcS 1 21 (itN (bcA 1 21) 4 I))) 1 7 = nI P := bcP_1_21 P I hP 3 (by decide)
  have hcq := hcp
  rw [← hp7] at hcq
  refine GW.run kX0_become (fun pc => Nat.beq pc 2 || Nat.beq pc 64) 82 35 rfl ?_
  refine And.intro (fun hh => absurd hh (by decide)) (fun _ => ?_)
  refine Mt.conseq (c_rop _ _ (by decide) 3 (by decide) _ (by decide) _ _) ?_
  rintro _ _ _ ⟨rfl, rfl, rfl⟩
  refine Mt.conseq (c_rop _ _ (by decide) 3 (by decide) _ (by decide) _ _) ?_
  rintro _ _ _ ⟨rfl, rfl, rfl⟩
  refine And.intro (hcq) ?_
  refine GW.weak (GW.eqI ?_ (l_bb1_21_4 sx P hP8 I hP J Rt hR)) ⟨rfl, rfl, by decide, trivial⟩
  refine Eq.trans ?_ (show bcB P 1 21 (itN (bcB P 1 21) 3 (bcS 1 21 (itN (bcA 1 21) 4 I))) 3 = _ from rfl)
  rw [bcB, ← hc, ← hp7]
  rfl
set_option maxRecDepth 100000 in
set_option maxHeartbeats 4000000 in
theorem l_bb1_21_2 (sx : Nat × (Nat → Int32)) (P : Nat) (hP8 : P ≤ 8) (I : Mm) (hP : I 21 7 = nI P) (J : Ml) (Rt : Option Value → Mm → Ml → Prop) (hR : Rt none (itN (bcB P 1 21) 5 (bcS 1 21 (itN (bcA 1 21) 4 I))) J) : GW sx (na_mi MX0_become) Rt 64 [some (.ref 1), some (.ref 21), some (.int 2)] [] (itN (bcB P 1 21) 2 (bcS 1 21 (itN (bcA 1 21) 4 I))) J := by
  have hc := nI_clamp (n := P) (by omega)
  have hcp : ¬ (0 : Int32) < 0 ∧ ¬ (0 : Int32) < 0 ∧ ¬ nI P < 0 ∧ (0 : Int32).toNatClampNeg + (nI P).toNatClampNeg ≤ 8 ∧ (0 : Int32).toNatClampNeg + (nI P).toNatClampNeg ≤ 8 := by
    rw [hc, z0]
    exact ⟨by decide, by decide, nI_pos (by omega), by omega, by omega⟩
  have hp7 : (itN (bcB P 1 21) 2 (bcS 1 21 (itN (bcA 1 21) 4 I))) 1 7 = nI P := bcP_1_21 P I hP 2 (by decide)
  have hcq := hcp
  rw [← hp7] at hcq
  refine GW.run kX0_become (fun pc => Nat.beq pc 2 || Nat.beq pc 64) 82 35 rfl ?_
  refine And.intro (fun hh => absurd hh (by decide)) (fun _ => ?_)
  refine Mt.conseq (c_rop _ _ (by decide) 2 (by decide) _ (by decide) _ _) ?_
  rintro _ _ _ ⟨rfl, rfl, rfl⟩
  refine Mt.conseq (c_rop _ _ (by decide) 2 (by decide) _ (by decide) _ _) ?_
  rintro _ _ _ ⟨rfl, rfl, rfl⟩
  refine And.intro (hcq) ?_
  refine GW.weak (GW.eqI ?_ (l_bb1_21_3 sx P hP8 I hP J Rt hR)) ⟨rfl, rfl, by decide, trivial⟩
  refine Eq.trans ?_ (show bcB P 1 21 (itN (bcB P 1 21) 2 (bcS 1 21 (itN (bcA 1 21) 4 I))) 2 = _ from rfl)
  rw [bcB, ← hc, ← hp7]
  rfl
set_option maxRecDepth 100000 in
set_option maxHeartbeats 4000000 in
theorem l_bb1_21_1 (sx : Nat × (Nat → Int32)) (P : Nat) (hP8 : P ≤ 8) (I : Mm) (hP : I 21 7 = nI P) (J : Ml) (Rt : Option Value → Mm → Ml → Prop) (hR : Rt none (itN (bcB P 1 21) 5 (bcS 1 21 (itN (bcA 1 21) 4 I))) J) : GW sx (na_mi MX0_become) Rt 64 [some (.ref 1), some (.ref 21), some (.int 1)] [] (itN (bcB P 1 21) 1 (bcS 1 21 (itN (bcA 1 21) 4 I))) J := by
  have hc := nI_clamp (n := P) (by omega)
  have hcp : ¬ (0 : Int32) < 0 ∧ ¬ (0 : Int32) < 0 ∧ ¬ nI P < 0 ∧ (0 : Int32).toNatClampNeg + (nI P).toNatClampNeg ≤ 8 ∧ (0 : Int32).toNatClampNeg + (nI P).toNatClampNeg ≤ 8 := by
    rw [hc, z0]
    exact ⟨by decide, by decide, nI_pos (by omega), by omega, by omega⟩
  have hp7 : (itN (bcB P 1 21) 1 (bcS 1 21 (itN (bcA 1 21) 4 I))) 1 7 = nI P := bcP_1_21 P I hP 1 (by decide)
  have hcq := hcp
  rw [← hp7] at hcq
  refine GW.run kX0_become (fun pc => Nat.beq pc 2 || Nat.beq pc 64) 82 35 rfl ?_
  refine And.intro (fun hh => absurd hh (by decide)) (fun _ => ?_)
  refine Mt.conseq (c_rop _ _ (by decide) 1 (by decide) _ (by decide) _ _) ?_
  rintro _ _ _ ⟨rfl, rfl, rfl⟩
  refine Mt.conseq (c_rop _ _ (by decide) 1 (by decide) _ (by decide) _ _) ?_
  rintro _ _ _ ⟨rfl, rfl, rfl⟩
  refine And.intro (hcq) ?_
  refine GW.weak (GW.eqI ?_ (l_bb1_21_2 sx P hP8 I hP J Rt hR)) ⟨rfl, rfl, by decide, trivial⟩
  refine Eq.trans ?_ (show bcB P 1 21 (itN (bcB P 1 21) 1 (bcS 1 21 (itN (bcA 1 21) 4 I))) 1 = _ from rfl)
  rw [bcB, ← hc, ← hp7]
  rfl
set_option maxRecDepth 100000 in
set_option maxHeartbeats 4000000 in
theorem l_bb1_21_0 (sx : Nat × (Nat → Int32)) (P : Nat) (hP8 : P ≤ 8) (I : Mm) (hP : I 21 7 = nI P) (J : Ml) (Rt : Option Value → Mm → Ml → Prop) (hR : Rt none (itN (bcB P 1 21) 5 (bcS 1 21 (itN (bcA 1 21) 4 I))) J) : GW sx (na_mi MX0_become) Rt 64 [some (.ref 1), some (.ref 21), some (.int 0)] [] (itN (bcB P 1 21) 0 (bcS 1 21 (itN (bcA 1 21) 4 I))) J := by
  have hc := nI_clamp (n := P) (by omega)
  have hcp : ¬ (0 : Int32) < 0 ∧ ¬ (0 : Int32) < 0 ∧ ¬ nI P < 0 ∧ (0 : Int32).toNatClampNeg + (nI P).toNatClampNeg ≤ 8 ∧ (0 : Int32).toNatClampNeg + (nI P).toNatClampNeg ≤ 8 := by
    rw [hc, z0]
    exact ⟨by decide, by decide, nI_pos (by omega), by omega, by omega⟩
  have hp7 : (itN (bcB P 1 21) 0 (bcS 1 21 (itN (bcA 1 21) 4 I))) 1 7 = nI P := bcP_1_21 P I hP 0 (by decide)
  have hcq := hcp
  rw [← hp7] at hcq
  refine GW.run kX0_become (fun pc => Nat.beq pc 2 || Nat.beq pc 64) 82 35 rfl ?_
  refine And.intro (fun hh => absurd hh (by decide)) (fun _ => ?_)
  refine Mt.conseq (c_rop _ _ (by decide) 0 (by decide) _ (by decide) _ _) ?_
  rintro _ _ _ ⟨rfl, rfl, rfl⟩
  refine Mt.conseq (c_rop _ _ (by decide) 0 (by decide) _ (by decide) _ _) ?_
  rintro _ _ _ ⟨rfl, rfl, rfl⟩
  refine And.intro (hcq) ?_
  refine GW.weak (GW.eqI ?_ (l_bb1_21_1 sx P hP8 I hP J Rt hR)) ⟨rfl, rfl, by decide, trivial⟩
  refine Eq.trans ?_ (show bcB P 1 21 (itN (bcB P 1 21) 0 (bcS 1 21 (itN (bcA 1 21) 4 I))) 0 = _ from rfl)
  rw [bcB, ← hc, ← hp7]
  rfl
set_option maxRecDepth 100000 in
set_option maxHeartbeats 4000000 in
theorem l_ba1_21_4 (sx : Nat × (Nat → Int32)) (P : Nat) (hP8 : P ≤ 8) (I : Mm) (hP : I 21 7 = nI P) (J : Ml) (Rt : Option Value → Mm → Ml → Prop) (hR : Rt none (itN (bcB P 1 21) 5 (bcS 1 21 (itN (bcA 1 21) 4 I))) J) : GW sx (na_mi MX0_become) Rt 2 [some (.ref 1), some (.ref 21), some (.int 4)] [] (itN (bcA 1 21) 4 I) J := by
  refine GW.run kX0_become (fun pc => Nat.beq pc 2 || Nat.beq pc 64) 82 2 rfl ?_
  refine And.intro (fun _ => ?_) (fun hh => absurd hh (by decide))
  refine GW.weak (GW.eqI ?_ (l_bb1_21_0 sx P hP8 I hP J Rt hR)) ⟨rfl, rfl, rfl, trivial⟩
  rfl
set_option maxRecDepth 100000 in
set_option maxHeartbeats 4000000 in
theorem l_ba1_21_3 (sx : Nat × (Nat → Int32)) (P : Nat) (hP8 : P ≤ 8) (I : Mm) (hP : I 21 7 = nI P) (J : Ml) (Rt : Option Value → Mm → Ml → Prop) (hR : Rt none (itN (bcB P 1 21) 5 (bcS 1 21 (itN (bcA 1 21) 4 I))) J) : GW sx (na_mi MX0_become) Rt 2 [some (.ref 1), some (.ref 21), some (.int 3)] [] (itN (bcA 1 21) 3 I) J := by
  refine GW.run kX0_become (fun pc => Nat.beq pc 2 || Nat.beq pc 64) 82 2 rfl ?_
  refine And.intro (fun hh => absurd hh (by decide)) (fun _ => ?_)
  refine Mt.conseq (c_ror _ _ (by decide) 3 (by decide) _ (by decide) _ _) ?_
  rintro _ _ _ ⟨rfl, rfl, rfl⟩
  refine Mt.conseq (c_ror _ _ (by decide) 3 (by decide) _ (by decide) _ _) ?_
  rintro _ _ _ ⟨rfl, rfl, rfl⟩
  refine And.intro (⟨by decide, by decide, by decide, by decide, by decide⟩) ?_
  refine GW.weak (GW.eqI ?_ (l_ba1_21_4 sx P hP8 I hP J Rt hR)) ⟨rfl, rfl, by decide, trivial⟩
  refine Eq.trans ?_ (show bcA 1 21 (itN (bcA 1 21) 3 I) 3 = _ from rfl)
  rw [bcA, ← z8]
  rfl
set_option maxRecDepth 100000 in
set_option maxHeartbeats 4000000 in
theorem l_ba1_21_2 (sx : Nat × (Nat → Int32)) (P : Nat) (hP8 : P ≤ 8) (I : Mm) (hP : I 21 7 = nI P) (J : Ml) (Rt : Option Value → Mm → Ml → Prop) (hR : Rt none (itN (bcB P 1 21) 5 (bcS 1 21 (itN (bcA 1 21) 4 I))) J) : GW sx (na_mi MX0_become) Rt 2 [some (.ref 1), some (.ref 21), some (.int 2)] [] (itN (bcA 1 21) 2 I) J := by
  refine GW.run kX0_become (fun pc => Nat.beq pc 2 || Nat.beq pc 64) 82 2 rfl ?_
  refine And.intro (fun hh => absurd hh (by decide)) (fun _ => ?_)
  refine Mt.conseq (c_ror _ _ (by decide) 2 (by decide) _ (by decide) _ _) ?_
  rintro _ _ _ ⟨rfl, rfl, rfl⟩
  refine Mt.conseq (c_ror _ _ (by decide) 2 (by decide) _ (by decide) _ _) ?_
  rintro _ _ _ ⟨rfl, rfl, rfl⟩
  refine And.intro (⟨by decide, by decide, by decide, by decide, by decide⟩) ?_
  refine GW.weak (GW.eqI ?_ (l_ba1_21_3 sx P hP8 I hP J Rt hR)) ⟨rfl, rfl, by decide, trivial⟩
  refine Eq.trans ?_ (show bcA 1 21 (itN (bcA 1 21) 2 I) 2 = _ from rfl)
  rw [bcA, ← z8]
  rfl
set_option maxRecDepth 100000 in
set_option maxHeartbeats 4000000 in
theorem l_ba1_21_1 (sx : Nat × (Nat → Int32)) (P : Nat) (hP8 : P ≤ 8) (I : Mm) (hP : I 21 7 = nI P) (J : Ml) (Rt : Option Value → Mm → Ml → Prop) (hR : Rt none (itN (bcB P 1 21) 5 (bcS 1 21 (itN (bcA 1 21) 4 I))) J) : GW sx (na_mi MX0_become) Rt 2 [some (.ref 1), some (.ref 21), some (.int 1)] [] (itN (bcA 1 21) 1 I) J := by
  refine GW.run kX0_become (fun pc => Nat.beq pc 2 || Nat.beq pc 64) 82 2 rfl ?_
  refine And.intro (fun hh => absurd hh (by decide)) (fun _ => ?_)
  refine Mt.conseq (c_ror _ _ (by decide) 1 (by decide) _ (by decide) _ _) ?_
  rintro _ _ _ ⟨rfl, rfl, rfl⟩
  refine Mt.conseq (c_ror _ _ (by decide) 1 (by decide) _ (by decide) _ _) ?_
  rintro _ _ _ ⟨rfl, rfl, rfl⟩
  refine And.intro (⟨by decide, by decide, by decide, by decide, by decide⟩) ?_
  refine GW.weak (GW.eqI ?_ (l_ba1_21_2 sx P hP8 I hP J Rt hR)) ⟨rfl, rfl, by decide, trivial⟩
  refine Eq.trans ?_ (show bcA 1 21 (itN (bcA 1 21) 1 I) 1 = _ from rfl)
  rw [bcA, ← z8]
  rfl
set_option maxRecDepth 100000 in
set_option maxHeartbeats 4000000 in
theorem l_ba1_21_0 (sx : Nat × (Nat → Int32)) (P : Nat) (hP8 : P ≤ 8) (I : Mm) (hP : I 21 7 = nI P) (J : Ml) (Rt : Option Value → Mm → Ml → Prop) (hR : Rt none (itN (bcB P 1 21) 5 (bcS 1 21 (itN (bcA 1 21) 4 I))) J) : GW sx (na_mi MX0_become) Rt 2 [some (.ref 1), some (.ref 21), some (.int 0)] [] (itN (bcA 1 21) 0 I) J := by
  refine GW.run kX0_become (fun pc => Nat.beq pc 2 || Nat.beq pc 64) 82 2 rfl ?_
  refine And.intro (fun hh => absurd hh (by decide)) (fun _ => ?_)
  refine Mt.conseq (c_ror _ _ (by decide) 0 (by decide) _ (by decide) _ _) ?_
  rintro _ _ _ ⟨rfl, rfl, rfl⟩
  refine Mt.conseq (c_ror _ _ (by decide) 0 (by decide) _ (by decide) _ _) ?_
  rintro _ _ _ ⟨rfl, rfl, rfl⟩
  refine And.intro (⟨by decide, by decide, by decide, by decide, by decide⟩) ?_
  refine GW.weak (GW.eqI ?_ (l_ba1_21_1 sx P hP8 I hP J Rt hR)) ⟨rfl, rfl, by decide, trivial⟩
  refine Eq.trans ?_ (show bcA 1 21 (itN (bcA 1 21) 0 I) 0 = _ from rfl)
  rw [bcA, ← z8]
  rfl
theorem bcF_1_21 (P : Nat) (I : Mm) : (pN 1 (gN 1 (itN (bcB P 1 21) 5 (bcS 1 21 (itN (bcA 1 21) 4 I)))) I = itN (bcB P 1 21) 5 (bcS 1 21 (itN (bcA 1 21) 4 I))) ∧ Agr P (gN 1 (itN (bcB P 1 21) 5 (bcS 1 21 (itN (bcA 1 21) 4 I)))) (gN 21 I) := by
  refine ⟨pN_of ?_, ?_, ?_, ?_⟩
  · intro a ha
    simp (discharger := omega) only [itN, bcA, bcB, bcS, na_cpI_off, na_set_off]
  · intro j h1 h2
    obtain rfl | rfl | rfl | rfl : j = 4 ∨ j = 5 ∨ j = 6 ∨ j = 7 := by omega
    all_goals rfl
  · intro q j h1 h2 h3
    obtain rfl | rfl | rfl | rfl : q = 1 ∨ q = 2 ∨ q = 3 ∨ q = 4 := by omega
    all_goals exact (if_pos (c := 0 ≤ j ∧ j < 0 + 8) ⟨Nat.zero_le _, by omega⟩).trans (congrArg (I _) (by show 0 + (j - 0) = j; omega))
  · intro q j h1 h2 h3
    obtain rfl | rfl | rfl | rfl | rfl : q = 5 ∨ q = 6 ∨ q = 7 ∨ q = 8 ∨ q = 9 := by omega
    all_goals exact (if_pos (c := 0 ≤ j ∧ j < 0 + P) ⟨Nat.zero_le _, by omega⟩).trans (congrArg (I _) (by show 0 + (j - 0) = j; omega))
set_option maxRecDepth 100000 in
set_option maxHeartbeats 4000000 in
theorem c_bec_1_21 (sx : Nat × (Nat → Int32)) (P : Nat) (hP8 : P ≤ 8) (I : Mm) (hP : I 21 7 = nI P) (J : Ml) : Mt sx MX0_become [.ref 1, .ref 21] I J (fun r I' J' => (∃ M, pN 1 M I = I' ∧ Agr P M (gN 21 I)) ∧ J = J' ∧ r = none) := by
  refine Mt.of2 _ rfl (by decide +kernel) (Nat.le_of_ble_eq_true rfl) ?_
  refine GW.run kX0_become (fun pc => Nat.beq pc 2 || Nat.beq pc 64) 82 0 rfl ?_
  exact l_ba1_21_0 sx P hP8 I hP J _ ⟨⟨_, (bcF_1_21 P I).1, (bcF_1_21 P I).2⟩, rfl, rfl⟩
theorem bcP_11_1 (P : Nat) (I : Mm) (hP : I 1 7 = nI P) : ∀ w, w ≤ 5 → itN (bcB P 11 1) w (bcS 11 1 (itN (bcA 11 1) 4 I)) 11 7 = nI P := by
  intro w
  induction w with
  | zero =>
    intro _
    rw [← hP]
    rfl
  | succ w ih =>
    intro h
    rw [itN, bcB, na_cpI_off (by omega)]
    exact ih (by omega)
set_option maxRecDepth 100000 in
set_option maxHeartbeats 4000000 in
theorem l_bb11_1_5 (sx : Nat × (Nat → Int32)) (P : Nat) (hP8 : P ≤ 8) (I : Mm) (hP : I 1 7 = nI P) (J : Ml) (Rt : Option Value → Mm → Ml → Prop) (hR : Rt none (itN (bcB P 11 1) 5 (bcS 11 1 (itN (bcA 11 1) 4 I))) J) : GW sx (na_mi MX0_become) Rt 64 [some (.ref 11), some (.ref 1), some (.int 5)] [] (itN (bcB P 11 1) 5 (bcS 11 1 (itN (bcA 11 1) 4 I))) J := by
  have hc := nI_clamp (n := P) (by omega)
  have hcp : ¬ (0 : Int32) < 0 ∧ ¬ (0 : Int32) < 0 ∧ ¬ nI P < 0 ∧ (0 : Int32).toNatClampNeg + (nI P).toNatClampNeg ≤ 8 ∧ (0 : Int32).toNatClampNeg + (nI P).toNatClampNeg ≤ 8 := by
    rw [hc, z0]
    exact ⟨by decide, by decide, nI_pos (by omega), by omega, by omega⟩
  refine GW.run kX0_become (fun pc => Nat.beq pc 2 || Nat.beq pc 64) 82 35 rfl ?_
  refine And.intro (fun _ => ?_) (fun hh => absurd hh (by decide))
  exact hR
set_option maxRecDepth 100000 in
set_option maxHeartbeats 4000000 in
theorem l_bb11_1_4 (sx : Nat × (Nat → Int32)) (P : Nat) (hP8 : P ≤ 8) (I : Mm) (hP : I 1 7 = nI P) (J : Ml) (Rt : Option Value → Mm → Ml → Prop) (hR : Rt none (itN (bcB P 11 1) 5 (bcS 11 1 (itN (bcA 11 1) 4 I))) J) : GW sx (na_mi MX0_become) Rt 64 [some (.ref 11), some (.ref 1), some (.int 4)] [] (itN (bcB P 11 1) 4 (bcS 11 1 (itN (bcA 11 1) 4 I))) J := by
  have hc := nI_clamp (n := P) (by omega)
  have hcp : ¬ (0 : Int32) < 0 ∧ ¬ (0 : Int32) < 0 ∧ ¬ nI P < 0 ∧ (0 : Int32).toNatClampNeg + (nI P).toNatClampNeg ≤ 8 ∧ (0 : Int32).toNatClampNeg + (nI P).toNatClampNeg ≤ 8 := by
    rw [hc, z0]
    exact ⟨by decide, by decide, nI_pos (by omega), by omega, by omega⟩
  have hp7 : (itN (bcB P 11 1) 4 (bcS 11 1 (itN (bcA 11 1) 4 I))) 11 7 = nI P := bcP_11_1 P I hP 4 (by decide)
  have hcq := hcp
  rw [← hp7] at hcq
  refine GW.run kX0_become (fun pc => Nat.beq pc 2 || Nat.beq pc 64) 82 35 rfl ?_
  refine And.intro (fun hh => absurd hh (by decide)) (fun _ => ?_)
  refine Mt.conseq (c_rop _ _ (by decide) 4 (by decide) _ (by decide) _ _) ?_
  rintro _ _ _ ⟨rfl, rfl, rfl⟩
  refine Mt.conseq (c_rop _ _ (by decide) 4 (by decide) _ (by decide) _ _) ?_
  rintro _ _ _ ⟨rfl, rfl, rfl⟩
  refine And.intro (hcq) ?_
  refine GW.weak (GW.eqI ?_ (l_bb11_1_5 sx P hP8 I hP J Rt hR)) ⟨rfl, rfl, by decide, trivial⟩
  refine Eq.trans ?_ (show bcB P 11 1 (itN (bcB P 11 1) 4 (bcS 11 1 (itN (bcA 11 1) 4 I))) 4 = _ from rfl)
  rw [bcB, ← hc, ← hp7]
  rfl
set_option maxRecDepth 100000 in
set_option maxHeartbeats 4000000 in
theorem l_bb11_1_3 (sx : Nat × (Nat → Int32)) (P : Nat) (hP8 : P ≤ 8) (I : Mm) (hP : I 1 7 = nI P) (J : Ml) (Rt : Option Value → Mm → Ml → Prop) (hR : Rt none (itN (bcB P 11 1) 5 (bcS 11 1 (itN (bcA 11 1) 4 I))) J) : GW sx (na_mi MX0_become) Rt 64 [some (.ref 11), some (.ref 1), some (.int 3)] [] (itN (bcB P 11 1) 3 (bcS 11 1 (itN (bcA 11 1) 4 I))) J := by
  have hc := nI_clamp (n := P) (by omega)
  have hcp : ¬ (0 : Int32) < 0 ∧ ¬ (0 : Int32) < 0 ∧ ¬ nI P < 0 ∧ (0 : Int32).toNatClampNeg + (nI P).toNatClampNeg ≤ 8 ∧ (0 : Int32).toNatClampNeg + (nI P).toNatClampNeg ≤ 8 := by
    rw [hc, z0]
    exact ⟨by decide, by decide, nI_pos (by omega), by omega, by omega⟩
  have hp7 : (itN (bcB P 11 1) 3 (bcS 11 1 (itN (bcA 11 1) 4 I))) 11 7 = nI P := bcP_11_1 P I hP 3 (by decide)
  have hcq := hcp
  rw [← hp7] at hcq
  refine GW.run kX0_become (fun pc => Nat.beq pc 2 || Nat.beq pc 64) 82 35 rfl ?_
  refine And.intro (fun hh => absurd hh (by decide)) (fun _ => ?_)
  refine Mt.conseq (c_rop _ _ (by decide) 3 (by decide) _ (by decide) _ _) ?_
  rintro _ _ _ ⟨rfl, rfl, rfl⟩
  refine Mt.conseq (c_rop _ _ (by decide) 3 (by decide) _ (by decide) _ _) ?_
  rintro _ _ _ ⟨rfl, rfl, rfl⟩
  refine And.intro (hcq) ?_
  refine GW.weak (GW.eqI ?_ (l_bb11_1_4 sx P hP8 I hP J Rt hR)) ⟨rfl, rfl, by decide, trivial⟩
  refine Eq.trans ?_ (show bcB P 11 1 (itN (bcB P 11 1) 3 (bcS 11 1 (itN (bcA 11 1) 4 I))) 3 = _ from rfl)
  rw [bcB, ← hc, ← hp7]
  rfl
set_option maxRecDepth 100000 in
set_option maxHeartbeats 4000000 in
theorem l_bb11_1_2 (sx : Nat × (Nat → Int32)) (P : Nat) (hP8 : P ≤ 8) (I : Mm) (hP : I 1 7 = nI P) (J : Ml) (Rt : Option Value → Mm → Ml → Prop) (hR : Rt none (itN (bcB P 11 1) 5 (bcS 11 1 (itN (bcA 11 1) 4 I))) J) : GW sx (na_mi MX0_become) Rt 64 [some (.ref 11), some (.ref 1), some (.int 2)] [] (itN (bcB P 11 1) 2 (bcS 11 1 (itN (bcA 11 1) 4 I))) J := by
  have hc := nI_clamp (n := P) (by omega)
  have hcp : ¬ (0 : Int32) < 0 ∧ ¬ (0 : Int32) < 0 ∧ ¬ nI P < 0 ∧ (0 : Int32).toNatClampNeg + (nI P).toNatClampNeg ≤ 8 ∧ (0 : Int32).toNatClampNeg + (nI P).toNatClampNeg ≤ 8 := by
    rw [hc, z0]
    exact ⟨by decide, by decide, nI_pos (by omega), by omega, by omega⟩
  have hp7 : (itN (bcB P 11 1) 2 (bcS 11 1 (itN (bcA 11 1) 4 I))) 11 7 = nI P := bcP_11_1 P I hP 2 (by decide)
  have hcq := hcp
  rw [← hp7] at hcq
  refine GW.run kX0_become (fun pc => Nat.beq pc 2 || Nat.beq pc 64) 82 35 rfl ?_
  refine And.intro (fun hh => absurd hh (by decide)) (fun _ => ?_)
  refine Mt.conseq (c_rop _ _ (by decide) 2 (by decide) _ (by decide) _ _) ?_
  rintro _ _ _ ⟨rfl, rfl, rfl⟩
  refine Mt.conseq (c_rop _ _ (by decide) 2 (by decide) _ (by decide) _ _) ?_
  rintro _ _ _ ⟨rfl, rfl, rfl⟩
  refine And.intro (hcq) ?_
  refine GW.weak (GW.eqI ?_ (l_bb11_1_3 sx P hP8 I hP J Rt hR)) ⟨rfl, rfl, by decide, trivial⟩
  refine Eq.trans ?_ (show bcB P 11 1 (itN (bcB P 11 1) 2 (bcS 11 1 (itN (bcA 11 1) 4 I))) 2 = _ from rfl)
  rw [bcB, ← hc, ← hp7]
  rfl
set_option maxRecDepth 100000 in
set_option maxHeartbeats 4000000 in
theorem l_bb11_1_1 (sx : Nat × (Nat → Int32)) (P : Nat) (hP8 : P ≤ 8) (I : Mm) (hP : I 1 7 = nI P) (J : Ml) (Rt : Option Value → Mm → Ml → Prop) (hR : Rt none (itN (bcB P 11 1) 5 (bcS 11 1 (itN (bcA 11 1) 4 I))) J) : GW sx (na_mi MX0_become) Rt 64 [some (.ref 11), some (.ref 1), some (.int 1)] [] (itN (bcB P 11 1) 1 (bcS 11 1 (itN (bcA 11 1) 4 I))) J := by
  have hc := nI_clamp (n := P) (by omega)
  have hcp : ¬ (0 : Int32) < 0 ∧ ¬ (0 : Int32) < 0 ∧ ¬ nI P < 0 ∧ (0 : Int32).toNatClampNeg + (nI P).toNatClampNeg ≤ 8 ∧ (0 : Int32).toNatClampNeg + (nI P).toNatClampNeg ≤ 8 := by
    rw [hc, z0]
    exact ⟨by decide, by decide, nI_pos (by omega), by omega, by omega⟩
  have hp7 : (itN (bcB P 11 1) 1 (bcS 11 1 (itN (bcA 11 1) 4 I))) 11 7 = nI P := bcP_11_1 P I hP 1 (by decide)
  have hcq := hcp
  rw [← hp7] at hcq
  refine GW.run kX0_become (fun pc => Nat.beq pc 2 || Nat.beq pc 64) 82 35 rfl ?_
  refine And.intro (fun hh => absurd hh (by decide)) (fun _ => ?_)
  refine Mt.conseq (c_rop _ _ (by decide) 1 (by decide) _ (by decide) _ _) ?_
  rintro _ _ _ ⟨rfl, rfl, rfl⟩
  refine Mt.conseq (c_rop _ _ (by decide) 1 (by decide) _ (by decide) _ _) ?_
  rintro _ _ _ ⟨rfl, rfl, rfl⟩
  refine And.intro (hcq) ?_
  refine GW.weak (GW.eqI ?_ (l_bb11_1_2 sx P hP8 I hP J Rt hR)) ⟨rfl, rfl, by decide, trivial⟩
  refine Eq.trans ?_ (show bcB P 11 1 (itN (bcB P 11 1) 1 (bcS 11 1 (itN (bcA 11 1) 4 I))) 1 = _ from rfl)
  rw [bcB, ← hc, ← hp7]
  rfl
set_option maxRecDepth 100000 in
set_option maxHeartbeats 4000000 in
theorem l_bb11_1_0 (sx : Nat × (Nat → Int32)) (P : Nat) (hP8 : P ≤ 8) (I : Mm) (hP : I 1 7 = nI P) (J : Ml) (Rt : Option Value → Mm → Ml → Prop) (hR : Rt none (itN (bcB P 11 1) 5 (bcS 11 1 (itN (bcA 11 1) 4 I))) J) : GW sx (na_mi MX0_become) Rt 64 [some (.ref 11), some (.ref 1), some (.int 0)] [] (itN (bcB P 11 1) 0 (bcS 11 1 (itN (bcA 11 1) 4 I))) J := by
  have hc := nI_clamp (n := P) (by omega)
  have hcp : ¬ (0 : Int32) < 0 ∧ ¬ (0 : Int32) < 0 ∧ ¬ nI P < 0 ∧ (0 : Int32).toNatClampNeg + (nI P).toNatClampNeg ≤ 8 ∧ (0 : Int32).toNatClampNeg + (nI P).toNatClampNeg ≤ 8 := by
    rw [hc, z0]
    exact ⟨by decide, by decide, nI_pos (by omega), by omega, by omega⟩
  have hp7 : (itN (bcB P 11 1) 0 (bcS 11 1 (itN (bcA 11 1) 4 I))) 11 7 = nI P := bcP_11_1 P I hP 0 (by decide)
  have hcq := hcp
  rw [← hp7] at hcq
  refine GW.run kX0_become (fun pc => Nat.beq pc 2 || Nat.beq pc 64) 82 35 rfl ?_
  refine And.intro (fun hh => absurd hh (by decide)) (fun _ => ?_)
  refine Mt.conseq (c_rop _ _ (by decide) 0 (by decide) _ (by decide) _ _) ?_
  rintro _ _ _ ⟨rfl, rfl, rfl⟩
  refine Mt.conseq (c_rop _ _ (by decide) 0 (by decide) _ (by decide) _ _) ?_
  rintro _ _ _ ⟨rfl, rfl, rfl⟩
  refine And.intro (hcq) ?_
  refine GW.weak (GW.eqI ?_ (l_bb11_1_1 sx P hP8 I hP J Rt hR)) ⟨rfl, rfl, by decide, trivial⟩
  refine Eq.trans ?_ (show bcB P 11 1 (itN (bcB P 11 1) 0 (bcS 11 1 (itN (bcA 11 1) 4 I))) 0 = _ from rfl)
  rw [bcB, ← hc, ← hp7]
  rfl
set_option maxRecDepth 100000 in
set_option maxHeartbeats 4000000 in
theorem l_ba11_1_4 (sx : Nat × (Nat → Int32)) (P : Nat) (hP8 : P ≤ 8) (I : Mm) (hP : I 1 7 = nI P) (J : Ml) (Rt : Option Value → Mm → Ml → Prop) (hR : Rt none (itN (bcB P 11 1) 5 (bcS 11 1 (itN (bcA 11 1) 4 I))) J) : GW sx (na_mi MX0_become) Rt 2 [some (.ref 11), some (.ref 1), some (.int 4)] [] (itN (bcA 11 1) 4 I) J := by
  refine GW.run kX0_become (fun pc => Nat.beq pc 2 || Nat.beq pc 64) 82 2 rfl ?_
  refine And.intro (fun _ => ?_) (fun hh => absurd hh (by decide))
  refine GW.weak (GW.eqI ?_ (l_bb11_1_0 sx P hP8 I hP J Rt hR)) ⟨rfl, rfl, rfl, trivial⟩
  rfl
set_option maxRecDepth 100000 in
set_option maxHeartbeats 4000000 in
theorem l_ba11_1_3 (sx : Nat × (Nat → Int32)) (P : Nat) (hP8 : P ≤ 8) (I : Mm) (hP : I 1 7 = nI P) (J : Ml) (Rt : Option Value → Mm → Ml → Prop) (hR : Rt none (itN (bcB P 11 1) 5 (bcS 11 1 (itN (bcA 11 1) 4 I))) J) : GW sx (na_mi MX0_become) Rt 2 [some (.ref 11), some (.ref 1), some (.int 3)] [] (itN (bcA 11 1) 3 I) J := by
  refine GW.run kX0_become (fun pc => Nat.beq pc 2 || Nat.beq pc 64) 82 2 rfl ?_
  refine And.intro (fun hh => absurd hh (by decide)) (fun _ => ?_)
  refine Mt.conseq (c_ror _ _ (by decide) 3 (by decide) _ (by decide) _ _) ?_
  rintro _ _ _ ⟨rfl, rfl, rfl⟩
  refine Mt.conseq (c_ror _ _ (by decide) 3 (by decide) _ (by decide) _ _) ?_
  rintro _ _ _ ⟨rfl, rfl, rfl⟩
  refine And.intro (⟨by decide, by decide, by decide, by decide, by decide⟩) ?_
  refine GW.weak (GW.eqI ?_ (l_ba11_1_4 sx P hP8 I hP J Rt hR)) ⟨rfl, rfl, by decide, trivial⟩
  refine Eq.trans ?_ (show bcA 11 1 (itN (bcA 11 1) 3 I) 3 = _ from rfl)
  rw [bcA, ← z8]
  rfl
set_option maxRecDepth 100000 in
set_option maxHeartbeats 4000000 in
theorem l_ba11_1_2 (sx : Nat × (Nat → Int32)) (P : Nat) (hP8 : P ≤ 8) (I : Mm) (hP : I 1 7 = nI P) (J : Ml) (Rt : Option Value → Mm → Ml → Prop) (hR : Rt none (itN (bcB P 11 1) 5 (bcS 11 1 (itN (bcA 11 1) 4 I))) J) : GW sx (na_mi MX0_become) Rt 2 [some (.ref 11), some (.ref 1), some (.int 2)] [] (itN (bcA 11 1) 2 I) J := by
  refine GW.run kX0_become (fun pc => Nat.beq pc 2 || Nat.beq pc 64) 82 2 rfl ?_
  refine And.intro (fun hh => absurd hh (by decide)) (fun _ => ?_)
  refine Mt.conseq (c_ror _ _ (by decide) 2 (by decide) _ (by decide) _ _) ?_
  rintro _ _ _ ⟨rfl, rfl, rfl⟩
  refine Mt.conseq (c_ror _ _ (by decide) 2 (by decide) _ (by decide) _ _) ?_
  rintro _ _ _ ⟨rfl, rfl, rfl⟩
  refine And.intro (⟨by decide, by decide, by decide, by decide, by decide⟩) ?_
  refine GW.weak (GW.eqI ?_ (l_ba11_1_3 sx P hP8 I hP J Rt hR)) ⟨rfl, rfl, by decide, trivial⟩
  refine Eq.trans ?_ (show bcA 11 1 (itN (bcA 11 1) 2 I) 2 = _ from rfl)
  rw [bcA, ← z8]
  rfl
set_option maxRecDepth 100000 in
set_option maxHeartbeats 4000000 in
theorem l_ba11_1_1 (sx : Nat × (Nat → Int32)) (P : Nat) (hP8 : P ≤ 8) (I : Mm) (hP : I 1 7 = nI P) (J : Ml) (Rt : Option Value → Mm → Ml → Prop) (hR : Rt none (itN (bcB P 11 1) 5 (bcS 11 1 (itN (bcA 11 1) 4 I))) J) : GW sx (na_mi MX0_become) Rt 2 [some (.ref 11), some (.ref 1), some (.int 1)] [] (itN (bcA 11 1) 1 I) J := by
  refine GW.run kX0_become (fun pc => Nat.beq pc 2 || Nat.beq pc 64) 82 2 rfl ?_
  refine And.intro (fun hh => absurd hh (by decide)) (fun _ => ?_)
  refine Mt.conseq (c_ror _ _ (by decide) 1 (by decide) _ (by decide) _ _) ?_
  rintro _ _ _ ⟨rfl, rfl, rfl⟩
  refine Mt.conseq (c_ror _ _ (by decide) 1 (by decide) _ (by decide) _ _) ?_
  rintro _ _ _ ⟨rfl, rfl, rfl⟩
  refine And.intro (⟨by decide, by decide, by decide, by decide, by decide⟩) ?_
  refine GW.weak (GW.eqI ?_ (l_ba11_1_2 sx P hP8 I hP J Rt hR)) ⟨rfl, rfl, by decide, trivial⟩
  refine Eq.trans ?_ (show bcA 11 1 (itN (bcA 11 1) 1 I) 1 = _ from rfl)
  rw [bcA, ← z8]
  rfl
set_option maxRecDepth 100000 in
set_option maxHeartbeats 4000000 in
theorem l_ba11_1_0 (sx : Nat × (Nat → Int32)) (P : Nat) (hP8 : P ≤ 8) (I : Mm) (hP : I 1 7 = nI P) (J : Ml) (Rt : Option Value → Mm → Ml → Prop) (hR : Rt none (itN (bcB P 11 1) 5 (bcS 11 1 (itN (bcA 11 1) 4 I))) J) : GW sx (na_mi MX0_become) Rt 2 [some (.ref 11), some (.ref 1), some (.int 0)] [] (itN (bcA 11 1) 0 I) J := by
  refine GW.run kX0_become (fun pc => Nat.beq pc 2 || Nat.beq pc 64) 82 2 rfl ?_
  refine And.intro (fun hh => absurd hh (by decide)) (fun _ => ?_)
  refine Mt.conseq (c_ror _ _ (by decide) 0 (by decide) _ (by decide) _ _) ?_
  rintro _ _ _ ⟨rfl, rfl, rfl⟩
  refine Mt.conseq (c_ror _ _ (by decide) 0 (by decide) _ (by decide) _ _) ?_
  rintro _ _ _ ⟨rfl, rfl, rfl⟩
  refine And.intro (⟨by decide, by decide, by decide, by decide, by decide⟩) ?_
  refine GW.weak (GW.eqI ?_ (l_ba11_1_1 sx P hP8 I hP J Rt hR)) ⟨rfl, rfl, by decide, trivial⟩
  refine Eq.trans ?_ (show bcA 11 1 (itN (bcA 11 1) 0 I) 0 = _ from rfl)
  rw [bcA, ← z8]
  rfl
theorem bcF_11_1 (P : Nat) (I : Mm) : (pN 11 (gN 11 (itN (bcB P 11 1) 5 (bcS 11 1 (itN (bcA 11 1) 4 I)))) I = itN (bcB P 11 1) 5 (bcS 11 1 (itN (bcA 11 1) 4 I))) ∧ Agr P (gN 11 (itN (bcB P 11 1) 5 (bcS 11 1 (itN (bcA 11 1) 4 I)))) (gN 1 I) := by
  refine ⟨pN_of ?_, ?_, ?_, ?_⟩
  · intro a ha
    simp (discharger := omega) only [itN, bcA, bcB, bcS, na_cpI_off, na_set_off]
  · intro j h1 h2
    obtain rfl | rfl | rfl | rfl : j = 4 ∨ j = 5 ∨ j = 6 ∨ j = 7 := by omega
    all_goals rfl
  · intro q j h1 h2 h3
    obtain rfl | rfl | rfl | rfl : q = 1 ∨ q = 2 ∨ q = 3 ∨ q = 4 := by omega
    all_goals exact (if_pos (c := 0 ≤ j ∧ j < 0 + 8) ⟨Nat.zero_le _, by omega⟩).trans (congrArg (I _) (by show 0 + (j - 0) = j; omega))
  · intro q j h1 h2 h3
    obtain rfl | rfl | rfl | rfl | rfl : q = 5 ∨ q = 6 ∨ q = 7 ∨ q = 8 ∨ q = 9 := by omega
    all_goals exact (if_pos (c := 0 ≤ j ∧ j < 0 + P) ⟨Nat.zero_le _, by omega⟩).trans (congrArg (I _) (by show 0 + (j - 0) = j; omega))
set_option maxRecDepth 100000 in
set_option maxHeartbeats 4000000 in
theorem c_bec_11_1 (sx : Nat × (Nat → Int32)) (P : Nat) (hP8 : P ≤ 8) (I : Mm) (hP : I 1 7 = nI P) (J : Ml) : Mt sx MX0_become [.ref 11, .ref 1] I J (fun r I' J' => (∃ M, pN 11 M I = I' ∧ Agr P M (gN 1 I)) ∧ J = J' ∧ r = none) := by
  refine Mt.of2 _ rfl (by decide +kernel) (Nat.le_of_ble_eq_true rfl) ?_
  refine GW.run kX0_become (fun pc => Nat.beq pc 2 || Nat.beq pc 64) 82 0 rfl ?_
  exact l_ba11_1_0 sx P hP8 I hP J _ ⟨⟨_, (bcF_11_1 P I).1, (bcF_11_1 P I).2⟩, rfl, rfl⟩
theorem bcP_1_11 (P : Nat) (I : Mm) (hP : I 11 7 = nI P) : ∀ w, w ≤ 5 → itN (bcB P 1 11) w (bcS 1 11 (itN (bcA 1 11) 4 I)) 1 7 = nI P := by
  intro w
  induction w with
  | zero =>
    intro _
    rw [← hP]
    rfl
  | succ w ih =>
    intro h
    rw [itN, bcB, na_cpI_off (by omega)]
    exact ih (by omega)
set_option maxRecDepth 100000 in
set_option maxHeartbeats 4000000 in
theorem l_bb1_11_5 (sx : Nat × (Nat → Int32)) (P : Nat) (hP8 : P ≤ 8) (I : Mm) (hP : I 11 7 = nI P) (J : Ml) (Rt : Option Value → Mm → Ml → Prop) (hR : Rt none (itN (bcB P 1 11) 5 (bcS 1 11 (itN (bcA 1 11) 4 I))) J) : GW sx (na_mi MX0_become) Rt 64 [some (.ref 1), some (.ref 11), some (.int 5)] [] (itN (bcB P 1 11) 5 (bcS 1 11 (itN (bcA 1 11) 4 I))) J := by
  have hc := nI_clamp (n := P) (by omega)
  have hcp : ¬ (0 : Int32) < 0 ∧ ¬ (0 : Int32) < 0 ∧ ¬ nI P < 0 ∧ (0 : Int32).toNatClampNeg + (nI P).toNatClampNeg ≤ 8 ∧ (0 : Int32).toNatClampNeg + (nI P).toNatClampNeg ≤ 8 := by
    rw [hc, z0]
    exact ⟨by decide, by decide, nI_pos (by omega), by omega, by omega⟩
  refine GW.run kX0_become (fun pc => Nat.beq pc 2 || Nat.beq pc 64) 82 35 rfl ?_
  refine And.intro (fun _ => ?_) (fun hh => absurd hh (by decide))
  exact hR
set_option maxRecDepth 100000 in
set_option maxHeartbeats 4000000 in
theorem l_bb1_11_4 (sx : Nat × (Nat → Int32)) (P : Nat) (hP8 : P ≤ 8) (I : Mm) (hP : I 11 7 = nI P) (J : Ml) (Rt : Option Value → Mm → Ml → Prop) (hR : Rt none (itN (bcB P 1 11) 5 (bcS 1 11 (itN (bcA 1 11) 4 I))) J) : GW sx (na_mi MX0_become) Rt 64 [some (.ref 1), some (.ref 11), some (.int 4)] [] (itN (bcB P 1 11) 4 (bcS 1 11 (itN (bcA 1 11) 4 I))) J := by
  have hc := nI_clamp (n := P) (by omega)
  have hcp : ¬ (0 : Int32) < 0 ∧ ¬ (0 : Int32) < 0 ∧ ¬ nI P < 0 ∧ (0 : Int32).toNatClampNeg + (nI P).toNatClampNeg ≤ 8 ∧ (0 : Int32).toNatClampNeg + (nI P).toNatClampNeg ≤ 8 := by
    rw [hc, z0]
    exact ⟨by decide, by decide, nI_pos (by omega), by omega, by omega⟩
  have hp7 : (itN (bcB P 1 11) 4 (bcS 1 11 (itN (bcA 1 11) 4 I))) 1 7 = nI P := bcP_1_11 P I hP 4 (by decide)
  have hcq := hcp
  rw [← hp7] at hcq
  refine GW.run kX0_become (fun pc => Nat.beq pc 2 || Nat.beq pc 64) 82 35 rfl ?_
  refine And.intro (fun hh => absurd hh (by decide)) (fun _ => ?_)
  refine Mt.conseq (c_rop _ _ (by decide) 4 (by decide) _ (by decide) _ _) ?_
  rintro _ _ _ ⟨rfl, rfl, rfl⟩
  refine Mt.conseq (c_rop _ _ (by decide) 4 (by decide) _ (by decide) _ _) ?_
  rintro _ _ _ ⟨rfl, rfl, rfl⟩
  refine And.intro (hcq) ?_
  refine GW.weak (GW.eqI ?_ (l_bb1_11_5 sx P hP8 I hP J Rt hR)) ⟨rfl, rfl, by decide, trivial⟩
  refine Eq.trans ?_ (show bcB P 1 11 (itN (bcB P 1 11) 4 (bcS 1 11 (itN (bcA 1 11) 4 I))) 4 = _ from rfl)
  rw [bcB, ← hc, ← hp7]
  rfl
set_option maxRecDepth 100000 in
set_option maxHeartbeats 4000000 in
theorem l_bb1_11_3 (sx : Nat × (Nat → Int32)) (P : Nat) (hP8 : P ≤ 8) (I : Mm) (hP : I 11 7 = nI P) (J : Ml) (Rt : Option Value → Mm → Ml → Prop) (hR : Rt none (itN (bcB P 1 11) 5 (bcS 1 11 (itN (bcA 1 11) 4 I))) J) : GW sx (na_mi MX0_become) Rt 64 [some (.ref 1), some (.ref 11), some (.int 3)] [] (itN (bcB P 1 11) 3 (bcS 1 11 (itN (bcA 1 11) 4 I))) J := by
  have hc := nI_clamp (n := P) (by omega)
  have hcp : ¬ (0 : Int32) < 0 ∧ ¬ (0 : Int32) < 0 ∧ ¬ nI P < 0 ∧ (0 : Int32).toNatClampNeg + (nI P).toNatClampNeg ≤ 8 ∧ (0 : Int32).toNatClampNeg + (nI P).toNatClampNeg ≤ 8 := by
    rw [hc, z0]
    exact ⟨by decide, by decide, nI_pos (by omega), by omega, by omega⟩
  have hp7 : (itN (bcB P 1 11) 3 (bcS 1 11 (itN (bcA 1 11) 4 I))) 1 7 = nI P := bcP_1_11 P I hP 3 (by decide)
  have hcq := hcp
  rw [← hp7] at hcq
  refine GW.run kX0_become (fun pc => Nat.beq pc 2 || Nat.beq pc 64) 82 35 rfl ?_
  refine And.intro (fun hh => absurd hh (by decide)) (fun _ => ?_)
  refine Mt.conseq (c_rop _ _ (by decide) 3 (by decide) _ (by decide) _ _) ?_
  rintro _ _ _ ⟨rfl, rfl, rfl⟩
  refine Mt.conseq (c_rop _ _ (by decide) 3 (by decide) _ (by decide) _ _) ?_
  rintro _ _ _ ⟨rfl, rfl, rfl⟩
  refine And.intro (hcq) ?_
  refine GW.weak (GW.eqI ?_ (l_bb1_11_4 sx P hP8 I hP J Rt hR)) ⟨rfl, rfl, by decide, trivial⟩
  refine Eq.trans ?_ (show bcB P 1 11 (itN (bcB P 1 11) 3 (bcS 1 11 (itN (bcA 1 11) 4 I))) 3 = _ from rfl)
  rw [bcB, ← hc, ← hp7]
  rfl
set_option maxRecDepth 100000 in
set_option maxHeartbeats 4000000 in
theorem l_bb1_11_2 (sx : Nat × (Nat → Int32)) (P : Nat) (hP8 : P ≤ 8) (I : Mm) (hP : I 11 7 = nI P) (J : Ml) (Rt : Option Value → Mm → Ml → Prop) (hR : Rt none (itN (bcB P 1 11) 5 (bcS 1 11 (itN (bcA 1 11) 4 I))) J) : GW sx (na_mi MX0_become) Rt 64 [some (.ref 1), some (.ref 11), some (.int 2)] [] (itN (bcB P 1 11) 2 (bcS 1 11 (itN (bcA 1 11) 4 I))) J := by
  have hc := nI_clamp (n := P) (by omega)
  have hcp : ¬ (0 : Int32) < 0 ∧ ¬ (0 : Int32) < 0 ∧ ¬ nI P < 0 ∧ (0 : Int32).toNatClampNeg + (nI P).toNatClampNeg ≤ 8 ∧ (0 : Int32).toNatClampNeg + (nI P).toNatClampNeg ≤ 8 := by
    rw [hc, z0]
    exact ⟨by decide, by decide, nI_pos (by omega), by omega, by omega⟩
  have hp7 : (itN (bcB P 1 11) 2 (bcS 1 11 (itN (bcA 1 11) 4 I))) 1 7 = nI P := bcP_1_11 P I hP 2 (by decide)
  have hcq := hcp
  rw [← hp7] at hcq
  refine GW.run kX0_become (fun pc => Nat.beq pc 2 || Nat.beq pc 64) 82 35 rfl ?_
  refine And.intro (fun hh => absurd hh (by decide)) (fun _ => ?_)
  refine Mt.conseq (c_rop _ _ (by decide) 2 (by decide) _ (by decide) _ _) ?_
  rintro _ _ _ ⟨rfl, rfl, rfl⟩
  refine Mt.conseq (c_rop _ _ (by decide) 2 (by decide) _ (by decide) _ _) ?_
  rintro _ _ _ ⟨rfl, rfl, rfl⟩
  refine And.intro (hcq) ?_
  refine GW.weak (GW.eqI ?_ (l_bb1_11_3 sx P hP8 I hP J Rt hR)) ⟨rfl, rfl, by decide, trivial⟩
  refine Eq.trans ?_ (show bcB P 1 11 (itN (bcB P 1 11) 2 (bcS 1 11 (itN (bcA 1 11) 4 I))) 2 = _ from rfl)
  rw [bcB, ← hc, ← hp7]
  rfl
set_option maxRecDepth 100000 in
set_option maxHeartbeats 4000000 in
theorem l_bb1_11_1 (sx : Nat × (Nat → Int32)) (P : Nat) (hP8 : P ≤ 8) (I : Mm) (hP : I 11 7 = nI P) (J : Ml) (Rt : Option Value → Mm → Ml → Prop) (hR : Rt none (itN (bcB P 1 11) 5 (bcS 1 11 (itN (bcA 1 11) 4 I))) J) : GW sx (na_mi MX0_become) Rt 64 [some (.ref 1), some (.ref 11), some (.int 1)] [] (itN (bcB P 1 11) 1 (bcS 1 11 (itN (bcA 1 11) 4 I))) J := by
  have hc := nI_clamp (n := P) (by omega)
  have hcp : ¬ (0 : Int32) < 0 ∧ ¬ (0 : Int32) < 0 ∧ ¬ nI P < 0 ∧ (0 : Int32).toNatClampNeg + (nI P).toNatClampNeg ≤ 8 ∧ (0 : Int32).toNatClampNeg + (nI P).toNatClampNeg ≤ 8 := by
    rw [hc, z0]
    exact ⟨by decide, by decide, nI_pos (by omega), by omega, by omega⟩
  have hp7 : (itN (bcB P 1 11) 1 (bcS 1 11 (itN (bcA 1 11) 4 I))) 1 7 = nI P := bcP_1_11 P I hP 1 (by decide)
  have hcq := hcp
  rw [← hp7] at hcq
  refine GW.run kX0_become (fun pc => Nat.beq pc 2 || Nat.beq pc 64) 82 35 rfl ?_
  refine And.intro (fun hh => absurd hh (by decide)) (fun _ => ?_)
  refine Mt.conseq (c_rop _ _ (by decide) 1 (by decide) _ (by decide) _ _) ?_
  rintro _ _ _ ⟨rfl, rfl, rfl⟩
  refine Mt.conseq (c_rop _ _ (by decide) 1 (by decide) _ (by decide) _ _) ?_
  rintro _ _ _ ⟨rfl, rfl, rfl⟩
  refine And.intro (hcq) ?_
  refine GW.weak (GW.eqI ?_ (l_bb1_11_2 sx P hP8 I hP J Rt hR)) ⟨rfl, rfl, by decide, trivial⟩
  refine Eq.trans ?_ (show bcB P 1 11 (itN (bcB P 1 11) 1 (bcS 1 11 (itN (bcA 1 11) 4 I))) 1 = _ from rfl)
  rw [bcB, ← hc, ← hp7]
  rfl
set_option maxRecDepth 100000 in
set_option maxHeartbeats 4000000 in
theorem l_bb1_11_0 (sx : Nat × (Nat → Int32)) (P : Nat) (hP8 : P ≤ 8) (I : Mm) (hP : I 11 7 = nI P) (J : Ml) (Rt : Option Value → Mm → Ml → Prop) (hR : Rt none (itN (bcB P 1 11) 5 (bcS 1 11 (itN (bcA 1 11) 4 I))) J) : GW sx (na_mi MX0_become) Rt 64 [some (.ref 1), some (.ref 11), some (.int 0)] [] (itN (bcB P 1 11) 0 (bcS 1 11 (itN (bcA 1 11) 4 I))) J := by
  have hc := nI_clamp (n := P) (by omega)
  have hcp : ¬ (0 : Int32) < 0 ∧ ¬ (0 : Int32) < 0 ∧ ¬ nI P < 0 ∧ (0 : Int32).toNatClampNeg + (nI P).toNatClampNeg ≤ 8 ∧ (0 : Int32).toNatClampNeg + (nI P).toNatClampNeg ≤ 8 := by
    rw [hc, z0]
    exact ⟨by decide, by decide, nI_pos (by omega), by omega, by omega⟩
  have hp7 : (itN (bcB P 1 11) 0 (bcS 1 11 (itN (bcA 1 11) 4 I))) 1 7 = nI P := bcP_1_11 P I hP 0 (by decide)
  have hcq := hcp
  rw [← hp7] at hcq
  refine GW.run kX0_become (fun pc => Nat.beq pc 2 || Nat.beq pc 64) 82 35 rfl ?_
  refine And.intro (fun hh => absurd hh (by decide)) (fun _ => ?_)
  refine Mt.conseq (c_rop _ _ (by decide) 0 (by decide) _ (by decide) _ _) ?_
  rintro _ _ _ ⟨rfl, rfl, rfl⟩
  refine Mt.conseq (c_rop _ _ (by decide) 0 (by decide) _ (by decide) _ _) ?_
  rintro _ _ _ ⟨rfl, rfl, rfl⟩
  refine And.intro (hcq) ?_
  refine GW.weak (GW.eqI ?_ (l_bb1_11_1 sx P hP8 I hP J Rt hR)) ⟨rfl, rfl, by decide, trivial⟩
  refine Eq.trans ?_ (show bcB P 1 11 (itN (bcB P 1 11) 0 (bcS 1 11 (itN (bcA 1 11) 4 I))) 0 = _ from rfl)
  rw [bcB, ← hc, ← hp7]
  rfl
set_option maxRecDepth 100000 in
set_option maxHeartbeats 4000000 in
theorem l_ba1_11_4 (sx : Nat × (Nat → Int32)) (P : Nat) (hP8 : P ≤ 8) (I : Mm) (hP : I 11 7 = nI P) (J : Ml) (Rt : Option Value → Mm → Ml → Prop) (hR : Rt none (itN (bcB P 1 11) 5 (bcS 1 11 (itN (bcA 1 11) 4 I))) J) : GW sx (na_mi MX0_become) Rt 2 [some (.ref 1), some (.ref 11), some (.int 4)] [] (itN (bcA 1 11) 4 I) J := by
  refine GW.run kX0_become (fun pc => Nat.beq pc 2 || Nat.beq pc 64) 82 2 rfl ?_
  refine And.intro (fun _ => ?_) (fun hh => absurd hh (by decide))
  refine GW.weak (GW.eqI ?_ (l_bb1_11_0 sx P hP8 I hP J Rt hR)) ⟨rfl, rfl, rfl, trivial⟩
  rfl
set_option maxRecDepth 100000 in
set_option maxHeartbeats 4000000 in
theorem l_ba1_11_3 (sx : Nat × (Nat → Int32)) (P : Nat) (hP8 : P ≤ 8) (I : Mm) (hP : I 11 7 = nI P) (J : Ml) (Rt : Option Value → Mm → Ml → Prop) (hR : Rt none (itN (bcB P 1 11) 5 (bcS 1 11 (itN (bcA 1 11) 4 I))) J) : GW sx (na_mi MX0_become) Rt 2 [some (.ref 1), some (.ref 11), some (.int 3)] [] (itN (bcA 1 11) 3 I) J := by
  refine GW.run kX0_become (fun pc => Nat.beq pc 2 || Nat.beq pc 64) 82 2 rfl ?_
  refine And.intro (fun hh => absurd hh (by decide)) (fun _ => ?_)
  refine Mt.conseq (c_ror _ _ (by decide) 3 (by decide) _ (by decide) _ _) ?_
  rintro _ _ _ ⟨rfl, rfl, rfl⟩
  refine Mt.conseq (c_ror _ _ (by decide) 3 (by decide) _ (by decide) _ _) ?_
  rintro _ _ _ ⟨rfl, rfl, rfl⟩
  refine And.intro (⟨by decide, by decide, by decide, by decide, by decide⟩) ?_
  refine GW.weak (GW.eqI ?_ (l_ba1_11_4 sx P hP8 I hP J Rt hR)) ⟨rfl, rfl, by decide, trivial⟩
  refine Eq.trans ?_ (show bcA 1 11 (itN (bcA 1 11) 3 I) 3 = _ from rfl)
  rw [bcA, ← z8]
  rfl
set_option maxRecDepth 100000 in
set_option maxHeartbeats 4000000 in
theorem l_ba1_11_2 (sx : Nat × (Nat → Int32)) (P : Nat) (hP8 : P ≤ 8) (I : Mm) (hP : I 11 7 = nI P) (J : Ml) (Rt : Option Value → Mm → Ml → Prop) (hR : Rt none (itN (bcB P 1 11) 5 (bcS 1 11 (itN (bcA 1 11) 4 I))) J) : GW sx (na_mi MX0_become) Rt 2 [some (.ref 1), some (.ref 11), some (.int 2)] [] (itN (bcA 1 11) 2 I) J := by
  refine GW.run kX0_become (fun pc => Nat.beq pc 2 || Nat.beq pc 64) 82 2 rfl ?_
  refine And.intro (fun hh => absurd hh (by decide)) (fun _ => ?_)
  refine Mt.conseq (c_ror _ _ (by decide) 2 (by decide) _ (by decide) _ _) ?_
  rintro _ _ _ ⟨rfl, rfl, rfl⟩
  refine Mt.conseq (c_ror _ _ (by decide) 2 (by decide) _ (by decide) _ _) ?_
  rintro _ _ _ ⟨rfl, rfl, rfl⟩
  refine And.intro (⟨by decide, by decide, by decide, by decide, by decide⟩) ?_
  refine GW.weak (GW.eqI ?_ (l_ba1_11_3 sx P hP8 I hP J Rt hR)) ⟨rfl, rfl, by decide, trivial⟩
  refine Eq.trans ?_ (show bcA 1 11 (itN (bcA 1 11) 2 I) 2 = _ from rfl)
  rw [bcA, ← z8]
  rfl
set_option maxRecDepth 100000 in
set_option maxHeartbeats 4000000 in
theorem l_ba1_11_1 (sx : Nat × (Nat → Int32)) (P : Nat) (hP8 : P ≤ 8) (I : Mm) (hP : I 11 7 = nI P) (J : Ml) (Rt : Option Value → Mm → Ml → Prop) (hR : Rt none (itN (bcB P 1 11) 5 (bcS 1 11 (itN (bcA 1 11) 4 I))) J) : GW sx (na_mi MX0_become) Rt 2 [some (.ref 1), some (.ref 11), some (.int 1)] [] (itN (bcA 1 11) 1 I) J := by
  refine GW.run kX0_become (fun pc => Nat.beq pc 2 || Nat.beq pc 64) 82 2 rfl ?_
  refine And.intro (fun hh => absurd hh (by decide)) (fun _ => ?_)
  refine Mt.conseq (c_ror _ _ (by decide) 1 (by decide) _ (by decide) _ _) ?_
  rintro _ _ _ ⟨rfl, rfl, rfl⟩
  refine Mt.conseq (c_ror _ _ (by decide) 1 (by decide) _ (by decide) _ _) ?_
  rintro _ _ _ ⟨rfl, rfl, rfl⟩
  refine And.intro (⟨by decide, by decide, by decide, by decide, by decide⟩) ?_
  refine GW.weak (GW.eqI ?_ (l_ba1_11_2 sx P hP8 I hP J Rt hR)) ⟨rfl, rfl, by decide, trivial⟩
  refine Eq.trans ?_ (show bcA 1 11 (itN (bcA 1 11) 1 I) 1 = _ from rfl)
  rw [bcA, ← z8]
  rfl
set_option maxRecDepth 100000 in
set_option maxHeartbeats 4000000 in
theorem l_ba1_11_0 (sx : Nat × (Nat → Int32)) (P : Nat) (hP8 : P ≤ 8) (I : Mm) (hP : I 11 7 = nI P) (J : Ml) (Rt : Option Value → Mm → Ml → Prop) (hR : Rt none (itN (bcB P 1 11) 5 (bcS 1 11 (itN (bcA 1 11) 4 I))) J) : GW sx (na_mi MX0_become) Rt 2 [some (.ref 1), some (.ref 11), some (.int 0)] [] (itN (bcA 1 11) 0 I) J := by
  refine GW.run kX0_become (fun pc => Nat.beq pc 2 || Nat.beq pc 64) 82 2 rfl ?_
  refine And.intro (fun hh => absurd hh (by decide)) (fun _ => ?_)
  refine Mt.conseq (c_ror _ _ (by decide) 0 (by decide) _ (by decide) _ _) ?_
  rintro _ _ _ ⟨rfl, rfl, rfl⟩
  refine Mt.conseq (c_ror _ _ (by decide) 0 (by decide) _ (by decide) _ _) ?_
  rintro _ _ _ ⟨rfl, rfl, rfl⟩
  refine And.intro (⟨by decide, by decide, by decide, by decide, by decide⟩) ?_
  refine GW.weak (GW.eqI ?_ (l_ba1_11_1 sx P hP8 I hP J Rt hR)) ⟨rfl, rfl, by decide, trivial⟩
  refine Eq.trans ?_ (show bcA 1 11 (itN (bcA 1 11) 0 I) 0 = _ from rfl)
  rw [bcA, ← z8]
  rfl
theorem bcF_1_11 (P : Nat) (I : Mm) : (pN 1 (gN 1 (itN (bcB P 1 11) 5 (bcS 1 11 (itN (bcA 1 11) 4 I)))) I = itN (bcB P 1 11) 5 (bcS 1 11 (itN (bcA 1 11) 4 I))) ∧ Agr P (gN 1 (itN (bcB P 1 11) 5 (bcS 1 11 (itN (bcA 1 11) 4 I)))) (gN 11 I) := by
  refine ⟨pN_of ?_, ?_, ?_, ?_⟩
  · intro a ha
    simp (discharger := omega) only [itN, bcA, bcB, bcS, na_cpI_off, na_set_off]
  · intro j h1 h2
    obtain rfl | rfl | rfl | rfl : j = 4 ∨ j = 5 ∨ j = 6 ∨ j = 7 := by omega
    all_goals rfl
  · intro q j h1 h2 h3
    obtain rfl | rfl | rfl | rfl : q = 1 ∨ q = 2 ∨ q = 3 ∨ q = 4 := by omega
    all_goals exact (if_pos (c := 0 ≤ j ∧ j < 0 + 8) ⟨Nat.zero_le _, by omega⟩).trans (congrArg (I _) (by show 0 + (j - 0) = j; omega))
  · intro q j h1 h2 h3
    obtain rfl | rfl | rfl | rfl | rfl : q = 5 ∨ q = 6 ∨ q = 7 ∨ q = 8 ∨ q = 9 := by omega
    all_goals exact (if_pos (c := 0 ≤ j ∧ j < 0 + P) ⟨Nat.zero_le _, by omega⟩).trans (congrArg (I _) (by show 0 + (j - 0) = j; omega))
set_option maxRecDepth 100000 in
set_option maxHeartbeats 4000000 in
theorem c_bec_1_11 (sx : Nat × (Nat → Int32)) (P : Nat) (hP8 : P ≤ 8) (I : Mm) (hP : I 11 7 = nI P) (J : Ml) : Mt sx MX0_become [.ref 1, .ref 11] I J (fun r I' J' => (∃ M, pN 1 M I = I' ∧ Agr P M (gN 11 I)) ∧ J = J' ∧ r = none) := by
  refine Mt.of2 _ rfl (by decide +kernel) (Nat.le_of_ble_eq_true rfl) ?_
  refine GW.run kX0_become (fun pc => Nat.beq pc 2 || Nat.beq pc 64) 82 0 rfl ?_
  exact l_ba1_11_0 sx P hP8 I hP J _ ⟨⟨_, (bcF_1_11 P I).1, (bcF_1_11 P I).2⟩, rfl, rfl⟩
end
section
/-! THE CLASS'S OWN SMALL METHODS -/
def fnd (I : Mm) (f : Nat) : Mm := na_set I 42 f (I 42 f + 1)
set_option maxRecDepth 100000 in
set_option maxHeartbeats 4000000 in
theorem c_fnd0 (sx : Nat × (Nat → Int32)) (I : Mm) (J : Ml) : Mt sx MX3_finding [.ref 0, .int (-1000000001)] I J (fun r I' J' => fnd I 0 = I' ∧ J = J' ∧ r = some (.int (-1000000001))) := by
  refine Mt.of2 _ rfl (by decide +kernel) (Nat.le_of_ble_eq_true rfl) ?_
  refine GW.run kX3_finding (fun _ => false) 49 0 rfl ?_
  refine Mt.conseq (c_outside _ _ _ _ _ _) ?_
  rintro _ _ _ ⟨rfl, rfl, ⟨h1, rfl⟩ | ⟨h1, rfl⟩⟩
  · -- pc 9 call X3_outside true
    refine And.intro (fun _ => ?_) (fun hh => absurd hh (by decide))
    exact absurd h1 (by decide)
  · -- pc 9 call X3_outside false
    refine And.intro (fun hh => absurd hh (by decide)) (fun _ => ?_)
    refine And.intro (by unfold vp_in; decide) ?_
    refine And.intro (by unfold vp_in; decide) ?_
    exact ⟨trivial, rfl, rfl, rfl⟩
set_option maxRecDepth 100000 in
set_option maxHeartbeats 4000000 in
theorem c_fnd1 (sx : Nat × (Nat → Int32)) (I : Mm) (J : Ml) : Mt sx MX3_finding [.ref 0, .int (-1000000002)] I J (fun r I' J' => fnd I 1 = I' ∧ J = J' ∧ r = some (.int (-1000000002))) := by
  refine Mt.of2 _ rfl (by decide +kernel) (Nat.le_of_ble_eq_true rfl) ?_
  refine GW.run kX3_finding (fun _ => false) 49 0 rfl ?_
  refine Mt.conseq (c_outside _ _ _ _ _ _) ?_
  rintro _ _ _ ⟨rfl, rfl, ⟨h1, rfl⟩ | ⟨h1, rfl⟩⟩
  · -- pc 9 call X3_outside true
    refine And.intro (fun _ => ?_) (fun hh => absurd hh (by decide))
    exact absurd h1 (by decide)
  · -- pc 9 call X3_outside false
    refine And.intro (fun hh => absurd hh (by decide)) (fun _ => ?_)
    refine And.intro (by unfold vp_in; decide) ?_
    refine And.intro (by unfold vp_in; decide) ?_
    exact ⟨trivial, rfl, rfl, rfl⟩
set_option maxRecDepth 100000 in
set_option maxHeartbeats 4000000 in
theorem c_fnd2 (sx : Nat × (Nat → Int32)) (I : Mm) (J : Ml) : Mt sx MX3_finding [.ref 0, .int (-1000000003)] I J (fun r I' J' => fnd I 2 = I' ∧ J = J' ∧ r = some (.int (-1000000003))) := by
  refine Mt.of2 _ rfl (by decide +kernel) (Nat.le_of_ble_eq_true rfl) ?_
  refine GW.run kX3_finding (fun _ => false) 49 0 rfl ?_
  refine Mt.conseq (c_outside _ _ _ _ _ _) ?_
  rintro _ _ _ ⟨rfl, rfl, ⟨h1, rfl⟩ | ⟨h1, rfl⟩⟩
  · -- pc 9 call X3_outside true
    refine And.intro (fun _ => ?_) (fun hh => absurd hh (by decide))
    exact absurd h1 (by decide)
  · -- pc 9 call X3_outside false
    refine And.intro (fun hh => absurd hh (by decide)) (fun _ => ?_)
    refine And.intro (by unfold vp_in; decide) ?_
    refine And.intro (by unfold vp_in; decide) ?_
    exact ⟨trivial, rfl, rfl, rfl⟩
set_option maxRecDepth 100000 in
set_option maxHeartbeats 4000000 in
theorem c_fnd3 (sx : Nat × (Nat → Int32)) (I : Mm) (J : Ml) : Mt sx MX3_finding [.ref 0, .int (-1000000004)] I J (fun r I' J' => fnd I 3 = I' ∧ J = J' ∧ r = some (.int (-1000000004))) := by
  refine Mt.of2 _ rfl (by decide +kernel) (Nat.le_of_ble_eq_true rfl) ?_
  refine GW.run kX3_finding (fun _ => false) 49 0 rfl ?_
  refine Mt.conseq (c_outside _ _ _ _ _ _) ?_
  rintro _ _ _ ⟨rfl, rfl, ⟨h1, rfl⟩ | ⟨h1, rfl⟩⟩
  · -- pc 9 call X3_outside true
    refine And.intro (fun _ => ?_) (fun hh => absurd hh (by decide))
    exact absurd h1 (by decide)
  · -- pc 9 call X3_outside false
    refine And.intro (fun hh => absurd hh (by decide)) (fun _ => ?_)
    refine And.intro (by unfold vp_in; decide) ?_
    refine And.intro (by unfold vp_in; decide) ?_
    exact ⟨trivial, rfl, rfl, rfl⟩
set_option maxRecDepth 100000 in
set_option maxHeartbeats 4000000 in
theorem c_fnd4 (sx : Nat × (Nat → Int32)) (I : Mm) (J : Ml) : Mt sx MX3_finding [.ref 0, .int (-1000000005)] I J (fun r I' J' => fnd I 4 = I' ∧ J = J' ∧ r = some (.int (-1000000005))) := by
  refine Mt.of2 _ rfl (by decide +kernel) (Nat.le_of_ble_eq_true rfl) ?_
  refine GW.run kX3_finding (fun _ => false) 49 0 rfl ?_
  refine Mt.conseq (c_outside _ _ _ _ _ _) ?_
  rintro _ _ _ ⟨rfl, rfl, ⟨h1, rfl⟩ | ⟨h1, rfl⟩⟩
  · -- pc 9 call X3_outside true
    refine And.intro (fun _ => ?_) (fun hh => absurd hh (by decide))
    exact absurd h1 (by decide)
  · -- pc 9 call X3_outside false
    refine And.intro (fun hh => absurd hh (by decide)) (fun _ => ?_)
    refine And.intro (by unfold vp_in; decide) ?_
    refine And.intro (by unfold vp_in; decide) ?_
    exact ⟨trivial, rfl, rfl, rfl⟩
set_option maxRecDepth 100000 in
set_option maxHeartbeats 4000000 in
theorem c_fnd5 (sx : Nat × (Nat → Int32)) (I : Mm) (J : Ml) : Mt sx MX3_finding [.ref 0, .int (-1000000006)] I J (fun r I' J' => fnd I 5 = I' ∧ J = J' ∧ r = some (.int (-1000000006))) := by
  refine Mt.of2 _ rfl (by decide +kernel) (Nat.le_of_ble_eq_true rfl) ?_
  refine GW.run kX3_finding (fun _ => false) 49 0 rfl ?_
  refine Mt.conseq (c_outside _ _ _ _ _ _) ?_
  rintro _ _ _ ⟨rfl, rfl, ⟨h1, rfl⟩ | ⟨h1, rfl⟩⟩
  · -- pc 9 call X3_outside true
    refine And.intro (fun _ => ?_) (fun hh => absurd hh (by decide))
    exact absurd h1 (by decide)
  · -- pc 9 call X3_outside false
    refine And.intro (fun hh => absurd hh (by decide)) (fun _ => ?_)
    refine And.intro (by unfold vp_in; decide) ?_
    refine And.intro (by unfold vp_in; decide) ?_
    exact ⟨trivial, rfl, rfl, rfl⟩
set_option maxRecDepth 100000 in
set_option maxHeartbeats 4000000 in
theorem c_fnd6 (sx : Nat × (Nat → Int32)) (I : Mm) (J : Ml) : Mt sx MX3_finding [.ref 0, .int (-1000000007)] I J (fun r I' J' => fnd I 6 = I' ∧ J = J' ∧ r = some (.int (-1000000007))) := by
  refine Mt.of2 _ rfl (by decide +kernel) (Nat.le_of_ble_eq_true rfl) ?_
  refine GW.run kX3_finding (fun _ => false) 49 0 rfl ?_
  refine Mt.conseq (c_outside _ _ _ _ _ _) ?_
  rintro _ _ _ ⟨rfl, rfl, ⟨h1, rfl⟩ | ⟨h1, rfl⟩⟩
  · -- pc 9 call X3_outside true
    refine And.intro (fun _ => ?_) (fun hh => absurd hh (by decide))
    exact absurd h1 (by decide)
  · -- pc 9 call X3_outside false
    refine And.intro (fun hh => absurd hh (by decide)) (fun _ => ?_)
    refine And.intro (by unfold vp_in; decide) ?_
    refine And.intro (by unfold vp_in; decide) ?_
    exact ⟨trivial, rfl, rfl, rfl⟩
set_option maxRecDepth 100000 in
set_option maxHeartbeats 4000000 in
theorem c_nobody (sx : Nat × (Nat → Int32)) (v : Int32) (I : Mm) (J : Ml) : Mt sx MX3_nobody [.ref 0, .int v] I J (na_b I J (outP v 0 (I 1 7 - 1))) := by
  refine Mt.of2 _ rfl (by decide +kernel) (Nat.le_of_ble_eq_true rfl) ?_
  refine GW.run kX3_nobody (fun _ => false) 39 0 rfl ?_
  refine Mt.conseq (c_outside _ _ _ _ _ _) ?_
  rintro _ _ _ ⟨rfl, rfl, ⟨h1, rfl⟩ | ⟨h1, rfl⟩⟩
  · -- pc 11 call X3_outside true
    exact ⟨na_nl_b1, rfl, rfl, Or.inl ⟨h1, rfl⟩⟩
  · -- pc 11 call X3_outside false
    exact ⟨na_nl_b0, rfl, rfl, Or.inr ⟨h1, rfl⟩⟩
def is8 (a : Nat) : Prop := na_nth na_lay a = some (.inl (0, 8))
set_option maxRecDepth 100000 in
set_option maxHeartbeats 4000000 in
theorem c_xch_2 (sx : Nat × (Nat → Int32)) (i v : Int32) (hi : vp_in i 8) (I : Mm) (J : Ml) : Mt sx MX3_exchange [.ref 2, .int i, .int v] I J (fun r I' J' => na_set I 2 i.toNatClampNeg v = I' ∧ J = J' ∧ r = some (.int (I 2 i.toNatClampNeg))) := by
  refine Mt.of2 _ rfl (by decide +kernel) (Nat.le_of_ble_eq_true rfl) ?_
  refine GW.run kX3_exchange (fun _ => false) 40 0 rfl ?_
  refine And.intro (hi) ?_
  refine And.intro (hi) ?_
  exact ⟨trivial, rfl, rfl, rfl⟩
set_option maxRecDepth 100000 in
set_option maxHeartbeats 4000000 in
theorem c_xch_3 (sx : Nat × (Nat → Int32)) (i v : Int32) (hi : vp_in i 8) (I : Mm) (J : Ml) : Mt sx MX3_exchange [.ref 3, .int i, .int v] I J (fun r I' J' => na_set I 3 i.toNatClampNeg v = I' ∧ J = J' ∧ r = some (.int (I 3 i.toNatClampNeg))) := by
  refine Mt.of2 _ rfl (by decide +kernel) (Nat.le_of_ble_eq_true rfl) ?_
  refine GW.run kX3_exchange (fun _ => false) 40 0 rfl ?_
  refine And.intro (hi) ?_
  refine And.intro (hi) ?_
  exact ⟨trivial, rfl, rfl, rfl⟩
set_option maxRecDepth 100000 in
set_option maxHeartbeats 4000000 in
theorem c_xch_4 (sx : Nat × (Nat → Int32)) (i v : Int32) (hi : vp_in i 8) (I : Mm) (J : Ml) : Mt sx MX3_exchange [.ref 4, .int i, .int v] I J (fun r I' J' => na_set I 4 i.toNatClampNeg v = I' ∧ J = J' ∧ r = some (.int (I 4 i.toNatClampNeg))) := by
  refine Mt.of2 _ rfl (by decide +kernel) (Nat.le_of_ble_eq_true rfl) ?_
  refine GW.run kX3_exchange (fun _ => false) 40 0 rfl ?_
  refine And.intro (hi) ?_
  refine And.intro (hi) ?_
  exact ⟨trivial, rfl, rfl, rfl⟩
set_option maxRecDepth 100000 in
set_option maxHeartbeats 4000000 in
theorem c_xch_5 (sx : Nat × (Nat → Int32)) (i v : Int32) (hi : vp_in i 8) (I : Mm) (J : Ml) : Mt sx MX3_exchange [.ref 5, .int i, .int v] I J (fun r I' J' => na_set I 5 i.toNatClampNeg v = I' ∧ J = J' ∧ r = some (.int (I 5 i.toNatClampNeg))) := by
  refine Mt.of2 _ rfl (by decide +kernel) (Nat.le_of_ble_eq_true rfl) ?_
  refine GW.run kX3_exchange (fun _ => false) 40 0 rfl ?_
  refine And.intro (hi) ?_
  refine And.intro (hi) ?_
  exact ⟨trivial, rfl, rfl, rfl⟩
set_option maxRecDepth 100000 in
set_option maxHeartbeats 4000000 in
theorem c_xch_6 (sx : Nat × (Nat → Int32)) (i v : Int32) (hi : vp_in i 8) (I : Mm) (J : Ml) : Mt sx MX3_exchange [.ref 6, .int i, .int v] I J (fun r I' J' => na_set I 6 i.toNatClampNeg v = I' ∧ J = J' ∧ r = some (.int (I 6 i.toNatClampNeg))) := by
  refine Mt.of2 _ rfl (by decide +kernel) (Nat.le_of_ble_eq_true rfl) ?_
  refine GW.run kX3_exchange (fun _ => false) 40 0 rfl ?_
  refine And.intro (hi) ?_
  refine And.intro (hi) ?_
  exact ⟨trivial, rfl, rfl, rfl⟩
set_option maxRecDepth 100000 in
set_option maxHeartbeats 4000000 in
theorem c_xch_7 (sx : Nat × (Nat → Int32)) (i v : Int32) (hi : vp_in i 8) (I : Mm) (J : Ml) : Mt sx MX3_exchange [.ref 7, .int i, .int v] I J (fun r I' J' => na_set I 7 i.toNatClampNeg v = I' ∧ J = J' ∧ r = some (.int (I 7 i.toNatClampNeg))) := by
  refine Mt.of2 _ rfl (by decide +kernel) (Nat.le_of_ble_eq_true rfl) ?_
  refine GW.run kX3_exchange (fun _ => false) 40 0 rfl ?_
  refine And.intro (hi) ?_
  refine And.intro (hi) ?_
  exact ⟨trivial, rfl, rfl, rfl⟩
set_option maxRecDepth 100000 in
set_option maxHeartbeats 4000000 in
theorem c_xch_8 (sx : Nat × (Nat → Int32)) (i v : Int32) (hi : vp_in i 8) (I : Mm) (J : Ml) : Mt sx MX3_exchange [.ref 8, .int i, .int v] I J (fun r I' J' => na_set I 8 i.toNatClampNeg v = I' ∧ J = J' ∧ r = some (.int (I 8 i.toNatClampNeg))) := by
  refine Mt.of2 _ rfl (by decide +kernel) (Nat.le_of_ble_eq_true rfl) ?_
  refine GW.run kX3_exchange (fun _ => false) 40 0 rfl ?_
  refine And.intro (hi) ?_
  refine And.intro (hi) ?_
  exact ⟨trivial, rfl, rfl, rfl⟩
set_option maxRecDepth 100000 in
set_option maxHeartbeats 4000000 in
theorem c_xch_9 (sx : Nat × (Nat → Int32)) (i v : Int32) (hi : vp_in i 8) (I : Mm) (J : Ml) : Mt sx MX3_exchange [.ref 9, .int i, .int v] I J (fun r I' J' => na_set I 9 i.toNatClampNeg v = I' ∧ J = J' ∧ r = some (.int (I 9 i.toNatClampNeg))) := by
  refine Mt.of2 _ rfl (by decide +kernel) (Nat.le_of_ble_eq_true rfl) ?_
  refine GW.run kX3_exchange (fun _ => false) 40 0 rfl ?_
  refine And.intro (hi) ?_
  refine And.intro (hi) ?_
  exact ⟨trivial, rfl, rfl, rfl⟩
set_option maxRecDepth 100000 in
set_option maxHeartbeats 4000000 in
theorem c_xch_10 (sx : Nat × (Nat → Int32)) (i v : Int32) (hi : vp_in i 8) (I : Mm) (J : Ml) : Mt sx MX3_exchange [.ref 10, .int i, .int v] I J (fun r I' J' => na_set I 10 i.toNatClampNeg v = I' ∧ J = J' ∧ r = some (.int (I 10 i.toNatClampNeg))) := by
  refine Mt.of2 _ rfl (by decide +kernel) (Nat.le_of_ble_eq_true rfl) ?_
  refine GW.run kX3_exchange (fun _ => false) 40 0 rfl ?_
  refine And.intro (hi) ?_
  refine And.intro (hi) ?_
  exact ⟨trivial, rfl, rfl, rfl⟩
set_option maxRecDepth 100000 in
set_option maxHeartbeats 4000000 in
theorem l_sum_2 (sx : Nat × (Nat → Int32)) (K : Nat) (hK : K ≤ 8) (I : Mm) (J : Ml) (Rt : Option Value → Mm → Ml → Prop) (hR : Rt (some (.int (sumI (I 2) K))) I J) : ∀ m n, n + m = K → GW sx (na_mi MX3_sum) Rt 4 [some (.ref 2), some (.int (nI K)), some (.int (sumI (I 2) n)), some (.int (nI n))] [] I J := by
  intro m
  induction m with
  | zero =>
    intro n hn
    obtain rfl : K = n := by omega
    have hz : nI K ≤ nI K := Int32.le_refl _
    refine GW.run kX3_sum (fun pc => Nat.beq pc 4) 51 4 rfl ?_
    refine And.intro (fun _ => ?_) (fun hh => absurd hz hh)
    exact ⟨trivial, hR⟩
  | succ m ih =>
    intro n hn
    have hz : ¬ nI K ≤ nI n := nI_ge (by omega) (by omega)
    have hz2 : ¬ Int32.ofNat 8 ≤ nI n := nI_ge (a := n) (b := 8) (by omega) (by omega)
    have hb7 : vp_in (nI n) 8 := vp_in_nI (by omega) (by omega)
    have hc := nI_clamp (n := n) (by omega)
    have ih := ih (n + 1) (by omega)
    refine GW.run kX3_sum (fun pc => Nat.beq pc 4) 51 4 rfl ?_
    refine And.intro (fun hh => absurd hh hz) (fun _ => ?_)
    refine And.intro (fun hh => absurd hh hz2) (fun _ => ?_)
    refine And.intro (hb7) ?_
    exact GW.weak ih ⟨rfl, rfl, by simp only [sumI, hc], by rw [nI_1], trivial⟩
set_option maxRecDepth 100000 in
set_option maxHeartbeats 4000000 in
theorem c_sum_2 (sx : Nat × (Nat → Int32)) (K : Nat) (hK : K ≤ 8) (I : Mm) (J : Ml) : Mt sx MX3_sum [.ref 2, .int (nI K)] I J (na_v I J (sumI (I 2) K)) := by
  refine Mt.of2 _ rfl (by decide +kernel) (Nat.le_of_ble_eq_true rfl) ?_
  refine GW.run kX3_sum (fun pc => Nat.beq pc 4) 51 0 rfl ?_
  exact l_sum_2 sx K hK I J _ ⟨rfl, rfl, rfl⟩ K 0 (by omega)
set_option maxRecDepth 100000 in
set_option maxHeartbeats 4000000 in
theorem l_sum_3 (sx : Nat × (Nat → Int32)) (K : Nat) (hK : K ≤ 8) (I : Mm) (J : Ml) (Rt : Option Value → Mm → Ml → Prop) (hR : Rt (some (.int (sumI (I 3) K))) I J) : ∀ m n, n + m = K → GW sx (na_mi MX3_sum) Rt 4 [some (.ref 3), some (.int (nI K)), some (.int (sumI (I 3) n)), some (.int (nI n))] [] I J := by
  intro m
  induction m with
  | zero =>
    intro n hn
    obtain rfl : K = n := by omega
    have hz : nI K ≤ nI K := Int32.le_refl _
    refine GW.run kX3_sum (fun pc => Nat.beq pc 4) 51 4 rfl ?_
    refine And.intro (fun _ => ?_) (fun hh => absurd hz hh)
    exact ⟨trivial, hR⟩
  | succ m ih =>
    intro n hn
    have hz : ¬ nI K ≤ nI n := nI_ge (by omega) (by omega)
    have hz2 : ¬ Int32.ofNat 8 ≤ nI n := nI_ge (a := n) (b := 8) (by omega) (by omega)
    have hb7 : vp_in (nI n) 8 := vp_in_nI (by omega) (by omega)
    have hc := nI_clamp (n := n) (by omega)
    have ih := ih (n + 1) (by omega)
    refine GW.run kX3_sum (fun pc => Nat.beq pc 4) 51 4 rfl ?_
    refine And.intro (fun hh => absurd hh hz) (fun _ => ?_)
    refine And.intro (fun hh => absurd hh hz2) (fun _ => ?_)
    refine And.intro (hb7) ?_
    exact GW.weak ih ⟨rfl, rfl, by simp only [sumI, hc], by rw [nI_1], trivial⟩
set_option maxRecDepth 100000 in
set_option maxHeartbeats 4000000 in
theorem c_sum_3 (sx : Nat × (Nat → Int32)) (K : Nat) (hK : K ≤ 8) (I : Mm) (J : Ml) : Mt sx MX3_sum [.ref 3, .int (nI K)] I J (na_v I J (sumI (I 3) K)) := by
  refine Mt.of2 _ rfl (by decide +kernel) (Nat.le_of_ble_eq_true rfl) ?_
  refine GW.run kX3_sum (fun pc => Nat.beq pc 4) 51 0 rfl ?_
  exact l_sum_3 sx K hK I J _ ⟨rfl, rfl, rfl⟩ K 0 (by omega)
set_option maxRecDepth 100000 in
set_option maxHeartbeats 4000000 in
theorem l_sum_4 (sx : Nat × (Nat → Int32)) (K : Nat) (hK : K ≤ 8) (I : Mm) (J : Ml) (Rt : Option Value → Mm → Ml → Prop) (hR : Rt (some (.int (sumI (I 4) K))) I J) : ∀ m n, n + m = K → GW sx (na_mi MX3_sum) Rt 4 [some (.ref 4), some (.int (nI K)), some (.int (sumI (I 4) n)), some (.int (nI n))] [] I J := by
  intro m
  induction m with
  | zero =>
    intro n hn
    obtain rfl : K = n := by omega
    have hz : nI K ≤ nI K := Int32.le_refl _
    refine GW.run kX3_sum (fun pc => Nat.beq pc 4) 51 4 rfl ?_
    refine And.intro (fun _ => ?_) (fun hh => absurd hz hh)
    exact ⟨trivial, hR⟩
  | succ m ih =>
    intro n hn
    have hz : ¬ nI K ≤ nI n := nI_ge (by omega) (by omega)
    have hz2 : ¬ Int32.ofNat 8 ≤ nI n := nI_ge (a := n) (b := 8) (by omega) (by omega)
    have hb7 : vp_in (nI n) 8 := vp_in_nI (by omega) (by omega)
    have hc := nI_clamp (n := n) (by omega)
    have ih := ih (n + 1) (by omega)
    refine GW.run kX3_sum (fun pc => Nat.beq pc 4) 51 4 rfl ?_
    refine And.intro (fun hh => absurd hh hz) (fun _ => ?_)
    refine And.intro (fun hh => absurd hh hz2) (fun _ => ?_)
    refine And.intro (hb7) ?_
    exact GW.weak ih ⟨rfl, rfl, by simp only [sumI, hc], by rw [nI_1], trivial⟩
set_option maxRecDepth 100000 in
set_option maxHeartbeats 4000000 in
theorem c_sum_4 (sx : Nat × (Nat → Int32)) (K : Nat) (hK : K ≤ 8) (I : Mm) (J : Ml) : Mt sx MX3_sum [.ref 4, .int (nI K)] I J (na_v I J (sumI (I 4) K)) := by
  refine Mt.of2 _ rfl (by decide +kernel) (Nat.le_of_ble_eq_true rfl) ?_
  refine GW.run kX3_sum (fun pc => Nat.beq pc 4) 51 0 rfl ?_
  exact l_sum_4 sx K hK I J _ ⟨rfl, rfl, rfl⟩ K 0 (by omega)
set_option maxRecDepth 100000 in
set_option maxHeartbeats 4000000 in
theorem l_sum_5 (sx : Nat × (Nat → Int32)) (K : Nat) (hK : K ≤ 8) (I : Mm) (J : Ml) (Rt : Option Value → Mm → Ml → Prop) (hR : Rt (some (.int (sumI (I 5) K))) I J) : ∀ m n, n + m = K → GW sx (na_mi MX3_sum) Rt 4 [some (.ref 5), some (.int (nI K)), some (.int (sumI (I 5) n)), some (.int (nI n))] [] I J := by
  intro m
  induction m with
  | zero =>
    intro n hn
    obtain rfl : K = n := by omega
    have hz : nI K ≤ nI K := Int32.le_refl _
    refine GW.run kX3_sum (fun pc => Nat.beq pc 4) 51 4 rfl ?_
    refine And.intro (fun _ => ?_) (fun hh => absurd hz hh)
    exact ⟨trivial, hR⟩
  | succ m ih =>
    intro n hn
    have hz : ¬ nI K ≤ nI n := nI_ge (by omega) (by omega)
    have hz2 : ¬ Int32.ofNat 8 ≤ nI n := nI_ge (a := n) (b := 8) (by omega) (by omega)
    have hb7 : vp_in (nI n) 8 := vp_in_nI (by omega) (by omega)
    have hc := nI_clamp (n := n) (by omega)
    have ih := ih (n + 1) (by omega)
    refine GW.run kX3_sum (fun pc => Nat.beq pc 4) 51 4 rfl ?_
    refine And.intro (fun hh => absurd hh hz) (fun _ => ?_)
    refine And.intro (fun hh => absurd hh hz2) (fun _ => ?_)
    refine And.intro (hb7) ?_
    exact GW.weak ih ⟨rfl, rfl, by simp only [sumI, hc], by rw [nI_1], trivial⟩
set_option maxRecDepth 100000 in
set_option maxHeartbeats 4000000 in
theorem c_sum_5 (sx : Nat × (Nat → Int32)) (K : Nat) (hK : K ≤ 8) (I : Mm) (J : Ml) : Mt sx MX3_sum [.ref 5, .int (nI K)] I J (na_v I J (sumI (I 5) K)) := by
  refine Mt.of2 _ rfl (by decide +kernel) (Nat.le_of_ble_eq_true rfl) ?_
  refine GW.run kX3_sum (fun pc => Nat.beq pc 4) 51 0 rfl ?_
  exact l_sum_5 sx K hK I J _ ⟨rfl, rfl, rfl⟩ K 0 (by omega)
set_option maxRecDepth 100000 in
set_option maxHeartbeats 4000000 in
theorem l_sum_8 (sx : Nat × (Nat → Int32)) (K : Nat) (hK : K ≤ 8) (I : Mm) (J : Ml) (Rt : Option Value → Mm → Ml → Prop) (hR : Rt (some (.int (sumI (I 8) K))) I J) : ∀ m n, n + m = K → GW sx (na_mi MX3_sum) Rt 4 [some (.ref 8), some (.int (nI K)), some (.int (sumI (I 8) n)), some (.int (nI n))] [] I J := by
  intro m
  induction m with
  | zero =>
    intro n hn
    obtain rfl : K = n := by omega
    have hz : nI K ≤ nI K := Int32.le_refl _
    refine GW.run kX3_sum (fun pc => Nat.beq pc 4) 51 4 rfl ?_
    refine And.intro (fun _ => ?_) (fun hh => absurd hz hh)
    exact ⟨trivial, hR⟩
  | succ m ih =>
    intro n hn
    have hz : ¬ nI K ≤ nI n := nI_ge (by omega) (by omega)
    have hz2 : ¬ Int32.ofNat 8 ≤ nI n := nI_ge (a := n) (b := 8) (by omega) (by omega)
    have hb7 : vp_in (nI n) 8 := vp_in_nI (by omega) (by omega)
    have hc := nI_clamp (n := n) (by omega)
    have ih := ih (n + 1) (by omega)
    refine GW.run kX3_sum (fun pc => Nat.beq pc 4) 51 4 rfl ?_
    refine And.intro (fun hh => absurd hh hz) (fun _ => ?_)
    refine And.intro (fun hh => absurd hh hz2) (fun _ => ?_)
    refine And.intro (hb7) ?_
    exact GW.weak ih ⟨rfl, rfl, by simp only [sumI, hc], by rw [nI_1], trivial⟩
set_option maxRecDepth 100000 in
set_option maxHeartbeats 4000000 in
theorem c_sum_8 (sx : Nat × (Nat → Int32)) (K : Nat) (hK : K ≤ 8) (I : Mm) (J : Ml) : Mt sx MX3_sum [.ref 8, .int (nI K)] I J (na_v I J (sumI (I 8) K)) := by
  refine Mt.of2 _ rfl (by decide +kernel) (Nat.le_of_ble_eq_true rfl) ?_
  refine GW.run kX3_sum (fun pc => Nat.beq pc 4) 51 0 rfl ?_
  exact l_sum_8 sx K hK I J _ ⟨rfl, rfl, rfl⟩ K 0 (by omega)
set_option maxRecDepth 100000 in
set_option maxHeartbeats 4000000 in
theorem l_sum_22 (sx : Nat × (Nat → Int32)) (K : Nat) (hK : K ≤ 8) (I : Mm) (J : Ml) (Rt : Option Value → Mm → Ml → Prop) (hR : Rt (some (.int (sumI (I 22) K))) I J) : ∀ m n, n + m = K → GW sx (na_mi MX3_sum) Rt 4 [some (.ref 22), some (.int (nI K)), some (.int (sumI (I 22) n)), some (.int (nI n))] [] I J := by
  intro m
  induction m with
  | zero =>
    intro n hn
    obtain rfl : K = n := by omega
    have hz : nI K ≤ nI K := Int32.le_refl _
    refine GW.run kX3_sum (fun pc => Nat.beq pc 4) 51 4 rfl ?_
    refine And.intro (fun _ => ?_) (fun hh => absurd hz hh)
    exact ⟨trivial, hR⟩
  | succ m ih =>
    intro n hn
    have hz : ¬ nI K ≤ nI n := nI_ge (by omega) (by omega)
    have hz2 : ¬ Int32.ofNat 8 ≤ nI n := nI_ge (a := n) (b := 8) (by omega) (by omega)
    have hb7 : vp_in (nI n) 8 := vp_in_nI (by omega) (by omega)
    have hc := nI_clamp (n := n) (by omega)
    have ih := ih (n + 1) (by omega)
    refine GW.run kX3_sum (fun pc => Nat.beq pc 4) 51 4 rfl ?_
    refine And.intro (fun hh => absurd hh hz) (fun _ => ?_)
    refine And.intro (fun hh => absurd hh hz2) (fun _ => ?_)
    refine And.intro (hb7) ?_
    exact GW.weak ih ⟨rfl, rfl, by simp only [sumI, hc], by rw [nI_1], trivial⟩
set_option maxRecDepth 100000 in
set_option maxHeartbeats 4000000 in
theorem c_sum_22 (sx : Nat × (Nat → Int32)) (K : Nat) (hK : K ≤ 8) (I : Mm) (J : Ml) : Mt sx MX3_sum [.ref 22, .int (nI K)] I J (na_v I J (sumI (I 22) K)) := by
  refine Mt.of2 _ rfl (by decide +kernel) (Nat.le_of_ble_eq_true rfl) ?_
  refine GW.run kX3_sum (fun pc => Nat.beq pc 4) 51 0 rfl ?_
  exact l_sum_22 sx K hK I J _ ⟨rfl, rfl, rfl⟩ K 0 (by omega)
set_option maxRecDepth 100000 in
set_option maxHeartbeats 4000000 in
theorem l_sum_42 (sx : Nat × (Nat → Int32)) (K : Nat) (hK : K ≤ 7) (I : Mm) (J : Ml) (Rt : Option Value → Mm → Ml → Prop) (hR : Rt (some (.int (sumI (I 42) K))) I J) : ∀ m n, n + m = K → GW sx (na_mi MX3_sum) Rt 4 [some (.ref 42), some (.int (nI K)), some (.int (sumI (I 42) n)), some (.int (nI n))] [] I J := by
  intro m
  induction m with
  | zero =>
    intro n hn
    obtain rfl : K = n := by omega
    have hz : nI K ≤ nI K := Int32.le_refl _
    refine GW.run kX3_sum (fun pc => Nat.beq pc 4) 51 4 rfl ?_
    refine And.intro (fun _ => ?_) (fun hh => absurd hz hh)
    exact ⟨trivial, hR⟩
  | succ m ih =>
    intro n hn
    have hz : ¬ nI K ≤ nI n := nI_ge (by omega) (by omega)
    have hz2 : ¬ Int32.ofNat 7 ≤ nI n := nI_ge (a := n) (b := 7) (by omega) (by omega)
    have hb7 : vp_in (nI n) 7 := vp_in_nI (by omega) (by omega)
    have hc := nI_clamp (n := n) (by omega)
    have ih := ih (n + 1) (by omega)
    refine GW.run kX3_sum (fun pc => Nat.beq pc 4) 51 4 rfl ?_
    refine And.intro (fun hh => absurd hh hz) (fun _ => ?_)
    refine And.intro (fun hh => absurd hh hz2) (fun _ => ?_)
    refine And.intro (hb7) ?_
    exact GW.weak ih ⟨rfl, rfl, by simp only [sumI, hc], by rw [nI_1], trivial⟩
set_option maxRecDepth 100000 in
set_option maxHeartbeats 4000000 in
theorem c_sum_42 (sx : Nat × (Nat → Int32)) (K : Nat) (hK : K ≤ 7) (I : Mm) (J : Ml) : Mt sx MX3_sum [.ref 42, .int (nI K)] I J (na_v I J (sumI (I 42) K)) := by
  refine Mt.of2 _ rfl (by decide +kernel) (Nat.le_of_ble_eq_true rfl) ?_
  refine GW.run kX3_sum (fun pc => Nat.beq pc 4) 51 0 rfl ?_
  exact l_sum_42 sx K hK I J _ ⟨rfl, rfl, rfl⟩ K 0 (by omega)
def uK (a w : Nat) : Bool := a == w || (w == 0) || (a == 4 && w == 1) || (a == 5 && w == 2)
set_option maxRecDepth 100000 in
set_option maxHeartbeats 4000000 in
theorem c_sah (sx : Nat × (Nat → Int32)) (P : Nat) (hP8 : P ≤ 8) (I : Mm) (hP : I 1 7 = nI P) (J : Ml) : Mt sx MX3_startAhead [.ref 0] I J (fun r I' J' => (∃ M, pN 21 M I = I' ∧ Agr P M (gN 1 I)) ∧ J = J' ∧ r = some (.ref 21)) := by
  refine Mt.of2 _ rfl (by decide +kernel) (Nat.le_of_ble_eq_true rfl) ?_
  refine GW.run kX3_startAhead (fun _ => false) 38 0 rfl ?_
  refine Mt.conseq (c_bec_21_1 _ P hP8 I hP _) ?_
  rintro _ _ _ ⟨⟨_, rfl, h1⟩, rfl, rfl⟩
  exact ⟨⟨_, rfl, h1⟩, rfl, rfl⟩
end
section
/-! THE REFERENCE: its row f at place 44; the row as a night -/
def sR (f : Nat → Int32) (I : Mm) : Mm := fun a => bif Nat.beq a 44 then f else I a
theorem sR_44 {f : Nat → Int32} {I : Mm} : sR f I 44 = f := rfl
theorem sR_off {f : Nat → Int32} {I : Mm} {a : Nat} (h : a ≠ 44) : sR f I a = I a := by
  unfold sR
  rw [na_beqF h]
  rfl
theorem sR_self (I : Mm) : sR (I 44) I = I := by
  funext a
  by_cases h : a = 44
  · subst h; rfl
  · rw [sR_off h]
theorem sR_set {f : Nat → Int32} {I : Mm} {j : Nat} {v : Int32} : na_set (sR f I) 44 j v = sR (upd f j v) I := by
  funext a
  by_cases h : a = 44
  · subst h; rfl
  · rw [na_set_off h, sR_off h, sR_off h]
theorem sR_sR {f g : Nat → Int32} {I : Mm} : sR f (sR g I) = sR f I := by
  funext a
  by_cases h : a = 44
  · subst h; rfl
  · rw [sR_off h, sR_off h, sR_off h]
def vN (f : Nat → Int32) : Mm := fun k j => match k with
  | 0 => (match j with
    | 4 => f 2
    | 5 => f 1
    | 6 => f 0
    | 7 => f 3
    | _ => 0)
  | 1 => f (4 + 4 * j + 0)
  | 2 => f (4 + 4 * j + 1)
  | 3 => f (4 + 4 * j + 2)
  | 4 => f (4 + 4 * j + 3)
  | 5 => f (36 + 5 * j + 0)
  | 6 => f (36 + 5 * j + 1)
  | 7 => f (36 + 5 * j + 2)
  | 8 => f (36 + 5 * j + 3)
  | 9 => f (36 + 5 * j + 4)
  | _ => 0
theorem nI_mul (a b : Nat) : nI a * nI b = nI (a * b) := (Int32.ofNat_mul a b).symm
theorem ixP (p w : Nat) : (36 : Int32) + 5 * nI p + nI w = nI (36 + 5 * p + w) := by
  rw [show (36 : Int32) = nI 36 from rfl, show (5 : Int32) = nI 5 from rfl, nI_mul, nI_add, nI_add]
theorem ixR (r w : Nat) : (4 : Int32) + 4 * nI r + nI w = nI (4 + 4 * r + w) := by
  rw [show (4 : Int32) = nI 4 from rfl, nI_mul, nI_add, nI_add]
/-- what lies at most -/
def mx (v : Int32) : Int32 := if v ≤ 9999 then v else 9999
set_option maxRecDepth 100000 in
set_option maxHeartbeats 4000000 in
theorem m_its (sx : Nat × (Nat → Int32)) (p w : Nat) (hp : p < 8) (hw : w < 5) (x : Int32) (hx : x = nI w) (f : Nat → Int32) (I : Mm) (J : Ml) : Mt sx MX4_its [.ref 43, .int (nI p), .int x] (sR f I) J (na_v (sR f I) J (f (36 + 5 * p + w))) := by
  subst hx
  have e := ixP p w
  have hb : vp_in (36 + 5 * nI p + nI w) 76 := by rw [e]; exact vp_in_nI (by omega) (by omega)
  have hc := nI_clamp (n := 36 + 5 * p + w) (by omega)
  refine Mt.of2 _ rfl (by decide +kernel) (Nat.le_of_ble_eq_true rfl) ?_
  refine GW.run kX4_its (fun _ => false) 41 0 rfl ?_
  refine And.intro (hb) ?_
  exact ⟨trivial, rfl, rfl, by simp only [e, hc]; rfl⟩
set_option maxRecDepth 100000 in
set_option maxHeartbeats 4000000 in
theorem m_there (sx : Nat × (Nat → Int32)) (r w : Nat) (hr : r < 8) (hw : w < 4) (x : Int32) (hx : x = nI w) (f : Nat → Int32) (I : Mm) (J : Ml) : Mt sx MX4_there [.ref 43, .int (nI r), .int x] (sR f I) J (na_v (sR f I) J (f (4 + 4 * r + w))) := by
  subst hx
  have e := ixR r w
  have hb : vp_in (4 + 4 * nI r + nI w) 76 := by rw [e]; exact vp_in_nI (by omega) (by omega)
  have hc := nI_clamp (n := 4 + 4 * r + w) (by omega)
  refine Mt.of2 _ rfl (by decide +kernel) (Nat.le_of_ble_eq_true rfl) ?_
  refine GW.run kX4_there (fun _ => false) 41 0 rfl ?_
  refine And.intro (hb) ?_
  exact ⟨trivial, rfl, rfl, by simp only [e, hc]; rfl⟩
set_option maxRecDepth 100000 in
set_option maxHeartbeats 4000000 in
theorem m_puts (sx : Nat × (Nat → Int32)) (v : Int32) (p w : Nat) (hp : p < 8) (hw : w < 5) (x : Int32) (hx : x = nI w) (f : Nat → Int32) (I : Mm) (J : Ml) : Mt sx MX4_puts [.ref 43, .int (nI p), .int x, .int v] (sR f I) J (fun r I' J' => sR (upd f (36 + 5 * p + w) v) I = I' ∧ J = J' ∧ r = none) := by
  subst hx
  have e := ixP p w
  have hb : vp_in (36 + 5 * nI p + nI w) 76 := by rw [e]; exact vp_in_nI (by omega) (by omega)
  have hc := nI_clamp (n := 36 + 5 * p + w) (by omega)
  refine Mt.of2 _ rfl (by decide +kernel) (Nat.le_of_ble_eq_true rfl) ?_
  refine GW.run kX4_puts (fun _ => false) 42 0 rfl ?_
  refine And.intro (hb) ?_
  exact ⟨by simp only [e, hc]; exact sR_set.symm, rfl, rfl⟩
set_option maxRecDepth 100000 in
set_option maxHeartbeats 4000000 in
theorem m_lies (sx : Nat × (Nat → Int32)) (v : Int32) (r w : Nat) (hr : r < 8) (hw : w < 4) (x : Int32) (hx : x = nI w) (f : Nat → Int32) (I : Mm) (J : Ml) : Mt sx MX4_lies [.ref 43, .int (nI r), .int x, .int v] (sR f I) J (fun r' I' J' => sR (upd f (4 + 4 * r + w) (mx v)) I = I' ∧ J = J' ∧ r' = none) := by
  subst hx
  have e := ixR r w
  have hb : vp_in (4 + 4 * nI r + nI w) 76 := by rw [e]; exact vp_in_nI (by omega) (by omega)
  have hc := nI_clamp (n := 4 + 4 * r + w) (by omega)
  refine Mt.of2 _ rfl (by decide +kernel) (Nat.le_of_ble_eq_true rfl) ?_
  refine GW.run kX4_lies (fun _ => false) 47 0 rfl ?_
  refine And.intro (fun h1 => ?_) (fun h1 => ?_)
  · -- pc 15 .if_icmp .le 9: yes
    refine And.intro (hb) ?_
    exact ⟨by rw [mx, if_pos h1]; simp only [e, hc]; exact sR_set.symm, rfl, rfl⟩
  · -- pc 15 .if_icmp .le 9: no
    refine And.intro (hb) ?_
    exact ⟨by rw [mx, if_neg h1]; simp only [e, hc]; exact sR_set.symm, rfl, rfl⟩
set_option maxRecDepth 100000 in
set_option maxHeartbeats 4000000 in
theorem m_isOne (sx : Nat × (Nat → Int32)) (v : Int32) (f : Nat → Int32) (I : Mm) (J : Ml) : Mt sx MX4_isOne [.ref 43, .int v] (sR f I) J (na_b (sR f I) J (0 ≤ v ∧ v ≤ f 3 - 1)) := by
  refine Mt.of2 _ rfl (by decide +kernel) (Nat.le_of_ble_eq_true rfl) ?_
  refine GW.run kX4_isOne (fun _ => false) 40 0 rfl ?_
  refine And.intro (by unfold vp_in; decide) ?_
  refine Mt.conseq (m_in _ _ _ _ _ _) ?_
  rintro _ _ _ ⟨rfl, rfl, ⟨h1, rfl⟩ | ⟨h1, rfl⟩⟩
  · -- pc 10 call X4_in true
    exact ⟨na_nl_b1, rfl, rfl, Or.inl ⟨h1, rfl⟩⟩
  · -- pc 10 call X4_in false
    exact ⟨na_nl_b0, rfl, rfl, Or.inr ⟨h1, rfl⟩⟩
def fnM (I : Mm) (f : Nat) : Mm := na_set I 45 f (I 45 f + 1)
set_option maxRecDepth 100000 in
set_option maxHeartbeats 4000000 in
theorem m_fnd0 (sx : Nat × (Nat → Int32)) (I : Mm) (J : Ml) : Mt sx MX4_finds [.ref 43, .int (-1000000001)] I J (fun r I' J' => fnM I 0 = I' ∧ J = J' ∧ r = some (.int (-1000000001))) := by
  refine Mt.of2 _ rfl (by decide +kernel) (Nat.le_of_ble_eq_true rfl) ?_
  refine GW.run kX4_finds (fun _ => false) 42 0 rfl ?_
  refine And.intro (by unfold vp_in; decide) ?_
  refine And.intro (by unfold vp_in; decide) ?_
  exact ⟨trivial, rfl, rfl, rfl⟩
set_option maxRecDepth 100000 in
set_option maxHeartbeats 4000000 in
theorem m_fnd1 (sx : Nat × (Nat → Int32)) (I : Mm) (J : Ml) : Mt sx MX4_finds [.ref 43, .int (-1000000002)] I J (fun r I' J' => fnM I 1 = I' ∧ J = J' ∧ r = some (.int (-1000000002))) := by
  refine Mt.of2 _ rfl (by decide +kernel) (Nat.le_of_ble_eq_true rfl) ?_
  refine GW.run kX4_finds (fun _ => false) 42 0 rfl ?_
  refine And.intro (by unfold vp_in; decide) ?_
  refine And.intro (by unfold vp_in; decide) ?_
  exact ⟨trivial, rfl, rfl, rfl⟩
set_option maxRecDepth 100000 in
set_option maxHeartbeats 4000000 in
theorem m_fnd2 (sx : Nat × (Nat → Int32)) (I : Mm) (J : Ml) : Mt sx MX4_finds [.ref 43, .int (-1000000003)] I J (fun r I' J' => fnM I 2 = I' ∧ J = J' ∧ r = some (.int (-1000000003))) := by
  refine Mt.of2 _ rfl (by decide +kernel) (Nat.le_of_ble_eq_true rfl) ?_
  refine GW.run kX4_finds (fun _ => false) 42 0 rfl ?_
  refine And.intro (by unfold vp_in; decide) ?_
  refine And.intro (by unfold vp_in; decide) ?_
  exact ⟨trivial, rfl, rfl, rfl⟩
set_option maxRecDepth 100000 in
set_option maxHeartbeats 4000000 in
theorem m_fnd3 (sx : Nat × (Nat → Int32)) (I : Mm) (J : Ml) : Mt sx MX4_finds [.ref 43, .int (-1000000004)] I J (fun r I' J' => fnM I 3 = I' ∧ J = J' ∧ r = some (.int (-1000000004))) := by
  refine Mt.of2 _ rfl (by decide +kernel) (Nat.le_of_ble_eq_true rfl) ?_
  refine GW.run kX4_finds (fun _ => false) 42 0 rfl ?_
  refine And.intro (by unfold vp_in; decide) ?_
  refine And.intro (by unfold vp_in; decide) ?_
  exact ⟨trivial, rfl, rfl, rfl⟩
set_option maxRecDepth 100000 in
set_option maxHeartbeats 4000000 in
theorem m_fnd4 (sx : Nat × (Nat → Int32)) (I : Mm) (J : Ml) : Mt sx MX4_finds [.ref 43, .int (-1000000005)] I J (fun r I' J' => fnM I 4 = I' ∧ J = J' ∧ r = some (.int (-1000000005))) := by
  refine Mt.of2 _ rfl (by decide +kernel) (Nat.le_of_ble_eq_true rfl) ?_
  refine GW.run kX4_finds (fun _ => false) 42 0 rfl ?_
  refine And.intro (by unfold vp_in; decide) ?_
  refine And.intro (by unfold vp_in; decide) ?_
  exact ⟨trivial, rfl, rfl, rfl⟩
set_option maxRecDepth 100000 in
set_option maxHeartbeats 4000000 in
theorem m_fnd5 (sx : Nat × (Nat → Int32)) (I : Mm) (J : Ml) : Mt sx MX4_finds [.ref 43, .int (-1000000006)] I J (fun r I' J' => fnM I 5 = I' ∧ J = J' ∧ r = some (.int (-1000000006))) := by
  refine Mt.of2 _ rfl (by decide +kernel) (Nat.le_of_ble_eq_true rfl) ?_
  refine GW.run kX4_finds (fun _ => false) 42 0 rfl ?_
  refine And.intro (by unfold vp_in; decide) ?_
  refine And.intro (by unfold vp_in; decide) ?_
  exact ⟨trivial, rfl, rfl, rfl⟩
set_option maxRecDepth 100000 in
set_option maxHeartbeats 4000000 in
theorem m_fnd6 (sx : Nat × (Nat → Int32)) (I : Mm) (J : Ml) : Mt sx MX4_finds [.ref 43, .int (-1000000007)] I J (fun r I' J' => fnM I 6 = I' ∧ J = J' ∧ r = some (.int (-1000000007))) := by
  refine Mt.of2 _ rfl (by decide +kernel) (Nat.le_of_ble_eq_true rfl) ?_
  refine GW.run kX4_finds (fun _ => false) 42 0 rfl ?_
  refine And.intro (by unfold vp_in; decide) ?_
  refine And.intro (by unfold vp_in; decide) ?_
  exact ⟨trivial, rfl, rfl, rfl⟩
def btM (set : Int32) : Nat → Int32
  | 0 => 0
  | k + 1 => btM set k + ((set >>> (nI k &&& 31)) &&& 1)
set_option maxRecDepth 100000 in
set_option maxHeartbeats 4000000 in
theorem l_bits (sx : Nat × (Nat → Int32)) (set : Int32) (I : Mm) (J : Ml) (Rt : Option Value → Mm → Ml → Prop) (hR : Rt (some (.int (btM set 8))) I J) : ∀ m n, n + m = 8 → GW sx (na_mi MX4_bits) Rt 4 [some (.int set), some (.int (btM set n)), some (.int (nI n))] [] I J := by
  intro m
  induction m with
  | zero =>
    intro n hn
    obtain rfl : n = 8 := by omega
    have hz : (8 : Int32) ≤ nI 8 := by decide
    refine GW.run kX4_bits (fun pc => Nat.beq pc 4) 49 4 rfl ?_
    refine And.intro (fun _ => ?_) (fun hh => absurd hz hh)
    exact ⟨trivial, hR⟩
  | succ m ih =>
    intro n hn
    have hz : ¬ (8 : Int32) ≤ nI n := nI_ge (a := n) (b := 8) (by omega) (by omega)
    have hb : vp_in (nI n) 8 := vp_in_nI (by omega) (by omega)
    have hc := nI_clamp (n := n) (by omega)
    have ih := ih (n + 1) (by omega)
    refine GW.run kX4_bits (fun pc => Nat.beq pc 4) 49 4 rfl ?_
    refine And.intro (fun hh => absurd hh hz) (fun _ => ?_)
    exact GW.weak ih ⟨rfl, rfl, by rw [nI_1], trivial⟩
set_option maxRecDepth 100000 in
set_option maxHeartbeats 4000000 in
theorem m_bits (sx : Nat × (Nat → Int32)) (set : Int32) (I : Mm) (J : Ml) : Mt sx MX4_bits [.int set] I J (na_v I J (btM set 8)) := by
  refine Mt.of2 _ rfl (by decide +kernel) (Nat.le_of_ble_eq_true rfl) ?_
  refine GW.run kX4_bits (fun pc => Nat.beq pc 4) 49 0 rfl ?_
  exact l_bits sx set I J _ ⟨rfl, rfl, rfl⟩ 8 0 rfl
end
section
/-! THE REFERENCE: who breathes what; sums -/
set_option maxRecDepth 100000 in
set_option maxHeartbeats 4000000 in
theorem l_mvoi (sx : Nat × (Nat → Int32)) (f : Nat → Int32) (P : Nat) (hP : f 3 = nI P) (hP8 : P ≤ 8) (p : Nat) (hp : p < 8) (I : Mm) (J : Ml) (Rt : Option Value → Mm → Ml → Prop) (hR : Rt (some (.int (voi (vN f) p P))) (sR f I) J) : ∀ m n, n + m = P → GW sx (na_mi MX4_singers) Rt 4 [some (.ref 43), some (.int (nI p)), some (.int (voi (vN f) p n)), some (.int (nI n))] [] (sR f I) J := by
  intro m
  induction m with
  | zero =>
    intro n hn
    obtain rfl : P = n := by omega
    have hz : f 3 ≤ nI P := by rw [hP]; exact Int32.le_refl _
    refine GW.run kX4_singers (fun pc => Nat.beq pc 4) 73 4 rfl ?_
    refine And.intro (by unfold vp_in; decide) ?_
    refine And.intro (fun _ => ?_) (fun hh => absurd hz hh)
    exact ⟨trivial, hR⟩
  | succ m ih =>
    intro n hn
    have hz : ¬ f 3 ≤ nI n := by rw [hP]; exact nI_ge (by omega) (by omega)
    have hb : vp_in (nI n) 8 := vp_in_nI (by omega) (by omega)
    have hc := nI_clamp (n := n) (by omega)
    have ih := ih (n + 1) (by omega)
    refine GW.run kX4_singers (fun pc => Nat.beq pc 4) 73 4 rfl ?_
    refine And.intro (by unfold vp_in; decide) ?_
    refine And.intro (fun hh => absurd hh hz) (fun _ => ?_)
    refine And.intro (fun h1 => ?_) (fun h1 => ?_)
    · -- pc 17 .if_icmp .eq 41: yes
      exact GW.weak ih ⟨rfl, rfl, congrArg Value.int (by rw [voi, if_neg (fun z => z.1 ((nI_eq (by omega) (by omega)).mp h1))]; exact (Int32.add_zero _).symm), by rw [nI_1], trivial⟩
    · -- pc 17 .if_icmp .eq 41: no
      refine Mt.conseq (m_its _ n 0 (by omega) (by decide) _ (by decide) _ _ _) ?_
      rintro _ _ _ ⟨rfl, rfl, rfl⟩
      refine And.intro (fun h3 => ?_) (fun h3 => ?_)
      · -- pc 27 .if_icmp .ne 31: yes
        exact GW.weak ih ⟨rfl, rfl, congrArg Value.int (by rw [voi, if_neg (fun z => h3 z.2.1)]; exact (Int32.add_zero _).symm), by rw [nI_1], trivial⟩
      · -- pc 27 .if_icmp .ne 31: no
        refine Mt.conseq (m_its _ n 1 (by omega) (by decide) _ (by decide) _ _ _) ?_
        rintro _ _ _ ⟨rfl, rfl, rfl⟩
        refine Mt.conseq (m_its _ p 1 (by omega) (by decide) _ (by decide) _ _ _) ?_
        rintro _ _ _ ⟨rfl, rfl, rfl⟩
        refine And.intro (fun h6 => ?_) (fun h6 => ?_)
        · -- pc 42 .if_icmp .ne 16: yes
          exact GW.weak ih ⟨rfl, rfl, congrArg Value.int (by rw [voi, if_neg (fun z => h6 z.2.2.1)]; exact (Int32.add_zero _).symm), by rw [nI_1], trivial⟩
        · -- pc 42 .if_icmp .ne 16: no
          refine Mt.conseq (m_its _ n 4 (by omega) (by decide) _ (by decide) _ _ _) ?_
          rintro _ _ _ ⟨rfl, rfl, rfl⟩
          refine And.intro (fun h8 => ?_) (fun h8 => ?_)
          · -- pc 51 .ifCond .ne 7: yes
            exact GW.weak ih ⟨rfl, rfl, congrArg Value.int (by rw [voi, if_neg (fun z => h8 z.2.2.2)]; exact (Int32.add_zero _).symm), by rw [nI_1], trivial⟩
          · -- pc 51 .ifCond .ne 7: no
            exact GW.weak ih ⟨rfl, rfl, congrArg Value.int (by rw [voi, if_pos ⟨fun z => h1 (by rw [z]), h3, h6, h8⟩]), by rw [nI_1], trivial⟩
set_option maxRecDepth 100000 in
set_option maxHeartbeats 4000000 in
theorem m_voi (sx : Nat × (Nat → Int32)) (f : Nat → Int32) (P : Nat) (hP : f 3 = nI P) (hP8 : P ≤ 8) (p : Nat) (hp : p < 8) (I : Mm) (J : Ml) : Mt sx MX4_singers [.ref 43, .int (nI p)] (sR f I) J (na_v (sR f I) J (voi (vN f) p P)) := by
  refine Mt.of2 _ rfl (by decide +kernel) (Nat.le_of_ble_eq_true rfl) ?_
  refine GW.run kX4_singers (fun pc => Nat.beq pc 4) 73 0 rfl ?_
  exact l_mvoi sx f P hP hP8 p hp I J _ ⟨rfl, rfl, rfl⟩ P 0 (by omega)
set_option maxRecDepth 100000 in
set_option maxHeartbeats 4000000 in
theorem m_brt (sx : Nat × (Nat → Int32)) (f : Nat → Int32) (P : Nat) (hP : f 3 = nI P) (hP8 : P ≤ 8) (p : Nat) (hp : p < 8) (I : Mm) (J : Ml) : Mt sx MX4_breathes [.ref 43, .int (nI p)] (sR f I) J (na_v (sR f I) J (brt (vN f) P p)) := by
  refine Mt.of2 _ rfl (by decide +kernel) (Nat.le_of_ble_eq_true rfl) ?_
  refine GW.run kX4_breathes (fun _ => false) 84 0 rfl ?_
  refine Mt.conseq (m_its _ p 2 (by omega) (by decide) _ (by decide) _ _ _) ?_
  rintro _ _ _ ⟨rfl, rfl, rfl⟩
  refine Mt.conseq (m_its _ p 4 (by omega) (by decide) _ (by decide) _ _ _) ?_
  rintro _ _ _ ⟨rfl, rfl, rfl⟩
  refine And.intro (fun h3 => ?_) (fun h3 => ?_)
  · -- pc 14 .if_icmp .ne 5: yes
    refine Mt.conseq (m_its _ p 0 (by omega) (by decide) _ (by decide) _ _ _) ?_
    rintro _ _ _ ⟨rfl, rfl, rfl⟩
    refine And.intro (fun h5 => ?_) (And.intro (fun h5 => ?_) (And.intro (fun h5 => ?_) (And.intro (fun h5 => ?_) (And.intro (fun h5 => ?_) (And.intro (fun h5 => ?_) (trivial))))))
    · -- pc 25 switch None
      exact ⟨trivial, rfl, rfl, by rw [brt, if_neg (show ¬ vN f 9 p = 1 from h3), if_neg (toI_ne (x := vN f 5 p) h5 (by decide)), if_neg (toI_ne (x := vN f 5 p) h5 (by decide)), if_neg (toI_ne (x := vN f 5 p) h5 (by decide)), if_neg (toI_ne (x := vN f 5 p) h5 (by decide)), if_neg (toI_ne (x := vN f 5 p) h5 (by decide))]; rfl⟩
    · -- pc 25 switch 1
      have he : vN f 5 p = 1 := toI_eq (x := vN f 5 p) h5 (by decide)
      exact ⟨trivial, rfl, rfl, by rw [brt, if_neg (show ¬ vN f 9 p = 1 from h3), if_pos he]; rfl⟩
    · -- pc 25 switch 2
      refine And.intro (by decide) ?_
      have he : vN f 5 p = 2 := toI_eq (x := vN f 5 p) h5 (by decide)
      exact ⟨trivial, rfl, rfl, by rw [brt, if_neg (show ¬ vN f 9 p = 1 from h3), if_neg (show ¬ vN f 5 p = 1 by rw [he]; decide), if_pos he]; rfl⟩
    · -- pc 25 switch 3
      refine Mt.conseq (m_its _ p 3 (by omega) (by decide) _ (by decide) _ _ _) ?_
      rintro _ _ _ ⟨rfl, rfl, rfl⟩
      refine And.intro (fun h7 => ?_) (fun h7 => ?_)
      · -- pc 77 .if_icmp .ge 7: yes
        have he : vN f 5 p = 3 := toI_eq (x := vN f 5 p) h5 (by decide)
        exact ⟨trivial, rfl, rfl, by rw [brt, if_neg (show ¬ vN f 9 p = 1 from h3), if_neg (show ¬ vN f 5 p = 1 by rw [he]; decide), if_neg (show ¬ vN f 5 p = 2 by rw [he]; decide), if_pos he, if_neg (show ¬ vN f 8 p < vN f 7 p from Int32.not_lt.mpr h7)]; rfl⟩
      · -- pc 77 .if_icmp .ge 7: no
        have he : vN f 5 p = 3 := toI_eq (x := vN f 5 p) h5 (by decide)
        exact ⟨trivial, rfl, rfl, by rw [brt, if_neg (show ¬ vN f 9 p = 1 from h3), if_neg (show ¬ vN f 5 p = 1 by rw [he]; decide), if_neg (show ¬ vN f 5 p = 2 by rw [he]; decide), if_pos he, if_pos (show vN f 8 p < vN f 7 p from Int32.not_le.mp h7)]⟩
    · -- pc 25 switch 4
      refine Mt.conseq (m_voi _ f P hP hP8 p hp _ _) ?_
      rintro _ _ _ ⟨rfl, rfl, rfl⟩
      have he : vN f 5 p = 4 := toI_eq (x := vN f 5 p) h5 (by decide)
      exact ⟨trivial, rfl, rfl, by rw [brt, if_neg (show ¬ vN f 9 p = 1 from h3), if_neg (show ¬ vN f 5 p = 1 by rw [he]; decide), if_neg (show ¬ vN f 5 p = 2 by rw [he]; decide), if_neg (show ¬ vN f 5 p = 3 by rw [he]; decide), if_pos he]; rfl⟩
    · -- pc 25 switch 5
      refine And.intro (by decide) ?_
      have he : vN f 5 p = 5 := toI_eq (x := vN f 5 p) h5 (by decide)
      exact ⟨trivial, rfl, rfl, by rw [brt, if_neg (show ¬ vN f 9 p = 1 from h3), if_neg (show ¬ vN f 5 p = 1 by rw [he]; decide), if_neg (show ¬ vN f 5 p = 2 by rw [he]; decide), if_neg (show ¬ vN f 5 p = 3 by rw [he]; decide), if_neg (show ¬ vN f 5 p = 4 by rw [he]; decide), if_pos he]; rfl⟩
  · -- pc 14 .if_icmp .ne 5: no
    exact ⟨trivial, rfl, rfl, congrArg (fun x => some (Value.int x)) (if_pos (c := vN f 9 p = 1) h3).symm⟩
theorem or0 (x : Int32) : x ||| 0 = x := by
  apply Int32.toBitVec_inj.mp
  rw [Int32.toBitVec_or]
  exact BitVec.or_zero
set_option maxRecDepth 100000 in
set_option maxHeartbeats 4000000 in
theorem l_mins (sx : Nat × (Nat → Int32)) (f : Nat → Int32) (P : Nat) (hP : f 3 = nI P) (hP8 : P ≤ 8) (room : Int32) (I : Mm) (J : Ml) (Rt : Option Value → Mm → Ml → Prop) (hR : Rt (some (.int (insP (vN f) room P))) (sR f I) J) : ∀ m n, n + m = P → GW sx (na_mi MX4_inside) Rt 4 [some (.ref 43), some (.int room), some (.int (insP (vN f) room n)), some (.int (nI n))] [] (sR f I) J := by
  intro m
  induction m with
  | zero =>
    intro n hn
    obtain rfl : P = n := by omega
    have hz : f 3 ≤ nI P := by rw [hP]; exact Int32.le_refl _
    refine GW.run kX4_inside (fun pc => Nat.beq pc 4) 58 4 rfl ?_
    refine And.intro (by unfold vp_in; decide) ?_
    refine And.intro (fun _ => ?_) (fun hh => absurd hz hh)
    exact ⟨trivial, hR⟩
  | succ m ih =>
    intro n hn
    have hz : ¬ f 3 ≤ nI n := by rw [hP]; exact nI_ge (by omega) (by omega)
    have hb : vp_in (nI n) 8 := vp_in_nI (by omega) (by omega)
    have hc := nI_clamp (n := n) (by omega)
    have ih := ih (n + 1) (by omega)
    refine GW.run kX4_inside (fun pc => Nat.beq pc 4) 58 4 rfl ?_
    refine And.intro (by unfold vp_in; decide) ?_
    refine And.intro (fun hh => absurd hh hz) (fun _ => ?_)
    refine Mt.conseq (m_its _ n 1 (by omega) (by decide) _ (by decide) _ _ _) ?_
    rintro _ _ _ ⟨rfl, rfl, rfl⟩
    refine And.intro (fun h2 => ?_) (fun h2 => ?_)
    · -- pc 22 .if_icmp .ne 9: yes
      exact GW.weak ih ⟨rfl, rfl, congrArg Value.int (by rw [insP, if_neg (by first | exact (show vN f 6 n = room from h2) | exact (show ¬ vN f 6 n = room from h2))]; exact (or0 _).symm), by rw [nI_1], trivial⟩
    · -- pc 22 .if_icmp .ne 9: no
      exact GW.weak ih ⟨rfl, rfl, congrArg Value.int (by rw [insP, if_pos (by first | exact (show vN f 6 n = room from h2) | exact (show ¬ vN f 6 n = room from h2))]; try rfl), by rw [nI_1], trivial⟩
set_option maxRecDepth 100000 in
set_option maxHeartbeats 4000000 in
theorem m_ins (sx : Nat × (Nat → Int32)) (f : Nat → Int32) (P : Nat) (hP : f 3 = nI P) (hP8 : P ≤ 8) (room : Int32) (I : Mm) (J : Ml) : Mt sx MX4_inside [.ref 43, .int room] (sR f I) J (na_v (sR f I) J (insP (vN f) room P)) := by
  refine Mt.of2 _ rfl (by decide +kernel) (Nat.le_of_ble_eq_true rfl) ?_
  refine GW.run kX4_inside (fun pc => Nat.beq pc 4) 58 0 rfl ?_
  exact l_mins sx f P hP hP8 room I J _ ⟨rfl, rfl, rfl⟩ P 0 (by omega)
def brI (N : Mm) (P : Nat) (room : Int32) : Nat → Int32
  | 0 => 0
  | q + 1 => if N 6 q = room then brI N P room q + brt N P q else brI N P room q
def brA (N : Mm) (P : Nat) : Nat → Int32
  | 0 => 0
  | q + 1 => brA N P q + brt N P q
set_option maxRecDepth 100000 in
set_option maxHeartbeats 4000000 in
theorem l_mbrI (sx : Nat × (Nat → Int32)) (f : Nat → Int32) (P : Nat) (hP : f 3 = nI P) (hP8 : P ≤ 8) (room : Int32) (I : Mm) (J : Ml) (Rt : Option Value → Mm → Ml → Prop) (hR : Rt (some (.int (brI (vN f) P room P))) (sR f I) J) : ∀ m n, n + m = P → GW sx (na_mi MX4_breathedIn) Rt 4 [some (.ref 43), some (.int room), some (.int (brI (vN f) P room n)), some (.int (nI n))] [] (sR f I) J := by
  intro m
  induction m with
  | zero =>
    intro n hn
    obtain rfl : P = n := by omega
    have hz : f 3 ≤ nI P := by rw [hP]; exact Int32.le_refl _
    refine GW.run kX4_breathedIn (fun pc => Nat.beq pc 4) 58 4 rfl ?_
    refine And.intro (by unfold vp_in; decide) ?_
    refine And.intro (fun _ => ?_) (fun hh => absurd hz hh)
    exact ⟨trivial, hR⟩
  | succ m ih =>
    intro n hn
    have hz : ¬ f 3 ≤ nI n := by rw [hP]; exact nI_ge (by omega) (by omega)
    have hb : vp_in (nI n) 8 := vp_in_nI (by omega) (by omega)
    have hc := nI_clamp (n := n) (by omega)
    have ih := ih (n + 1) (by omega)
    refine GW.run kX4_breathedIn (fun pc => Nat.beq pc 4) 58 4 rfl ?_
    refine And.intro (by unfold vp_in; decide) ?_
    refine And.intro (fun hh => absurd hh hz) (fun _ => ?_)
    refine Mt.conseq (m_its _ n 1 (by omega) (by decide) _ (by decide) _ _ _) ?_
    rintro _ _ _ ⟨rfl, rfl, rfl⟩
    refine And.intro (fun h2 => ?_) (fun h2 => ?_)
    · -- pc 22 .if_icmp .ne 11: yes
      exact GW.weak ih ⟨rfl, rfl, congrArg Value.int (by rw [brI, if_neg (by first | exact (show vN f 6 n = room from h2) | exact (show ¬ vN f 6 n = room from h2))]; exact (Int32.add_zero _).symm), by rw [nI_1], trivial⟩
    · -- pc 22 .if_icmp .ne 11: no
      refine Mt.conseq (m_brt _ f P hP hP8 n (by omega) _ _) ?_
      rintro _ _ _ ⟨rfl, rfl, rfl⟩
      exact GW.weak ih ⟨rfl, rfl, congrArg Value.int (by rw [brI, if_pos (by first | exact (show vN f 6 n = room from h2) | exact (show ¬ vN f 6 n = room from h2))]; try rfl), by rw [nI_1], trivial⟩
set_option maxRecDepth 100000 in
set_option maxHeartbeats 4000000 in
theorem m_brI (sx : Nat × (Nat → Int32)) (f : Nat → Int32) (P : Nat) (hP : f 3 = nI P) (hP8 : P ≤ 8) (room : Int32) (I : Mm) (J : Ml) : Mt sx MX4_breathedIn [.ref 43, .int room] (sR f I) J (na_v (sR f I) J (brI (vN f) P room P)) := by
  refine Mt.of2 _ rfl (by decide +kernel) (Nat.le_of_ble_eq_true rfl) ?_
  refine GW.run kX4_breathedIn (fun pc => Nat.beq pc 4) 58 0 rfl ?_
  exact l_mbrI sx f P hP hP8 room I J _ ⟨rfl, rfl, rfl⟩ P 0 (by omega)
set_option maxRecDepth 100000 in
set_option maxHeartbeats 4000000 in
theorem l_mstf (sx : Nat × (Nat → Int32)) (f : Nat → Int32) (P : Nat) (hP : f 3 = nI P) (hP8 : P ≤ 8) (I : Mm) (J : Ml) (Rt : Option Value → Mm → Ml → Prop) (hR : Rt (some (.int (stf (vN f) P))) (sR f I) J) : ∀ m n, n + m = P → GW sx (na_mi MX4_stifled) Rt 4 [some (.ref 43), some (.int (stf (vN f) n)), some (.int (nI n))] [] (sR f I) J := by
  intro m
  induction m with
  | zero =>
    intro n hn
    obtain rfl : P = n := by omega
    have hz : f 3 ≤ nI P := by rw [hP]; exact Int32.le_refl _
    refine GW.run kX4_stifled (fun pc => Nat.beq pc 4) 53 4 rfl ?_
    refine And.intro (by unfold vp_in; decide) ?_
    refine And.intro (fun _ => ?_) (fun hh => absurd hz hh)
    exact ⟨trivial, hR⟩
  | succ m ih =>
    intro n hn
    have hz : ¬ f 3 ≤ nI n := by rw [hP]; exact nI_ge (by omega) (by omega)
    have hb : vp_in (nI n) 8 := vp_in_nI (by omega) (by omega)
    have hc := nI_clamp (n := n) (by omega)
    have ih := ih (n + 1) (by omega)
    refine GW.run kX4_stifled (fun pc => Nat.beq pc 4) 53 4 rfl ?_
    refine And.intro (by unfold vp_in; decide) ?_
    refine And.intro (fun hh => absurd hh hz) (fun _ => ?_)
    refine Mt.conseq (m_its _ n 4 (by omega) (by decide) _ (by decide) _ _ _) ?_
    rintro _ _ _ ⟨rfl, rfl, rfl⟩
    exact GW.weak ih ⟨rfl, rfl, by rw [nI_1], trivial⟩
set_option maxRecDepth 100000 in
set_option maxHeartbeats 4000000 in
theorem m_stf (sx : Nat × (Nat → Int32)) (f : Nat → Int32) (P : Nat) (hP : f 3 = nI P) (hP8 : P ≤ 8) (I : Mm) (J : Ml) : Mt sx MX4_stifled [.ref 43] (sR f I) J (na_v (sR f I) J (stf (vN f) P)) := by
  refine Mt.of2 _ rfl (by decide +kernel) (Nat.le_of_ble_eq_true rfl) ?_
  refine GW.run kX4_stifled (fun pc => Nat.beq pc 4) 53 0 rfl ?_
  exact l_mstf sx f P hP hP8 I J _ ⟨rfl, rfl, rfl⟩ P 0 (by omega)
set_option maxRecDepth 100000 in
set_option maxHeartbeats 4000000 in
theorem l_mbrA (sx : Nat × (Nat → Int32)) (f : Nat → Int32) (P : Nat) (hP : f 3 = nI P) (hP8 : P ≤ 8) (I : Mm) (J : Ml) (Rt : Option Value → Mm → Ml → Prop) (hR : Rt (some (.int (brA (vN f) P P))) (sR f I) J) : ∀ m n, n + m = P → GW sx (na_mi MX4_allBreathe) Rt 4 [some (.ref 43), some (.int (brA (vN f) P n)), some (.int (nI n))] [] (sR f I) J := by
  intro m
  induction m with
  | zero =>
    intro n hn
    obtain rfl : P = n := by omega
    have hz : f 3 ≤ nI P := by rw [hP]; exact Int32.le_refl _
    refine GW.run kX4_allBreathe (fun pc => Nat.beq pc 4) 50 4 rfl ?_
    refine And.intro (by unfold vp_in; decide) ?_
    refine And.intro (fun _ => ?_) (fun hh => absurd hz hh)
    exact ⟨trivial, hR⟩
  | succ m ih =>
    intro n hn
    have hz : ¬ f 3 ≤ nI n := by rw [hP]; exact nI_ge (by omega) (by omega)
    have hb : vp_in (nI n) 8 := vp_in_nI (by omega) (by omega)
    have hc := nI_clamp (n := n) (by omega)
    have ih := ih (n + 1) (by omega)
    refine GW.run kX4_allBreathe (fun pc => Nat.beq pc 4) 50 4 rfl ?_
    refine And.intro (by unfold vp_in; decide) ?_
    refine And.intro (fun hh => absurd hh hz) (fun _ => ?_)
    refine Mt.conseq (m_brt _ f P hP hP8 n (by omega) _ _) ?_
    rintro _ _ _ ⟨rfl, rfl, rfl⟩
    exact GW.weak ih ⟨rfl, rfl, by rw [nI_1], trivial⟩
set_option maxRecDepth 100000 in
set_option maxHeartbeats 4000000 in
theorem m_brA (sx : Nat × (Nat → Int32)) (f : Nat → Int32) (P : Nat) (hP : f 3 = nI P) (hP8 : P ≤ 8) (I : Mm) (J : Ml) : Mt sx MX4_allBreathe [.ref 43] (sR f I) J (na_v (sR f I) J (brA (vN f) P P)) := by
  refine Mt.of2 _ rfl (by decide +kernel) (Nat.le_of_ble_eq_true rfl) ?_
  refine GW.run kX4_allBreathe (fun pc => Nat.beq pc 4) 50 0 rfl ?_
  exact l_mbrA sx f P hP hP8 I J _ ⟨rfl, rfl, rfl⟩ P 0 (by omega)
def suM (f : Nat → Int32) (w : Nat) : Nat → Int32
  | 0 => 0
  | r + 1 => suM f w r + f (4 + 4 * r + w)
set_option maxRecDepth 100000 in
set_option maxHeartbeats 4000000 in
theorem l_msu (sx : Nat × (Nat → Int32)) (f : Nat → Int32) (w : Nat) (hw : w < 4) (x : Int32) (hx : x = nI w) (I : Mm) (J : Ml) (Rt : Option Value → Mm → Ml → Prop) (hR : Rt (some (.int (suM f w 8))) (sR f I) J) : ∀ m n, n + m = 8 → GW sx (na_mi MX4_sumOf) Rt 4 [some (.ref 43), some (.int x), some (.int (suM f w n)), some (.int (nI n))] [] (sR f I) J := by
  intro m
  induction m with
  | zero =>
    intro n hn
    obtain rfl : n = 8 := by omega
    have hz : (8 : Int32) ≤ nI 8 := by decide
    refine GW.run kX4_sumOf (fun pc => Nat.beq pc 4) 48 4 rfl ?_
    refine And.intro (fun _ => ?_) (fun hh => absurd hz hh)
    exact ⟨trivial, hR⟩
  | succ m ih =>
    intro n hn
    have hz : ¬ (8 : Int32) ≤ nI n := nI_ge (a := n) (b := 8) (by omega) (by omega)
    have hb : vp_in (nI n) 8 := vp_in_nI (by omega) (by omega)
    have hc := nI_clamp (n := n) (by omega)
    have ih := ih (n + 1) (by omega)
    refine GW.run kX4_sumOf (fun pc => Nat.beq pc 4) 48 4 rfl ?_
    refine And.intro (fun hh => absurd hh hz) (fun _ => ?_)
    refine Mt.conseq (m_there _ n w (by omega) hw _ hx _ _ _) ?_
    rintro _ _ _ ⟨rfl, rfl, rfl⟩
    exact GW.weak ih ⟨rfl, rfl, rfl, by rw [nI_1], trivial⟩
set_option maxRecDepth 100000 in
set_option maxHeartbeats 4000000 in
theorem m_su (sx : Nat × (Nat → Int32)) (f : Nat → Int32) (w : Nat) (hw : w < 4) (x : Int32) (hx : x = nI w) (I : Mm) (J : Ml) : Mt sx MX4_sumOf [.ref 43, .int x] (sR f I) J (na_v (sR f I) J (suM f w 8)) := by
  refine Mt.of2 _ rfl (by decide +kernel) (Nat.le_of_ble_eq_true rfl) ?_
  refine GW.run kX4_sumOf (fun pc => Nat.beq pc 4) 48 0 rfl ?_
  exact l_msu sx f w hw x hx I J _ ⟨rfl, rfl, rfl⟩ 8 0 (by omega)
set_option maxRecDepth 100000 in
set_option maxHeartbeats 4000000 in
theorem l_mfr (sx : Nat × (Nat → Int32)) (f : Nat → Int32) (set : Int32) (I : Mm) (J : Ml) (Rt : Option Value → Mm → Ml → Prop) (hR : Rt (some (.int (fri (vN f) set 8))) (sR f I) J) : ∀ m n, n + m = 8 → GW sx (na_mi MX4_frostOf) Rt 4 [some (.ref 43), some (.int set), some (.int (fri (vN f) set n)), some (.int (nI n))] [] (sR f I) J := by
  intro m
  induction m with
  | zero =>
    intro n hn
    obtain rfl : n = 8 := by omega
    have hz : (8 : Int32) ≤ nI 8 := by decide
    refine GW.run kX4_frostOf (fun pc => Nat.beq pc 4) 54 4 rfl ?_
    refine And.intro (fun _ => ?_) (fun hh => absurd hz hh)
    exact ⟨trivial, hR⟩
  | succ m ih =>
    intro n hn
    have hz : ¬ (8 : Int32) ≤ nI n := nI_ge (a := n) (b := 8) (by omega) (by omega)
    have hb : vp_in (nI n) 8 := vp_in_nI (by omega) (by omega)
    have hc := nI_clamp (n := n) (by omega)
    have ih := ih (n + 1) (by omega)
    refine GW.run kX4_frostOf (fun pc => Nat.beq pc 4) 54 4 rfl ?_
    refine And.intro (fun hh => absurd hh hz) (fun _ => ?_)
    refine Mt.conseq (m_has _ _ _ _ _) ?_
    rintro _ _ _ ⟨rfl, rfl, ⟨h1, rfl⟩ | ⟨h1, rfl⟩⟩
    · -- pc 13 call X4_has true
      refine And.intro (fun hh => absurd hh (by decide)) (fun _ => ?_)
      refine Mt.conseq (m_there _ n 1 (by omega) (by decide) _ (by decide) _ _ _) ?_
      rintro _ _ _ ⟨rfl, rfl, rfl⟩
      exact GW.weak ih ⟨rfl, rfl, congrArg Value.int (by rw [fri, if_pos h1]; try rfl), by rw [nI_1], trivial⟩
    · -- pc 13 call X4_has false
      refine And.intro (fun _ => ?_) (fun hh => absurd hh (by decide))
      exact GW.weak ih ⟨rfl, rfl, congrArg Value.int (by rw [fri, if_neg h1]; exact (Int32.add_zero _).symm), by rw [nI_1], trivial⟩
set_option maxRecDepth 100000 in
set_option maxHeartbeats 4000000 in
theorem m_fr (sx : Nat × (Nat → Int32)) (f : Nat → Int32) (set : Int32) (I : Mm) (J : Ml) : Mt sx MX4_frostOf [.ref 43, .int set] (sR f I) J (na_v (sR f I) J (fri (vN f) set 8)) := by
  refine Mt.of2 _ rfl (by decide +kernel) (Nat.le_of_ble_eq_true rfl) ?_
  refine GW.run kX4_frostOf (fun pc => Nat.beq pc 4) 54 0 rfl ?_
  exact l_mfr sx f set I J _ ⟨rfl, rfl, rfl⟩ 8 0 (by omega)
def grM (N : Mm) (P : Nat) (set : Int32) : Nat → Int32
  | 0 => 0
  | q + 1 => if grM N P set q < (if hasP set (nI q) then brt N P q else 0) then (if hasP set (nI q) then brt N P q else 0) else grM N P set q
set_option maxRecDepth 100000 in
set_option maxHeartbeats 4000000 in
theorem l_mgr (sx : Nat × (Nat → Int32)) (f : Nat → Int32) (P : Nat) (hP : f 3 = nI P) (hP8 : P ≤ 8) (set : Int32) (I : Mm) (J : Ml) (Rt : Option Value → Mm → Ml → Prop) (hR : Rt (some (.int (grM (vN f) P set P))) (sR f I) J) : ∀ m n, n + m = P → GW sx (na_mi MX4_greatest) Rt 4 [some (.ref 43), some (.int set), some (.int (grM (vN f) P set n)), some (.int (nI n)), none] [] (sR f I) J := by
  intro m
  induction m with
  | zero =>
    intro n hn
    obtain rfl : P = n := by omega
    have hz : f 3 ≤ nI P := by rw [hP]; exact Int32.le_refl _
    refine GW.run kX4_greatest (fun pc => Nat.beq pc 4) 61 4 rfl ?_
    refine And.intro (by unfold vp_in; decide) ?_
    refine And.intro (fun _ => ?_) (fun hh => absurd hz hh)
    exact ⟨trivial, hR⟩
  | succ m ih =>
    intro n hn
    have hz : ¬ f 3 ≤ nI n := by rw [hP]; exact nI_ge (by omega) (by omega)
    have hb : vp_in (nI n) 8 := vp_in_nI (by omega) (by omega)
    have hc := nI_clamp (n := n) (by omega)
    have ih := ih (n + 1) (by omega)
    refine GW.run kX4_greatest (fun pc => Nat.beq pc 4) 61 4 rfl ?_
    refine And.intro (by unfold vp_in; decide) ?_
    refine And.intro (fun hh => absurd hh hz) (fun _ => ?_)
    refine Mt.conseq (m_has _ _ _ _ _) ?_
    rintro _ _ _ ⟨rfl, rfl, ⟨h1, rfl⟩ | ⟨h1, rfl⟩⟩
    · -- pc 16 call X4_has true
      refine And.intro (fun hh => absurd hh (by decide)) (fun _ => ?_)
      refine Mt.conseq (m_brt _ f P hP hP8 n (by omega) _ _) ?_
      rintro _ _ _ ⟨rfl, rfl, rfl⟩
      refine And.intro (fun h3 => ?_) (fun h3 => ?_)
      · -- pc 36 .if_icmp .le 8: yes
        exact GW.weak ih ⟨rfl, rfl, congrArg Value.int (by rw [grM, if_pos h1, if_neg (Int32.not_lt.mpr h3)]), by rw [nI_1], trivial⟩
      · -- pc 36 .if_icmp .le 8: no
        exact GW.weak ih ⟨rfl, rfl, congrArg Value.int (by rw [grM, if_pos h1, if_pos (Int32.not_le.mp h3)]), by rw [nI_1], trivial⟩
    · -- pc 16 call X4_has false
      refine And.intro (fun _ => ?_) (fun hh => absurd hh (by decide))
      refine And.intro (fun h4 => ?_) (fun h4 => ?_)
      · -- pc 36 .if_icmp .le 8: yes
        exact GW.weak ih ⟨rfl, rfl, congrArg Value.int (by rw [grM, if_neg h1, if_neg (Int32.not_lt.mpr h4)]), by rw [nI_1], trivial⟩
      · -- pc 36 .if_icmp .le 8: no
        exact GW.weak ih ⟨rfl, rfl, congrArg Value.int (by rw [grM, if_neg h1, if_pos (Int32.not_le.mp h4)]), by rw [nI_1], trivial⟩
set_option maxRecDepth 100000 in
set_option maxHeartbeats 4000000 in
theorem m_gr (sx : Nat × (Nat → Int32)) (f : Nat → Int32) (P : Nat) (hP : f 3 = nI P) (hP8 : P ≤ 8) (set : Int32) (I : Mm) (J : Ml) : Mt sx MX4_greatest [.ref 43, .int set] (sR f I) J (na_v (sR f I) J (grM (vN f) P set P)) := by
  refine Mt.of2 _ rfl (by decide +kernel) (Nat.le_of_ble_eq_true rfl) ?_
  refine GW.run kX4_greatest (fun pc => Nat.beq pc 4) 61 0 rfl ?_
  exact l_mgr sx f P hP hP8 set I J _ ⟨rfl, rfl, rfl⟩ P 0 (by omega)
end
section
/-! THE REFERENCE: an hour -/
/-- what the reference's own acts do to its row -/
def frM (f : Nat → Int32) (r : Nat) : Nat → Int32 :=
  let q := f (4 + 4 * r + 0) * (9 - f (4 + 4 * r + 3)) / 20
  let g := upd f (4 + 4 * r + 1) (mx (f (4 + 4 * r + 1) + q))
  upd g (4 + 4 * r + 0) (mx (g (4 + 4 * r + 0) - q))
def thM (f : Nat → Int32) (r : Nat) : Nat → Int32 :=
  let q := if f (4 + 4 * r + 1) ≤ f (4 + 4 * r + 2) then f (4 + 4 * r + 1) else f (4 + 4 * r + 2)
  let g := upd f (4 + 4 * r + 1) (mx (f (4 + 4 * r + 1) - q))
  upd g (4 + 4 * r + 0) (mx (g (4 + 4 * r + 0) + q))
def drM (f : Nat → Int32) (d : Nat) : Nat → Int32 :=
  let more := f (4 + 4 * d + 0) - f (4 + 4 * (d + 1) + 0)
  let q := if 0 ≤ more then more / 4 else -(-more / 4)
  let g := upd f (4 + 4 * d + 0) (mx (f (4 + 4 * d + 0) - q))
  upd g (4 + 4 * (d + 1) + 0) (mx (g (4 + 4 * (d + 1) + 0) + q))
def bhM (P : Nat) (f : Nat → Int32) (p : Nat) : Nat → Int32 :=
  let r := (f (36 + 5 * p + 1)).toNatClampNeg
  let t := brt (vN f) P p
  let air := f (4 + 4 * r + 0)
  let g := upd f (4 + 4 * r + 0) (mx (if t ≤ air then air - t else 0))
  let h := if t ≤ air then g else upd g (36 + 5 * p + 4) 1
  upd h (36 + 5 * p + 3) (if 999 ≤ h (36 + 5 * p + 3) then 999 else h (36 + 5 * p + 3) + 1)
set_option maxRecDepth 100000 in
set_option maxHeartbeats 4000000 in
theorem m_frz (sx : Nat × (Nat → Int32)) (f : Nat → Int32) (r : Nat) (hr : r < 8) (I : Mm) (J : Ml) : Mt sx MX4_freezes [.ref 43, .int (nI r)] (sR f I) J (fun r' I' J' => sR (frM f r) I = I' ∧ J = J' ∧ r' = none) := by
  refine Mt.of2 _ rfl (by decide +kernel) (Nat.le_of_ble_eq_true rfl) ?_
  refine GW.run kX4_freezes (fun _ => false) 65 0 rfl ?_
  refine Mt.conseq (m_there _ r 0 (by omega) (by decide) _ (by decide) _ _ _) ?_
  rintro _ _ _ ⟨rfl, rfl, rfl⟩
  refine Mt.conseq (m_there _ r 3 (by omega) (by decide) _ (by decide) _ _ _) ?_
  rintro _ _ _ ⟨rfl, rfl, rfl⟩
  refine And.intro (by decide) ?_
  refine Mt.conseq (m_there _ r 1 (by omega) (by decide) _ (by decide) _ _ _) ?_
  rintro _ _ _ ⟨rfl, rfl, rfl⟩
  refine Mt.conseq (m_lies _ _ r 1 (by omega) (by decide) _ (by decide) _ _ _) ?_
  rintro _ _ _ ⟨rfl, rfl, rfl⟩
  refine Mt.conseq (m_there _ r 0 (by omega) (by decide) _ (by decide) _ _ _) ?_
  rintro _ _ _ ⟨rfl, rfl, rfl⟩
  refine Mt.conseq (m_lies _ _ r 0 (by omega) (by decide) _ (by decide) _ _ _) ?_
  rintro _ _ _ ⟨rfl, rfl, rfl⟩
  exact ⟨rfl, rfl, rfl⟩
set_option maxRecDepth 100000 in
set_option maxHeartbeats 4000000 in
theorem m_thw (sx : Nat × (Nat → Int32)) (f : Nat → Int32) (r : Nat) (hr : r < 8) (I : Mm) (J : Ml) : Mt sx MX4_thaws [.ref 43, .int (nI r)] (sR f I) J (fun r' I' J' => sR (thM f r) I = I' ∧ J = J' ∧ r' = none) := by
  refine Mt.of2 _ rfl (by decide +kernel) (Nat.le_of_ble_eq_true rfl) ?_
  refine GW.run kX4_thaws (fun _ => false) 70 0 rfl ?_
  refine Mt.conseq (m_there _ r 2 (by omega) (by decide) _ (by decide) _ _ _) ?_
  rintro _ _ _ ⟨rfl, rfl, rfl⟩
  refine Mt.conseq (m_there _ r 1 (by omega) (by decide) _ (by decide) _ _ _) ?_
  rintro _ _ _ ⟨rfl, rfl, rfl⟩
  refine And.intro (fun h3 => ?_) (fun h3 => ?_)
  · -- pc 12 .if_icmp .ge 12: yes
    refine Mt.conseq (m_there _ r 1 (by omega) (by decide) _ (by decide) _ _ _) ?_
    rintro _ _ _ ⟨rfl, rfl, rfl⟩
    refine Mt.conseq (m_there _ r 1 (by omega) (by decide) _ (by decide) _ _ _) ?_
    rintro _ _ _ ⟨rfl, rfl, rfl⟩
    refine Mt.conseq (m_lies _ _ r 1 (by omega) (by decide) _ (by decide) _ _ _) ?_
    rintro _ _ _ ⟨rfl, rfl, rfl⟩
    refine Mt.conseq (m_there _ r 0 (by omega) (by decide) _ (by decide) _ _ _) ?_
    rintro _ _ _ ⟨rfl, rfl, rfl⟩
    refine Mt.conseq (m_lies _ _ r 0 (by omega) (by decide) _ (by decide) _ _ _) ?_
    rintro _ _ _ ⟨rfl, rfl, rfl⟩
    exact ⟨by rw [thM, if_pos h3], rfl, rfl⟩
  · -- pc 12 .if_icmp .ge 12: no
    refine Mt.conseq (m_there _ r 2 (by omega) (by decide) _ (by decide) _ _ _) ?_
    rintro _ _ _ ⟨rfl, rfl, rfl⟩
    refine Mt.conseq (m_there _ r 1 (by omega) (by decide) _ (by decide) _ _ _) ?_
    rintro _ _ _ ⟨rfl, rfl, rfl⟩
    refine Mt.conseq (m_lies _ _ r 1 (by omega) (by decide) _ (by decide) _ _ _) ?_
    rintro _ _ _ ⟨rfl, rfl, rfl⟩
    refine Mt.conseq (m_there _ r 0 (by omega) (by decide) _ (by decide) _ _ _) ?_
    rintro _ _ _ ⟨rfl, rfl, rfl⟩
    refine Mt.conseq (m_lies _ _ r 0 (by omega) (by decide) _ (by decide) _ _ _) ?_
    rintro _ _ _ ⟨rfl, rfl, rfl⟩
    exact ⟨by rw [thM, if_neg h3], rfl, rfl⟩
set_option maxRecDepth 100000 in
set_option maxHeartbeats 4000000 in
theorem m_drt (sx : Nat × (Nat → Int32)) (f : Nat → Int32) (d : Nat) (hd : d < 7) (I : Mm) (J : Ml) : Mt sx MX4_draughts [.ref 43, .int (nI d)] (sR f I) J (fun r' I' J' => sR (drM f d) I = I' ∧ J = J' ∧ r' = none) := by
  have hth1 : ∀ (g : Nat → Int32) (w : Nat) (hw : w < 4) (x : Int32) (hx : x = nI w), Mt sx MX4_there [.ref 43, .int (nI d + 1), .int x] (sR g I) J (na_v (sR g I) J (g (4 + 4 * (d + 1) + w))) := by
    intro g w hw x hx
    rw [nI_1]
    exact m_there sx (d + 1) w (by omega) hw x hx g I J
  have hli1 : ∀ (g : Nat → Int32) (v : Int32) (w : Nat) (hw : w < 4) (x : Int32) (hx : x = nI w), Mt sx MX4_lies [.ref 43, .int (nI d + 1), .int x, .int v] (sR g I) J (fun r' I' J' => sR (upd g (4 + 4 * (d + 1) + w) (mx v)) I = I' ∧ J = J' ∧ r' = none) := by
    intro g v w hw x hx
    rw [nI_1]
    exact m_lies sx v (d + 1) w (by omega) hw x hx g I J
  refine Mt.of2 _ rfl (by decide +kernel) (Nat.le_of_ble_eq_true rfl) ?_
  refine GW.run kX4_draughts (fun _ => false) 79 0 rfl ?_
  refine Mt.conseq (m_there _ d 0 (by omega) (by decide) _ (by decide) _ _ _) ?_
  rintro _ _ _ ⟨rfl, rfl, rfl⟩
  refine Mt.conseq (hth1 _ 0 (by decide) _ (by decide)) ?_
  rintro _ _ _ ⟨rfl, rfl, rfl⟩
  refine And.intro (fun h3 => ?_) (fun h3 => ?_)
  · -- pc 17 .ifCond .ge 11: yes
    refine And.intro (by decide) ?_
    refine Mt.conseq (m_there _ d 0 (by omega) (by decide) _ (by decide) _ _ _) ?_
    rintro _ _ _ ⟨rfl, rfl, rfl⟩
    refine Mt.conseq (m_lies _ _ d 0 (by omega) (by decide) _ (by decide) _ _ _) ?_
    rintro _ _ _ ⟨rfl, rfl, rfl⟩
    refine Mt.conseq (hth1 _ 0 (by decide) _ (by decide)) ?_
    rintro _ _ _ ⟨rfl, rfl, rfl⟩
    refine Mt.conseq (hli1 _ _ 0 (by decide) _ (by decide)) ?_
    rintro _ _ _ ⟨rfl, rfl, rfl⟩
    exact ⟨by rw [drM, if_pos h3], rfl, rfl⟩
  · -- pc 17 .ifCond .ge 11: no
    refine And.intro (by decide) ?_
    refine Mt.conseq (m_there _ d 0 (by omega) (by decide) _ (by decide) _ _ _) ?_
    rintro _ _ _ ⟨rfl, rfl, rfl⟩
    refine Mt.conseq (m_lies _ _ d 0 (by omega) (by decide) _ (by decide) _ _ _) ?_
    rintro _ _ _ ⟨rfl, rfl, rfl⟩
    refine Mt.conseq (hth1 _ 0 (by decide) _ (by decide)) ?_
    rintro _ _ _ ⟨rfl, rfl, rfl⟩
    refine Mt.conseq (hli1 _ _ 0 (by decide) _ (by decide)) ?_
    rintro _ _ _ ⟨rfl, rfl, rfl⟩
    exact ⟨by rw [drM, if_neg h3], rfl, rfl⟩
set_option maxRecDepth 100000 in
set_option maxHeartbeats 4000000 in
theorem m_bth (sx : Nat × (Nat → Int32)) (f : Nat → Int32) (P : Nat) (hP : f 3 = nI P) (hP8 : P ≤ 8) (p : Nat) (hp : p < P) (hpl : vp_in (f (36 + 5 * p + 1)) 8) (I : Mm) (J : Ml) : Mt sx MX4_breathe [.ref 43, .int (nI p)] (sR f I) J (fun r' I' J' => sR (bhM P f p) I = I' ∧ J = J' ∧ r' = none) := by
  have hp8 : p < 8 := by omega
  obtain ⟨rm, hrm, er⟩ := vp_in_of hpl (by decide)
  have ec : (f (36 + 5 * p + 1)).toNatClampNeg = rm := by rw [er]; exact nI_clamp (by omega)
  have hth : ∀ (w : Nat) (hw : w < 4) (x : Int32) (hx : x = nI w), Mt sx MX4_there [.ref 43, .int (f (36 + 5 * p + 1)), .int x] (sR f I) J (na_v (sR f I) J (f (4 + 4 * (f (36 + 5 * p + 1)).toNatClampNeg + w))) := by
    intro w hw x hx
    rw [ec, er]
    exact m_there sx rm w hrm hw x hx f I J
  have hli : ∀ (v : Int32) (w : Nat) (hw : w < 4) (x : Int32) (hx : x = nI w), Mt sx MX4_lies [.ref 43, .int (f (36 + 5 * p + 1)), .int x, .int v] (sR f I) J (fun r' I' J' => sR (upd f (4 + 4 * (f (36 + 5 * p + 1)).toNatClampNeg + w) (mx v)) I = I' ∧ J = J' ∧ r' = none) := by
    intro v w hw x hx
    rw [ec, er]
    exact m_lies sx v rm w hrm hw x hx f I J
  refine Mt.of2 _ rfl (by decide +kernel) (Nat.le_of_ble_eq_true rfl) ?_
  refine GW.run kX4_breathe (fun _ => false) 83 0 rfl ?_
  refine Mt.conseq (m_its _ p 1 (by omega) (by decide) _ (by decide) _ _ _) ?_
  rintro _ _ _ ⟨rfl, rfl, rfl⟩
  refine Mt.conseq (m_brt _ f P hP hP8 p hp8 _ _) ?_
  rintro _ _ _ ⟨rfl, rfl, rfl⟩
  refine Mt.conseq (hth 0 (by decide) _ (by decide)) ?_
  rintro _ _ _ ⟨rfl, rfl, rfl⟩
  refine And.intro (fun h4 => ?_) (fun h4 => ?_)
  · -- pc 27 .if_icmp .ge 7: yes
    refine Mt.conseq (hli _ 0 (by decide) _ (by decide)) ?_
    rintro _ _ _ ⟨rfl, rfl, rfl⟩
    refine And.intro (fun h6 => ?_) (fun h6 => ?_)
    · -- pc 44 .if_icmp .ge 10: yes
      refine Mt.conseq (m_its _ p 3 (by omega) (by decide) _ (by decide) _ _ _) ?_
      rintro _ _ _ ⟨rfl, rfl, rfl⟩
      refine And.intro (fun h8 => ?_) (fun h8 => ?_)
      · -- pc 66 .if_icmp .ge 14: yes
        refine Mt.conseq (m_puts _ _ p 3 (by omega) (by decide) _ (by decide) _ _ _) ?_
        rintro _ _ _ ⟨rfl, rfl, rfl⟩
        exact ⟨by simp only [bhM]; rw [if_pos h4, if_pos h4, if_pos h8], rfl, rfl⟩
      · -- pc 66 .if_icmp .ge 14: no
        refine Mt.conseq (m_its _ p 3 (by omega) (by decide) _ (by decide) _ _ _) ?_
        rintro _ _ _ ⟨rfl, rfl, rfl⟩
        refine Mt.conseq (m_puts _ _ p 3 (by omega) (by decide) _ (by decide) _ _ _) ?_
        rintro _ _ _ ⟨rfl, rfl, rfl⟩
        exact ⟨by simp only [bhM]; rw [if_pos h4, if_pos h4, if_neg h8], rfl, rfl⟩
    · -- pc 44 .if_icmp .ge 10: no
      refine Mt.conseq (m_puts _ _ p 4 (by omega) (by decide) _ (by decide) _ _ _) ?_
      rintro _ _ _ ⟨rfl, rfl, rfl⟩
      refine Mt.conseq (m_its _ p 3 (by omega) (by decide) _ (by decide) _ _ _) ?_
      rintro _ _ _ ⟨rfl, rfl, rfl⟩
      refine And.intro (fun h14 => ?_) (fun h14 => ?_)
      · -- pc 66 .if_icmp .ge 14: yes
        refine Mt.conseq (m_puts _ _ p 3 (by omega) (by decide) _ (by decide) _ _ _) ?_
        rintro _ _ _ ⟨rfl, rfl, rfl⟩
        exact absurd h4 h6
      · -- pc 66 .if_icmp .ge 14: no
        refine Mt.conseq (m_its _ p 3 (by omega) (by decide) _ (by decide) _ _ _) ?_
        rintro _ _ _ ⟨rfl, rfl, rfl⟩
        refine Mt.conseq (m_puts _ _ p 3 (by omega) (by decide) _ (by decide) _ _ _) ?_
        rintro _ _ _ ⟨rfl, rfl, rfl⟩
        exact absurd h4 h6
  · -- pc 27 .if_icmp .ge 7: no
    refine Mt.conseq (hli _ 0 (by decide) _ (by decide)) ?_
    rintro _ _ _ ⟨rfl, rfl, rfl⟩
    refine And.intro (fun h19 => ?_) (fun h19 => ?_)
    · -- pc 44 .if_icmp .ge 10: yes
      refine Mt.conseq (m_its _ p 3 (by omega) (by decide) _ (by decide) _ _ _) ?_
      rintro _ _ _ ⟨rfl, rfl, rfl⟩
      refine And.intro (fun h21 => ?_) (fun h21 => ?_)
      · -- pc 66 .if_icmp .ge 14: yes
        refine Mt.conseq (m_puts _ _ p 3 (by omega) (by decide) _ (by decide) _ _ _) ?_
        rintro _ _ _ ⟨rfl, rfl, rfl⟩
        exact absurd h19 h4
      · -- pc 66 .if_icmp .ge 14: no
        refine Mt.conseq (m_its _ p 3 (by omega) (by decide) _ (by decide) _ _ _) ?_
        rintro _ _ _ ⟨rfl, rfl, rfl⟩
        refine Mt.conseq (m_puts _ _ p 3 (by omega) (by decide) _ (by decide) _ _ _) ?_
        rintro _ _ _ ⟨rfl, rfl, rfl⟩
        exact absurd h19 h4
    · -- pc 44 .if_icmp .ge 10: no
      refine Mt.conseq (m_puts _ _ p 4 (by omega) (by decide) _ (by decide) _ _ _) ?_
      rintro _ _ _ ⟨rfl, rfl, rfl⟩
      refine Mt.conseq (m_its _ p 3 (by omega) (by decide) _ (by decide) _ _ _) ?_
      rintro _ _ _ ⟨rfl, rfl, rfl⟩
      refine And.intro (fun h27 => ?_) (fun h27 => ?_)
      · -- pc 66 .if_icmp .ge 14: yes
        refine Mt.conseq (m_puts _ _ p 3 (by omega) (by decide) _ (by decide) _ _ _) ?_
        rintro _ _ _ ⟨rfl, rfl, rfl⟩
        exact ⟨by simp only [bhM]; rw [if_neg h4, if_neg h4, if_pos h27], rfl, rfl⟩
      · -- pc 66 .if_icmp .ge 14: no
        refine Mt.conseq (m_its _ p 3 (by omega) (by decide) _ (by decide) _ _ _) ?_
        rintro _ _ _ ⟨rfl, rfl, rfl⟩
        refine Mt.conseq (m_puts _ _ p 3 (by omega) (by decide) _ (by decide) _ _ _) ?_
        rintro _ _ _ ⟨rfl, rfl, rfl⟩
        exact ⟨by simp only [bhM]; rw [if_neg h4, if_neg h4, if_neg h27], rfl, rfl⟩
def itF (h : (Nat → Int32) → Nat → (Nat → Int32)) : Nat → (Nat → Int32) → (Nat → Int32)
  | 0, f => f
  | n + 1, f => h (itF h n f) n
def dgM (f : Nat → Int32) (d : Nat) : Nat → Int32 := if hasP (f 2) (nI d) then drM f d else f
/-- the row ahead of breathing -/
def pm1 (f : Nat → Int32) : Nat → Int32 := if f 1 = 1 then itF frM 8 f else f
def pmM (f : Nat → Int32) : Nat → Int32 := itF dgM 7 (itF thM 8 (pm1 f))
def hrM (P : Nat) (f : Nat → Int32) : Nat → Int32 := upd (itF (bhM P) P (pmM f)) 0 (itF (bhM P) P (pmM f) 0 + 1)
theorem upd_ne {f : Nat → Int32} {i j : Nat} {v : Int32} (h : j ≠ i) : upd f i v j = f j := by simp [upd, h]
theorem itF_keep {h : (Nat → Int32) → Nat → (Nat → Int32)} {k : Nat} (hf : ∀ f n, h f n k = f k) (f : Nat → Int32) : ∀ n, itF h n f k = f k
  | 0 => rfl
  | n + 1 => by rw [itF, hf, itF_keep hf f n]
theorem frM_lo {k : Nat} (h : k < 4) (f : Nat → Int32) (r : Nat) : frM f r k = f k := by
  simp only [frM]
  rw [upd_ne (by omega), upd_ne (by omega)]
theorem thM_lo {k : Nat} (h : k < 4) (f : Nat → Int32) (r : Nat) : thM f r k = f k := by
  simp only [thM]
  rw [upd_ne (by omega), upd_ne (by omega)]
theorem drM_lo {k : Nat} (h : k < 4) (f : Nat → Int32) (r : Nat) : drM f r k = f k := by
  simp only [drM]
  rw [upd_ne (by omega), upd_ne (by omega)]
theorem dgM_lo {k : Nat} (h : k < 4) (f : Nat → Int32) (r : Nat) : dgM f r k = f k := by
  unfold dgM
  split
  · exact drM_lo h f r
  · rfl
theorem bhM_lo {k : Nat} (h : k < 4) (P : Nat) (f : Nat → Int32) (p : Nat) : bhM P f p k = f k := by
  simp only [bhM]
  rw [upd_ne (by omega)]
  split
  · rw [upd_ne (by omega)]
  · rw [upd_ne (by omega), upd_ne (by omega)]
/-- rooms' rows are below 36; places of people stay -/
theorem frM_hi {k : Nat} (h : 36 ≤ k) (f : Nat → Int32) {r : Nat} (hr : r < 8) : frM f r k = f k := by
  simp only [frM]
  rw [upd_ne (by omega), upd_ne (by omega)]
theorem thM_hi {k : Nat} (h : 36 ≤ k) (f : Nat → Int32) {r : Nat} (hr : r < 8) : thM f r k = f k := by
  simp only [thM]
  rw [upd_ne (by omega), upd_ne (by omega)]
theorem drM_hi {k : Nat} (h : 36 ≤ k) (f : Nat → Int32) {r : Nat} (hr : r < 7) : drM f r k = f k := by
  simp only [drM]
  rw [upd_ne (by omega), upd_ne (by omega)]
theorem itF_hi {h : (Nat → Int32) → Nat → (Nat → Int32)} {k B : Nat} (hf : ∀ f n, n < B → h f n k = f k) (f : Nat → Int32) : ∀ n, n ≤ B → itF h n f k = f k
  | 0, _ => rfl
  | n + 1, hn => by rw [itF, hf _ _ (by omega), itF_hi hf f n (by omega)]
theorem pmM_lo {k : Nat} (h : k < 4) (f : Nat → Int32) : pmM f k = f k := by
  unfold pmM pm1
  rw [itF_keep (fun f n => dgM_lo h f n), itF_keep (fun f n => thM_lo h f n)]
  split
  · exact itF_keep (fun f n => frM_lo h f n) f 8
  · rfl
theorem pmM_hi {k : Nat} (h : 36 ≤ k) (f : Nat → Int32) : pmM f k = f k := by
  unfold pmM pm1
  rw [itF_hi (B := 7) (fun f n hn => by unfold dgM; split; exact drM_hi h f hn; rfl) _ 7 (Nat.le_refl _), itF_hi (B := 8) (fun f n hn => thM_hi h f hn) _ 8 (Nat.le_refl _)]
  split
  · exact itF_hi (B := 8) (fun f n hn => frM_hi h f hn) f 8 (Nat.le_refl _)
  · rfl
theorem bhM_pl (P : Nat) (f : Nat → Int32) (p q : Nat) (hr : vp_in (f (36 + 5 * p + 1)) 8) : bhM P f p (36 + 5 * q + 1) = f (36 + 5 * q + 1) := by
  obtain ⟨rm, hrm, er⟩ := vp_in_of hr (by decide)
  have ec : (f (36 + 5 * p + 1)).toNatClampNeg = rm := by rw [er]; exact nI_clamp (by omega)
  simp only [bhM, ec]
  rw [upd_ne (by omega)]
  split
  · rw [upd_ne (by omega)]
  · rw [upd_ne (by omega), upd_ne (by omega)]
theorem itB_pl (P : Nat) (f : Nat → Int32) (hpl : ∀ p, p < P → vp_in (f (36 + 5 * p + 1)) 8) (q : Nat) : ∀ n, n ≤ P → itF (bhM P) n f (36 + 5 * q + 1) = f (36 + 5 * q + 1)
  | 0, _ => rfl
  | n + 1, hn => by rw [itF, bhM_pl P _ n q (by rw [itB_pl P f hpl n n (by omega)]; exact hpl n (by omega)), itB_pl P f hpl q n (by omega)]
theorem hrM_3 (P : Nat) (f : Nat → Int32) : hrM P f 3 = f 3 := by
  unfold hrM
  rw [upd_ne (by decide), itF_keep (fun f n => bhM_lo (by decide) P f n), pmM_lo (by decide)]
theorem hrM_pl (P : Nat) (f : Nat → Int32) (hpl : ∀ p, p < P → vp_in (f (36 + 5 * p + 1)) 8) (q : Nat) : hrM P f (36 + 5 * q + 1) = f (36 + 5 * q + 1) := by
  unfold hrM
  rw [upd_ne (by omega), itB_pl P _ (fun p hp => by rw [pmM_hi (by omega)]; exact hpl p hp) q P (Nat.le_refl _), pmM_hi (by omega)]
set_option maxRecDepth 100000 in
set_option maxHeartbeats 4000000 in
theorem l_h4 (sx : Nat × (Nat → Int32)) (f : Nat → Int32) (P : Nat) (hP : f 3 = nI P) (hP8 : P ≤ 8) (hpl : ∀ p, p < P → vp_in (f (36 + 5 * p + 1)) 8) (I : Mm) (J : Ml) (Rt : Option Value → Mm → Ml → Prop) (hR : Rt none (sR (upd (itF (bhM P) P f) 0 (itF (bhM P) P f 0 + 1)) I) J) : ∀ m n, n + m = P → GW sx (na_mi MX4_oneHour) Rt 82 [some (.ref 43), some (.int (nI n))] [] (sR (itF (bhM P) n f) I) J := by
  intro m
  induction m with
  | zero =>
    intro n hn
    obtain rfl : P = n := by omega
    have hz : itF (bhM P) P f 3 ≤ nI P := by rw [itF_keep (fun f n => bhM_lo (by decide) P f n), hP]; exact Int32.le_refl _
    refine GW.run kX4_oneHour (fun pc => Nat.beq pc 2 || Nat.beq pc 31 || Nat.beq pc 50 || Nat.beq pc 82) 95 45 rfl ?_
    refine And.intro (by unfold vp_in; decide) ?_
    refine And.intro (fun _ => ?_) (fun hh => absurd hz hh)
    refine And.intro (by unfold vp_in; decide) ?_
    refine And.intro (by unfold vp_in; decide) ?_
    exact Eq.mp (congrArg (fun X => Rt none X J) sR_set.symm) hR
  | succ m ih =>
    intro n hn
    have hz : ¬ itF (bhM P) n f 3 ≤ nI n := by rw [itF_keep (fun f n => bhM_lo (by decide) P f n), hP]; exact nI_ge (by omega) (by omega)
    have ih := ih (n + 1) (by omega)
    refine GW.run kX4_oneHour (fun pc => Nat.beq pc 2 || Nat.beq pc 31 || Nat.beq pc 50 || Nat.beq pc 82) 95 45 rfl ?_
    refine And.intro (by unfold vp_in; decide) ?_
    refine And.intro (fun hh => absurd hh hz) (fun _ => ?_)
    refine Mt.conseq (m_bth _ (itF (bhM P) n f) P (by rw [itF_keep (fun f n => bhM_lo (by decide) P f n)]; exact hP) hP8 n (by omega) (by rw [itB_pl P f hpl n n (by omega)]; exact hpl n (by omega)) _ _) ?_
    rintro _ _ _ ⟨rfl, rfl, rfl⟩
    exact GW.weak ih ⟨rfl, by rw [nI_1], trivial⟩
set_option maxRecDepth 100000 in
set_option maxHeartbeats 4000000 in
theorem l_h3 (sx : Nat × (Nat → Int32)) (f : Nat → Int32) (P : Nat) (hP : f 3 = nI P) (hP8 : P ≤ 8) (hpl : ∀ p, p < P → vp_in (f (36 + 5 * p + 1)) 8) (I : Mm) (J : Ml) (Rt : Option Value → Mm → Ml → Prop) (hR : Rt none (sR (upd (itF (bhM P) P (itF dgM 7 f)) 0 (itF (bhM P) P (itF dgM 7 f) 0 + 1)) I) J) : ∀ m n, n + m = 7 → GW sx (na_mi MX4_oneHour) Rt 50 [some (.ref 43), some (.int (nI n))] [] (sR (itF dgM n f) I) J := by
  intro m
  induction m with
  | zero =>
    intro n hn
    obtain rfl : 7 = n := by omega
    have hz : (7 : Int32) ≤ nI 7 := by decide
    refine GW.run kX4_oneHour (fun pc => Nat.beq pc 2 || Nat.beq pc 31 || Nat.beq pc 50 || Nat.beq pc 82) 95 28 rfl ?_
    refine And.intro (fun _ => ?_) (fun hh => absurd hz hh)
    exact GW.weak (l_h4 sx (itF dgM 7 f) P (by rw [itF_keep (fun f n => dgM_lo (by decide) f n)]; exact hP) hP8 (fun p hp => by rw [itF_hi (B := 7) (fun f n hn => by unfold dgM; split; exact drM_hi (by omega) f hn; rfl) _ 7 (Nat.le_refl _)]; exact hpl p hp) I J Rt hR P 0 (by omega)) ⟨rfl, rfl, trivial⟩
  | succ m ih =>
    intro n hn
    have hz : ¬ (7 : Int32) ≤ nI n := nI_ge (a := n) (b := 7) (by omega) (by omega)
    have ih := ih (n + 1) (by omega)
    refine GW.run kX4_oneHour (fun pc => Nat.beq pc 2 || Nat.beq pc 31 || Nat.beq pc 50 || Nat.beq pc 82) 95 28 rfl ?_
    refine And.intro (fun hh => absurd hh hz) (fun _ => ?_)
    refine And.intro (by unfold vp_in; decide) ?_
    refine Mt.conseq (m_has _ _ _ _ _) ?_
    rintro _ _ _ ⟨rfl, rfl, ⟨h1, rfl⟩ | ⟨h1, rfl⟩⟩
    · -- pc 63 call X4_has true
      refine And.intro (fun hh => absurd hh (by decide)) (fun _ => ?_)
      refine Mt.conseq (m_drt _ (itF dgM n f) n (by omega) _ _) ?_
      rintro _ _ _ ⟨rfl, rfl, rfl⟩
      refine GW.weak (GW.eqI ?_ ih) ⟨rfl, by rw [nI_1], trivial⟩
      rw [itF, dgM, if_pos (show hasP (itF dgM n f 2) (nI n) from h1)]
    · -- pc 63 call X4_has false
      refine And.intro (fun _ => ?_) (fun hh => absurd hh (by decide))
      refine GW.weak (GW.eqI ?_ ih) ⟨rfl, by rw [nI_1], trivial⟩
      rw [itF, dgM, if_neg (show ¬ hasP (itF dgM n f 2) (nI n) from h1)]
set_option maxRecDepth 100000 in
set_option maxHeartbeats 4000000 in
theorem l_h2 (sx : Nat × (Nat → Int32)) (f : Nat → Int32) (P : Nat) (hP : f 3 = nI P) (hP8 : P ≤ 8) (hpl : ∀ p, p < P → vp_in (f (36 + 5 * p + 1)) 8) (I : Mm) (J : Ml) (Rt : Option Value → Mm → Ml → Prop) (hR : Rt none (sR (upd (itF (bhM P) P (itF dgM 7 (itF thM 8 f))) 0 (itF (bhM P) P (itF dgM 7 (itF thM 8 f)) 0 + 1)) I) J) : ∀ m n, n + m = 8 → GW sx (na_mi MX4_oneHour) Rt 31 [some (.ref 43), some (.int (nI n))] [] (sR (itF thM n f) I) J := by
  intro m
  induction m with
  | zero =>
    intro n hn
    obtain rfl : 8 = n := by omega
    have hz : (8 : Int32) ≤ nI 8 := by decide
    refine GW.run kX4_oneHour (fun pc => Nat.beq pc 2 || Nat.beq pc 31 || Nat.beq pc 50 || Nat.beq pc 82) 95 18 rfl ?_
    refine And.intro (fun _ => ?_) (fun hh => absurd hz hh)
    exact GW.weak (l_h3 sx (itF thM 8 f) P (by rw [itF_keep (fun f n => thM_lo (by decide) f n)]; exact hP) hP8 (fun p hp => by rw [itF_hi (B := 8) (fun f n hn => thM_hi (by omega) f hn) _ 8 (Nat.le_refl _)]; exact hpl p hp) I J Rt hR 7 0 (by omega)) ⟨rfl, rfl, trivial⟩
  | succ m ih =>
    intro n hn
    have hz : ¬ (8 : Int32) ≤ nI n := nI_ge (a := n) (b := 8) (by omega) (by omega)
    have ih := ih (n + 1) (by omega)
    refine GW.run kX4_oneHour (fun pc => Nat.beq pc 2 || Nat.beq pc 31 || Nat.beq pc 50 || Nat.beq pc 82) 95 18 rfl ?_
    refine And.intro (fun hh => absurd hh hz) (fun _ => ?_)
    refine Mt.conseq (m_thw _ (itF thM n f) n (by omega) _ _) ?_
    rintro _ _ _ ⟨rfl, rfl, rfl⟩
    exact GW.weak ih ⟨rfl, by rw [nI_1], trivial⟩
set_option maxRecDepth 100000 in
set_option maxHeartbeats 4000000 in
theorem l_h1 (sx : Nat × (Nat → Int32)) (f : Nat → Int32) (P : Nat) (hP : f 3 = nI P) (hP8 : P ≤ 8) (hpl : ∀ p, p < P → vp_in (f (36 + 5 * p + 1)) 8) (hcold : f 1 = 1) (I : Mm) (J : Ml) (Rt : Option Value → Mm → Ml → Prop) (hR : Rt none (sR (hrM P f) I) J) : ∀ m n, n + m = 8 → GW sx (na_mi MX4_oneHour) Rt 2 [some (.ref 43), some (.int (nI n))] [] (sR (itF frM n f) I) J := by
  intro m
  induction m with
  | zero =>
    intro n hn
    obtain rfl : 8 = n := by omega
    have hz : (8 : Int32) ≤ nI 8 := by decide
    have e0 : pm1 f = itF frM 8 f := if_pos hcold
    refine GW.run kX4_oneHour (fun pc => Nat.beq pc 2 || Nat.beq pc 31 || Nat.beq pc 50 || Nat.beq pc 82) 95 2 rfl ?_
    refine And.intro (fun _ => ?_) (fun hh => absurd hz hh)
    exact GW.weak (l_h2 sx (itF frM 8 f) P (by rw [itF_keep (fun f n => frM_lo (by decide) f n)]; exact hP) hP8 (fun p hp => by rw [itF_hi (B := 8) (fun f n hn => frM_hi (by omega) f hn) _ 8 (Nat.le_refl _)]; exact hpl p hp) I J Rt (by rw [← e0]; exact hR) 8 0 (by omega)) ⟨rfl, rfl, trivial⟩
  | succ m ih =>
    intro n hn
    have hz : ¬ (8 : Int32) ≤ nI n := nI_ge (a := n) (b := 8) (by omega) (by omega)
    have hco : itF frM n f 1 = 1 := by rw [itF_keep (fun f n => frM_lo (by decide) f n)]; exact hcold
    have ih := ih (n + 1) (by omega)
    refine GW.run kX4_oneHour (fun pc => Nat.beq pc 2 || Nat.beq pc 31 || Nat.beq pc 50 || Nat.beq pc 82) 95 2 rfl ?_
    refine And.intro (fun hh => absurd hh hz) (fun _ => ?_)
    refine And.intro (by unfold vp_in; decide) ?_
    refine And.intro (fun hh => absurd hco hh) (fun _ => ?_)
    refine Mt.conseq (m_frz _ (itF frM n f) n (by omega) _ _) ?_
    rintro _ _ _ ⟨rfl, rfl, rfl⟩
    exact GW.weak ih ⟨rfl, by rw [nI_1], trivial⟩
set_option maxRecDepth 100000 in
set_option maxHeartbeats 4000000 in
theorem m_hour (sx : Nat × (Nat → Int32)) (f : Nat → Int32) (P : Nat) (hP : f 3 = nI P) (hP8 : P ≤ 8) (hpl : ∀ p, p < P → vp_in (f (36 + 5 * p + 1)) 8) (I : Mm) (J : Ml) : Mt sx MX4_oneHour [.ref 43] (sR f I) J (fun r' I' J' => sR (hrM P f) I = I' ∧ J = J' ∧ r' = none) := by
  refine Mt.of2 _ rfl (by decide +kernel) (Nat.le_of_ble_eq_true rfl) ?_
  refine GW.run kX4_oneHour (fun pc => Nat.beq pc 2 || Nat.beq pc 31 || Nat.beq pc 50 || Nat.beq pc 82) 95 0 rfl ?_
  by_cases hcold : f 1 = 1
  · exact GW.weak (l_h1 sx f P hP hP8 hpl hcold I J _ ⟨rfl, rfl, rfl⟩ 8 0 (by omega)) ⟨rfl, rfl, trivial⟩
  · have e0 : pm1 f = f := if_neg hcold
    refine GW.run kX4_oneHour (fun pc => Nat.beq pc 2 || Nat.beq pc 31 || Nat.beq pc 50 || Nat.beq pc 82) 95 2 rfl ?_
    refine And.intro (fun hh => absurd hh (by decide)) (fun _ => ?_)
    refine And.intro (by unfold vp_in; decide) ?_
    refine And.intro (fun _ => ?_) (fun hh => absurd hh hcold)
    exact GW.weak (l_h2 sx f P hP hP8 hpl I J _ (by rw [hrM, pmM, e0]; exact ⟨rfl, rfl, rfl⟩) 8 0 (by omega)) ⟨rfl, rfl, trivial⟩
end
section
/-! THE REFERENCE: hours tried out -/
/-- row a is g -/
def sA (a : Nat) (g : Nat → Int32) (I : Mm) : Mm := fun x => bif Nat.beq x a then g else I x
theorem sA_on {a : Nat} {g : Nat → Int32} {I : Mm} : sA a g I a = g := by
  unfold sA
  rw [show Nat.beq a a = true from Nat.beq_refl a]
  rfl
theorem sA_off {a x : Nat} {g : Nat → Int32} {I : Mm} (h : x ≠ a) : sA a g I x = I x := by
  unfold sA
  rw [na_beqF h]
  rfl
theorem sA_set {a : Nat} {g : Nat → Int32} {I : Mm} {j : Nat} {v : Int32} : na_set (sA a g I) a j v = sA a (upd g j v) I := by
  funext x
  by_cases h : x = a
  · subst h; rw [na_set_on, sA_on, sA_on]
  · rw [na_set_off h, sA_off h, sA_off h]
theorem sA_self (a : Nat) (I : Mm) : sA a (I a) I = I := by
  funext x
  by_cases h : x = a
  · subst h; rw [sA_on]
  · rw [sA_off h]
/-- the first n of f, then g -/
def mv (n : Nat) (f g : Nat → Int32) : Nat → Int32 := fun j => if j < n then f j else g j
theorem mv_0 (f g : Nat → Int32) : mv 0 f g = g := by funext j; simp [mv]
theorem mv_s (n : Nat) (f g : Nat → Int32) : upd (mv n f g) n (f n) = mv (n + 1) f g := by
  funext j
  simp only [upd, mv]
  by_cases h : j = n
  · subst h; rw [if_pos rfl, if_pos (by omega)]
  · rw [if_neg h]
    by_cases h2 : j < n
    · rw [if_pos h2, if_pos (by omega)]
    · rw [if_neg h2, if_neg (by omega)]
def E76 (g f : Nat → Int32) : Prop := ∀ j, j < 76 → g j = f j
theorem mv_E (f g : Nat → Int32) : E76 (mv 76 f g) f := fun j h => if_pos h
set_option maxRecDepth 100000 in
set_option maxHeartbeats 4000000 in
theorem l_mv46_1 (sx : Nat × (Nat → Int32)) (I : Mm) (J : Ml) (Rt : Option Value → Mm → Ml → Prop) (hR : Rt none (sA 46 (mv 76 (I 44) (I 46)) I) J) : ∀ m n, n + m = 76 → GW sx (na_mi MX4_moveAll) Rt 2 [some (.ref 43), some (.int 1), some (.ref 46), some (.int (nI n))] [] (sA 46 (mv n (I 44) (I 46)) I) J := by
  intro m
  induction m with
  | zero =>
    intro n hn
    obtain rfl : n = 76 := by omega
    have hz : (76 : Int32) ≤ nI 76 := by decide
    refine GW.run kX4_moveAll (fun pc => Nat.beq pc 2) 55 2 rfl ?_
    refine And.intro (fun _ => ?_) (fun hh => absurd hz hh)
    exact hR
  | succ m ih =>
    intro n hn
    have hz : ¬ (76 : Int32) ≤ nI n := nI_ge (a := n) (b := 76) (by omega) (by omega)
    have hb7 : vp_in (nI n) 76 := vp_in_nI (by omega) (by omega)
    have hc := nI_clamp (n := n) (by omega)
    have ih := ih (n + 1) (by omega)
    refine GW.run kX4_moveAll (fun pc => Nat.beq pc 2) 55 2 rfl ?_
    refine And.intro (fun hh => absurd hh hz) (fun _ => ?_)
    refine And.intro (fun hh => absurd hh (by decide)) (fun _ => ?_)
    refine And.intro (hb7) ?_
    refine And.intro (hb7) ?_
    refine GW.weak (GW.eqI ?_ ih) ⟨rfl, rfl, rfl, by rw [nI_1], trivial⟩
    rw [← mv_s, ← sA_set, hc]
    rfl
set_option maxRecDepth 100000 in
set_option maxHeartbeats 4000000 in
theorem m_mv46_1 (sx : Nat × (Nat → Int32)) (I : Mm) (J : Ml) : Mt sx MX4_moveAll [.ref 43, .int 1, .ref 46] I J (fun r' I' J' => (sA 46 (mv 76 (I 44) (I 46)) I) = I' ∧ J = J' ∧ r' = none) := by
  refine Mt.of2 _ rfl (by decide +kernel) (Nat.le_of_ble_eq_true rfl) ?_
  refine GW.run kX4_moveAll (fun pc => Nat.beq pc 2) 55 0 rfl ?_
  refine GW.eqI ?_ (l_mv46_1 sx I J _ ⟨rfl, rfl, rfl⟩ 76 0 rfl)
  rw [mv_0, sA_self]
set_option maxRecDepth 100000 in
set_option maxHeartbeats 4000000 in
theorem l_mv46_0 (sx : Nat × (Nat → Int32)) (I : Mm) (J : Ml) (Rt : Option Value → Mm → Ml → Prop) (hR : Rt none (sA 44 (mv 76 (I 46) (I 44)) I) J) : ∀ m n, n + m = 76 → GW sx (na_mi MX4_moveAll) Rt 2 [some (.ref 43), some (.int 0), some (.ref 46), some (.int (nI n))] [] (sA 44 (mv n (I 46) (I 44)) I) J := by
  intro m
  induction m with
  | zero =>
    intro n hn
    obtain rfl : n = 76 := by omega
    have hz : (76 : Int32) ≤ nI 76 := by decide
    refine GW.run kX4_moveAll (fun pc => Nat.beq pc 2) 55 2 rfl ?_
    refine And.intro (fun _ => ?_) (fun hh => absurd hz hh)
    exact hR
  | succ m ih =>
    intro n hn
    have hz : ¬ (76 : Int32) ≤ nI n := nI_ge (a := n) (b := 76) (by omega) (by omega)
    have hb7 : vp_in (nI n) 76 := vp_in_nI (by omega) (by omega)
    have hc := nI_clamp (n := n) (by omega)
    have ih := ih (n + 1) (by omega)
    refine GW.run kX4_moveAll (fun pc => Nat.beq pc 2) 55 2 rfl ?_
    refine And.intro (fun hh => absurd hh hz) (fun _ => ?_)
    refine And.intro (fun _ => ?_) (fun hh => absurd hh (by decide))
    refine And.intro (hb7) ?_
    refine And.intro (hb7) ?_
    refine GW.weak (GW.eqI ?_ ih) ⟨rfl, rfl, rfl, by rw [nI_1], trivial⟩
    rw [← mv_s, ← sA_set, hc]
    rfl
set_option maxRecDepth 100000 in
set_option maxHeartbeats 4000000 in
theorem m_mv46_0 (sx : Nat × (Nat → Int32)) (I : Mm) (J : Ml) : Mt sx MX4_moveAll [.ref 43, .int 0, .ref 46] I J (fun r' I' J' => (sA 44 (mv 76 (I 46) (I 44)) I) = I' ∧ J = J' ∧ r' = none) := by
  refine Mt.of2 _ rfl (by decide +kernel) (Nat.le_of_ble_eq_true rfl) ?_
  refine GW.run kX4_moveAll (fun pc => Nat.beq pc 2) 55 0 rfl ?_
  refine GW.eqI ?_ (l_mv46_0 sx I J _ ⟨rfl, rfl, rfl⟩ 76 0 rfl)
  rw [mv_0, sA_self]
set_option maxRecDepth 100000 in
set_option maxHeartbeats 4000000 in
theorem l_mv52_1 (sx : Nat × (Nat → Int32)) (I : Mm) (J : Ml) (Rt : Option Value → Mm → Ml → Prop) (hR : Rt none (sA 52 (mv 76 (I 44) (I 52)) I) J) : ∀ m n, n + m = 76 → GW sx (na_mi MX4_moveAll) Rt 2 [some (.ref 43), some (.int 1), some (.ref 52), some (.int (nI n))] [] (sA 52 (mv n (I 44) (I 52)) I) J := by
  intro m
  induction m with
  | zero =>
    intro n hn
    obtain rfl : n = 76 := by omega
    have hz : (76 : Int32) ≤ nI 76 := by decide
    refine GW.run kX4_moveAll (fun pc => Nat.beq pc 2) 55 2 rfl ?_
    refine And.intro (fun _ => ?_) (fun hh => absurd hz hh)
    exact hR
  | succ m ih =>
    intro n hn
    have hz : ¬ (76 : Int32) ≤ nI n := nI_ge (a := n) (b := 76) (by omega) (by omega)
    have hb7 : vp_in (nI n) 76 := vp_in_nI (by omega) (by omega)
    have hc := nI_clamp (n := n) (by omega)
    have ih := ih (n + 1) (by omega)
    refine GW.run kX4_moveAll (fun pc => Nat.beq pc 2) 55 2 rfl ?_
    refine And.intro (fun hh => absurd hh hz) (fun _ => ?_)
    refine And.intro (fun hh => absurd hh (by decide)) (fun _ => ?_)
    refine And.intro (hb7) ?_
    refine And.intro (hb7) ?_
    refine GW.weak (GW.eqI ?_ ih) ⟨rfl, rfl, rfl, by rw [nI_1], trivial⟩
    rw [← mv_s, ← sA_set, hc]
    rfl
set_option maxRecDepth 100000 in
set_option maxHeartbeats 4000000 in
theorem m_mv52_1 (sx : Nat × (Nat → Int32)) (I : Mm) (J : Ml) : Mt sx MX4_moveAll [.ref 43, .int 1, .ref 52] I J (fun r' I' J' => (sA 52 (mv 76 (I 44) (I 52)) I) = I' ∧ J = J' ∧ r' = none) := by
  refine Mt.of2 _ rfl (by decide +kernel) (Nat.le_of_ble_eq_true rfl) ?_
  refine GW.run kX4_moveAll (fun pc => Nat.beq pc 2) 55 0 rfl ?_
  refine GW.eqI ?_ (l_mv52_1 sx I J _ ⟨rfl, rfl, rfl⟩ 76 0 rfl)
  rw [mv_0, sA_self]
set_option maxRecDepth 100000 in
set_option maxHeartbeats 4000000 in
theorem l_mv52_0 (sx : Nat × (Nat → Int32)) (I : Mm) (J : Ml) (Rt : Option Value → Mm → Ml → Prop) (hR : Rt none (sA 44 (mv 76 (I 52) (I 44)) I) J) : ∀ m n, n + m = 76 → GW sx (na_mi MX4_moveAll) Rt 2 [some (.ref 43), some (.int 0), some (.ref 52), some (.int (nI n))] [] (sA 44 (mv n (I 52) (I 44)) I) J := by
  intro m
  induction m with
  | zero =>
    intro n hn
    obtain rfl : n = 76 := by omega
    have hz : (76 : Int32) ≤ nI 76 := by decide
    refine GW.run kX4_moveAll (fun pc => Nat.beq pc 2) 55 2 rfl ?_
    refine And.intro (fun _ => ?_) (fun hh => absurd hz hh)
    exact hR
  | succ m ih =>
    intro n hn
    have hz : ¬ (76 : Int32) ≤ nI n := nI_ge (a := n) (b := 76) (by omega) (by omega)
    have hb7 : vp_in (nI n) 76 := vp_in_nI (by omega) (by omega)
    have hc := nI_clamp (n := n) (by omega)
    have ih := ih (n + 1) (by omega)
    refine GW.run kX4_moveAll (fun pc => Nat.beq pc 2) 55 2 rfl ?_
    refine And.intro (fun hh => absurd hh hz) (fun _ => ?_)
    refine And.intro (fun _ => ?_) (fun hh => absurd hh (by decide))
    refine And.intro (hb7) ?_
    refine And.intro (hb7) ?_
    refine GW.weak (GW.eqI ?_ ih) ⟨rfl, rfl, rfl, by rw [nI_1], trivial⟩
    rw [← mv_s, ← sA_set, hc]
    rfl
set_option maxRecDepth 100000 in
set_option maxHeartbeats 4000000 in
theorem m_mv52_0 (sx : Nat × (Nat → Int32)) (I : Mm) (J : Ml) : Mt sx MX4_moveAll [.ref 43, .int 0, .ref 52] I J (fun r' I' J' => (sA 44 (mv 76 (I 52) (I 44)) I) = I' ∧ J = J' ∧ r' = none) := by
  refine Mt.of2 _ rfl (by decide +kernel) (Nat.le_of_ble_eq_true rfl) ?_
  refine GW.run kX4_moveAll (fun pc => Nat.beq pc 2) 55 0 rfl ?_
  refine GW.eqI ?_ (l_mv52_0 sx I J _ ⟨rfl, rfl, rfl⟩ 76 0 rfl)
  rw [mv_0, sA_self]
set_option maxRecDepth 100000 in
set_option maxHeartbeats 4000000 in
theorem l_mv53_1 (sx : Nat × (Nat → Int32)) (I : Mm) (J : Ml) (Rt : Option Value → Mm → Ml → Prop) (hR : Rt none (sA 53 (mv 76 (I 44) (I 53)) I) J) : ∀ m n, n + m = 76 → GW sx (na_mi MX4_moveAll) Rt 2 [some (.ref 43), some (.int 1), some (.ref 53), some (.int (nI n))] [] (sA 53 (mv n (I 44) (I 53)) I) J := by
  intro m
  induction m with
  | zero =>
    intro n hn
    obtain rfl : n = 76 := by omega
    have hz : (76 : Int32) ≤ nI 76 := by decide
    refine GW.run kX4_moveAll (fun pc => Nat.beq pc 2) 55 2 rfl ?_
    refine And.intro (fun _ => ?_) (fun hh => absurd hz hh)
    exact hR
  | succ m ih =>
    intro n hn
    have hz : ¬ (76 : Int32) ≤ nI n := nI_ge (a := n) (b := 76) (by omega) (by omega)
    have hb7 : vp_in (nI n) 76 := vp_in_nI (by omega) (by omega)
    have hc := nI_clamp (n := n) (by omega)
    have ih := ih (n + 1) (by omega)
    refine GW.run kX4_moveAll (fun pc => Nat.beq pc 2) 55 2 rfl ?_
    refine And.intro (fun hh => absurd hh hz) (fun _ => ?_)
    refine And.intro (fun hh => absurd hh (by decide)) (fun _ => ?_)
    refine And.intro (hb7) ?_
    refine And.intro (hb7) ?_
    refine GW.weak (GW.eqI ?_ ih) ⟨rfl, rfl, rfl, by rw [nI_1], trivial⟩
    rw [← mv_s, ← sA_set, hc]
    rfl
set_option maxRecDepth 100000 in
set_option maxHeartbeats 4000000 in
theorem m_mv53_1 (sx : Nat × (Nat → Int32)) (I : Mm) (J : Ml) : Mt sx MX4_moveAll [.ref 43, .int 1, .ref 53] I J (fun r' I' J' => (sA 53 (mv 76 (I 44) (I 53)) I) = I' ∧ J = J' ∧ r' = none) := by
  refine Mt.of2 _ rfl (by decide +kernel) (Nat.le_of_ble_eq_true rfl) ?_
  refine GW.run kX4_moveAll (fun pc => Nat.beq pc 2) 55 0 rfl ?_
  refine GW.eqI ?_ (l_mv53_1 sx I J _ ⟨rfl, rfl, rfl⟩ 76 0 rfl)
  rw [mv_0, sA_self]
set_option maxRecDepth 100000 in
set_option maxHeartbeats 4000000 in
theorem l_mv53_0 (sx : Nat × (Nat → Int32)) (I : Mm) (J : Ml) (Rt : Option Value → Mm → Ml → Prop) (hR : Rt none (sA 44 (mv 76 (I 53) (I 44)) I) J) : ∀ m n, n + m = 76 → GW sx (na_mi MX4_moveAll) Rt 2 [some (.ref 43), some (.int 0), some (.ref 53), some (.int (nI n))] [] (sA 44 (mv n (I 53) (I 44)) I) J := by
  intro m
  induction m with
  | zero =>
    intro n hn
    obtain rfl : n = 76 := by omega
    have hz : (76 : Int32) ≤ nI 76 := by decide
    refine GW.run kX4_moveAll (fun pc => Nat.beq pc 2) 55 2 rfl ?_
    refine And.intro (fun _ => ?_) (fun hh => absurd hz hh)
    exact hR
  | succ m ih =>
    intro n hn
    have hz : ¬ (76 : Int32) ≤ nI n := nI_ge (a := n) (b := 76) (by omega) (by omega)
    have hb7 : vp_in (nI n) 76 := vp_in_nI (by omega) (by omega)
    have hc := nI_clamp (n := n) (by omega)
    have ih := ih (n + 1) (by omega)
    refine GW.run kX4_moveAll (fun pc => Nat.beq pc 2) 55 2 rfl ?_
    refine And.intro (fun hh => absurd hh hz) (fun _ => ?_)
    refine And.intro (fun _ => ?_) (fun hh => absurd hh (by decide))
    refine And.intro (hb7) ?_
    refine And.intro (hb7) ?_
    refine GW.weak (GW.eqI ?_ ih) ⟨rfl, rfl, rfl, by rw [nI_1], trivial⟩
    rw [← mv_s, ← sA_set, hc]
    rfl
set_option maxRecDepth 100000 in
set_option maxHeartbeats 4000000 in
theorem m_mv53_0 (sx : Nat × (Nat → Int32)) (I : Mm) (J : Ml) : Mt sx MX4_moveAll [.ref 43, .int 0, .ref 53] I J (fun r' I' J' => (sA 44 (mv 76 (I 53) (I 44)) I) = I' ∧ J = J' ∧ r' = none) := by
  refine Mt.of2 _ rfl (by decide +kernel) (Nat.le_of_ble_eq_true rfl) ?_
  refine GW.run kX4_moveAll (fun pc => Nat.beq pc 2) 55 0 rfl ?_
  refine GW.eqI ?_ (l_mv53_0 sx I J _ ⟨rfl, rfl, rfl⟩ 76 0 rfl)
  rw [mv_0, sA_self]
def itM (P : Nat) : Nat → (Nat → Int32) → (Nat → Int32)
  | 0, f => f
  | n + 1, f => hrM P (itM P n f)
theorem itM_3 (P : Nat) (f : Nat → Int32) : ∀ n, itM P n f 3 = f 3
  | 0 => rfl
  | n + 1 => by rw [itM, hrM_3, itM_3 P f n]
theorem itM_pl (P : Nat) (f : Nat → Int32) (hpl : ∀ p, p < P → vp_in (f (36 + 5 * p + 1)) 8) (q : Nat) : ∀ n, itM P n f (36 + 5 * q + 1) = f (36 + 5 * q + 1)
  | 0 => rfl
  | n + 1 => by rw [itM, hrM_pl P _ (fun p hp => by rw [itM_pl P f hpl p n]; exact hpl p hp) q, itM_pl P f hpl q n]
set_option maxRecDepth 100000 in
set_option maxHeartbeats 4000000 in
theorem l_mps (sx : Nat × (Nat → Int32)) (f : Nat → Int32) (P : Nat) (hP : f 3 = nI P) (hP8 : P ≤ 8) (hpl : ∀ p, p < P → vp_in (f (36 + 5 * p + 1)) 8) (K : Nat) (hK : K ≤ 60) (I : Mm) (J : Ml) (Rt : Option Value → Mm → Ml → Prop) (hR : Rt none (sR (itM P K f) I) J) : ∀ m n, n + m = K → GW sx (na_mi MX4_passes) Rt 2 [some (.ref 43), some (.int (nI K)), some (.int (nI n))] [] (sR (itM P n f) I) J := by
  intro m
  induction m with
  | zero =>
    intro n hn
    obtain rfl : K = n := by omega
    have hz : nI K ≤ nI K := Int32.le_refl _
    refine GW.run kX4_passes (fun pc => Nat.beq pc 2) 40 2 rfl ?_
    refine And.intro (fun _ => ?_) (fun hh => absurd hz hh)
    exact hR
  | succ m ih =>
    intro n hn
    have hz : ¬ nI K ≤ nI n := nI_ge (by omega) (by omega)
    have hc := nI_clamp (n := n) (by omega)
    have ih := ih (n + 1) (by omega)
    refine GW.run kX4_passes (fun pc => Nat.beq pc 2) 40 2 rfl ?_
    refine And.intro (fun hh => absurd hh hz) (fun _ => ?_)
    refine Mt.conseq (m_hour _ (itM P n f) P (by rw [itM_3]; exact hP) hP8 (fun p hp => by rw [itM_pl P f hpl p n]; exact hpl p hp) _ _) ?_
    rintro _ _ _ ⟨rfl, rfl, rfl⟩
    exact GW.weak ih ⟨rfl, rfl, by rw [nI_1], trivial⟩
set_option maxRecDepth 100000 in
set_option maxHeartbeats 4000000 in
theorem m_ps (sx : Nat × (Nat → Int32)) (f : Nat → Int32) (P : Nat) (hP : f 3 = nI P) (hP8 : P ≤ 8) (hpl : ∀ p, p < P → vp_in (f (36 + 5 * p + 1)) 8) (K : Nat) (hK : K ≤ 60) (I : Mm) (J : Ml) : Mt sx MX4_passes [.ref 43, .int (nI K)] (sR f I) J (fun r' I' J' => sR (itM P K f) I = I' ∧ J = J' ∧ r' = none) := by
  refine Mt.of2 _ rfl (by decide +kernel) (Nat.le_of_ble_eq_true rfl) ?_
  refine GW.run kX4_passes (fun pc => Nat.beq pc 2) 40 0 rfl ?_
  exact l_mps sx f P hP hP8 hpl K hK I J _ ⟨rfl, rfl, rfl⟩ K 0 (by omega)
/-- in how many hours one of a set is stifled first, m at most -/
def un (P : Nat) (set : Int32) : Nat → (Nat → Int32) → Nat
  | 0, _ => 0
  | m + 1, f => if stf (vN f) P &&& set = 0 then 1 + un P set m (hrM P f) else 0
end
section
/-! THE REFERENCE: until, well, stifled on -/
theorem sA_sR {a : Nat} (h : a ≠ 44) {g f : Nat → Int32} {I : Mm} : sA a g (sR f I) = sR f (sA a g I) := by
  funext x
  by_cases h1 : x = 44
  · subst h1; rw [sA_off (Ne.symm h)]; rfl
  · rw [sR_off h1]
    by_cases h2 : x = a
    · subst h2; rw [sA_on, sA_on]
    · rw [sA_off h2, sA_off h2, sR_off h1]
theorem sA44 {g f : Nat → Int32} {I : Mm} : sA 44 g (sR f I) = sR g I := sR_sR
theorem m_kp46 (sx : Nat × (Nat → Int32)) (f : Nat → Int32) (I : Mm) (J : Ml) : Mt sx MX4_moveAll [.ref 43, .int 1, .ref 46] (sR f I) J (fun r' I' J' => sR f (sA 46 (mv 76 f (I 46)) I) = I' ∧ J = J' ∧ r' = none) := by
  have h := m_mv46_1 sx (sR f I) J
  rw [sR_44, sR_off (by decide), sA_sR (by decide)] at h
  exact h
theorem m_rs46 (sx : Nat × (Nat → Int32)) (f : Nat → Int32) (I : Mm) (J : Ml) : Mt sx MX4_moveAll [.ref 43, .int 0, .ref 46] (sR f I) J (fun r' I' J' => sR (mv 76 (I 46) f) I = I' ∧ J = J' ∧ r' = none) := by
  have h := m_mv46_0 sx (sR f I) J
  rw [sR_44, sR_off (by decide), sA44] at h
  exact h
theorem m_kp52 (sx : Nat × (Nat → Int32)) (f : Nat → Int32) (I : Mm) (J : Ml) : Mt sx MX4_moveAll [.ref 43, .int 1, .ref 52] (sR f I) J (fun r' I' J' => sR f (sA 52 (mv 76 f (I 52)) I) = I' ∧ J = J' ∧ r' = none) := by
  have h := m_mv52_1 sx (sR f I) J
  rw [sR_44, sR_off (by decide), sA_sR (by decide)] at h
  exact h
theorem m_rs52 (sx : Nat × (Nat → Int32)) (f : Nat → Int32) (I : Mm) (J : Ml) : Mt sx MX4_moveAll [.ref 43, .int 0, .ref 52] (sR f I) J (fun r' I' J' => sR (mv 76 (I 52) f) I = I' ∧ J = J' ∧ r' = none) := by
  have h := m_mv52_0 sx (sR f I) J
  rw [sR_44, sR_off (by decide), sA44] at h
  exact h
theorem m_kp53 (sx : Nat × (Nat → Int32)) (f : Nat → Int32) (I : Mm) (J : Ml) : Mt sx MX4_moveAll [.ref 43, .int 1, .ref 53] (sR f I) J (fun r' I' J' => sR f (sA 53 (mv 76 f (I 53)) I) = I' ∧ J = J' ∧ r' = none) := by
  have h := m_mv53_1 sx (sR f I) J
  rw [sR_44, sR_off (by decide), sA_sR (by decide)] at h
  exact h
theorem m_rs53 (sx : Nat × (Nat → Int32)) (f : Nat → Int32) (I : Mm) (J : Ml) : Mt sx MX4_moveAll [.ref 43, .int 0, .ref 53] (sR f I) J (fun r' I' J' => sR (mv 76 (I 53) f) I = I' ∧ J = J' ∧ r' = none) := by
  have h := m_mv53_0 sx (sR f I) J
  rw [sR_44, sR_off (by decide), sA44] at h
  exact h
set_option maxRecDepth 100000 in
set_option maxHeartbeats 4000000 in
theorem l_un (sx : Nat × (Nat → Int32)) (P : Nat) (hP8 : P ≤ 8) (set : Int32) (T : Nat → Int32) (I : Mm) (J : Ml) (W : Nat) (Rt : Option Value → Mm → Ml → Prop) (hR : ∀ f', Rt (some (.int (nI W))) (sR (mv 76 T f') (sA 46 T I)) J) : ∀ m n f, n + m = 61 → f 3 = nI P → (∀ p, p < P → vp_in (f (36 + 5 * p + 1)) 8) → n + un P set m f = W → GW sx (na_mi MX4_untilOf) Rt 11 [some (.ref 43), some (.int set), some (.int (nI n))] [] (sR f (sA 46 T I)) J := by
  intro m
  induction m with
  | zero =>
    intro n f hn hP hpl hw
    obtain rfl : n = 61 := by omega
    have hz : (60 : Int32) < nI 61 := by decide
    refine GW.run kX4_untilOf (fun pc => Nat.beq pc 11) 56 7 rfl ?_
    refine And.intro (fun _ => ?_) (fun hh => absurd hz hh)
    refine Mt.conseq (m_rs46 _ _ _ _) ?_
    rintro _ _ _ ⟨rfl, rfl, rfl⟩
    rw [un] at hw
    obtain rfl : 61 = W := by omega
    exact ⟨trivial, hR _⟩
  | succ m ih =>
    intro n f hn hP hpl hw
    have hz : ¬ (60 : Int32) < nI n := nI_nlt (a := 60) (b := n) (by omega) (by omega)
    refine GW.run kX4_untilOf (fun pc => Nat.beq pc 11) 56 7 rfl ?_
    refine And.intro (fun hh => absurd hh hz) (fun _ => ?_)
    refine Mt.conseq (m_stf _ f P hP hP8 _ _) ?_
    rintro _ _ _ ⟨rfl, rfl, rfl⟩
    refine And.intro (fun h2 => ?_) (fun h2 => ?_)
    · -- pc 23 .ifCond .ne 13: yes
      refine Mt.conseq (m_rs46 _ _ _ _) ?_
      rintro _ _ _ ⟨rfl, rfl, rfl⟩
      rw [un, if_neg h2] at hw
      obtain rfl : n = W := by omega
      exact ⟨trivial, hR _⟩
    · -- pc 23 .ifCond .ne 13: no
      refine Mt.conseq (m_hour _ f P hP hP8 hpl _ _) ?_
      rintro _ _ _ ⟨rfl, rfl, rfl⟩
      exact GW.weak (ih (n + 1) (hrM P f) (by omega) (by rw [hrM_3]; exact hP) (fun p hp => by rw [hrM_pl P f hpl]; exact hpl p hp) (by rw [un, if_pos h2] at hw; omega)) ⟨rfl, rfl, by rw [nI_1], trivial⟩
set_option maxRecDepth 100000 in
set_option maxHeartbeats 4000000 in
theorem m_un (sx : Nat × (Nat → Int32)) (f : Nat → Int32) (P : Nat) (hP : f 3 = nI P) (hP8 : P ≤ 8) (hpl : ∀ p, p < P → vp_in (f (36 + 5 * p + 1)) 8) (set : Int32) (I : Mm) (J : Ml) : Mt sx MX4_untilOf [.ref 43, .int set] (sR f I) J (fun r' I' J' => (∃ g t, sR g (sA 46 t I) = I' ∧ E76 g f) ∧ J = J' ∧ r' = some (.int (nI (un P set 61 f)))) := by
  refine Mt.of2 _ rfl (by decide +kernel) (Nat.le_of_ble_eq_true rfl) ?_
  refine GW.run kX4_untilOf (fun pc => Nat.beq pc 11) 56 0 rfl ?_
  refine Mt.conseq (m_kp46 _ _ _ _) ?_
  rintro _ _ _ ⟨rfl, rfl, rfl⟩
  exact l_un sx P hP8 set _ I J (un P set 61 f) _ (fun f' => ⟨⟨_, _, rfl, fun j hj => (mv_E _ _ j hj).trans (mv_E _ _ j hj)⟩, rfl, rfl⟩) 61 0 f rfl hP hpl (by omega)
def wo (N : Mm) (P : Nat) : Int32 := ((1 <<< (nI P &&& 31)) - 1) &&& (stf N P ^^^ -1)
set_option maxRecDepth 100000 in
set_option maxHeartbeats 4000000 in
theorem m_wo (sx : Nat × (Nat → Int32)) (f : Nat → Int32) (P : Nat) (hP : f 3 = nI P) (hP8 : P ≤ 8) (I : Mm) (J : Ml) : Mt sx MX4_wellOnes [.ref 43] (sR f I) J (na_v (sR f I) J (wo (vN f) P)) := by
  refine Mt.of2 _ rfl (by decide +kernel) (Nat.le_of_ble_eq_true rfl) ?_
  refine GW.run kX4_wellOnes (fun _ => false) 44 0 rfl ?_
  refine And.intro (by unfold vp_in; decide) ?_
  refine Mt.conseq (m_stf _ f P hP hP8 _ _) ?_
  rintro _ _ _ ⟨rfl, rfl, rfl⟩
  exact ⟨trivial, rfl, rfl, by rw [wo, ← hP]; rfl⟩
set_option maxRecDepth 100000 in
set_option maxHeartbeats 4000000 in
theorem m_wf (sx : Nat × (Nat → Int32)) (f : Nat → Int32) (P : Nat) (hP : f 3 = nI P) (hP8 : P ≤ 8) (hpl : ∀ p, p < P → vp_in (f (36 + 5 * p + 1)) 8) (I : Mm) (J : Ml) : Mt sx MX4_wellFor [.ref 43] (sR f I) J (fun r' I' J' => (∃ g t, sR g (sA 46 t I) = I' ∧ E76 g f) ∧ J = J' ∧ r' = some (.int (nI (un P (wo (vN f) P) 61 f) - 1))) := by
  refine Mt.of2 _ rfl (by decide +kernel) (Nat.le_of_ble_eq_true rfl) ?_
  refine GW.run kX4_wellFor (fun _ => false) 37 0 rfl ?_
  refine Mt.conseq (m_wo _ f P hP hP8 _ _) ?_
  rintro _ _ _ ⟨rfl, rfl, rfl⟩
  refine Mt.conseq (m_un _ f P hP hP8 hpl _ _ _) ?_
  rintro _ _ _ ⟨⟨_, _, rfl, h2⟩, rfl, rfl⟩
  exact ⟨trivial, ⟨_, _, rfl, h2⟩, rfl, rfl⟩
set_option maxRecDepth 100000 in
set_option maxHeartbeats 4000000 in
theorem m_so (sx : Nat × (Nat → Int32)) (f : Nat → Int32) (P : Nat) (hP : f 3 = nI P) (hP8 : P ≤ 8) (hpl : ∀ p, p < P → vp_in (f (36 + 5 * p + 1)) 8) (K : Nat) (hK : K ≤ 60) (I : Mm) (J : Ml) : Mt sx MX4_stifledOn [.ref 43, .int (nI K)] (sR f I) J (fun r' I' J' => (∃ g t, sR g (sA 46 t I) = I' ∧ E76 g f) ∧ J = J' ∧ r' = some (.int (btM (stf (vN (itM P K f)) P) 8))) := by
  refine Mt.of2 _ rfl (by decide +kernel) (Nat.le_of_ble_eq_true rfl) ?_
  refine GW.run kX4_stifledOn (fun _ => false) 49 0 rfl ?_
  refine Mt.conseq (m_kp46 _ _ _ _) ?_
  rintro _ _ _ ⟨rfl, rfl, rfl⟩
  refine Mt.conseq (m_ps _ f P hP hP8 hpl K hK _ _) ?_
  rintro _ _ _ ⟨rfl, rfl, rfl⟩
  refine Mt.conseq (m_stf _ (itM P K f) P (by rw [itM_3]; exact hP) hP8 _ _) ?_
  rintro _ _ _ ⟨rfl, rfl, rfl⟩
  refine Mt.conseq (m_bits _ _ _ _) ?_
  rintro _ _ _ ⟨rfl, rfl, rfl⟩
  refine Mt.conseq (m_rs46 _ _ _ _) ?_
  rintro _ _ _ ⟨rfl, rfl, rfl⟩
  exact ⟨trivial, ⟨_, _, rfl, fun j hj => (mv_E _ _ j hj).trans (mv_E _ _ j hj)⟩, rfl, rfl⟩
set_option maxRecDepth 100000 in
set_option maxHeartbeats 4000000 in
theorem m_iw (sx : Nat × (Nat → Int32)) (f : Nat → Int32) (P : Nat) (hP : f 3 = nI P) (hP8 : P ≤ 8) (hpl : ∀ p, p < P → vp_in (f (36 + 5 * p + 1)) 8) (K : Nat) (hK : K ≤ 60) (I : Mm) (J : Ml) : Mt sx MX4_isWell [.ref 43, .int (nI K)] (sR f I) J (fun r' I' J' => (∃ g t, sR g (sA 46 t I) = I' ∧ E76 g f) ∧ J = J' ∧ (((stf (vN (itM P K f)) P &&& wo (vN f) P = 0) ∧ r' = some (.int 1)) ∨ (¬ (stf (vN (itM P K f)) P &&& wo (vN f) P = 0) ∧ r' = some (.int 0)))) := by
  refine Mt.of2 _ rfl (by decide +kernel) (Nat.le_of_ble_eq_true rfl) ?_
  refine GW.run kX4_isWell (fun _ => false) 57 0 rfl ?_
  refine Mt.conseq (m_wo _ f P hP hP8 _ _) ?_
  rintro _ _ _ ⟨rfl, rfl, rfl⟩
  refine Mt.conseq (m_kp46 _ _ _ _) ?_
  rintro _ _ _ ⟨rfl, rfl, rfl⟩
  refine Mt.conseq (m_ps _ f P hP hP8 hpl K hK _ _) ?_
  rintro _ _ _ ⟨rfl, rfl, rfl⟩
  refine Mt.conseq (m_stf _ (itM P K f) P (by rw [itM_3]; exact hP) hP8 _ _) ?_
  rintro _ _ _ ⟨rfl, rfl, rfl⟩
  refine And.intro (fun h5 => ?_) (fun h5 => ?_)
  · -- pc 25 .ifCond .ne 7: yes
    refine Mt.conseq (m_rs46 _ _ _ _) ?_
    rintro _ _ _ ⟨rfl, rfl, rfl⟩
    exact ⟨na_nl_b0, ⟨_, _, rfl, fun j hj => (mv_E _ _ j hj).trans (mv_E _ _ j hj)⟩, rfl, Or.inr ⟨h5, rfl⟩⟩
  · -- pc 25 .ifCond .ne 7: no
    refine Mt.conseq (m_rs46 _ _ _ _) ?_
    rintro _ _ _ ⟨rfl, rfl, rfl⟩
    exact ⟨na_nl_b1, ⟨_, _, rfl, fun j hj => (mv_E _ _ j hj).trans (mv_E _ _ j hj)⟩, rfl, Or.inl ⟨h5, rfl⟩⟩
def opM (f : Nat → Int32) (d v : Int32) : Nat → Int32 := upd f 2 ((f 2 &&& ((1 <<< (d &&& 31)) ^^^ -1)) ||| (v <<< (d &&& 31)))
set_option maxRecDepth 100000 in
set_option maxHeartbeats 4000000 in
theorem m_op (sx : Nat × (Nat → Int32)) (d v : Int32) (f : Nat → Int32) (I : Mm) (J : Ml) : Mt sx MX4_opens [.ref 43, .int d, .int v] (sR f I) J (fun r' I' J' => sR (opM f d v) I = I' ∧ J = J' ∧ r' = none) := by
  refine Mt.of2 _ rfl (by decide +kernel) (Nat.le_of_ble_eq_true rfl) ?_
  refine GW.run kX4_opens (fun _ => false) 49 0 rfl ?_
  refine And.intro (by unfold vp_in; decide) ?_
  refine And.intro (by unfold vp_in; decide) ?_
  exact ⟨sR_set.symm, rfl, rfl⟩
def adM (f : Nat → Int32) (P : Nat) (kd rm nd : Int32) : Nat → Int32 :=
  upd (upd (upd (upd (upd (upd f (36 + 5 * P + 0) kd) (36 + 5 * P + 1) rm) (36 + 5 * P + 2) nd) (36 + 5 * P + 3) 0) (36 + 5 * P + 4) 0) 3 (f 3 + 1)
set_option maxRecDepth 100000 in
set_option maxHeartbeats 4000000 in
theorem m_ad (sx : Nat × (Nat → Int32)) (kd rm nd : Int32) (f : Nat → Int32) (P : Nat) (hP : f 3 = nI P) (hP7 : P < 8) (I : Mm) (J : Ml) : Mt sx MX4_addOne [.ref 43, .int kd, .int rm, .int nd] (sR f I) J (fun r' I' J' => sR (adM f P kd rm nd) I = I' ∧ J = J' ∧ r' = none) := by
  have hpu : ∀ (g : Nat → Int32) (v : Int32) (w : Nat) (hw : w < 5) (x : Int32) (hx : x = nI w), Mt sx MX4_puts [.ref 43, .int (f 3), .int x, .int v] (sR g I) J (fun r I' J' => sR (upd g (36 + 5 * P + w) v) I = I' ∧ J = J' ∧ r = none) := by
    intro g v w hw x hx
    rw [hP]
    exact m_puts sx v P w (by omega) hw x hx g I J
  refine Mt.of2 _ rfl (by decide +kernel) (Nat.le_of_ble_eq_true rfl) ?_
  refine GW.run kX4_addOne (fun _ => false) 69 0 rfl ?_
  refine And.intro (by unfold vp_in; decide) ?_
  refine Mt.conseq (hpu _ _ 0 (by decide) _ (by decide)) ?_
  rintro _ _ _ ⟨rfl, rfl, rfl⟩
  refine Mt.conseq (hpu _ _ 1 (by decide) _ (by decide)) ?_
  rintro _ _ _ ⟨rfl, rfl, rfl⟩
  refine Mt.conseq (hpu _ _ 2 (by decide) _ (by decide)) ?_
  rintro _ _ _ ⟨rfl, rfl, rfl⟩
  refine Mt.conseq (hpu _ _ 3 (by decide) _ (by decide)) ?_
  rintro _ _ _ ⟨rfl, rfl, rfl⟩
  refine Mt.conseq (hpu _ _ 4 (by decide) _ (by decide)) ?_
  rintro _ _ _ ⟨rfl, rfl, rfl⟩
  refine And.intro (by unfold vp_in; decide) ?_
  refine And.intro (by unfold vp_in; decide) ?_
  refine ⟨?_, rfl, rfl⟩
  refine Eq.trans ?_ sR_set.symm
  congr 1
  rw [adM]
  congr 1
  rw [sR_44]
  show f 3 + 1 = upd (upd (upd (upd (upd f _ _) _ _) _ _) _ _) _ _ 3 + 1
  rw [upd_ne (by omega), upd_ne (by omega), upd_ne (by omega), upd_ne (by omega), upd_ne (by omega)]
end
section
/-! NUMBERS THAT DON'T WRAP -/
theorem tA {a b : Int32} (h1 : -2147483648 ≤ a.toInt + b.toInt) (h2 : a.toInt + b.toInt < 2147483648) : (a + b).toInt = a.toInt + b.toInt := by
  rw [Int32.toInt_add]
  exact Int.bmod_eq_of_le (by omega) (by omega)
theorem tS {a b : Int32} (h1 : -2147483648 ≤ a.toInt - b.toInt) (h2 : a.toInt - b.toInt < 2147483648) : (a - b).toInt = a.toInt - b.toInt := by
  rw [Int32.toInt_sub]
  exact Int.bmod_eq_of_le (by omega) (by omega)
theorem tM {a b : Int32} (h1 : -2147483648 ≤ a.toInt * b.toInt) (h2 : a.toInt * b.toInt < 2147483648) : (a * b).toInt = a.toInt * b.toInt := by
  rw [Int32.toInt_mul]
  exact Int.bmod_eq_of_le (by omega) (by omega)
theorem tD {a b : Int32} (h1 : -2147483648 ≤ a.toInt.tdiv b.toInt) (h2 : a.toInt.tdiv b.toInt < 2147483648) : (a / b).toInt = a.toInt.tdiv b.toInt := by
  rw [Int32.toInt_div]
  exact Int.bmod_eq_of_le (by omega) (by omega)
theorem tdiv_nn {a b : Int} (ha : 0 ≤ a) : a.tdiv b = a / b := Int.tdiv_eq_ediv_of_nonneg ha
theorem le_i {a b : Int32} : a ≤ b ↔ a.toInt ≤ b.toInt := Int32.le_iff_toInt_le
theorem lt_i {a b : Int32} : a < b ↔ a.toInt < b.toInt := Int32.lt_iff_toInt_lt
/-- between a and b -/
def rg (a b : Int) (x : Int32) : Prop := a ≤ x.toInt ∧ x.toInt ≤ b
theorem i0 : (0 : Int32).toInt = 0 := by decide
theorem i1 : (1 : Int32).toInt = 1 := by decide
theorem i2 : (2 : Int32).toInt = 2 := by decide
theorem i4 : (4 : Int32).toInt = 4 := by decide
theorem i9 : (9 : Int32).toInt = 9 := by decide
theorem i20 : (20 : Int32).toInt = 20 := by decide
theorem i999 : (999 : Int32).toInt = 999 := by decide
theorem i9999 : (9999 : Int32).toInt = 9999 := by decide
theorem mx_min (v : Int32) : mx v = jmin 9999 v := by
  unfold mx jmin
  by_cases h : v < 9999
  · rw [if_pos h, if_pos (by rw [le_i]; rw [lt_i] at h; omega)]
  · rw [if_neg h]
    by_cases h2 : v ≤ 9999
    · rw [if_pos h2]
      rw [lt_i] at h
      rw [le_i] at h2
      exact Int32.toInt_inj.mp (by omega)
    · rw [if_neg h2]
theorem mx_id {v : Int32} (h : v.toInt ≤ 9999) : mx v = v := by
  unfold mx
  rw [if_pos (by rw [le_i, i9999]; exact h)]
theorem jmin_toInt (x y : Int32) : (jmin x y).toInt = min x.toInt y.toInt := by
  unfold jmin
  split <;> rename_i h <;> rw [lt_i] at h <;> omega
theorem jmax_toInt (x y : Int32) : (jmax x y).toInt = max x.toInt y.toInt := by
  unfold jmax
  split <;> rename_i h <;> rw [lt_i] at h <;> omega
/-- what falls of the air -/
theorem falls {a t : Int32} (ha : rg 0 9999 a) (ht : rg 0 9 t) : rg 0 a.toInt (a * (9 - t) / 20) := by
  obtain ⟨a1, a2⟩ := ha
  obtain ⟨t1, t2⟩ := ht
  have e1 : (9 - t).toInt = 9 - t.toInt := by rw [tS (by rw [i9]; omega) (by rw [i9]; omega), i9]
  have b1 : 0 ≤ a.toInt * (9 - t.toInt) := Int.mul_nonneg a1 (by omega)
  have b2 : a.toInt * (9 - t.toInt) ≤ a.toInt * 9 := Int.mul_le_mul_of_nonneg_left (by omega) a1
  have e2 : (a * (9 - t)).toInt = a.toInt * (9 - t.toInt) := by rw [tM (by rw [e1]; omega) (by rw [e1]; omega), e1]
  have e3 : (a * (9 - t)).toInt.tdiv (20 : Int32).toInt = a.toInt * (9 - t.toInt) / 20 := by rw [e2, i20, tdiv_nn b1]
  have e4 : (a * (9 - t) / 20).toInt = a.toInt * (9 - t.toInt) / 20 := by rw [tD (by rw [e3]; omega) (by rw [e3]; omega), e3]
  constructor
  · rw [e4]; omega
  · rw [e4]; omega
/-- a fourth, cut towards 0 -/
theorem fourth {m : Int32} (h : rg (-9999) 9999 m) : (m / 4).toInt = m.toInt.tdiv 4 := by
  obtain ⟨h1, h2⟩ := h
  have e : m.toInt.tdiv (4 : Int32).toInt = m.toInt.tdiv 4 := by rw [i4]
  have b1 : -9999 ≤ m.toInt.tdiv 4 ∧ m.toInt.tdiv 4 ≤ 9999 := by
    rcases Int.le_total 0 m.toInt with q | q
    · rw [tdiv_nn q]; omega
    · have : m.toInt.tdiv 4 = -((-m.toInt) / 4) := by
        rw [← tdiv_nn (show (0 : Int) ≤ -m.toInt by omega), Int.neg_tdiv, Int.neg_neg]
      omega
  rw [tD (by rw [e]; omega) (by rw [e]; omega), e]
theorem fourth_neg {m : Int32} (h : rg (-9999) 9999 m) : -(-m / 4) = m / 4 := by
  obtain ⟨h1, h2⟩ := h
  have e1 : (-m).toInt = -m.toInt := by
    rw [Int32.toInt_neg]
    exact Int.bmod_eq_of_le (by omega) (by omega)
  have e2 : (-m / 4).toInt = -(m.toInt.tdiv 4) := by
    rw [fourth ⟨by omega, by omega⟩, e1, Int.neg_tdiv]
  have b1 : -9999 ≤ m.toInt.tdiv 4 ∧ m.toInt.tdiv 4 ≤ 9999 := by
    rcases Int.le_total 0 m.toInt with q | q
    · rw [tdiv_nn q]; omega
    · have : m.toInt.tdiv 4 = -((-m.toInt) / 4) := by
        rw [← tdiv_nn (show (0 : Int) ≤ -m.toInt by omega), Int.neg_tdiv, Int.neg_neg]
      omega
  apply Int32.toInt_inj.mp
  rw [fourth ⟨h1, h2⟩, Int32.toInt_neg, e2]
  rw [Int.neg_neg]
  exact Int.bmod_eq_of_le (by omega) (by omega)
theorem fourth_b {m : Int32} (h : rg (-9999) 9999 m) : (0 ≤ m.toInt → 0 ≤ (m / 4).toInt ∧ (m / 4).toInt ≤ m.toInt) ∧ (m.toInt ≤ 0 → m.toInt ≤ (m / 4).toInt ∧ (m / 4).toInt ≤ 0) := by
  rw [fourth h]
  constructor
  · intro q
    rw [tdiv_nn q]; omega
  · intro q
    have : m.toInt.tdiv 4 = -((-m.toInt) / 4) := by
      rw [← tdiv_nn (show (0 : Int) ≤ -m.toInt by omega), Int.neg_tdiv, Int.neg_neg]
    omega
end
