/-! what each linking instruction is linked to (by program) -/
abbrev Lk : Type := Instr × List Nat × Int32 × Int64
def na_isl : Instr → Bool
  | .ldc _ => true
  | .ldc_w _ => true
  | .ldc2_w _ => true
  | .getfield _ => true
  | .putfield _ => true
  | .getstatic _ => true
  | .invokestatic _ => true
  | .invokevirtual _ => true
  | _ => false
def na_lks (L : List Lk) (P : List En) : Bool := P.all fun e => !(na_isl e.2.2.1) || L.any fun q => decide (q = e.2.2)
theorem na_lks_s {own : String} {L : List Lk} {P : List En} (hL : ∀ q ∈ L, na_lk own q.1 q.2.1 q.2.2.1 q.2.2.2) (h : na_lks L P = true) : ∀ e ∈ P, na_lk own e.2.2.1 e.2.2.2.1 e.2.2.2.2.1 e.2.2.2.2.2 := by
  intro e he
  have h1 := List.all_eq_true.mp h e he
  simp only [Bool.or_eq_true, Bool.not_eq_true', List.any_eq_true, decide_eq_true_eq] at h1
  rcases h1 with h1 | ⟨q, h1, h2⟩
  · obtain ⟨pc, len, i, hh, v, w⟩ := e
    cases i <;> first | trivial | cases h1
  · have h3 := hL q h1
    rw [h2] at h3
    exact h3
def Llk_RX0 : List Lk := [(.invokevirtual 39, [1, 2, 0], 0, 0),
  (.invokestatic 43, [999], 0, 0),
  (.getfield 49, [0, 4], 0, 0),
  (.putfield 49, [0, 4, 0], 0, 0),
  (.getfield 53, [0, 5], 0, 0),
  (.putfield 53, [0, 5, 0], 0, 0),
  (.getfield 56, [0, 6], 0, 0),
  (.putfield 56, [0, 6, 0], 0, 0),
  (.getfield 59, [0, 7], 0, 0),
  (.putfield 59, [0, 7, 0], 0, 0),
  (.invokevirtual 62, [2, 2, 0], 0, 0),
  (.getfield 9, [0, 0], 0, 0),
  (.getfield 15, [0, 1], 0, 0),
  (.getfield 18, [0, 2], 0, 0),
  (.getfield 21, [0, 3], 0, 0),
  (.getfield 24, [0, 8], 0, 0),
  (.getfield 27, [0, 9], 0, 0),
  (.getfield 30, [0, 10], 0, 0),
  (.getfield 33, [0, 11], 0, 0),
  (.getfield 36, [0, 12], 0, 0),
  (.invokestatic 65, [91, 2], 0, 0),
  (.invokevirtual 69, [12, 2, 0], 0, 0),
  (.invokestatic 73, [996], 0, 0),
  (.invokevirtual 79, [13, 2, 0], 0, 0),
  (.invokevirtual 82, [15, 1, 0], 0, 0),
  (.invokevirtual 86, [16, 1, 0], 0, 0),
  (.invokevirtual 89, [17, 1, 0], 0, 0),
  (.invokevirtual 92, [18, 1, 0], 0, 0),
  (.invokevirtual 95, [19, 1, 0], 0, 0),
  (.invokestatic 98, [997], 0, 0),
  (.invokevirtual 101, [14, 2, 0], 0, 0),
  (.invokevirtual 105, [8, 1, 0], 0, 0),
  (.invokestatic 108, [192, 1], 0, 0),
  (.getfield 113, [1, 2], 0, 0),
  (.getfield 118, [1, 0], 0, 0)]
theorem lk_RX0_0 : na_lk RX0 (.invokevirtual 39) [1, 2, 0] 0 0 := ⟨na_mem (i := 392) (by decide +kernel) (by decide +kernel), fv_1⟩
theorem lk_RX0_1 : na_lk RX0 (.invokestatic 43) [999] 0 0 := na_mem (i := 334) (by decide +kernel) (by decide +kernel)
theorem lk_RX0_2 : na_lk RX0 (.getfield 49) [0, 4] 0 0 := ⟨RX0, TX0, 13, rfl, fw_0, by decide, na_mem (i := 97) (by decide +kernel) (by decide +kernel)⟩
theorem lk_RX0_3 : na_lk RX0 (.putfield 49) [0, 4, 0] 0 0 := ⟨RX0, TX0, 13, tyX0, rfl, fw_0, tyX0_ok, nmX0, by decide, na_mem (i := 97) (by decide +kernel) (by decide +kernel), rfl, Or.inl ⟨rfl, rfl⟩⟩
theorem lk_RX0_4 : na_lk RX0 (.getfield 53) [0, 5] 0 0 := ⟨RX0, TX0, 13, rfl, fw_0, by decide, na_mem (i := 99) (by decide +kernel) (by decide +kernel)⟩
theorem lk_RX0_5 : na_lk RX0 (.putfield 53) [0, 5, 0] 0 0 := ⟨RX0, TX0, 13, tyX0, rfl, fw_0, tyX0_ok, nmX0, by decide, na_mem (i := 99) (by decide +kernel) (by decide +kernel), rfl, Or.inl ⟨rfl, rfl⟩⟩
theorem lk_RX0_6 : na_lk RX0 (.getfield 56) [0, 6] 0 0 := ⟨RX0, TX0, 13, rfl, fw_0, by decide, na_mem (i := 102) (by decide +kernel) (by decide +kernel)⟩
theorem lk_RX0_7 : na_lk RX0 (.putfield 56) [0, 6, 0] 0 0 := ⟨RX0, TX0, 13, tyX0, rfl, fw_0, tyX0_ok, nmX0, by decide, na_mem (i := 102) (by decide +kernel) (by decide +kernel), rfl, Or.inl ⟨rfl, rfl⟩⟩
theorem lk_RX0_8 : na_lk RX0 (.getfield 59) [0, 7] 0 0 := ⟨RX0, TX0, 13, rfl, fw_0, by decide, na_mem (i := 104) (by decide +kernel) (by decide +kernel)⟩
theorem lk_RX0_9 : na_lk RX0 (.putfield 59) [0, 7, 0] 0 0 := ⟨RX0, TX0, 13, tyX0, rfl, fw_0, tyX0_ok, nmX0, by decide, na_mem (i := 104) (by decide +kernel) (by decide +kernel), rfl, Or.inl ⟨rfl, rfl⟩⟩
theorem lk_RX0_10 : na_lk RX0 (.invokevirtual 62) [2, 2, 0] 0 0 := ⟨na_mem (i := 333) (by decide +kernel) (by decide +kernel), fv_2⟩
theorem lk_RX0_11 : na_lk RX0 (.getfield 9) [0, 0] 0 0 := ⟨RX0, TX0, 13, rfl, fw_0, by decide, na_mem (i := 89) (by decide +kernel) (by decide +kernel)⟩
theorem lk_RX0_12 : na_lk RX0 (.getfield 15) [0, 1] 0 0 := ⟨RX0, TX0, 13, rfl, fw_0, by decide, na_mem (i := 91) (by decide +kernel) (by decide +kernel)⟩
theorem lk_RX0_13 : na_lk RX0 (.getfield 18) [0, 2] 0 0 := ⟨RX0, TX0, 13, rfl, fw_0, by decide, na_mem (i := 93) (by decide +kernel) (by decide +kernel)⟩
theorem lk_RX0_14 : na_lk RX0 (.getfield 21) [0, 3] 0 0 := ⟨RX0, TX0, 13, rfl, fw_0, by decide, na_mem (i := 95) (by decide +kernel) (by decide +kernel)⟩
theorem lk_RX0_15 : na_lk RX0 (.getfield 24) [0, 8] 0 0 := ⟨RX0, TX0, 13, rfl, fw_0, by decide, na_mem (i := 106) (by decide +kernel) (by decide +kernel)⟩
theorem lk_RX0_16 : na_lk RX0 (.getfield 27) [0, 9] 0 0 := ⟨RX0, TX0, 13, rfl, fw_0, by decide, na_mem (i := 108) (by decide +kernel) (by decide +kernel)⟩
theorem lk_RX0_17 : na_lk RX0 (.getfield 30) [0, 10] 0 0 := ⟨RX0, TX0, 13, rfl, fw_0, by decide, na_mem (i := 110) (by decide +kernel) (by decide +kernel)⟩
theorem lk_RX0_18 : na_lk RX0 (.getfield 33) [0, 11] 0 0 := ⟨RX0, TX0, 13, rfl, fw_0, by decide, na_mem (i := 112) (by decide +kernel) (by decide +kernel)⟩
theorem lk_RX0_19 : na_lk RX0 (.getfield 36) [0, 12] 0 0 := ⟨RX0, TX0, 13, rfl, fw_0, by decide, na_mem (i := 114) (by decide +kernel) (by decide +kernel)⟩
theorem lk_RX0_20 : na_lk RX0 (.invokestatic 65) [91, 2] 0 0 := ⟨Or.inr (Or.inl ⟨rfl, rfl, rfl⟩), fs_91⟩
theorem lk_RX0_21 : na_lk RX0 (.invokevirtual 69) [12, 2, 0] 0 0 := ⟨na_mem (i := 254) (by decide +kernel) (by decide +kernel), fv_12⟩
theorem lk_RX0_22 : na_lk RX0 (.invokestatic 73) [996] 0 0 := na_mem (i := 469) (by decide +kernel) (by decide +kernel)
theorem lk_RX0_23 : na_lk RX0 (.invokevirtual 79) [13, 2, 0] 0 0 := ⟨na_mem (i := 258) (by decide +kernel) (by decide +kernel), fv_13⟩
theorem lk_RX0_24 : na_lk RX0 (.invokevirtual 82) [15, 1, 0] 0 0 := ⟨na_mem (i := 346) (by decide +kernel) (by decide +kernel), fv_15⟩
theorem lk_RX0_25 : na_lk RX0 (.invokevirtual 86) [16, 1, 0] 0 0 := ⟨na_mem (i := 350) (by decide +kernel) (by decide +kernel), fv_16⟩
theorem lk_RX0_26 : na_lk RX0 (.invokevirtual 89) [17, 1, 0] 0 0 := ⟨na_mem (i := 357) (by decide +kernel) (by decide +kernel), fv_17⟩
theorem lk_RX0_27 : na_lk RX0 (.invokevirtual 92) [18, 1, 0] 0 0 := ⟨na_mem (i := 361) (by decide +kernel) (by decide +kernel), fv_18⟩
theorem lk_RX0_28 : na_lk RX0 (.invokevirtual 95) [19, 1, 0] 0 0 := ⟨na_mem (i := 365) (by decide +kernel) (by decide +kernel), fv_19⟩
theorem lk_RX0_29 : na_lk RX0 (.invokestatic 98) [997] 0 0 := na_mem (i := 354) (by decide +kernel) (by decide +kernel)
theorem lk_RX0_30 : na_lk RX0 (.invokevirtual 101) [14, 2, 0] 0 0 := ⟨na_mem (i := 427) (by decide +kernel) (by decide +kernel), fv_14⟩
theorem lk_RX0_31 : na_lk RX0 (.invokevirtual 105) [8, 1, 0] 0 0 := ⟨na_mem (i := 428) (by decide +kernel) (by decide +kernel), fv_8⟩
theorem lk_RX0_32 : na_lk RX0 (.invokestatic 108) [192, 1] 0 0 := ⟨Or.inl (na_mem (i := 429) (by decide +kernel) (by decide +kernel)), fs_192⟩
theorem lk_RX0_33 : na_lk RX0 (.getfield 113) [1, 2] 0 0 := ⟨RX1, TX1, 3, rfl, fw_1, by decide, na_mem (i := 183) (by decide +kernel) (by decide +kernel)⟩
theorem lk_RX0_34 : na_lk RX0 (.getfield 118) [1, 0] 0 0 := ⟨RX1, TX1, 3, rfl, fw_1, by decide, na_mem (i := 178) (by decide +kernel) (by decide +kernel)⟩
theorem lk_RX0 : ∀ q ∈ Llk_RX0, na_lk RX0 q.1 q.2.1 q.2.2.1 q.2.2.2 := List.forall_mem_cons.mpr ⟨lk_RX0_0, List.forall_mem_cons.mpr ⟨lk_RX0_1, List.forall_mem_cons.mpr ⟨lk_RX0_2, List.forall_mem_cons.mpr ⟨lk_RX0_3, List.forall_mem_cons.mpr ⟨lk_RX0_4, List.forall_mem_cons.mpr ⟨lk_RX0_5, List.forall_mem_cons.mpr ⟨lk_RX0_6, List.forall_mem_cons.mpr ⟨lk_RX0_7, List.forall_mem_cons.mpr ⟨lk_RX0_8, List.forall_mem_cons.mpr ⟨lk_RX0_9, List.forall_mem_cons.mpr ⟨lk_RX0_10, List.forall_mem_cons.mpr ⟨lk_RX0_11, List.forall_mem_cons.mpr ⟨lk_RX0_12, List.forall_mem_cons.mpr ⟨lk_RX0_13, List.forall_mem_cons.mpr ⟨lk_RX0_14, List.forall_mem_cons.mpr ⟨lk_RX0_15, List.forall_mem_cons.mpr ⟨lk_RX0_16, List.forall_mem_cons.mpr ⟨lk_RX0_17, List.forall_mem_cons.mpr ⟨lk_RX0_18, List.forall_mem_cons.mpr ⟨lk_RX0_19, List.forall_mem_cons.mpr ⟨lk_RX0_20, List.forall_mem_cons.mpr ⟨lk_RX0_21, List.forall_mem_cons.mpr ⟨lk_RX0_22, List.forall_mem_cons.mpr ⟨lk_RX0_23, List.forall_mem_cons.mpr ⟨lk_RX0_24, List.forall_mem_cons.mpr ⟨lk_RX0_25, List.forall_mem_cons.mpr ⟨lk_RX0_26, List.forall_mem_cons.mpr ⟨lk_RX0_27, List.forall_mem_cons.mpr ⟨lk_RX0_28, List.forall_mem_cons.mpr ⟨lk_RX0_29, List.forall_mem_cons.mpr ⟨lk_RX0_30, List.forall_mem_cons.mpr ⟨lk_RX0_31, List.forall_mem_cons.mpr ⟨lk_RX0_32, List.forall_mem_cons.mpr ⟨lk_RX0_33, List.forall_mem_cons.mpr ⟨lk_RX0_34, fun _ h => absurd h List.not_mem_nil⟩⟩⟩⟩⟩⟩⟩⟩⟩⟩⟩⟩⟩⟩⟩⟩⟩⟩⟩⟩⟩⟩⟩⟩⟩⟩⟩⟩⟩⟩⟩⟩⟩⟩⟩
def Llk_RX1 : List Lk := [(.getfield 15, [1, 1], 0, 0),
  (.putfield 15, [1, 1, 0], 0, 0),
  (.putfield 19, [1, 2, 0], 0, 0),
  (.getfield 19, [1, 2], 0, 0),
  (.getfield 9, [1, 0], 0, 0)]
theorem lk_RX1_0 : na_lk RX1 (.getfield 15) [1, 1] 0 0 := ⟨RX1, TX1, 3, rfl, fw_1, by decide, na_mem (i := 180) (by decide +kernel) (by decide +kernel)⟩
theorem lk_RX1_1 : na_lk RX1 (.putfield 15) [1, 1, 0] 0 0 := ⟨RX1, TX1, 3, tyX1, rfl, fw_1, tyX1_ok, nmX1, by decide, na_mem (i := 180) (by decide +kernel) (by decide +kernel), rfl, Or.inl ⟨rfl, rfl⟩⟩
theorem lk_RX1_2 : na_lk RX1 (.putfield 19) [1, 2, 0] 0 0 := ⟨RX1, TX1, 3, tyX1, rfl, fw_1, tyX1_ok, nmX1, by decide, na_mem (i := 182) (by decide +kernel) (by decide +kernel), rfl, Or.inl ⟨rfl, rfl⟩⟩
theorem lk_RX1_3 : na_lk RX1 (.getfield 19) [1, 2] 0 0 := ⟨RX1, TX1, 3, rfl, fw_1, by decide, na_mem (i := 182) (by decide +kernel) (by decide +kernel)⟩
theorem lk_RX1_4 : na_lk RX1 (.getfield 9) [1, 0] 0 0 := ⟨RX1, TX1, 3, rfl, fw_1, by decide, na_mem (i := 177) (by decide +kernel) (by decide +kernel)⟩
theorem lk_RX1 : ∀ q ∈ Llk_RX1, na_lk RX1 q.1 q.2.1 q.2.2.1 q.2.2.2 := List.forall_mem_cons.mpr ⟨lk_RX1_0, List.forall_mem_cons.mpr ⟨lk_RX1_1, List.forall_mem_cons.mpr ⟨lk_RX1_2, List.forall_mem_cons.mpr ⟨lk_RX1_3, List.forall_mem_cons.mpr ⟨lk_RX1_4, fun _ h => absurd h List.not_mem_nil⟩⟩⟩⟩⟩
def Llk_RX2 : List Lk := [(.getfield 9, [2, 0], 0, 0),
  (.getfield 15, [2, 1], 0, 0),
  (.putfield 15, [2, 1, 0], 0, 0),
  (.putfield 19, [2, 4, 0], 0, 0),
  (.invokevirtual 22, [38, 1, 2], 0, 0),
  (.invokevirtual 25, [29, 2, 2], 0, 0),
  (.getfield 29, [2, 3], 0, 0),
  (.getfield 32, [2, 2], 0, 0),
  (.invokevirtual 35, [30, 1, 2], 0, 0),
  (.invokevirtual 39, [31, 3, 2], 0, 0),
  (.ldc 43, [8], 0, 0),
  (.invokevirtual 45, [36, 2, 2], 0, 0),
  (.invokevirtual 49, [32, 2, 2], 0, 0),
  (.ldc 52, [13], 0, 0),
  (.invokevirtual 54, [34, 3, 2], 0, 0),
  (.ldc 57, [14], 0, 0),
  (.ldc 59, [15], 0, 0),
  (.invokevirtual 61, [35, 3, 2], 0, 0),
  (.ldc 64, [16], 0, 0),
  (.ldc 66, [0], 0, 0),
  (.ldc 68, [1], 0, 0),
  (.ldc 70, [2], 0, 0),
  (.ldc 72, [3], 0, 0),
  (.ldc 74, [4], 0, 0),
  (.ldc 76, [5], 0, 0),
  (.invokevirtual 78, [4, 1, 0], 0, 0),
  (.ldc 84, [6], 0, 0),
  (.invokevirtual 86, [37, 3, 2], 0, 0),
  (.getfield 90, [2, 5], 0, 0),
  (.ldc 93, [7], 0, 0),
  (.invokevirtual 95, [5, 4, 0], 0, 0),
  (.ldc 99, [9], 0, 0),
  (.invokevirtual 101, [33, 5, 2], 0, 0),
  (.ldc 105, [10], 0, 0),
  (.ldc 107, [11], 0, 0),
  (.ldc 109, [12], 0, 0),
  (.getstatic 111, [0], 0, 0),
  (.invokevirtual 114, [1, 2, 0], 0, 0),
  (.invokevirtual 118, [3, 3, 0], 0, 0),
  (.putfield 122, [0, 5, 0], 0, 0),
  (.getfield 19, [2, 4], 0, 0),
  (.invokevirtual 124, [193, 1, 9], 0, 0),
  (.invokevirtual 128, [194, 2, 9], 0, 0),
  (.putfield 90, [2, 5, 0], 0, 0),
  (.invokestatic 132, [997], 0, 0),
  (.invokestatic 137, [86, 3], 0, 0),
  (.putfield 29, [2, 3, 0], 0, 0),
  (.putfield 32, [2, 2, 0], 0, 0),
  (.invokestatic 141, [39, 1], 0, 0)]
theorem lk_RX2_0 : na_lk RX2 (.getfield 9) [2, 0] 0 0 := ⟨RX2, TX2, 6, rfl, fw_2, by decide, na_mem (i := 150) (by decide +kernel) (by decide +kernel)⟩
theorem lk_RX2_1 : na_lk RX2 (.getfield 15) [2, 1] 0 0 := ⟨RX2, TX2, 6, rfl, fw_2, by decide, na_mem (i := 151) (by decide +kernel) (by decide +kernel)⟩
theorem lk_RX2_2 : na_lk RX2 (.putfield 15) [2, 1, 0] 0 0 := ⟨RX2, TX2, 6, tyX2, rfl, fw_2, tyX2_ok, nmX2, by decide, na_mem (i := 151) (by decide +kernel) (by decide +kernel), rfl, Or.inl ⟨rfl, rfl⟩⟩
theorem lk_RX2_3 : na_lk RX2 (.putfield 19) [2, 4, 0] 0 0 := ⟨RX2, TX2, 6, tyX2, rfl, fw_2, tyX2_ok, nmX2, by decide, na_mem (i := 155) (by decide +kernel) (by decide +kernel), rfl, Or.inl ⟨rfl, rfl⟩⟩
theorem lk_RX2_4 : na_lk RX2 (.invokevirtual 22) [38, 1, 2] 0 0 := ⟨na_mem (i := 517) (by decide +kernel) (by decide +kernel), fv_38⟩
theorem lk_RX2_5 : na_lk RX2 (.invokevirtual 25) [29, 2, 2] 0 0 := ⟨na_mem (i := 524) (by decide +kernel) (by decide +kernel), fv_29⟩
theorem lk_RX2_6 : na_lk RX2 (.getfield 29) [2, 3] 0 0 := ⟨RX2, TX2, 6, rfl, fw_2, by decide, na_mem (i := 154) (by decide +kernel) (by decide +kernel)⟩
theorem lk_RX2_7 : na_lk RX2 (.getfield 32) [2, 2] 0 0 := ⟨RX2, TX2, 6, rfl, fw_2, by decide, na_mem (i := 153) (by decide +kernel) (by decide +kernel)⟩
theorem lk_RX2_8 : na_lk RX2 (.invokevirtual 35) [30, 1, 2] 0 0 := ⟨na_mem (i := 528) (by decide +kernel) (by decide +kernel), fv_30⟩
theorem lk_RX2_9 : na_lk RX2 (.invokevirtual 39) [31, 3, 2] 0 0 := ⟨na_mem (i := 590) (by decide +kernel) (by decide +kernel), fv_31⟩
theorem lk_RX2_10 : na_lk RX2 (.ldc 43) [8] 0 0 := ⟨rfl, _, rfl, rfl⟩
theorem lk_RX2_11 : na_lk RX2 (.invokevirtual 45) [36, 2, 2] 0 0 := ⟨na_mem (i := 533) (by decide +kernel) (by decide +kernel), fv_36⟩
theorem lk_RX2_12 : na_lk RX2 (.invokevirtual 49) [32, 2, 2] 0 0 := ⟨na_mem (i := 605) (by decide +kernel) (by decide +kernel), fv_32⟩
theorem lk_RX2_13 : na_lk RX2 (.ldc 52) [13] 0 0 := ⟨rfl, _, rfl, rfl⟩
theorem lk_RX2_14 : na_lk RX2 (.invokevirtual 54) [34, 3, 2] 0 0 := ⟨na_mem (i := 620) (by decide +kernel) (by decide +kernel), fv_34⟩
theorem lk_RX2_15 : na_lk RX2 (.ldc 57) [14] 0 0 := ⟨rfl, _, rfl, rfl⟩
theorem lk_RX2_16 : na_lk RX2 (.ldc 59) [15] 0 0 := ⟨rfl, _, rfl, rfl⟩
theorem lk_RX2_17 : na_lk RX2 (.invokevirtual 61) [35, 3, 2] 0 0 := ⟨na_mem (i := 627) (by decide +kernel) (by decide +kernel), fv_35⟩
theorem lk_RX2_18 : na_lk RX2 (.ldc 64) [16] 0 0 := ⟨rfl, _, rfl, rfl⟩
theorem lk_RX2_19 : na_lk RX2 (.ldc 66) [0] 0 0 := ⟨rfl, _, rfl, rfl⟩
theorem lk_RX2_20 : na_lk RX2 (.ldc 68) [1] 0 0 := ⟨rfl, _, rfl, rfl⟩
theorem lk_RX2_21 : na_lk RX2 (.ldc 70) [2] 0 0 := ⟨rfl, _, rfl, rfl⟩
theorem lk_RX2_22 : na_lk RX2 (.ldc 72) [3] 0 0 := ⟨rfl, _, rfl, rfl⟩
theorem lk_RX2_23 : na_lk RX2 (.ldc 74) [4] 0 0 := ⟨rfl, _, rfl, rfl⟩
theorem lk_RX2_24 : na_lk RX2 (.ldc 76) [5] 0 0 := ⟨rfl, _, rfl, rfl⟩
theorem lk_RX2_25 : na_lk RX2 (.invokevirtual 78) [4, 1, 0] 0 0 := ⟨na_mem (i := 594) (by decide +kernel) (by decide +kernel), fv_4⟩
theorem lk_RX2_26 : na_lk RX2 (.ldc 84) [6] 0 0 := ⟨rfl, _, rfl, rfl⟩
theorem lk_RX2_27 : na_lk RX2 (.invokevirtual 86) [37, 3, 2] 0 0 := ⟨na_mem (i := 596) (by decide +kernel) (by decide +kernel), fv_37⟩
theorem lk_RX2_28 : na_lk RX2 (.getfield 90) [2, 5] 0 0 := ⟨RX2, TX2, 6, rfl, fw_2, by decide, na_mem (i := 156) (by decide +kernel) (by decide +kernel)⟩
theorem lk_RX2_29 : na_lk RX2 (.ldc 93) [7] 0 0 := ⟨rfl, _, rfl, rfl⟩
theorem lk_RX2_30 : na_lk RX2 (.invokevirtual 95) [5, 4, 0] 0 0 := ⟨na_mem (i := 603) (by decide +kernel) (by decide +kernel), fv_5⟩
theorem lk_RX2_31 : na_lk RX2 (.ldc 99) [9] 0 0 := ⟨rfl, _, rfl, rfl⟩
theorem lk_RX2_32 : na_lk RX2 (.invokevirtual 101) [33, 5, 2] 0 0 := ⟨na_mem (i := 610) (by decide +kernel) (by decide +kernel), fv_33⟩
theorem lk_RX2_33 : na_lk RX2 (.ldc 105) [10] 0 0 := ⟨rfl, _, rfl, rfl⟩
theorem lk_RX2_34 : na_lk RX2 (.ldc 107) [11] 0 0 := ⟨rfl, _, rfl, rfl⟩
theorem lk_RX2_35 : na_lk RX2 (.ldc 109) [12] 0 0 := ⟨rfl, _, rfl, rfl⟩
theorem lk_RX2_36 : na_lk RX2 (.getstatic 111) [0] 0 0 := ⟨_, rfl, Or.inr ⟨rfl, rfl, rfl, rfl, rfl⟩⟩
theorem lk_RX2_37 : na_lk RX2 (.invokevirtual 114) [1, 2, 0] 0 0 := ⟨na_mem (i := 615) (by decide +kernel) (by decide +kernel), fv_1⟩
theorem lk_RX2_38 : na_lk RX2 (.invokevirtual 118) [3, 3, 0] 0 0 := ⟨na_mem (i := 624) (by decide +kernel) (by decide +kernel), fv_3⟩
theorem lk_RX2_39 : na_lk RX2 (.putfield 122) [0, 5, 0] 0 0 := ⟨RX0, TX0, 13, tyX0, rfl, fw_0, tyX0_ok, nmX0, by decide, na_mem (i := 101) (by decide +kernel) (by decide +kernel), rfl, Or.inl ⟨rfl, rfl⟩⟩
theorem lk_RX2_40 : na_lk RX2 (.getfield 19) [2, 4] 0 0 := ⟨RX2, TX2, 6, rfl, fw_2, by decide, na_mem (i := 155) (by decide +kernel) (by decide +kernel)⟩
theorem lk_RX2_41 : na_lk RX2 (.invokevirtual 124) [193, 1, 9] 0 0 := ⟨na_mem (i := 537) (by decide +kernel) (by decide +kernel), fv_193⟩
theorem lk_RX2_42 : na_lk RX2 (.invokevirtual 128) [194, 2, 9] 0 0 := ⟨na_mem (i := 547) (by decide +kernel) (by decide +kernel), fv_194⟩
theorem lk_RX2_43 : na_lk RX2 (.putfield 90) [2, 5, 0] 0 0 := ⟨RX2, TX2, 6, tyX2, rfl, fw_2, tyX2_ok, nmX2, by decide, na_mem (i := 156) (by decide +kernel) (by decide +kernel), rfl, Or.inl ⟨rfl, rfl⟩⟩
theorem lk_RX2_44 : na_lk RX2 (.invokestatic 132) [997] 0 0 := na_mem (i := 600) (by decide +kernel) (by decide +kernel)
theorem lk_RX2_45 : na_lk RX2 (.invokestatic 137) [86, 3] 0 0 := ⟨Or.inr (Or.inr ⟨rfl, rfl, rfl⟩), fs_86⟩
theorem lk_RX2_46 : na_lk RX2 (.putfield 29) [2, 3, 0] 0 0 := ⟨RX2, TX2, 6, tyX2, rfl, fw_2, tyX2_ok, nmX2, by decide, na_mem (i := 154) (by decide +kernel) (by decide +kernel), rfl, Or.inl ⟨rfl, rfl⟩⟩
theorem lk_RX2_47 : na_lk RX2 (.putfield 32) [2, 2, 0] 0 0 := ⟨RX2, TX2, 6, tyX2, rfl, fw_2, tyX2_ok, nmX2, by decide, na_mem (i := 153) (by decide +kernel) (by decide +kernel), rfl, Or.inl ⟨rfl, rfl⟩⟩
theorem lk_RX2_48 : na_lk RX2 (.invokestatic 141) [39, 1] 0 0 := ⟨Or.inl (na_mem (i := 521) (by decide +kernel) (by decide +kernel)), fs_39⟩
theorem lk_RX2 : ∀ q ∈ Llk_RX2, na_lk RX2 q.1 q.2.1 q.2.2.1 q.2.2.2 := List.forall_mem_cons.mpr ⟨lk_RX2_0, List.forall_mem_cons.mpr ⟨lk_RX2_1, List.forall_mem_cons.mpr ⟨lk_RX2_2, List.forall_mem_cons.mpr ⟨lk_RX2_3, List.forall_mem_cons.mpr ⟨lk_RX2_4, List.forall_mem_cons.mpr ⟨lk_RX2_5, List.forall_mem_cons.mpr ⟨lk_RX2_6, List.forall_mem_cons.mpr ⟨lk_RX2_7, List.forall_mem_cons.mpr ⟨lk_RX2_8, List.forall_mem_cons.mpr ⟨lk_RX2_9, List.forall_mem_cons.mpr ⟨lk_RX2_10, List.forall_mem_cons.mpr ⟨lk_RX2_11, List.forall_mem_cons.mpr ⟨lk_RX2_12, List.forall_mem_cons.mpr ⟨lk_RX2_13, List.forall_mem_cons.mpr ⟨lk_RX2_14, List.forall_mem_cons.mpr ⟨lk_RX2_15, List.forall_mem_cons.mpr ⟨lk_RX2_16, List.forall_mem_cons.mpr ⟨lk_RX2_17, List.forall_mem_cons.mpr ⟨lk_RX2_18, List.forall_mem_cons.mpr ⟨lk_RX2_19, List.forall_mem_cons.mpr ⟨lk_RX2_20, List.forall_mem_cons.mpr ⟨lk_RX2_21, List.forall_mem_cons.mpr ⟨lk_RX2_22, List.forall_mem_cons.mpr ⟨lk_RX2_23, List.forall_mem_cons.mpr ⟨lk_RX2_24, List.forall_mem_cons.mpr ⟨lk_RX2_25, List.forall_mem_cons.mpr ⟨lk_RX2_26, List.forall_mem_cons.mpr ⟨lk_RX2_27, List.forall_mem_cons.mpr ⟨lk_RX2_28, List.forall_mem_cons.mpr ⟨lk_RX2_29, List.forall_mem_cons.mpr ⟨lk_RX2_30, List.forall_mem_cons.mpr ⟨lk_RX2_31, List.forall_mem_cons.mpr ⟨lk_RX2_32, List.forall_mem_cons.mpr ⟨lk_RX2_33, List.forall_mem_cons.mpr ⟨lk_RX2_34, List.forall_mem_cons.mpr ⟨lk_RX2_35, List.forall_mem_cons.mpr ⟨lk_RX2_36, List.forall_mem_cons.mpr ⟨lk_RX2_37, List.forall_mem_cons.mpr ⟨lk_RX2_38, List.forall_mem_cons.mpr ⟨lk_RX2_39, List.forall_mem_cons.mpr ⟨lk_RX2_40, List.forall_mem_cons.mpr ⟨lk_RX2_41, List.forall_mem_cons.mpr ⟨lk_RX2_42, List.forall_mem_cons.mpr ⟨lk_RX2_43, List.forall_mem_cons.mpr ⟨lk_RX2_44, List.forall_mem_cons.mpr ⟨lk_RX2_45, List.forall_mem_cons.mpr ⟨lk_RX2_46, List.forall_mem_cons.mpr ⟨lk_RX2_47, List.forall_mem_cons.mpr ⟨lk_RX2_48, fun _ h => absurd h List.not_mem_nil⟩⟩⟩⟩⟩⟩⟩⟩⟩⟩⟩⟩⟩⟩⟩⟩⟩⟩⟩⟩⟩⟩⟩⟩⟩⟩⟩⟩⟩⟩⟩⟩⟩⟩⟩⟩⟩⟩⟩⟩⟩⟩⟩⟩⟩⟩⟩⟩⟩
def Llk_RX3 : List Lk := [(.invokestatic 40, [87, 1], 0, 0),
  (.invokestatic 44, [86, 3], 0, 0),
  (.getstatic 48, [0], 0, 0),
  (.ldc 51, [], (-1000000001), 0),
  (.invokevirtual 52, [82, 2, 3], 0, 0),
  (.getfield 12, [3, 0], 0, 0),
  (.invokevirtual 56, [1, 2, 0], 0, 0),
  (.invokestatic 60, [92, 3], 0, 0),
  (.invokevirtual 64, [7, 2, 0], 0, 0),
  (.invokevirtual 67, [9, 2, 0], 0, 0),
  (.invokevirtual 70, [3, 3, 0], 0, 0),
  (.getfield 74, [0, 5], 0, 0),
  (.putfield 74, [0, 5, 0], 0, 0),
  (.invokestatic 78, [88, 1], 0, 0),
  (.invokevirtual 81, [4, 1, 0], 0, 0),
  (.ldc 85, [], (-1000000002), 0),
  (.invokevirtual 86, [5, 4, 0], 0, 0),
  (.invokevirtual 90, [83, 2, 3], 0, 0),
  (.invokevirtual 93, [12, 2, 0], 0, 0),
  (.invokevirtual 96, [2, 2, 0], 0, 0),
  (.getstatic 99, [1], 0, 0),
  (.getstatic 102, [2], 0, 0),
  (.getfield 105, [0, 8], 0, 0),
  (.invokestatic 108, [90, 2], 0, 0),
  (.ldc 112, [], (-1000000003), 0),
  (.getfield 113, [0, 10], 0, 0),
  (.getfield 116, [0, 11], 0, 0),
  (.invokevirtual 119, [6, 2, 0], 0, 0),
  (.getfield 123, [0, 6], 0, 0),
  (.ldc 126, [], (-1000000005), 0),
  (.invokevirtual 127, [14, 2, 0], 0, 0),
  (.getfield 130, [0, 0], 0, 0),
  (.invokestatic 133, [93, 2], 0, 0),
  (.getfield 137, [0, 1], 0, 0),
  (.getfield 140, [0, 2], 0, 0),
  (.invokevirtual 143, [8, 1, 0], 0, 0),
  (.getfield 147, [0, 4], 0, 0),
  (.invokevirtual 150, [84, 1, 3], 0, 0),
  (.getfield 154, [0, 12], 0, 0),
  (.invokevirtual 157, [20, 3, 0], 0, 0),
  (.ldc 160, [], (-1000000004), 0),
  (.invokevirtual 161, [15, 1, 0], 0, 0),
  (.invokestatic 164, [191, 1], 0, 0),
  (.putfield 147, [0, 4, 0], 0, 0),
  (.invokevirtual 169, [21, 2, 0], 0, 0),
  (.invokevirtual 172, [85, 5, 3], 0, 0),
  (.getfield 176, [0, 9], 0, 0),
  (.getfield 19, [3, 2], 0, 0),
  (.getfield 179, [0, 7], 0, 0),
  (.invokestatic 182, [91, 2], 0, 0),
  (.invokevirtual 185, [10, 2, 0], 0, 0),
  (.invokestatic 188, [996], 0, 0),
  (.invokestatic 193, [192, 1], 0, 0),
  (.getstatic 196, [4], 0, 0),
  (.ldc 199, [], 99999, 0),
  (.invokevirtual 200, [11, 2, 0], 0, 0),
  (.getfield 203, [0, 3], 0, 0),
  (.getfield 25, [3, 4], 0, 0),
  (.getfield 206, [2, 1], 0, 0),
  (.invokevirtual 209, [27, 3, 2], 0, 0),
  (.putfield 206, [2, 1, 0], 0, 0),
  (.invokevirtual 213, [28, 2, 2], 0, 0),
  (.invokevirtual 217, [0, 2, 0], 0, 0),
  (.invokestatic 221, [89, 1], 0, 0),
  (.ldc 224, [], (-1000000007), 0),
  (.getfield 31, [3, 5], 0, 0),
  (.invokevirtual 225, [24, 3, 1], 0, 0),
  (.getfield 228, [1, 2], 0, 0),
  (.invokevirtual 229, [23, 1, 1], 0, 0),
  (.ldc 232, [], (-1000000006), 0),
  (.getfield 233, [1, 0], 0, 0),
  (.invokevirtual 237, [25, 3, 1], 0, 0),
  (.getfield 241, [1, 1], 0, 0),
  (.invokevirtual 244, [26, 3, 1], 0, 0),
  (.invokestatic 247, [999], 0, 0),
  (.ldc2_w 253, [], 0, 9999),
  (.invokevirtual 255, [22, 3, 0], 0, 0),
  (.getfield 16, [3, 1], 0, 0),
  (.putfield 259, [3, 3, 1], 0, 0),
  (.getfield 259, [3, 3], 0, 0),
  (.getfield 35, [3, 6], 0, 0),
  (.invokestatic 263, [997], 0, 0),
  (.getstatic 266, [3], 0, 0)]
theorem lk_RX3_0 : na_lk RX3 (.invokestatic 40) [87, 1] 0 0 := ⟨Or.inl (na_mem (i := 219) (by decide +kernel) (by decide +kernel)), fs_87⟩
theorem lk_RX3_1 : na_lk RX3 (.invokestatic 44) [86, 3] 0 0 := ⟨Or.inl (na_mem (i := 222) (by decide +kernel) (by decide +kernel)), fs_86⟩
theorem lk_RX3_2 : na_lk RX3 (.getstatic 48) [0] 0 0 := ⟨_, rfl, Or.inl (na_mem (i := 225) (by decide +kernel) (by decide +kernel))⟩
theorem lk_RX3_3 : na_lk RX3 (.ldc 51) [] (-1000000001) 0 := na_mem (i := 227) (by decide +kernel) (by decide +kernel)
theorem lk_RX3_4 : na_lk RX3 (.invokevirtual 52) [82, 2, 3] 0 0 := ⟨na_mem (i := 228) (by decide +kernel) (by decide +kernel), fv_82⟩
theorem lk_RX3_5 : na_lk RX3 (.getfield 12) [3, 0] 0 0 := ⟨RX3, TX3, 7, rfl, fw_3, by decide, na_mem (i := 193) (by decide +kernel) (by decide +kernel)⟩
theorem lk_RX3_6 : na_lk RX3 (.invokevirtual 56) [1, 2, 0] 0 0 := ⟨na_mem (i := 232) (by decide +kernel) (by decide +kernel), fv_1⟩
theorem lk_RX3_7 : na_lk RX3 (.invokestatic 60) [92, 3] 0 0 := ⟨Or.inl (na_mem (i := 236) (by decide +kernel) (by decide +kernel)), fs_92⟩
theorem lk_RX3_8 : na_lk RX3 (.invokevirtual 64) [7, 2, 0] 0 0 := ⟨na_mem (i := 243) (by decide +kernel) (by decide +kernel), fv_7⟩
theorem lk_RX3_9 : na_lk RX3 (.invokevirtual 67) [9, 2, 0] 0 0 := ⟨na_mem (i := 247) (by decide +kernel) (by decide +kernel), fv_9⟩
theorem lk_RX3_10 : na_lk RX3 (.invokevirtual 70) [3, 3, 0] 0 0 := ⟨na_mem (i := 266) (by decide +kernel) (by decide +kernel), fv_3⟩
theorem lk_RX3_11 : na_lk RX3 (.getfield 74) [0, 5] 0 0 := ⟨RX0, TX0, 13, rfl, fw_0, by decide, na_mem (i := 100) (by decide +kernel) (by decide +kernel)⟩
theorem lk_RX3_12 : na_lk RX3 (.putfield 74) [0, 5, 0] 0 0 := ⟨RX0, TX0, 13, tyX0, rfl, fw_0, tyX0_ok, nmX0, by decide, na_mem (i := 100) (by decide +kernel) (by decide +kernel), rfl, Or.inl ⟨rfl, rfl⟩⟩
theorem lk_RX3_13 : na_lk RX3 (.invokestatic 78) [88, 1] 0 0 := ⟨Or.inl (na_mem (i := 278) (by decide +kernel) (by decide +kernel)), fs_88⟩
theorem lk_RX3_14 : na_lk RX3 (.invokevirtual 81) [4, 1, 0] 0 0 := ⟨na_mem (i := 281) (by decide +kernel) (by decide +kernel), fv_4⟩
theorem lk_RX3_15 : na_lk RX3 (.ldc 85) [] (-1000000002) 0 := na_mem (i := 285) (by decide +kernel) (by decide +kernel)
theorem lk_RX3_16 : na_lk RX3 (.invokevirtual 86) [5, 4, 0] 0 0 := ⟨na_mem (i := 286) (by decide +kernel) (by decide +kernel), fv_5⟩
theorem lk_RX3_17 : na_lk RX3 (.invokevirtual 90) [83, 2, 3] 0 0 := ⟨na_mem (i := 294) (by decide +kernel) (by decide +kernel), fv_83⟩
theorem lk_RX3_18 : na_lk RX3 (.invokevirtual 93) [12, 2, 0] 0 0 := ⟨na_mem (i := 298) (by decide +kernel) (by decide +kernel), fv_12⟩
theorem lk_RX3_19 : na_lk RX3 (.invokevirtual 96) [2, 2, 0] 0 0 := ⟨na_mem (i := 299) (by decide +kernel) (by decide +kernel), fv_2⟩
theorem lk_RX3_20 : na_lk RX3 (.getstatic 99) [1] 0 0 := ⟨_, rfl, Or.inl (na_mem (i := 307) (by decide +kernel) (by decide +kernel))⟩
theorem lk_RX3_21 : na_lk RX3 (.getstatic 102) [2] 0 0 := ⟨_, rfl, Or.inl (na_mem (i := 309) (by decide +kernel) (by decide +kernel))⟩
theorem lk_RX3_22 : na_lk RX3 (.getfield 105) [0, 8] 0 0 := ⟨RX0, TX0, 13, rfl, fw_0, by decide, na_mem (i := 107) (by decide +kernel) (by decide +kernel)⟩
theorem lk_RX3_23 : na_lk RX3 (.invokestatic 108) [90, 2] 0 0 := ⟨Or.inl (na_mem (i := 319) (by decide +kernel) (by decide +kernel)), fs_90⟩
theorem lk_RX3_24 : na_lk RX3 (.ldc 112) [] (-1000000003) 0 := na_mem (i := 324) (by decide +kernel) (by decide +kernel)
theorem lk_RX3_25 : na_lk RX3 (.getfield 113) [0, 10] 0 0 := ⟨RX0, TX0, 13, rfl, fw_0, by decide, na_mem (i := 111) (by decide +kernel) (by decide +kernel)⟩
theorem lk_RX3_26 : na_lk RX3 (.getfield 116) [0, 11] 0 0 := ⟨RX0, TX0, 13, rfl, fw_0, by decide, na_mem (i := 113) (by decide +kernel) (by decide +kernel)⟩
theorem lk_RX3_27 : na_lk RX3 (.invokevirtual 119) [6, 2, 0] 0 0 := ⟨na_mem (i := 329) (by decide +kernel) (by decide +kernel), fv_6⟩
theorem lk_RX3_28 : na_lk RX3 (.getfield 123) [0, 6] 0 0 := ⟨RX0, TX0, 13, rfl, fw_0, by decide, na_mem (i := 103) (by decide +kernel) (by decide +kernel)⟩
theorem lk_RX3_29 : na_lk RX3 (.ldc 126) [] (-1000000005) 0 := na_mem (i := 341) (by decide +kernel) (by decide +kernel)
theorem lk_RX3_30 : na_lk RX3 (.invokevirtual 127) [14, 2, 0] 0 0 := ⟨na_mem (i := 342) (by decide +kernel) (by decide +kernel), fv_14⟩
theorem lk_RX3_31 : na_lk RX3 (.getfield 130) [0, 0] 0 0 := ⟨RX0, TX0, 13, rfl, fw_0, by decide, na_mem (i := 90) (by decide +kernel) (by decide +kernel)⟩
theorem lk_RX3_32 : na_lk RX3 (.invokestatic 133) [93, 2] 0 0 := ⟨Or.inl (na_mem (i := 369) (by decide +kernel) (by decide +kernel)), fs_93⟩
theorem lk_RX3_33 : na_lk RX3 (.getfield 137) [0, 1] 0 0 := ⟨RX0, TX0, 13, rfl, fw_0, by decide, na_mem (i := 92) (by decide +kernel) (by decide +kernel)⟩
theorem lk_RX3_34 : na_lk RX3 (.getfield 140) [0, 2] 0 0 := ⟨RX0, TX0, 13, rfl, fw_0, by decide, na_mem (i := 94) (by decide +kernel) (by decide +kernel)⟩
theorem lk_RX3_35 : na_lk RX3 (.invokevirtual 143) [8, 1, 0] 0 0 := ⟨na_mem (i := 376) (by decide +kernel) (by decide +kernel), fv_8⟩
theorem lk_RX3_36 : na_lk RX3 (.getfield 147) [0, 4] 0 0 := ⟨RX0, TX0, 13, rfl, fw_0, by decide, na_mem (i := 98) (by decide +kernel) (by decide +kernel)⟩
theorem lk_RX3_37 : na_lk RX3 (.invokevirtual 150) [84, 1, 3] 0 0 := ⟨na_mem (i := 384) (by decide +kernel) (by decide +kernel), fv_84⟩
theorem lk_RX3_38 : na_lk RX3 (.getfield 154) [0, 12] 0 0 := ⟨RX0, TX0, 13, rfl, fw_0, by decide, na_mem (i := 115) (by decide +kernel) (by decide +kernel)⟩
theorem lk_RX3_39 : na_lk RX3 (.invokevirtual 157) [20, 3, 0] 0 0 := ⟨na_mem (i := 397) (by decide +kernel) (by decide +kernel), fv_20⟩
theorem lk_RX3_40 : na_lk RX3 (.ldc 160) [] (-1000000004) 0 := na_mem (i := 401) (by decide +kernel) (by decide +kernel)
theorem lk_RX3_41 : na_lk RX3 (.invokevirtual 161) [15, 1, 0] 0 0 := ⟨na_mem (i := 406) (by decide +kernel) (by decide +kernel), fv_15⟩
theorem lk_RX3_42 : na_lk RX3 (.invokestatic 164) [191, 1] 0 0 := ⟨Or.inl (na_mem (i := 407) (by decide +kernel) (by decide +kernel)), fs_191⟩
theorem lk_RX3_43 : na_lk RX3 (.putfield 147) [0, 4, 0] 0 0 := ⟨RX0, TX0, 13, tyX0, rfl, fw_0, tyX0_ok, nmX0, by decide, na_mem (i := 98) (by decide +kernel) (by decide +kernel), rfl, Or.inl ⟨rfl, rfl⟩⟩
theorem lk_RX3_44 : na_lk RX3 (.invokevirtual 169) [21, 2, 0] 0 0 := ⟨na_mem (i := 423) (by decide +kernel) (by decide +kernel), fv_21⟩
theorem lk_RX3_45 : na_lk RX3 (.invokevirtual 172) [85, 5, 3] 0 0 := ⟨na_mem (i := 443) (by decide +kernel) (by decide +kernel), fv_85⟩
theorem lk_RX3_46 : na_lk RX3 (.getfield 176) [0, 9] 0 0 := ⟨RX0, TX0, 13, rfl, fw_0, by decide, na_mem (i := 109) (by decide +kernel) (by decide +kernel)⟩
theorem lk_RX3_47 : na_lk RX3 (.getfield 19) [3, 2] 0 0 := ⟨RX3, TX3, 7, rfl, fw_3, by decide, na_mem (i := 195) (by decide +kernel) (by decide +kernel)⟩
theorem lk_RX3_48 : na_lk RX3 (.getfield 179) [0, 7] 0 0 := ⟨RX0, TX0, 13, rfl, fw_0, by decide, na_mem (i := 105) (by decide +kernel) (by decide +kernel)⟩
theorem lk_RX3_49 : na_lk RX3 (.invokestatic 182) [91, 2] 0 0 := ⟨Or.inl (na_mem (i := 464) (by decide +kernel) (by decide +kernel)), fs_91⟩
theorem lk_RX3_50 : na_lk RX3 (.invokevirtual 185) [10, 2, 0] 0 0 := ⟨na_mem (i := 465) (by decide +kernel) (by decide +kernel), fv_10⟩
theorem lk_RX3_51 : na_lk RX3 (.invokestatic 188) [996] 0 0 := na_mem (i := 472) (by decide +kernel) (by decide +kernel)
theorem lk_RX3_52 : na_lk RX3 (.invokestatic 193) [192, 1] 0 0 := ⟨Or.inl (na_mem (i := 473) (by decide +kernel) (by decide +kernel)), fs_192⟩
theorem lk_RX3_53 : na_lk RX3 (.getstatic 196) [4] 0 0 := ⟨_, rfl, Or.inl (na_mem (i := 474) (by decide +kernel) (by decide +kernel))⟩
theorem lk_RX3_54 : na_lk RX3 (.ldc 199) [] 99999 0 := na_mem (i := 480) (by decide +kernel) (by decide +kernel)
theorem lk_RX3_55 : na_lk RX3 (.invokevirtual 200) [11, 2, 0] 0 0 := ⟨na_mem (i := 481) (by decide +kernel) (by decide +kernel), fv_11⟩
theorem lk_RX3_56 : na_lk RX3 (.getfield 203) [0, 3] 0 0 := ⟨RX0, TX0, 13, rfl, fw_0, by decide, na_mem (i := 96) (by decide +kernel) (by decide +kernel)⟩
theorem lk_RX3_57 : na_lk RX3 (.getfield 25) [3, 4] 0 0 := ⟨RX3, TX3, 7, rfl, fw_3, by decide, na_mem (i := 197) (by decide +kernel) (by decide +kernel)⟩
theorem lk_RX3_58 : na_lk RX3 (.getfield 206) [2, 1] 0 0 := ⟨RX2, TX2, 6, rfl, fw_2, by decide, na_mem (i := 152) (by decide +kernel) (by decide +kernel)⟩
theorem lk_RX3_59 : na_lk RX3 (.invokevirtual 209) [27, 3, 2] 0 0 := ⟨na_mem (i := 501) (by decide +kernel) (by decide +kernel), fv_27⟩
theorem lk_RX3_60 : na_lk RX3 (.putfield 206) [2, 1, 0] 0 0 := ⟨RX2, TX2, 6, tyX2, rfl, fw_2, tyX2_ok, nmX2, by decide, na_mem (i := 152) (by decide +kernel) (by decide +kernel), rfl, Or.inl ⟨rfl, rfl⟩⟩
theorem lk_RX3_61 : na_lk RX3 (.invokevirtual 213) [28, 2, 2] 0 0 := ⟨na_mem (i := 513) (by decide +kernel) (by decide +kernel), fv_28⟩
theorem lk_RX3_62 : na_lk RX3 (.invokevirtual 217) [0, 2, 0] 0 0 := ⟨na_mem (i := 388) (by decide +kernel) (by decide +kernel), fv_0⟩
theorem lk_RX3_63 : na_lk RX3 (.invokestatic 221) [89, 1] 0 0 := ⟨Or.inl (na_mem (i := 637) (by decide +kernel) (by decide +kernel)), fs_89⟩
theorem lk_RX3_64 : na_lk RX3 (.ldc 224) [] (-1000000007) 0 := na_mem (i := 640) (by decide +kernel) (by decide +kernel)
theorem lk_RX3_65 : na_lk RX3 (.getfield 31) [3, 5] 0 0 := ⟨RX3, TX3, 7, rfl, fw_3, by decide, na_mem (i := 198) (by decide +kernel) (by decide +kernel)⟩
theorem lk_RX3_66 : na_lk RX3 (.invokevirtual 225) [24, 3, 1] 0 0 := ⟨na_mem (i := 641) (by decide +kernel) (by decide +kernel), fv_24⟩
theorem lk_RX3_67 : na_lk RX3 (.getfield 228) [1, 2] 0 0 := ⟨RX1, TX1, 3, rfl, fw_1, by decide, na_mem (i := 184) (by decide +kernel) (by decide +kernel)⟩
theorem lk_RX3_68 : na_lk RX3 (.invokevirtual 229) [23, 1, 1] 0 0 := ⟨na_mem (i := 649) (by decide +kernel) (by decide +kernel), fv_23⟩
theorem lk_RX3_69 : na_lk RX3 (.ldc 232) [] (-1000000006) 0 := na_mem (i := 653) (by decide +kernel) (by decide +kernel)
theorem lk_RX3_70 : na_lk RX3 (.getfield 233) [1, 0] 0 0 := ⟨RX1, TX1, 3, rfl, fw_1, by decide, na_mem (i := 179) (by decide +kernel) (by decide +kernel)⟩
theorem lk_RX3_71 : na_lk RX3 (.invokevirtual 237) [25, 3, 1] 0 0 := ⟨na_mem (i := 654) (by decide +kernel) (by decide +kernel), fv_25⟩
theorem lk_RX3_72 : na_lk RX3 (.getfield 241) [1, 1] 0 0 := ⟨RX1, TX1, 3, rfl, fw_1, by decide, na_mem (i := 181) (by decide +kernel) (by decide +kernel)⟩
theorem lk_RX3_73 : na_lk RX3 (.invokevirtual 244) [26, 3, 1] 0 0 := ⟨na_mem (i := 662) (by decide +kernel) (by decide +kernel), fv_26⟩
theorem lk_RX3_74 : na_lk RX3 (.invokestatic 247) [999] 0 0 := na_mem (i := 666) (by decide +kernel) (by decide +kernel)
theorem lk_RX3_75 : na_lk RX3 (.ldc2_w 253) [] 0 9999 := na_mem (i := 671) (by decide +kernel) (by decide +kernel)
theorem lk_RX3_76 : na_lk RX3 (.invokevirtual 255) [22, 3, 0] 0 0 := ⟨na_mem (i := 680) (by decide +kernel) (by decide +kernel), fv_22⟩
theorem lk_RX3_77 : na_lk RX3 (.getfield 16) [3, 1] 0 0 := ⟨RX3, TX3, 7, rfl, fw_3, by decide, na_mem (i := 194) (by decide +kernel) (by decide +kernel)⟩
theorem lk_RX3_78 : na_lk RX3 (.putfield 259) [3, 3, 1] 0 0 := ⟨RX3, TX3, 7, tyX3, rfl, fw_3, tyX3_ok, nmX3, by decide, na_mem (i := 196) (by decide +kernel) (by decide +kernel), rfl, Or.inr (Or.inl ⟨rfl, rfl⟩)⟩
theorem lk_RX3_79 : na_lk RX3 (.getfield 259) [3, 3] 0 0 := ⟨RX3, TX3, 7, rfl, fw_3, by decide, na_mem (i := 196) (by decide +kernel) (by decide +kernel)⟩
theorem lk_RX3_80 : na_lk RX3 (.getfield 35) [3, 6] 0 0 := ⟨RX3, TX3, 7, rfl, fw_3, by decide, na_mem (i := 199) (by decide +kernel) (by decide +kernel)⟩
theorem lk_RX3_81 : na_lk RX3 (.invokestatic 263) [997] 0 0 := na_mem (i := 447) (by decide +kernel) (by decide +kernel)
theorem lk_RX3_82 : na_lk RX3 (.getstatic 266) [3] 0 0 := ⟨_, rfl, Or.inl (na_mem (i := 322) (by decide +kernel) (by decide +kernel))⟩
theorem lk_RX3 : ∀ q ∈ Llk_RX3, na_lk RX3 q.1 q.2.1 q.2.2.1 q.2.2.2 := List.forall_mem_cons.mpr ⟨lk_RX3_0, List.forall_mem_cons.mpr ⟨lk_RX3_1, List.forall_mem_cons.mpr ⟨lk_RX3_2, List.forall_mem_cons.mpr ⟨lk_RX3_3, List.forall_mem_cons.mpr ⟨lk_RX3_4, List.forall_mem_cons.mpr ⟨lk_RX3_5, List.forall_mem_cons.mpr ⟨lk_RX3_6, List.forall_mem_cons.mpr ⟨lk_RX3_7, List.forall_mem_cons.mpr ⟨lk_RX3_8, List.forall_mem_cons.mpr ⟨lk_RX3_9, List.forall_mem_cons.mpr ⟨lk_RX3_10, List.forall_mem_cons.mpr ⟨lk_RX3_11, List.forall_mem_cons.mpr ⟨lk_RX3_12, List.forall_mem_cons.mpr ⟨lk_RX3_13, List.forall_mem_cons.mpr ⟨lk_RX3_14, List.forall_mem_cons.mpr ⟨lk_RX3_15, List.forall_mem_cons.mpr ⟨lk_RX3_16, List.forall_mem_cons.mpr ⟨lk_RX3_17, List.forall_mem_cons.mpr ⟨lk_RX3_18, List.forall_mem_cons.mpr ⟨lk_RX3_19, List.forall_mem_cons.mpr ⟨lk_RX3_20, List.forall_mem_cons.mpr ⟨lk_RX3_21, List.forall_mem_cons.mpr ⟨lk_RX3_22, List.forall_mem_cons.mpr ⟨lk_RX3_23, List.forall_mem_cons.mpr ⟨lk_RX3_24, List.forall_mem_cons.mpr ⟨lk_RX3_25, List.forall_mem_cons.mpr ⟨lk_RX3_26, List.forall_mem_cons.mpr ⟨lk_RX3_27, List.forall_mem_cons.mpr ⟨lk_RX3_28, List.forall_mem_cons.mpr ⟨lk_RX3_29, List.forall_mem_cons.mpr ⟨lk_RX3_30, List.forall_mem_cons.mpr ⟨lk_RX3_31, List.forall_mem_cons.mpr ⟨lk_RX3_32, List.forall_mem_cons.mpr ⟨lk_RX3_33, List.forall_mem_cons.mpr ⟨lk_RX3_34, List.forall_mem_cons.mpr ⟨lk_RX3_35, List.forall_mem_cons.mpr ⟨lk_RX3_36, List.forall_mem_cons.mpr ⟨lk_RX3_37, List.forall_mem_cons.mpr ⟨lk_RX3_38, List.forall_mem_cons.mpr ⟨lk_RX3_39, List.forall_mem_cons.mpr ⟨lk_RX3_40, List.forall_mem_cons.mpr ⟨lk_RX3_41, List.forall_mem_cons.mpr ⟨lk_RX3_42, List.forall_mem_cons.mpr ⟨lk_RX3_43, List.forall_mem_cons.mpr ⟨lk_RX3_44, List.forall_mem_cons.mpr ⟨lk_RX3_45, List.forall_mem_cons.mpr ⟨lk_RX3_46, List.forall_mem_cons.mpr ⟨lk_RX3_47, List.forall_mem_cons.mpr ⟨lk_RX3_48, List.forall_mem_cons.mpr ⟨lk_RX3_49, List.forall_mem_cons.mpr ⟨lk_RX3_50, List.forall_mem_cons.mpr ⟨lk_RX3_51, List.forall_mem_cons.mpr ⟨lk_RX3_52, List.forall_mem_cons.mpr ⟨lk_RX3_53, List.forall_mem_cons.mpr ⟨lk_RX3_54, List.forall_mem_cons.mpr ⟨lk_RX3_55, List.forall_mem_cons.mpr ⟨lk_RX3_56, List.forall_mem_cons.mpr ⟨lk_RX3_57, List.forall_mem_cons.mpr ⟨lk_RX3_58, List.forall_mem_cons.mpr ⟨lk_RX3_59, List.forall_mem_cons.mpr ⟨lk_RX3_60, List.forall_mem_cons.mpr ⟨lk_RX3_61, List.forall_mem_cons.mpr ⟨lk_RX3_62, List.forall_mem_cons.mpr ⟨lk_RX3_63, List.forall_mem_cons.mpr ⟨lk_RX3_64, List.forall_mem_cons.mpr ⟨lk_RX3_65, List.forall_mem_cons.mpr ⟨lk_RX3_66, List.forall_mem_cons.mpr ⟨lk_RX3_67, List.forall_mem_cons.mpr ⟨lk_RX3_68, List.forall_mem_cons.mpr ⟨lk_RX3_69, List.forall_mem_cons.mpr ⟨lk_RX3_70, List.forall_mem_cons.mpr ⟨lk_RX3_71, List.forall_mem_cons.mpr ⟨lk_RX3_72, List.forall_mem_cons.mpr ⟨lk_RX3_73, List.forall_mem_cons.mpr ⟨lk_RX3_74, List.forall_mem_cons.mpr ⟨lk_RX3_75, List.forall_mem_cons.mpr ⟨lk_RX3_76, List.forall_mem_cons.mpr ⟨lk_RX3_77, List.forall_mem_cons.mpr ⟨lk_RX3_78, List.forall_mem_cons.mpr ⟨lk_RX3_79, List.forall_mem_cons.mpr ⟨lk_RX3_80, List.forall_mem_cons.mpr ⟨lk_RX3_81, List.forall_mem_cons.mpr ⟨lk_RX3_82, fun _ h => absurd h List.not_mem_nil⟩⟩⟩⟩⟩⟩⟩⟩⟩⟩⟩⟩⟩⟩⟩⟩⟩⟩⟩⟩⟩⟩⟩⟩⟩⟩⟩⟩⟩⟩⟩⟩⟩⟩⟩⟩⟩⟩⟩⟩⟩⟩⟩⟩⟩⟩⟩⟩⟩⟩⟩⟩⟩⟩⟩⟩⟩⟩⟩⟩⟩⟩⟩⟩⟩⟩⟩⟩⟩⟩⟩⟩⟩⟩⟩⟩⟩⟩⟩⟩⟩⟩⟩
def Llk_RX4 : List Lk := [(.getfield 13, [4, 1], 0, 0),
  (.ldc 41, [], (-1000000001), 0),
  (.getfield 7, [4, 0], 0, 0),
  (.invokestatic 42, [94, 3], 0, 0),
  (.invokestatic 46, [103, 1], 0, 0),
  (.invokestatic 50, [106, 2], 0, 0),
  (.invokevirtual 54, [95, 2, 4], 0, 0),
  (.invokevirtual 58, [100, 3, 4], 0, 0),
  (.invokevirtual 62, [101, 4, 4], 0, 0),
  (.invokevirtual 66, [98, 3, 4], 0, 0),
  (.invokevirtual 69, [117, 2, 4], 0, 0),
  (.invokevirtual 72, [108, 2, 4], 0, 0),
  (.invokevirtual 75, [109, 2, 4], 0, 0),
  (.invokevirtual 78, [111, 3, 4], 0, 0),
  (.invokevirtual 82, [99, 4, 4], 0, 0),
  (.invokestatic 85, [104, 1], 0, 0),
  (.ldc 88, [], (-1000000002), 0),
  (.invokevirtual 89, [114, 4, 4], 0, 0),
  (.invokevirtual 92, [116, 2, 4], 0, 0),
  (.invokevirtual 95, [102, 2, 4], 0, 0),
  (.ldc 98, [], (-1000000003), 0),
  (.invokevirtual 99, [122, 2, 4], 0, 0),
  (.invokevirtual 103, [124, 2, 4], 0, 0),
  (.invokevirtual 106, [125, 2, 4], 0, 0),
  (.invokestatic 109, [96, 2], 0, 0),
  (.invokevirtual 112, [126, 2, 4], 0, 0),
  (.invokevirtual 115, [127, 2, 4], 0, 0),
  (.ldc 118, [], (-1000000005), 0),
  (.invokevirtual 119, [128, 1, 4], 0, 0),
  (.invokevirtual 122, [129, 2, 4], 0, 0),
  (.invokevirtual 125, [130, 1, 4], 0, 0),
  (.invokevirtual 129, [131, 1, 4], 0, 0),
  (.getfield 16, [4, 2], 0, 0),
  (.invokevirtual 132, [185, 3, 4], 0, 0),
  (.invokevirtual 136, [134, 2, 4], 0, 0),
  (.invokevirtual 139, [136, 2, 4], 0, 0),
  (.ldc 142, [], (-1000000004), 0),
  (.invokevirtual 143, [138, 1, 4], 0, 0),
  (.invokevirtual 146, [140, 1, 4], 0, 0),
  (.invokestatic 149, [97, 1], 0, 0),
  (.invokestatic 152, [105, 1], 0, 0),
  (.invokevirtual 155, [143, 2, 4], 0, 0),
  (.invokevirtual 158, [145, 2, 4], 0, 0),
  (.invokevirtual 161, [152, 2, 4], 0, 0),
  (.invokestatic 164, [151, 1], 0, 0),
  (.ldc2_w 168, [], 0, 720),
  (.ldc 170, [], 99999, 0),
  (.invokevirtual 171, [154, 2, 4], 0, 0),
  (.getfield 174, [4, 4], 0, 0),
  (.getfield 19, [4, 3], 0, 0),
  (.putfield 174, [4, 4, 0], 0, 0),
  (.getfield 178, [4, 7], 0, 0),
  (.putfield 181, [4, 6, 0], 0, 0),
  (.getfield 181, [4, 6], 0, 0),
  (.invokevirtual 184, [161, 2, 4], 0, 0),
  (.putfield 178, [4, 7, 0], 0, 0),
  (.invokestatic 187, [162, 1], 0, 0),
  (.invokestatic 190, [163, 1], 0, 0),
  (.putfield 193, [4, 5, 0], 0, 0),
  (.putfield 196, [4, 8, 2], 0, 0),
  (.getfield 193, [4, 5], 0, 0),
  (.putfield 200, [4, 9, 0], 0, 0),
  (.ldc2_w 203, [], 0, 27),
  (.getfield 196, [4, 8], 0, 0),
  (.ldc2_w 205, [], 0, 96),
  (.ldc2_w 207, [], 0, (-1)),
  (.getfield 200, [4, 9], 0, 0),
  (.ldc2_w 209, [], 0, 232608281),
  (.invokevirtual 211, [165, 2, 4], 0, 0),
  (.ldc2_w 215, [], 0, 58204971),
  (.ldc2_w 217, [], 0, 7535943612),
  (.ldc2_w 219, [], 0, 123002136),
  (.ldc2_w 221, [], 0, 1762983),
  (.ldc2_w 223, [], 0, 1810648800),
  (.getfield 225, [4, 10], 0, 0),
  (.putfield 225, [4, 10, 1], 0, 0),
  (.invokevirtual 229, [164, 1, 4], 0, 0),
  (.invokevirtual 232, [167, 3, 4], 0, 0),
  (.ldc2_w 235, [], 0, 257),
  (.ldc2_w 237, [], 0, 279346),
  (.invokevirtual 239, [168, 5, 4], 0, 0),
  (.ldc2_w 243, [], 0, 990),
  (.ldc2_w 245, [], 0, 3554408),
  (.ldc2_w 247, [], 0, 125150),
  (.ldc2_w 249, [], 0, 10811306),
  (.invokevirtual 251, [166, 1, 4], 0, 0),
  (.invokevirtual 254, [169, 2, 4], 0, 0),
  (.ldc2_w 257, [], 0, 365647),
  (.invokevirtual 259, [170, 1, 4], 0, 0),
  (.ldc2_w 262, [], 0, 307058),
  (.invokevirtual 264, [171, 2, 4], 0, 0),
  (.ldc2_w 267, [], 0, 380396),
  (.ldc2_w 269, [], 0, 70312),
  (.ldc2_w 271, [], 0, 262768),
  (.getfield 38, [4, 16], 0, 0),
  (.invokevirtual 273, [172, 1, 4], 0, 0),
  (.invokestatic 276, [174, 1], 0, 0),
  (.ldc_w 279, [], (-1000000007), 0),
  (.getfield 22, [4, 11], 0, 0),
  (.getfield 25, [4, 12], 0, 0),
  (.getfield 28, [4, 13], 0, 0),
  (.ldc_w 280, [], (-1000000006), 0),
  (.invokestatic 281, [175, 2], 0, 0),
  (.invokevirtual 285, [178, 4, 4], 0, 0),
  (.getfield 32, [4, 14], 0, 0),
  (.invokevirtual 288, [180, 2, 4], 0, 0),
  (.ldc2_w 291, [], 0, 9999),
  (.invokevirtual 293, [183, 3, 4], 0, 0),
  (.getfield 35, [4, 15], 0, 0),
  (.putfield 296, [4, 17, 1], 0, 0),
  (.getfield 296, [4, 17], 0, 0)]
theorem lk_RX4_0 : na_lk RX4 (.getfield 13) [4, 1] 0 0 := ⟨RX4, TX4, 18, rfl, fw_4, by decide, na_mem (i := 711) (by decide +kernel) (by decide +kernel)⟩
theorem lk_RX4_1 : na_lk RX4 (.ldc 41) [] (-1000000001) 0 := na_mem (i := 778) (by decide +kernel) (by decide +kernel)
theorem lk_RX4_2 : na_lk RX4 (.getfield 7) [4, 0] 0 0 := ⟨RX4, TX4, 18, rfl, fw_4, by decide, na_mem (i := 710) (by decide +kernel) (by decide +kernel)⟩
theorem lk_RX4_3 : na_lk RX4 (.invokestatic 42) [94, 3] 0 0 := ⟨Or.inl (na_mem (i := 772) (by decide +kernel) (by decide +kernel)), fs_94⟩
theorem lk_RX4_4 : na_lk RX4 (.invokestatic 46) [103, 1] 0 0 := ⟨Or.inl (na_mem (i := 769) (by decide +kernel) (by decide +kernel)), fs_103⟩
theorem lk_RX4_5 : na_lk RX4 (.invokestatic 50) [106, 2] 0 0 := ⟨Or.inl (na_mem (i := 775) (by decide +kernel) (by decide +kernel)), fs_106⟩
theorem lk_RX4_6 : na_lk RX4 (.invokevirtual 54) [95, 2, 4] 0 0 := ⟨na_mem (i := 779) (by decide +kernel) (by decide +kernel), fv_95⟩
theorem lk_RX4_7 : na_lk RX4 (.invokevirtual 58) [100, 3, 4] 0 0 := ⟨na_mem (i := 783) (by decide +kernel) (by decide +kernel), fv_100⟩
theorem lk_RX4_8 : na_lk RX4 (.invokevirtual 62) [101, 4, 4] 0 0 := ⟨na_mem (i := 787) (by decide +kernel) (by decide +kernel), fv_101⟩
theorem lk_RX4_9 : na_lk RX4 (.invokevirtual 66) [98, 3, 4] 0 0 := ⟨na_mem (i := 799) (by decide +kernel) (by decide +kernel), fv_98⟩
theorem lk_RX4_10 : na_lk RX4 (.invokevirtual 69) [117, 2, 4] 0 0 := ⟨na_mem (i := 807) (by decide +kernel) (by decide +kernel), fv_117⟩
theorem lk_RX4_11 : na_lk RX4 (.invokevirtual 72) [108, 2, 4] 0 0 := ⟨na_mem (i := 795) (by decide +kernel) (by decide +kernel), fv_108⟩
theorem lk_RX4_12 : na_lk RX4 (.invokevirtual 75) [109, 2, 4] 0 0 := ⟨na_mem (i := 803) (by decide +kernel) (by decide +kernel), fv_109⟩
theorem lk_RX4_13 : na_lk RX4 (.invokevirtual 78) [111, 3, 4] 0 0 := ⟨na_mem (i := 819) (by decide +kernel) (by decide +kernel), fv_111⟩
theorem lk_RX4_14 : na_lk RX4 (.invokevirtual 82) [99, 4, 4] 0 0 := ⟨na_mem (i := 839) (by decide +kernel) (by decide +kernel), fv_99⟩
theorem lk_RX4_15 : na_lk RX4 (.invokestatic 85) [104, 1] 0 0 := ⟨Or.inl (na_mem (i := 831) (by decide +kernel) (by decide +kernel)), fs_104⟩
theorem lk_RX4_16 : na_lk RX4 (.ldc 88) [] (-1000000002) 0 := na_mem (i := 834) (by decide +kernel) (by decide +kernel)
theorem lk_RX4_17 : na_lk RX4 (.invokevirtual 89) [114, 4, 4] 0 0 := ⟨na_mem (i := 835) (by decide +kernel) (by decide +kernel), fv_114⟩
theorem lk_RX4_18 : na_lk RX4 (.invokevirtual 92) [116, 2, 4] 0 0 := ⟨na_mem (i := 811) (by decide +kernel) (by decide +kernel), fv_116⟩
theorem lk_RX4_19 : na_lk RX4 (.invokevirtual 95) [102, 2, 4] 0 0 := ⟨na_mem (i := 847) (by decide +kernel) (by decide +kernel), fv_102⟩
theorem lk_RX4_20 : na_lk RX4 (.ldc 98) [] (-1000000003) 0 := na_mem (i := 863) (by decide +kernel) (by decide +kernel)
theorem lk_RX4_21 : na_lk RX4 (.invokevirtual 99) [122, 2, 4] 0 0 := ⟨na_mem (i := 868) (by decide +kernel) (by decide +kernel), fv_122⟩
theorem lk_RX4_22 : na_lk RX4 (.invokevirtual 103) [124, 2, 4] 0 0 := ⟨na_mem (i := 881) (by decide +kernel) (by decide +kernel), fv_124⟩
theorem lk_RX4_23 : na_lk RX4 (.invokevirtual 106) [125, 2, 4] 0 0 := ⟨na_mem (i := 885) (by decide +kernel) (by decide +kernel), fv_125⟩
theorem lk_RX4_24 : na_lk RX4 (.invokestatic 109) [96, 2] 0 0 := ⟨Or.inl (na_mem (i := 889) (by decide +kernel) (by decide +kernel)), fs_96⟩
theorem lk_RX4_25 : na_lk RX4 (.invokevirtual 112) [126, 2, 4] 0 0 := ⟨na_mem (i := 892) (by decide +kernel) (by decide +kernel), fv_126⟩
theorem lk_RX4_26 : na_lk RX4 (.invokevirtual 115) [127, 2, 4] 0 0 := ⟨na_mem (i := 896) (by decide +kernel) (by decide +kernel), fv_127⟩
theorem lk_RX4_27 : na_lk RX4 (.ldc 118) [] (-1000000005) 0 := na_mem (i := 876) (by decide +kernel) (by decide +kernel)
theorem lk_RX4_28 : na_lk RX4 (.invokevirtual 119) [128, 1, 4] 0 0 := ⟨na_mem (i := 877) (by decide +kernel) (by decide +kernel), fv_128⟩
theorem lk_RX4_29 : na_lk RX4 (.invokevirtual 122) [129, 2, 4] 0 0 := ⟨na_mem (i := 900) (by decide +kernel) (by decide +kernel), fv_129⟩
theorem lk_RX4_30 : na_lk RX4 (.invokevirtual 125) [130, 1, 4] 0 0 := ⟨na_mem (i := 908) (by decide +kernel) (by decide +kernel), fv_130⟩
theorem lk_RX4_31 : na_lk RX4 (.invokevirtual 129) [131, 1, 4] 0 0 := ⟨na_mem (i := 912) (by decide +kernel) (by decide +kernel), fv_131⟩
theorem lk_RX4_32 : na_lk RX4 (.getfield 16) [4, 2] 0 0 := ⟨RX4, TX4, 18, rfl, fw_4, by decide, na_mem (i := 712) (by decide +kernel) (by decide +kernel)⟩
theorem lk_RX4_33 : na_lk RX4 (.invokevirtual 132) [185, 3, 4] 0 0 := ⟨na_mem (i := 920) (by decide +kernel) (by decide +kernel), fv_185⟩
theorem lk_RX4_34 : na_lk RX4 (.invokevirtual 136) [134, 2, 4] 0 0 := ⟨na_mem (i := 924) (by decide +kernel) (by decide +kernel), fv_134⟩
theorem lk_RX4_35 : na_lk RX4 (.invokevirtual 139) [136, 2, 4] 0 0 := ⟨na_mem (i := 932) (by decide +kernel) (by decide +kernel), fv_136⟩
theorem lk_RX4_36 : na_lk RX4 (.ldc 142) [] (-1000000004) 0 := na_mem (i := 936) (by decide +kernel) (by decide +kernel)
theorem lk_RX4_37 : na_lk RX4 (.invokevirtual 143) [138, 1, 4] 0 0 := ⟨na_mem (i := 941) (by decide +kernel) (by decide +kernel), fv_138⟩
theorem lk_RX4_38 : na_lk RX4 (.invokevirtual 146) [140, 1, 4] 0 0 := ⟨na_mem (i := 949) (by decide +kernel) (by decide +kernel), fv_140⟩
theorem lk_RX4_39 : na_lk RX4 (.invokestatic 149) [97, 1] 0 0 := ⟨Or.inl (na_mem (i := 968) (by decide +kernel) (by decide +kernel)), fs_97⟩
theorem lk_RX4_40 : na_lk RX4 (.invokestatic 152) [105, 1] 0 0 := ⟨Or.inl (na_mem (i := 961) (by decide +kernel) (by decide +kernel)), fs_105⟩
theorem lk_RX4_41 : na_lk RX4 (.invokevirtual 155) [143, 2, 4] 0 0 := ⟨na_mem (i := 964) (by decide +kernel) (by decide +kernel), fv_143⟩
theorem lk_RX4_42 : na_lk RX4 (.invokevirtual 158) [145, 2, 4] 0 0 := ⟨na_mem (i := 975) (by decide +kernel) (by decide +kernel), fv_145⟩
theorem lk_RX4_43 : na_lk RX4 (.invokevirtual 161) [152, 2, 4] 0 0 := ⟨na_mem (i := 999) (by decide +kernel) (by decide +kernel), fv_152⟩
theorem lk_RX4_44 : na_lk RX4 (.invokestatic 164) [151, 1] 0 0 := ⟨Or.inl (na_mem (i := 1003) (by decide +kernel) (by decide +kernel)), fs_151⟩
theorem lk_RX4_45 : na_lk RX4 (.ldc2_w 168) [] 0 720 := na_mem (i := 1006) (by decide +kernel) (by decide +kernel)
theorem lk_RX4_46 : na_lk RX4 (.ldc 170) [] 99999 0 := na_mem (i := 1011) (by decide +kernel) (by decide +kernel)
theorem lk_RX4_47 : na_lk RX4 (.invokevirtual 171) [154, 2, 4] 0 0 := ⟨na_mem (i := 1012) (by decide +kernel) (by decide +kernel), fv_154⟩
theorem lk_RX4_48 : na_lk RX4 (.getfield 174) [4, 4] 0 0 := ⟨RX4, TX4, 18, rfl, fw_4, by decide, na_mem (i := 714) (by decide +kernel) (by decide +kernel)⟩
theorem lk_RX4_49 : na_lk RX4 (.getfield 19) [4, 3] 0 0 := ⟨RX4, TX4, 18, rfl, fw_4, by decide, na_mem (i := 713) (by decide +kernel) (by decide +kernel)⟩
theorem lk_RX4_50 : na_lk RX4 (.putfield 174) [4, 4, 0] 0 0 := ⟨RX4, TX4, 18, tyX4, rfl, fw_4, tyX4_ok, nmX4, by decide, na_mem (i := 714) (by decide +kernel) (by decide +kernel), rfl, Or.inl ⟨rfl, rfl⟩⟩
theorem lk_RX4_51 : na_lk RX4 (.getfield 178) [4, 7] 0 0 := ⟨RX4, TX4, 18, rfl, fw_4, by decide, na_mem (i := 717) (by decide +kernel) (by decide +kernel)⟩
theorem lk_RX4_52 : na_lk RX4 (.putfield 181) [4, 6, 0] 0 0 := ⟨RX4, TX4, 18, tyX4, rfl, fw_4, tyX4_ok, nmX4, by decide, na_mem (i := 716) (by decide +kernel) (by decide +kernel), rfl, Or.inl ⟨rfl, rfl⟩⟩
theorem lk_RX4_53 : na_lk RX4 (.getfield 181) [4, 6] 0 0 := ⟨RX4, TX4, 18, rfl, fw_4, by decide, na_mem (i := 716) (by decide +kernel) (by decide +kernel)⟩
theorem lk_RX4_54 : na_lk RX4 (.invokevirtual 184) [161, 2, 4] 0 0 := ⟨na_mem (i := 1044) (by decide +kernel) (by decide +kernel), fv_161⟩
theorem lk_RX4_55 : na_lk RX4 (.putfield 178) [4, 7, 0] 0 0 := ⟨RX4, TX4, 18, tyX4, rfl, fw_4, tyX4_ok, nmX4, by decide, na_mem (i := 717) (by decide +kernel) (by decide +kernel), rfl, Or.inl ⟨rfl, rfl⟩⟩
theorem lk_RX4_56 : na_lk RX4 (.invokestatic 187) [162, 1] 0 0 := ⟨Or.inl (na_mem (i := 1048) (by decide +kernel) (by decide +kernel)), fs_162⟩
theorem lk_RX4_57 : na_lk RX4 (.invokestatic 190) [163, 1] 0 0 := ⟨Or.inl (na_mem (i := 1051) (by decide +kernel) (by decide +kernel)), fs_163⟩
theorem lk_RX4_58 : na_lk RX4 (.putfield 193) [4, 5, 0] 0 0 := ⟨RX4, TX4, 18, tyX4, rfl, fw_4, tyX4_ok, nmX4, by decide, na_mem (i := 715) (by decide +kernel) (by decide +kernel), rfl, Or.inl ⟨rfl, rfl⟩⟩
theorem lk_RX4_59 : na_lk RX4 (.putfield 196) [4, 8, 2] 0 0 := ⟨RX4, TX4, 18, tyX4, rfl, fw_4, tyX4_ok, nmX4, by decide, na_mem (i := 718) (by decide +kernel) (by decide +kernel), rfl, Or.inr (Or.inr ⟨rfl, rfl⟩)⟩
theorem lk_RX4_60 : na_lk RX4 (.getfield 193) [4, 5] 0 0 := ⟨RX4, TX4, 18, rfl, fw_4, by decide, na_mem (i := 715) (by decide +kernel) (by decide +kernel)⟩
theorem lk_RX4_61 : na_lk RX4 (.putfield 200) [4, 9, 0] 0 0 := ⟨RX4, TX4, 18, tyX4, rfl, fw_4, tyX4_ok, nmX4, by decide, na_mem (i := 719) (by decide +kernel) (by decide +kernel), rfl, Or.inl ⟨rfl, rfl⟩⟩
theorem lk_RX4_62 : na_lk RX4 (.ldc2_w 203) [] 0 27 := na_mem (i := 1054) (by decide +kernel) (by decide +kernel)
theorem lk_RX4_63 : na_lk RX4 (.getfield 196) [4, 8] 0 0 := ⟨RX4, TX4, 18, rfl, fw_4, by decide, na_mem (i := 718) (by decide +kernel) (by decide +kernel)⟩
theorem lk_RX4_64 : na_lk RX4 (.ldc2_w 205) [] 0 96 := na_mem (i := 1055) (by decide +kernel) (by decide +kernel)
theorem lk_RX4_65 : na_lk RX4 (.ldc2_w 207) [] 0 (-1) := na_mem (i := 1056) (by decide +kernel) (by decide +kernel)
theorem lk_RX4_66 : na_lk RX4 (.getfield 200) [4, 9] 0 0 := ⟨RX4, TX4, 18, rfl, fw_4, by decide, na_mem (i := 719) (by decide +kernel) (by decide +kernel)⟩
theorem lk_RX4_67 : na_lk RX4 (.ldc2_w 209) [] 0 232608281 := na_mem (i := 1065) (by decide +kernel) (by decide +kernel)
theorem lk_RX4_68 : na_lk RX4 (.invokevirtual 211) [165, 2, 4] 0 0 := ⟨na_mem (i := 1066) (by decide +kernel) (by decide +kernel), fv_165⟩
theorem lk_RX4_69 : na_lk RX4 (.ldc2_w 215) [] 0 58204971 := na_mem (i := 1070) (by decide +kernel) (by decide +kernel)
theorem lk_RX4_70 : na_lk RX4 (.ldc2_w 217) [] 0 7535943612 := na_mem (i := 1071) (by decide +kernel) (by decide +kernel)
theorem lk_RX4_71 : na_lk RX4 (.ldc2_w 219) [] 0 123002136 := na_mem (i := 1072) (by decide +kernel) (by decide +kernel)
theorem lk_RX4_72 : na_lk RX4 (.ldc2_w 221) [] 0 1762983 := na_mem (i := 1073) (by decide +kernel) (by decide +kernel)
theorem lk_RX4_73 : na_lk RX4 (.ldc2_w 223) [] 0 1810648800 := na_mem (i := 1074) (by decide +kernel) (by decide +kernel)
theorem lk_RX4_74 : na_lk RX4 (.getfield 225) [4, 10] 0 0 := ⟨RX4, TX4, 18, rfl, fw_4, by decide, na_mem (i := 720) (by decide +kernel) (by decide +kernel)⟩
theorem lk_RX4_75 : na_lk RX4 (.putfield 225) [4, 10, 1] 0 0 := ⟨RX4, TX4, 18, tyX4, rfl, fw_4, tyX4_ok, nmX4, by decide, na_mem (i := 720) (by decide +kernel) (by decide +kernel), rfl, Or.inr (Or.inl ⟨rfl, rfl⟩)⟩
theorem lk_RX4_76 : na_lk RX4 (.invokevirtual 229) [164, 1, 4] 0 0 := ⟨na_mem (i := 1040) (by decide +kernel) (by decide +kernel), fv_164⟩
theorem lk_RX4_77 : na_lk RX4 (.invokevirtual 232) [167, 3, 4] 0 0 := ⟨na_mem (i := 1080) (by decide +kernel) (by decide +kernel), fv_167⟩
theorem lk_RX4_78 : na_lk RX4 (.ldc2_w 235) [] 0 257 := na_mem (i := 1079) (by decide +kernel) (by decide +kernel)
theorem lk_RX4_79 : na_lk RX4 (.ldc2_w 237) [] 0 279346 := na_mem (i := 1084) (by decide +kernel) (by decide +kernel)
theorem lk_RX4_80 : na_lk RX4 (.invokevirtual 239) [168, 5, 4] 0 0 := ⟨na_mem (i := 1085) (by decide +kernel) (by decide +kernel), fv_168⟩
theorem lk_RX4_81 : na_lk RX4 (.ldc2_w 243) [] 0 990 := na_mem (i := 1094) (by decide +kernel) (by decide +kernel)
theorem lk_RX4_82 : na_lk RX4 (.ldc2_w 245) [] 0 3554408 := na_mem (i := 1095) (by decide +kernel) (by decide +kernel)
theorem lk_RX4_83 : na_lk RX4 (.ldc2_w 247) [] 0 125150 := na_mem (i := 1096) (by decide +kernel) (by decide +kernel)
theorem lk_RX4_84 : na_lk RX4 (.ldc2_w 249) [] 0 10811306 := na_mem (i := 1097) (by decide +kernel) (by decide +kernel)
theorem lk_RX4_85 : na_lk RX4 (.invokevirtual 251) [166, 1, 4] 0 0 := ⟨na_mem (i := 1061) (by decide +kernel) (by decide +kernel), fv_166⟩
theorem lk_RX4_86 : na_lk RX4 (.invokevirtual 254) [169, 2, 4] 0 0 := ⟨na_mem (i := 1075) (by decide +kernel) (by decide +kernel), fv_169⟩
theorem lk_RX4_87 : na_lk RX4 (.ldc2_w 257) [] 0 365647 := na_mem (i := 1089) (by decide +kernel) (by decide +kernel)
theorem lk_RX4_88 : na_lk RX4 (.invokevirtual 259) [170, 1, 4] 0 0 := ⟨na_mem (i := 1090) (by decide +kernel) (by decide +kernel), fv_170⟩
theorem lk_RX4_89 : na_lk RX4 (.ldc2_w 262) [] 0 307058 := na_mem (i := 1098) (by decide +kernel) (by decide +kernel)
theorem lk_RX4_90 : na_lk RX4 (.invokevirtual 264) [171, 2, 4] 0 0 := ⟨na_mem (i := 1099) (by decide +kernel) (by decide +kernel), fv_171⟩
theorem lk_RX4_91 : na_lk RX4 (.ldc2_w 267) [] 0 380396 := na_mem (i := 1103) (by decide +kernel) (by decide +kernel)
theorem lk_RX4_92 : na_lk RX4 (.ldc2_w 269) [] 0 70312 := na_mem (i := 1104) (by decide +kernel) (by decide +kernel)
theorem lk_RX4_93 : na_lk RX4 (.ldc2_w 271) [] 0 262768 := na_mem (i := 1105) (by decide +kernel) (by decide +kernel)
theorem lk_RX4_94 : na_lk RX4 (.getfield 38) [4, 16] 0 0 := ⟨RX4, TX4, 18, rfl, fw_4, by decide, na_mem (i := 726) (by decide +kernel) (by decide +kernel)⟩
theorem lk_RX4_95 : na_lk RX4 (.invokevirtual 273) [172, 1, 4] 0 0 := ⟨na_mem (i := 1057) (by decide +kernel) (by decide +kernel), fv_172⟩
theorem lk_RX4_96 : na_lk RX4 (.invokestatic 276) [174, 1] 0 0 := ⟨Or.inl (na_mem (i := 1110) (by decide +kernel) (by decide +kernel)), fs_174⟩
theorem lk_RX4_97 : na_lk RX4 (.ldc_w 279) [] (-1000000007) 0 := na_mem (i := 1113) (by decide +kernel) (by decide +kernel)
theorem lk_RX4_98 : na_lk RX4 (.getfield 22) [4, 11] 0 0 := ⟨RX4, TX4, 18, rfl, fw_4, by decide, na_mem (i := 721) (by decide +kernel) (by decide +kernel)⟩
theorem lk_RX4_99 : na_lk RX4 (.getfield 25) [4, 12] 0 0 := ⟨RX4, TX4, 18, rfl, fw_4, by decide, na_mem (i := 722) (by decide +kernel) (by decide +kernel)⟩
theorem lk_RX4_100 : na_lk RX4 (.getfield 28) [4, 13] 0 0 := ⟨RX4, TX4, 18, rfl, fw_4, by decide, na_mem (i := 723) (by decide +kernel) (by decide +kernel)⟩
theorem lk_RX4_101 : na_lk RX4 (.ldc_w 280) [] (-1000000006) 0 := na_mem (i := 1118) (by decide +kernel) (by decide +kernel)
theorem lk_RX4_102 : na_lk RX4 (.invokestatic 281) [175, 2] 0 0 := ⟨Or.inl (na_mem (i := 1119) (by decide +kernel) (by decide +kernel)), fs_175⟩
theorem lk_RX4_103 : na_lk RX4 (.invokevirtual 285) [178, 4, 4] 0 0 := ⟨na_mem (i := 1126) (by decide +kernel) (by decide +kernel), fv_178⟩
theorem lk_RX4_104 : na_lk RX4 (.getfield 32) [4, 14] 0 0 := ⟨RX4, TX4, 18, rfl, fw_4, by decide, na_mem (i := 724) (by decide +kernel) (by decide +kernel)⟩
theorem lk_RX4_105 : na_lk RX4 (.invokevirtual 288) [180, 2, 4] 0 0 := ⟨na_mem (i := 1134) (by decide +kernel) (by decide +kernel), fv_180⟩
theorem lk_RX4_106 : na_lk RX4 (.ldc2_w 291) [] 0 9999 := na_mem (i := 1138) (by decide +kernel) (by decide +kernel)
theorem lk_RX4_107 : na_lk RX4 (.invokevirtual 293) [183, 3, 4] 0 0 := ⟨na_mem (i := 1147) (by decide +kernel) (by decide +kernel), fv_183⟩
theorem lk_RX4_108 : na_lk RX4 (.getfield 35) [4, 15] 0 0 := ⟨RX4, TX4, 18, rfl, fw_4, by decide, na_mem (i := 725) (by decide +kernel) (by decide +kernel)⟩
theorem lk_RX4_109 : na_lk RX4 (.putfield 296) [4, 17, 1] 0 0 := ⟨RX4, TX4, 18, tyX4, rfl, fw_4, tyX4_ok, nmX4, by decide, na_mem (i := 727) (by decide +kernel) (by decide +kernel), rfl, Or.inr (Or.inl ⟨rfl, rfl⟩)⟩
theorem lk_RX4_110 : na_lk RX4 (.getfield 296) [4, 17] 0 0 := ⟨RX4, TX4, 18, rfl, fw_4, by decide, na_mem (i := 727) (by decide +kernel) (by decide +kernel)⟩
theorem lk_RX4 : ∀ q ∈ Llk_RX4, na_lk RX4 q.1 q.2.1 q.2.2.1 q.2.2.2 := List.forall_mem_cons.mpr ⟨lk_RX4_0, List.forall_mem_cons.mpr ⟨lk_RX4_1, List.forall_mem_cons.mpr ⟨lk_RX4_2, List.forall_mem_cons.mpr ⟨lk_RX4_3, List.forall_mem_cons.mpr ⟨lk_RX4_4, List.forall_mem_cons.mpr ⟨lk_RX4_5, List.forall_mem_cons.mpr ⟨lk_RX4_6, List.forall_mem_cons.mpr ⟨lk_RX4_7, List.forall_mem_cons.mpr ⟨lk_RX4_8, List.forall_mem_cons.mpr ⟨lk_RX4_9, List.forall_mem_cons.mpr ⟨lk_RX4_10, List.forall_mem_cons.mpr ⟨lk_RX4_11, List.forall_mem_cons.mpr ⟨lk_RX4_12, List.forall_mem_cons.mpr ⟨lk_RX4_13, List.forall_mem_cons.mpr ⟨lk_RX4_14, List.forall_mem_cons.mpr ⟨lk_RX4_15, List.forall_mem_cons.mpr ⟨lk_RX4_16, List.forall_mem_cons.mpr ⟨lk_RX4_17, List.forall_mem_cons.mpr ⟨lk_RX4_18, List.forall_mem_cons.mpr ⟨lk_RX4_19, List.forall_mem_cons.mpr ⟨lk_RX4_20, List.forall_mem_cons.mpr ⟨lk_RX4_21, List.forall_mem_cons.mpr ⟨lk_RX4_22, List.forall_mem_cons.mpr ⟨lk_RX4_23, List.forall_mem_cons.mpr ⟨lk_RX4_24, List.forall_mem_cons.mpr ⟨lk_RX4_25, List.forall_mem_cons.mpr ⟨lk_RX4_26, List.forall_mem_cons.mpr ⟨lk_RX4_27, List.forall_mem_cons.mpr ⟨lk_RX4_28, List.forall_mem_cons.mpr ⟨lk_RX4_29, List.forall_mem_cons.mpr ⟨lk_RX4_30, List.forall_mem_cons.mpr ⟨lk_RX4_31, List.forall_mem_cons.mpr ⟨lk_RX4_32, List.forall_mem_cons.mpr ⟨lk_RX4_33, List.forall_mem_cons.mpr ⟨lk_RX4_34, List.forall_mem_cons.mpr ⟨lk_RX4_35, List.forall_mem_cons.mpr ⟨lk_RX4_36, List.forall_mem_cons.mpr ⟨lk_RX4_37, List.forall_mem_cons.mpr ⟨lk_RX4_38, List.forall_mem_cons.mpr ⟨lk_RX4_39, List.forall_mem_cons.mpr ⟨lk_RX4_40, List.forall_mem_cons.mpr ⟨lk_RX4_41, List.forall_mem_cons.mpr ⟨lk_RX4_42, List.forall_mem_cons.mpr ⟨lk_RX4_43, List.forall_mem_cons.mpr ⟨lk_RX4_44, List.forall_mem_cons.mpr ⟨lk_RX4_45, List.forall_mem_cons.mpr ⟨lk_RX4_46, List.forall_mem_cons.mpr ⟨lk_RX4_47, List.forall_mem_cons.mpr ⟨lk_RX4_48, List.forall_mem_cons.mpr ⟨lk_RX4_49, List.forall_mem_cons.mpr ⟨lk_RX4_50, List.forall_mem_cons.mpr ⟨lk_RX4_51, List.forall_mem_cons.mpr ⟨lk_RX4_52, List.forall_mem_cons.mpr ⟨lk_RX4_53, List.forall_mem_cons.mpr ⟨lk_RX4_54, List.forall_mem_cons.mpr ⟨lk_RX4_55, List.forall_mem_cons.mpr ⟨lk_RX4_56, List.forall_mem_cons.mpr ⟨lk_RX4_57, List.forall_mem_cons.mpr ⟨lk_RX4_58, List.forall_mem_cons.mpr ⟨lk_RX4_59, List.forall_mem_cons.mpr ⟨lk_RX4_60, List.forall_mem_cons.mpr ⟨lk_RX4_61, List.forall_mem_cons.mpr ⟨lk_RX4_62, List.forall_mem_cons.mpr ⟨lk_RX4_63, List.forall_mem_cons.mpr ⟨lk_RX4_64, List.forall_mem_cons.mpr ⟨lk_RX4_65, List.forall_mem_cons.mpr ⟨lk_RX4_66, List.forall_mem_cons.mpr ⟨lk_RX4_67, List.forall_mem_cons.mpr ⟨lk_RX4_68, List.forall_mem_cons.mpr ⟨lk_RX4_69, List.forall_mem_cons.mpr ⟨lk_RX4_70, List.forall_mem_cons.mpr ⟨lk_RX4_71, List.forall_mem_cons.mpr ⟨lk_RX4_72, List.forall_mem_cons.mpr ⟨lk_RX4_73, List.forall_mem_cons.mpr ⟨lk_RX4_74, List.forall_mem_cons.mpr ⟨lk_RX4_75, List.forall_mem_cons.mpr ⟨lk_RX4_76, List.forall_mem_cons.mpr ⟨lk_RX4_77, List.forall_mem_cons.mpr ⟨lk_RX4_78, List.forall_mem_cons.mpr ⟨lk_RX4_79, List.forall_mem_cons.mpr ⟨lk_RX4_80, List.forall_mem_cons.mpr ⟨lk_RX4_81, List.forall_mem_cons.mpr ⟨lk_RX4_82, List.forall_mem_cons.mpr ⟨lk_RX4_83, List.forall_mem_cons.mpr ⟨lk_RX4_84, List.forall_mem_cons.mpr ⟨lk_RX4_85, List.forall_mem_cons.mpr ⟨lk_RX4_86, List.forall_mem_cons.mpr ⟨lk_RX4_87, List.forall_mem_cons.mpr ⟨lk_RX4_88, List.forall_mem_cons.mpr ⟨lk_RX4_89, List.forall_mem_cons.mpr ⟨lk_RX4_90, List.forall_mem_cons.mpr ⟨lk_RX4_91, List.forall_mem_cons.mpr ⟨lk_RX4_92, List.forall_mem_cons.mpr ⟨lk_RX4_93, List.forall_mem_cons.mpr ⟨lk_RX4_94, List.forall_mem_cons.mpr ⟨lk_RX4_95, List.forall_mem_cons.mpr ⟨lk_RX4_96, List.forall_mem_cons.mpr ⟨lk_RX4_97, List.forall_mem_cons.mpr ⟨lk_RX4_98, List.forall_mem_cons.mpr ⟨lk_RX4_99, List.forall_mem_cons.mpr ⟨lk_RX4_100, List.forall_mem_cons.mpr ⟨lk_RX4_101, List.forall_mem_cons.mpr ⟨lk_RX4_102, List.forall_mem_cons.mpr ⟨lk_RX4_103, List.forall_mem_cons.mpr ⟨lk_RX4_104, List.forall_mem_cons.mpr ⟨lk_RX4_105, List.forall_mem_cons.mpr ⟨lk_RX4_106, List.forall_mem_cons.mpr ⟨lk_RX4_107, List.forall_mem_cons.mpr ⟨lk_RX4_108, List.forall_mem_cons.mpr ⟨lk_RX4_109, List.forall_mem_cons.mpr ⟨lk_RX4_110, fun _ h => absurd h List.not_mem_nil⟩⟩⟩⟩⟩⟩⟩⟩⟩⟩⟩⟩⟩⟩⟩⟩⟩⟩⟩⟩⟩⟩⟩⟩⟩⟩⟩⟩⟩⟩⟩⟩⟩⟩⟩⟩⟩⟩⟩⟩⟩⟩⟩⟩⟩⟩⟩⟩⟩⟩⟩⟩⟩⟩⟩⟩⟩⟩⟩⟩⟩⟩⟩⟩⟩⟩⟩⟩⟩⟩⟩⟩⟩⟩⟩⟩⟩⟩⟩⟩⟩⟩⟩⟩⟩⟩⟩⟩⟩⟩⟩⟩⟩⟩⟩⟩⟩⟩⟩⟩⟩⟩⟩⟩⟩⟩⟩⟩⟩⟩⟩
def Llk_RJ6 : List Lk := [(.ldc_w 264, [], 65536, 0),
  (.ldc_w 265, [], 1431655765, 0),
  (.ldc_w 266, [], 858993459, 0),
  (.ldc_w 267, [], 252645135, 0)]
theorem lk_RJ6_0 : na_lk RJ6 (.ldc_w 264) [] 65536 0 := na_mem (i := 410) (by decide +kernel) (by decide +kernel)
theorem lk_RJ6_1 : na_lk RJ6 (.ldc_w 265) [] 1431655765 0 := na_mem (i := 432) (by decide +kernel) (by decide +kernel)
theorem lk_RJ6_2 : na_lk RJ6 (.ldc_w 266) [] 858993459 0 := na_mem (i := 433) (by decide +kernel) (by decide +kernel)
theorem lk_RJ6_3 : na_lk RJ6 (.ldc_w 267) [] 252645135 0 := na_mem (i := 434) (by decide +kernel) (by decide +kernel)
theorem lk_RJ6 : ∀ q ∈ Llk_RJ6, na_lk RJ6 q.1 q.2.1 q.2.2.1 q.2.2.2 := List.forall_mem_cons.mpr ⟨lk_RJ6_0, List.forall_mem_cons.mpr ⟨lk_RJ6_1, List.forall_mem_cons.mpr ⟨lk_RJ6_2, List.forall_mem_cons.mpr ⟨lk_RJ6_3, fun _ h => absurd h List.not_mem_nil⟩⟩⟩⟩
def Llk_RJ0 : List Lk := [(.getfield 9, [9, 1], 0, 0),
  (.invokevirtual 335, [195, 1, 9], 0, 0),
  (.invokevirtual 492, [196, 1, 9], 0, 0),
  (.invokestatic 495, [198, 2], 0, 0),
  (.invokestatic 498, [998], 0, 0),
  (.getstatic 38, [5], 0, 0),
  (.getfield 15, [9, 0], 0, 0),
  (.getstatic 1053, [6], 0, 0),
  (.invokestatic 1059, [199, 3], 0, 0)]
theorem lk_RJ0_0 : na_lk RJ0 (.getfield 9) [9, 1] 0 0 := ⟨fun h => absurd h (by decide), fun h => na_mem (i := 1172) (by decide +kernel) (by decide +kernel)⟩
theorem lk_RJ0_1 : na_lk RJ0 (.invokevirtual 335) [195, 1, 9] 0 0 := ⟨na_mem (i := 541) (by decide +kernel) (by decide +kernel), fv_195⟩
theorem lk_RJ0_2 : na_lk RJ0 (.invokevirtual 492) [196, 1, 9] 0 0 := ⟨na_mem (i := 551) (by decide +kernel) (by decide +kernel), fv_196⟩
theorem lk_RJ0_3 : na_lk RJ0 (.invokestatic 495) [198, 2] 0 0 := ⟨Or.inl (na_mem (i := 555) (by decide +kernel) (by decide +kernel)), fs_198⟩
theorem lk_RJ0_4 : na_lk RJ0 (.invokestatic 498) [998] 0 0 := trivial
theorem lk_RJ0_5 : na_lk RJ0 (.getstatic 38) [5] 0 0 := ⟨_, rfl, Or.inl (na_mem (i := 545) (by decide +kernel) (by decide +kernel))⟩
theorem lk_RJ0_6 : na_lk RJ0 (.getfield 15) [9, 0] 0 0 := ⟨fun h => na_mem (i := 1173) (by decide +kernel) (by decide +kernel), fun h => absurd h (by decide)⟩
theorem lk_RJ0_7 : na_lk RJ0 (.getstatic 1053) [6] 0 0 := ⟨_, rfl, Or.inl (na_mem (i := 561) (by decide +kernel) (by decide +kernel))⟩
theorem lk_RJ0_8 : na_lk RJ0 (.invokestatic 1059) [199, 3] 0 0 := ⟨Or.inl (na_mem (i := 563) (by decide +kernel) (by decide +kernel)), fs_199⟩
theorem lk_RJ0 : ∀ q ∈ Llk_RJ0, na_lk RJ0 q.1 q.2.1 q.2.2.1 q.2.2.2 := List.forall_mem_cons.mpr ⟨lk_RJ0_0, List.forall_mem_cons.mpr ⟨lk_RJ0_1, List.forall_mem_cons.mpr ⟨lk_RJ0_2, List.forall_mem_cons.mpr ⟨lk_RJ0_3, List.forall_mem_cons.mpr ⟨lk_RJ0_4, List.forall_mem_cons.mpr ⟨lk_RJ0_5, List.forall_mem_cons.mpr ⟨lk_RJ0_6, List.forall_mem_cons.mpr ⟨lk_RJ0_7, List.forall_mem_cons.mpr ⟨lk_RJ0_8, fun _ h => absurd h List.not_mem_nil⟩⟩⟩⟩⟩⟩⟩⟩⟩
def Llk_RJ1 : List Lk := [(.invokestatic 9, [197, 2], 0, 0)]
theorem lk_RJ1_0 : na_lk RJ1 (.invokestatic 9) [197, 2] 0 0 := ⟨Or.inl (na_mem (i := 558) (by decide +kernel) (by decide +kernel)), fs_197⟩
theorem lk_RJ1 : ∀ q ∈ Llk_RJ1, na_lk RJ1 q.1 q.2.1 q.2.2.1 q.2.2.2 := List.forall_mem_cons.mpr ⟨lk_RJ1_0, fun _ h => absurd h List.not_mem_nil⟩
def Llk_RJ3 : List Lk := [(.invokestatic 95, [998], 0, 0)]
theorem lk_RJ3_0 : na_lk RJ3 (.invokestatic 95) [998] 0 0 := trivial
theorem lk_RJ3 : ∀ q ∈ Llk_RJ3, na_lk RJ3 q.1 q.2.1 q.2.2.1 q.2.2.2 := List.forall_mem_cons.mpr ⟨lk_RJ3_0, fun _ h => absurd h List.not_mem_nil⟩
def Llk_RL : List Lk := [(.invokevirtual 13, [40, 4, 3], 0, 0),
  (.invokevirtual 17, [107, 4, 4], 0, 0),
  (.invokevirtual 18, [41, 3, 3], 0, 0),
  (.invokevirtual 22, [110, 3, 4], 0, 0),
  (.invokevirtual 23, [42, 3, 3], 0, 0),
  (.invokevirtual 26, [112, 3, 4], 0, 0),
  (.invokevirtual 27, [43, 2, 3], 0, 0),
  (.invokevirtual 31, [113, 2, 4], 0, 0),
  (.invokevirtual 32, [44, 3, 3], 0, 0),
  (.invokevirtual 35, [115, 3, 4], 0, 0),
  (.invokevirtual 36, [45, 3, 3], 0, 0),
  (.invokevirtual 39, [118, 3, 4], 0, 0),
  (.invokevirtual 40, [46, 4, 3], 0, 0),
  (.invokevirtual 43, [119, 4, 4], 0, 0),
  (.invokevirtual 44, [47, 3, 3], 0, 0),
  (.invokevirtual 47, [120, 3, 4], 0, 0),
  (.invokevirtual 48, [48, 3, 3], 0, 0),
  (.invokevirtual 51, [121, 3, 4], 0, 0),
  (.invokevirtual 52, [49, 2, 3], 0, 0),
  (.invokevirtual 55, [123, 2, 4], 0, 0),
  (.invokevirtual 56, [50, 2, 3], 0, 0),
  (.invokevirtual 59, [132, 2, 4], 0, 0),
  (.invokevirtual 60, [51, 2, 3], 0, 0),
  (.invokevirtual 63, [133, 2, 4], 0, 0),
  (.invokevirtual 64, [52, 4, 3], 0, 0),
  (.invokevirtual 67, [135, 4, 4], 0, 0),
  (.invokevirtual 68, [53, 2, 3], 0, 0),
  (.invokevirtual 71, [137, 2, 4], 0, 0),
  (.invokevirtual 72, [54, 1, 3], 0, 0),
  (.invokevirtual 76, [139, 1, 4], 0, 0),
  (.invokevirtual 77, [55, 1, 3], 0, 0),
  (.invokevirtual 80, [141, 1, 4], 0, 0),
  (.invokevirtual 81, [56, 1, 3], 0, 0),
  (.invokevirtual 84, [142, 1, 4], 0, 0),
  (.invokevirtual 85, [57, 2, 3], 0, 0),
  (.invokevirtual 88, [144, 2, 4], 0, 0),
  (.invokevirtual 89, [58, 3, 3], 0, 0),
  (.invokevirtual 92, [146, 3, 4], 0, 0),
  (.invokevirtual 93, [59, 4, 3], 0, 0),
  (.invokevirtual 96, [147, 4, 4], 0, 0),
  (.invokevirtual 97, [60, 2, 3], 0, 0),
  (.invokevirtual 100, [148, 2, 4], 0, 0),
  (.invokevirtual 101, [61, 3, 3], 0, 0),
  (.invokevirtual 104, [149, 3, 4], 0, 0),
  (.invokevirtual 105, [62, 3, 3], 0, 0),
  (.invokevirtual 108, [150, 3, 4], 0, 0),
  (.invokevirtual 109, [63, 3, 3], 0, 0),
  (.invokevirtual 113, [153, 3, 4], 0, 0),
  (.invokevirtual 114, [64, 2, 3], 0, 0),
  (.invokevirtual 117, [155, 2, 4], 0, 0),
  (.invokevirtual 118, [65, 2, 3], 0, 0),
  (.invokevirtual 121, [156, 2, 4], 0, 0),
  (.invokevirtual 122, [66, 1, 3], 0, 0),
  (.invokevirtual 125, [157, 1, 4], 0, 0),
  (.invokevirtual 126, [67, 4, 3], 0, 0),
  (.invokevirtual 129, [158, 4, 4], 0, 0),
  (.invokevirtual 130, [68, 3, 3], 0, 0),
  (.invokevirtual 133, [159, 3, 4], 0, 0),
  (.invokevirtual 134, [69, 1, 3], 0, 0),
  (.invokevirtual 137, [160, 1, 4], 0, 0),
  (.invokevirtual 138, [70, 1, 3], 0, 0),
  (.invokevirtual 141, [173, 1, 4], 0, 0),
  (.invokevirtual 142, [71, 4, 3], 0, 0),
  (.invokevirtual 145, [176, 4, 4], 0, 0),
  (.ldc2_w 146, [], 0, 4294967295),
  (.invokevirtual 148, [72, 4, 3], 0, 0),
  (.invokevirtual 152, [177, 4, 4], 0, 0),
  (.invokevirtual 153, [73, 6, 3], 0, 0),
  (.invokevirtual 157, [179, 6, 4], 0, 0),
  (.invokevirtual 158, [74, 2, 3], 0, 0),
  (.invokevirtual 161, [181, 2, 4], 0, 0),
  (.invokevirtual 162, [75, 3, 3], 0, 0),
  (.invokevirtual 165, [182, 3, 4], 0, 0),
  (.invokevirtual 166, [76, 3, 3], 0, 0),
  (.invokevirtual 169, [184, 3, 4], 0, 0),
  (.invokevirtual 170, [77, 1, 3], 0, 0),
  (.invokevirtual 173, [186, 1, 4], 0, 0),
  (.invokevirtual 174, [78, 1, 3], 0, 0),
  (.invokevirtual 177, [187, 1, 4], 0, 0),
  (.invokevirtual 178, [79, 1, 3], 0, 0),
  (.invokevirtual 181, [188, 1, 4], 0, 0),
  (.invokevirtual 182, [80, 2, 3], 0, 0),
  (.invokevirtual 185, [189, 2, 4], 0, 0),
  (.invokevirtual 186, [81, 2, 3], 0, 0),
  (.invokevirtual 189, [190, 2, 4], 0, 0)]
theorem lk_RL_0 : na_lk RL (.invokevirtual 13) [40, 4, 3] 0 0 := ⟨na_mem (i := 215) (by decide +kernel) (by decide +kernel), fv_40⟩
theorem lk_RL_1 : na_lk RL (.invokevirtual 17) [107, 4, 4] 0 0 := ⟨na_mem (i := 765) (by decide +kernel) (by decide +kernel), fv_107⟩
theorem lk_RL_2 : na_lk RL (.invokevirtual 18) [41, 3, 3] 0 0 := ⟨na_mem (i := 239) (by decide +kernel) (by decide +kernel), fv_41⟩
theorem lk_RL_3 : na_lk RL (.invokevirtual 22) [110, 3, 4] 0 0 := ⟨na_mem (i := 791) (by decide +kernel) (by decide +kernel), fv_110⟩
theorem lk_RL_4 : na_lk RL (.invokevirtual 23) [42, 3, 3] 0 0 := ⟨na_mem (i := 262) (by decide +kernel) (by decide +kernel), fv_42⟩
theorem lk_RL_5 : na_lk RL (.invokevirtual 26) [112, 3, 4] 0 0 := ⟨na_mem (i := 815) (by decide +kernel) (by decide +kernel), fv_112⟩
theorem lk_RL_6 : na_lk RL (.invokevirtual 27) [43, 2, 3] 0 0 := ⟨na_mem (i := 270) (by decide +kernel) (by decide +kernel), fv_43⟩
theorem lk_RL_7 : na_lk RL (.invokevirtual 31) [113, 2, 4] 0 0 := ⟨na_mem (i := 823) (by decide +kernel) (by decide +kernel), fv_113⟩
theorem lk_RL_8 : na_lk RL (.invokevirtual 32) [44, 3, 3] 0 0 := ⟨na_mem (i := 274) (by decide +kernel) (by decide +kernel), fv_44⟩
theorem lk_RL_9 : na_lk RL (.invokevirtual 35) [115, 3, 4] 0 0 := ⟨na_mem (i := 827) (by decide +kernel) (by decide +kernel), fv_115⟩
theorem lk_RL_10 : na_lk RL (.invokevirtual 36) [45, 3, 3] 0 0 := ⟨na_mem (i := 290) (by decide +kernel) (by decide +kernel), fv_45⟩
theorem lk_RL_11 : na_lk RL (.invokevirtual 39) [118, 3, 4] 0 0 := ⟨na_mem (i := 843) (by decide +kernel) (by decide +kernel), fv_118⟩
theorem lk_RL_12 : na_lk RL (.invokevirtual 40) [46, 4, 3] 0 0 := ⟨na_mem (i := 303) (by decide +kernel) (by decide +kernel), fv_46⟩
theorem lk_RL_13 : na_lk RL (.invokevirtual 43) [119, 4, 4] 0 0 := ⟨na_mem (i := 851) (by decide +kernel) (by decide +kernel), fv_119⟩
theorem lk_RL_14 : na_lk RL (.invokevirtual 44) [47, 3, 3] 0 0 := ⟨na_mem (i := 311) (by decide +kernel) (by decide +kernel), fv_47⟩
theorem lk_RL_15 : na_lk RL (.invokevirtual 47) [120, 3, 4] 0 0 := ⟨na_mem (i := 855) (by decide +kernel) (by decide +kernel), fv_120⟩
theorem lk_RL_16 : na_lk RL (.invokevirtual 48) [48, 3, 3] 0 0 := ⟨na_mem (i := 315) (by decide +kernel) (by decide +kernel), fv_48⟩
theorem lk_RL_17 : na_lk RL (.invokevirtual 51) [121, 3, 4] 0 0 := ⟨na_mem (i := 859) (by decide +kernel) (by decide +kernel), fv_121⟩
theorem lk_RL_18 : na_lk RL (.invokevirtual 52) [49, 2, 3] 0 0 := ⟨na_mem (i := 325) (by decide +kernel) (by decide +kernel), fv_49⟩
theorem lk_RL_19 : na_lk RL (.invokevirtual 55) [123, 2, 4] 0 0 := ⟨na_mem (i := 864) (by decide +kernel) (by decide +kernel), fv_123⟩
theorem lk_RL_20 : na_lk RL (.invokevirtual 56) [50, 2, 3] 0 0 := ⟨na_mem (i := 337) (by decide +kernel) (by decide +kernel), fv_50⟩
theorem lk_RL_21 : na_lk RL (.invokevirtual 59) [132, 2, 4] 0 0 := ⟨na_mem (i := 872) (by decide +kernel) (by decide +kernel), fv_132⟩
theorem lk_RL_22 : na_lk RL (.invokevirtual 60) [51, 2, 3] 0 0 := ⟨na_mem (i := 372) (by decide +kernel) (by decide +kernel), fv_51⟩
theorem lk_RL_23 : na_lk RL (.invokevirtual 63) [133, 2, 4] 0 0 := ⟨na_mem (i := 904) (by decide +kernel) (by decide +kernel), fv_133⟩
theorem lk_RL_24 : na_lk RL (.invokevirtual 64) [52, 4, 3] 0 0 := ⟨na_mem (i := 380) (by decide +kernel) (by decide +kernel), fv_52⟩
theorem lk_RL_25 : na_lk RL (.invokevirtual 67) [135, 4, 4] 0 0 := ⟨na_mem (i := 916) (by decide +kernel) (by decide +kernel), fv_135⟩
theorem lk_RL_26 : na_lk RL (.invokevirtual 68) [53, 2, 3] 0 0 := ⟨na_mem (i := 393) (by decide +kernel) (by decide +kernel), fv_53⟩
theorem lk_RL_27 : na_lk RL (.invokevirtual 71) [137, 2, 4] 0 0 := ⟨na_mem (i := 928) (by decide +kernel) (by decide +kernel), fv_137⟩
theorem lk_RL_28 : na_lk RL (.invokevirtual 72) [54, 1, 3] 0 0 := ⟨na_mem (i := 402) (by decide +kernel) (by decide +kernel), fv_54⟩
theorem lk_RL_29 : na_lk RL (.invokevirtual 76) [139, 1, 4] 0 0 := ⟨na_mem (i := 937) (by decide +kernel) (by decide +kernel), fv_139⟩
theorem lk_RL_30 : na_lk RL (.invokevirtual 77) [55, 1, 3] 0 0 := ⟨na_mem (i := 411) (by decide +kernel) (by decide +kernel), fv_55⟩
theorem lk_RL_31 : na_lk RL (.invokevirtual 80) [141, 1, 4] 0 0 := ⟨na_mem (i := 945) (by decide +kernel) (by decide +kernel), fv_141⟩
theorem lk_RL_32 : na_lk RL (.invokevirtual 81) [56, 1, 3] 0 0 := ⟨na_mem (i := 415) (by decide +kernel) (by decide +kernel), fv_56⟩
theorem lk_RL_33 : na_lk RL (.invokevirtual 84) [142, 1, 4] 0 0 := ⟨na_mem (i := 953) (by decide +kernel) (by decide +kernel), fv_142⟩
theorem lk_RL_34 : na_lk RL (.invokevirtual 85) [57, 2, 3] 0 0 := ⟨na_mem (i := 419) (by decide +kernel) (by decide +kernel), fv_57⟩
theorem lk_RL_35 : na_lk RL (.invokevirtual 88) [144, 2, 4] 0 0 := ⟨na_mem (i := 957) (by decide +kernel) (by decide +kernel), fv_144⟩
theorem lk_RL_36 : na_lk RL (.invokevirtual 89) [58, 3, 3] 0 0 := ⟨na_mem (i := 435) (by decide +kernel) (by decide +kernel), fv_58⟩
theorem lk_RL_37 : na_lk RL (.invokevirtual 92) [146, 3, 4] 0 0 := ⟨na_mem (i := 971) (by decide +kernel) (by decide +kernel), fv_146⟩
theorem lk_RL_38 : na_lk RL (.invokevirtual 93) [59, 4, 3] 0 0 := ⟨na_mem (i := 439) (by decide +kernel) (by decide +kernel), fv_59⟩
theorem lk_RL_39 : na_lk RL (.invokevirtual 96) [147, 4, 4] 0 0 := ⟨na_mem (i := 979) (by decide +kernel) (by decide +kernel), fv_147⟩
theorem lk_RL_40 : na_lk RL (.invokevirtual 97) [60, 2, 3] 0 0 := ⟨na_mem (i := 448) (by decide +kernel) (by decide +kernel), fv_60⟩
theorem lk_RL_41 : na_lk RL (.invokevirtual 100) [148, 2, 4] 0 0 := ⟨na_mem (i := 983) (by decide +kernel) (by decide +kernel), fv_148⟩
theorem lk_RL_42 : na_lk RL (.invokevirtual 101) [61, 3, 3] 0 0 := ⟨na_mem (i := 452) (by decide +kernel) (by decide +kernel), fv_61⟩
theorem lk_RL_43 : na_lk RL (.invokevirtual 104) [149, 3, 4] 0 0 := ⟨na_mem (i := 987) (by decide +kernel) (by decide +kernel), fv_149⟩
theorem lk_RL_44 : na_lk RL (.invokevirtual 105) [62, 3, 3] 0 0 := ⟨na_mem (i := 456) (by decide +kernel) (by decide +kernel), fv_62⟩
theorem lk_RL_45 : na_lk RL (.invokevirtual 108) [150, 3, 4] 0 0 := ⟨na_mem (i := 991) (by decide +kernel) (by decide +kernel), fv_150⟩
theorem lk_RL_46 : na_lk RL (.invokevirtual 109) [63, 3, 3] 0 0 := ⟨na_mem (i := 460) (by decide +kernel) (by decide +kernel), fv_63⟩
theorem lk_RL_47 : na_lk RL (.invokevirtual 113) [153, 3, 4] 0 0 := ⟨na_mem (i := 995) (by decide +kernel) (by decide +kernel), fv_153⟩
theorem lk_RL_48 : na_lk RL (.invokevirtual 114) [64, 2, 3] 0 0 := ⟨na_mem (i := 476) (by decide +kernel) (by decide +kernel), fv_64⟩
theorem lk_RL_49 : na_lk RL (.invokevirtual 117) [155, 2, 4] 0 0 := ⟨na_mem (i := 1007) (by decide +kernel) (by decide +kernel), fv_155⟩
theorem lk_RL_50 : na_lk RL (.invokevirtual 118) [65, 2, 3] 0 0 := ⟨na_mem (i := 485) (by decide +kernel) (by decide +kernel), fv_65⟩
theorem lk_RL_51 : na_lk RL (.invokevirtual 121) [156, 2, 4] 0 0 := ⟨na_mem (i := 1016) (by decide +kernel) (by decide +kernel), fv_156⟩
theorem lk_RL_52 : na_lk RL (.invokevirtual 122) [66, 1, 3] 0 0 := ⟨na_mem (i := 489) (by decide +kernel) (by decide +kernel), fv_66⟩
theorem lk_RL_53 : na_lk RL (.invokevirtual 125) [157, 1, 4] 0 0 := ⟨na_mem (i := 1020) (by decide +kernel) (by decide +kernel), fv_157⟩
theorem lk_RL_54 : na_lk RL (.invokevirtual 126) [67, 4, 3] 0 0 := ⟨na_mem (i := 493) (by decide +kernel) (by decide +kernel), fv_67⟩
theorem lk_RL_55 : na_lk RL (.invokevirtual 129) [158, 4, 4] 0 0 := ⟨na_mem (i := 1024) (by decide +kernel) (by decide +kernel), fv_158⟩
theorem lk_RL_56 : na_lk RL (.invokevirtual 130) [68, 3, 3] 0 0 := ⟨na_mem (i := 497) (by decide +kernel) (by decide +kernel), fv_68⟩
theorem lk_RL_57 : na_lk RL (.invokevirtual 133) [159, 3, 4] 0 0 := ⟨na_mem (i := 1028) (by decide +kernel) (by decide +kernel), fv_159⟩
theorem lk_RL_58 : na_lk RL (.invokevirtual 134) [69, 1, 3] 0 0 := ⟨na_mem (i := 505) (by decide +kernel) (by decide +kernel), fv_69⟩
theorem lk_RL_59 : na_lk RL (.invokevirtual 137) [160, 1, 4] 0 0 := ⟨na_mem (i := 1032) (by decide +kernel) (by decide +kernel), fv_160⟩
theorem lk_RL_60 : na_lk RL (.invokevirtual 138) [70, 1, 3] 0 0 := ⟨na_mem (i := 509) (by decide +kernel) (by decide +kernel), fv_70⟩
theorem lk_RL_61 : na_lk RL (.invokevirtual 141) [173, 1, 4] 0 0 := ⟨na_mem (i := 1036) (by decide +kernel) (by decide +kernel), fv_173⟩
theorem lk_RL_62 : na_lk RL (.invokevirtual 142) [71, 4, 3] 0 0 := ⟨na_mem (i := 633) (by decide +kernel) (by decide +kernel), fv_71⟩
theorem lk_RL_63 : na_lk RL (.invokevirtual 145) [176, 4, 4] 0 0 := ⟨na_mem (i := 1106) (by decide +kernel) (by decide +kernel), fv_176⟩
theorem lk_RL_64 : na_lk RL (.ldc2_w 146) [] 0 4294967295 := na_mem (i := 1171) (by decide +kernel) (by decide +kernel)
theorem lk_RL_65 : na_lk RL (.invokevirtual 148) [72, 4, 3] 0 0 := ⟨na_mem (i := 645) (by decide +kernel) (by decide +kernel), fv_72⟩
theorem lk_RL_66 : na_lk RL (.invokevirtual 152) [177, 4, 4] 0 0 := ⟨na_mem (i := 1114) (by decide +kernel) (by decide +kernel), fv_177⟩
theorem lk_RL_67 : na_lk RL (.invokevirtual 153) [73, 6, 3] 0 0 := ⟨na_mem (i := 658) (by decide +kernel) (by decide +kernel), fv_73⟩
theorem lk_RL_68 : na_lk RL (.invokevirtual 157) [179, 6, 4] 0 0 := ⟨na_mem (i := 1122) (by decide +kernel) (by decide +kernel), fv_179⟩
theorem lk_RL_69 : na_lk RL (.invokevirtual 158) [74, 2, 3] 0 0 := ⟨na_mem (i := 667) (by decide +kernel) (by decide +kernel), fv_74⟩
theorem lk_RL_70 : na_lk RL (.invokevirtual 161) [181, 2, 4] 0 0 := ⟨na_mem (i := 1130) (by decide +kernel) (by decide +kernel), fv_181⟩
theorem lk_RL_71 : na_lk RL (.invokevirtual 162) [75, 3, 3] 0 0 := ⟨na_mem (i := 672) (by decide +kernel) (by decide +kernel), fv_75⟩
theorem lk_RL_72 : na_lk RL (.invokevirtual 165) [182, 3, 4] 0 0 := ⟨na_mem (i := 1139) (by decide +kernel) (by decide +kernel), fv_182⟩
theorem lk_RL_73 : na_lk RL (.invokevirtual 166) [76, 3, 3] 0 0 := ⟨na_mem (i := 676) (by decide +kernel) (by decide +kernel), fv_76⟩
theorem lk_RL_74 : na_lk RL (.invokevirtual 169) [184, 3, 4] 0 0 := ⟨na_mem (i := 1143) (by decide +kernel) (by decide +kernel), fv_184⟩
theorem lk_RL_75 : na_lk RL (.invokevirtual 170) [77, 1, 3] 0 0 := ⟨na_mem (i := 684) (by decide +kernel) (by decide +kernel), fv_77⟩
theorem lk_RL_76 : na_lk RL (.invokevirtual 173) [186, 1, 4] 0 0 := ⟨na_mem (i := 1151) (by decide +kernel) (by decide +kernel), fv_186⟩
theorem lk_RL_77 : na_lk RL (.invokevirtual 174) [78, 1, 3] 0 0 := ⟨na_mem (i := 688) (by decide +kernel) (by decide +kernel), fv_78⟩
theorem lk_RL_78 : na_lk RL (.invokevirtual 177) [187, 1, 4] 0 0 := ⟨na_mem (i := 1155) (by decide +kernel) (by decide +kernel), fv_187⟩
theorem lk_RL_79 : na_lk RL (.invokevirtual 178) [79, 1, 3] 0 0 := ⟨na_mem (i := 692) (by decide +kernel) (by decide +kernel), fv_79⟩
theorem lk_RL_80 : na_lk RL (.invokevirtual 181) [188, 1, 4] 0 0 := ⟨na_mem (i := 1159) (by decide +kernel) (by decide +kernel), fv_188⟩
theorem lk_RL_81 : na_lk RL (.invokevirtual 182) [80, 2, 3] 0 0 := ⟨na_mem (i := 696) (by decide +kernel) (by decide +kernel), fv_80⟩
theorem lk_RL_82 : na_lk RL (.invokevirtual 185) [189, 2, 4] 0 0 := ⟨na_mem (i := 1163) (by decide +kernel) (by decide +kernel), fv_189⟩
theorem lk_RL_83 : na_lk RL (.invokevirtual 186) [81, 2, 3] 0 0 := ⟨na_mem (i := 700) (by decide +kernel) (by decide +kernel), fv_81⟩
theorem lk_RL_84 : na_lk RL (.invokevirtual 189) [190, 2, 4] 0 0 := ⟨na_mem (i := 1167) (by decide +kernel) (by decide +kernel), fv_190⟩
theorem lk_RL : ∀ q ∈ Llk_RL, na_lk RL q.1 q.2.1 q.2.2.1 q.2.2.2 := List.forall_mem_cons.mpr ⟨lk_RL_0, List.forall_mem_cons.mpr ⟨lk_RL_1, List.forall_mem_cons.mpr ⟨lk_RL_2, List.forall_mem_cons.mpr ⟨lk_RL_3, List.forall_mem_cons.mpr ⟨lk_RL_4, List.forall_mem_cons.mpr ⟨lk_RL_5, List.forall_mem_cons.mpr ⟨lk_RL_6, List.forall_mem_cons.mpr ⟨lk_RL_7, List.forall_mem_cons.mpr ⟨lk_RL_8, List.forall_mem_cons.mpr ⟨lk_RL_9, List.forall_mem_cons.mpr ⟨lk_RL_10, List.forall_mem_cons.mpr ⟨lk_RL_11, List.forall_mem_cons.mpr ⟨lk_RL_12, List.forall_mem_cons.mpr ⟨lk_RL_13, List.forall_mem_cons.mpr ⟨lk_RL_14, List.forall_mem_cons.mpr ⟨lk_RL_15, List.forall_mem_cons.mpr ⟨lk_RL_16, List.forall_mem_cons.mpr ⟨lk_RL_17, List.forall_mem_cons.mpr ⟨lk_RL_18, List.forall_mem_cons.mpr ⟨lk_RL_19, List.forall_mem_cons.mpr ⟨lk_RL_20, List.forall_mem_cons.mpr ⟨lk_RL_21, List.forall_mem_cons.mpr ⟨lk_RL_22, List.forall_mem_cons.mpr ⟨lk_RL_23, List.forall_mem_cons.mpr ⟨lk_RL_24, List.forall_mem_cons.mpr ⟨lk_RL_25, List.forall_mem_cons.mpr ⟨lk_RL_26, List.forall_mem_cons.mpr ⟨lk_RL_27, List.forall_mem_cons.mpr ⟨lk_RL_28, List.forall_mem_cons.mpr ⟨lk_RL_29, List.forall_mem_cons.mpr ⟨lk_RL_30, List.forall_mem_cons.mpr ⟨lk_RL_31, List.forall_mem_cons.mpr ⟨lk_RL_32, List.forall_mem_cons.mpr ⟨lk_RL_33, List.forall_mem_cons.mpr ⟨lk_RL_34, List.forall_mem_cons.mpr ⟨lk_RL_35, List.forall_mem_cons.mpr ⟨lk_RL_36, List.forall_mem_cons.mpr ⟨lk_RL_37, List.forall_mem_cons.mpr ⟨lk_RL_38, List.forall_mem_cons.mpr ⟨lk_RL_39, List.forall_mem_cons.mpr ⟨lk_RL_40, List.forall_mem_cons.mpr ⟨lk_RL_41, List.forall_mem_cons.mpr ⟨lk_RL_42, List.forall_mem_cons.mpr ⟨lk_RL_43, List.forall_mem_cons.mpr ⟨lk_RL_44, List.forall_mem_cons.mpr ⟨lk_RL_45, List.forall_mem_cons.mpr ⟨lk_RL_46, List.forall_mem_cons.mpr ⟨lk_RL_47, List.forall_mem_cons.mpr ⟨lk_RL_48, List.forall_mem_cons.mpr ⟨lk_RL_49, List.forall_mem_cons.mpr ⟨lk_RL_50, List.forall_mem_cons.mpr ⟨lk_RL_51, List.forall_mem_cons.mpr ⟨lk_RL_52, List.forall_mem_cons.mpr ⟨lk_RL_53, List.forall_mem_cons.mpr ⟨lk_RL_54, List.forall_mem_cons.mpr ⟨lk_RL_55, List.forall_mem_cons.mpr ⟨lk_RL_56, List.forall_mem_cons.mpr ⟨lk_RL_57, List.forall_mem_cons.mpr ⟨lk_RL_58, List.forall_mem_cons.mpr ⟨lk_RL_59, List.forall_mem_cons.mpr ⟨lk_RL_60, List.forall_mem_cons.mpr ⟨lk_RL_61, List.forall_mem_cons.mpr ⟨lk_RL_62, List.forall_mem_cons.mpr ⟨lk_RL_63, List.forall_mem_cons.mpr ⟨lk_RL_64, List.forall_mem_cons.mpr ⟨lk_RL_65, List.forall_mem_cons.mpr ⟨lk_RL_66, List.forall_mem_cons.mpr ⟨lk_RL_67, List.forall_mem_cons.mpr ⟨lk_RL_68, List.forall_mem_cons.mpr ⟨lk_RL_69, List.forall_mem_cons.mpr ⟨lk_RL_70, List.forall_mem_cons.mpr ⟨lk_RL_71, List.forall_mem_cons.mpr ⟨lk_RL_72, List.forall_mem_cons.mpr ⟨lk_RL_73, List.forall_mem_cons.mpr ⟨lk_RL_74, List.forall_mem_cons.mpr ⟨lk_RL_75, List.forall_mem_cons.mpr ⟨lk_RL_76, List.forall_mem_cons.mpr ⟨lk_RL_77, List.forall_mem_cons.mpr ⟨lk_RL_78, List.forall_mem_cons.mpr ⟨lk_RL_79, List.forall_mem_cons.mpr ⟨lk_RL_80, List.forall_mem_cons.mpr ⟨lk_RL_81, List.forall_mem_cons.mpr ⟨lk_RL_82, List.forall_mem_cons.mpr ⟨lk_RL_83, List.forall_mem_cons.mpr ⟨lk_RL_84, fun _ h => absurd h List.not_mem_nil⟩⟩⟩⟩⟩⟩⟩⟩⟩⟩⟩⟩⟩⟩⟩⟩⟩⟩⟩⟩⟩⟩⟩⟩⟩⟩⟩⟩⟩⟩⟩⟩⟩⟩⟩⟩⟩⟩⟩⟩⟩⟩⟩⟩⟩⟩⟩⟩⟩⟩⟩⟩⟩⟩⟩⟩⟩⟩⟩⟩⟩⟩⟩⟩⟩⟩⟩⟩⟩⟩⟩⟩⟩⟩⟩⟩⟩⟩⟩⟩⟩⟩⟩⟩⟩
