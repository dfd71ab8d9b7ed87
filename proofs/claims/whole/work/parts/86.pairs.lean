/-! PAIRS: write -/
def nwC (b : Int32) (v : Int64) : Int64 := if b = 8 then v.toInt32.toInt8.toInt32.toInt64 else if b = 16 then v.toInt32.toInt16.toInt32.toInt64 else v
theorem sgn8 (x : BitVec 64) : ((x <<< 56).sshiftRight 56).toInt = (x.toInt.bmod (2 ^ 32)).bmod (2 ^ 8) := by
  rw [BitVec.toInt_sshiftRight, BitVec.toInt_eq_toNat_bmod, BitVec.toNat_shiftLeft, Nat.shiftLeft_eq, BitVec.toInt_eq_toNat_bmod x, Int.shiftRight_eq_div_pow]
  have h := x.isLt
  generalize x.toNat = N at *
  simp only [Int.bmod_def]
  omega
theorem sgn16 (x : BitVec 64) : ((x <<< 48).sshiftRight 48).toInt = (x.toInt.bmod (2 ^ 32)).bmod (2 ^ 16) := by
  rw [BitVec.toInt_sshiftRight, BitVec.toInt_eq_toNat_bmod, BitVec.toNat_shiftLeft, Nat.shiftLeft_eq, BitVec.toInt_eq_toNat_bmod x, Int.shiftRight_eq_div_pow]
  have h := x.isLt
  generalize x.toNat = N at *
  simp only [Int.bmod_def]
  omega
theorem nw8 (v : Int64) : (v <<< ((56 : Int32).toInt64 &&& 63)) >>> ((56 : Int32).toInt64 &&& 63) = v.toInt32.toInt8.toInt32.toInt64 := by
  apply Int64.toInt_inj.mp
  rw [Int32.toInt_toInt64, Int8.toInt_toInt32, Int32.toInt_toInt8, Int64.toInt_toInt32]
  exact sgn8 v.toBitVec
theorem nw16 (v : Int64) : (v <<< ((48 : Int32).toInt64 &&& 63)) >>> ((48 : Int32).toInt64 &&& 63) = v.toInt32.toInt16.toInt32.toInt64 := by
  apply Int64.toInt_inj.mp
  rw [Int32.toInt_toInt64, Int16.toInt_toInt32, Int32.toInt_toInt16, Int64.toInt_toInt32]
  exact sgn16 v.toBitVec
theorem nbd40 {v x : Int32} {P : Nat} (hx : x = nI P) (hP : P ≤ 40) (h : ¬ outP v 0 (x - 1)) : ∃ p, p < P ∧ v = nI p := by
  have h1 : ¬ v < 0 := fun q => h (Or.inl q)
  have h2 : ¬ x - 1 < v := fun q => h (Or.inr q)
  obtain ⟨j, hj, rfl⟩ := nI_of h1
  refine ⟨j, ?_, rfl⟩
  rw [hx, lt_i, nI_toInt hj] at h2
  have e : (nI P - 1).toInt = (P : Int) - 1 := by
    rw [tS (by rw [nI_toInt (by omega), i1]; omega) (by rw [nI_toInt (by omega), i1]; omega), nI_toInt (by omega), i1]
  omega
theorem Sim.wrote {I : Mm} {J : Ml} (h : Sim I J) {s i : Nat} (hs : s < 4) (hi : i < 40) (x : Int64) : Sim I (na_setL (na_setL J (35 + 2 * s) i x) 50 (40 * s + i) x) := by
  obtain ⟨-, -, n, -, e1, -, e3⟩ := h.2.2.2.1 s hs
  refine h.sheetJ (s := s) (fun t ht hne j hj => ⟨?_, ?_⟩) (fun m hm e2 j hj => ?_)
  · rw [na_setL_get, if_neg (by omega), na_setL_get, if_neg (by omega)]
  · rw [na_setL_get, if_neg (by omega), na_setL_get, if_neg (by omega)]
  · obtain ⟨-, -, n', hn', e1', -, e3'⟩ := h.2.2.2.1 s hs
    rw [na_setL_get, if_neg (by omega), na_setL_get, na_setL_get]
    by_cases e : j = i
    · subst e
      rw [if_pos ⟨rfl, rfl⟩, if_pos ⟨rfl, rfl⟩]
    · rw [if_neg (by omega), if_neg (by omega), na_setL_get, if_neg (by omega)]
      have : n' = m := (nI_eq (by omega) (by omega)).mp (e1'.symm.trans e2)
      exact e3' j (by omega)
set_option maxRecDepth 100000 in
set_option maxHeartbeats 4000000 in
theorem m_nar (sx : Nat × (Nat → Int32)) (b : Int32) (v : Int64) (I : Mm) (J : Ml) : Mt sx MX4_narrow [.int b, .long v] I J (fun r I' J' => I = I' ∧ J = J' ∧ r = some (.long (nwC b v))) := by
  refine Mt.of2 _ rfl (by decide +kernel) (Nat.le_of_ble_eq_true rfl) ?_
  refine GW.run kX4_narrow (fun _ => false) 50 0 rfl ?_
  refine And.intro (fun h1 => ?_) (fun h1 => ?_)
  · -- pc 3 .if_icmp .ne 13: yes
    refine And.intro (fun h2 => ?_) (fun h2 => ?_)
    · -- pc 19 .if_icmp .ne 13: yes
      exact ⟨rfl, rfl, congrArg (fun x => some (Value.long x)) (by rw [nwC, if_neg h1, if_neg h2])⟩
    · -- pc 19 .if_icmp .ne 13: no
      exact ⟨rfl, rfl, congrArg (fun x => some (Value.long x)) (by rw [nwC, if_neg h1, if_pos h2]; exact nw16 v)⟩
  · -- pc 3 .if_icmp .ne 13: no
    exact ⟨rfl, rfl, congrArg (fun x => some (Value.long x)) (by rw [nwC, if_pos h1]; exact nw8 v)⟩
set_option maxRecDepth 100000 in
set_option maxHeartbeats 4000000 in
theorem c_miss0 (sx : Nat × (Nat → Int32)) (I : Mm) (J : Ml) : Mt sx MX1_isMissing [.ref 34] I J (na_b I J (I 34 1 = 0)) := by
  refine Mt.of2 _ rfl (by decide +kernel) (Nat.le_of_ble_eq_true rfl) ?_
  refine GW.run kX1_isMissing (fun _ => false) 37 0 rfl ?_
  refine And.intro (fun h1 => ?_) (fun h1 => ?_)
  · -- pc 4 .ifCond .ne 7: yes
    exact ⟨na_nl_b0, rfl, rfl, Or.inr ⟨h1, rfl⟩⟩
  · -- pc 4 .ifCond .ne 7: no
    exact ⟨na_nl_b1, rfl, rfl, Or.inl ⟨h1, rfl⟩⟩
set_option maxRecDepth 100000 in
set_option maxHeartbeats 4000000 in
theorem c_put0 (sx : Nat × (Nat → Int32)) (i : Int32) (hi : vp_in i 40) (v : Int64) (I : Mm) (J : Ml) : Mt sx MX1_put [.ref 34, .int i, .long v] I J (fun r I' J' => I = I' ∧ na_setL J 35 i.toNatClampNeg (nwC (I 34 1) v) = J' ∧ r = none) := by
  refine Mt.of2 _ rfl (by decide +kernel) (Nat.le_of_ble_eq_true rfl) ?_
  refine GW.run kX1_put (fun _ => false) 62 0 rfl ?_
  refine And.intro (fun h1 => ?_) (fun h1 => ?_)
  · -- pc 6 .if_icmp .ne 16: yes
    refine And.intro (fun h2 => ?_) (fun h2 => ?_)
    · -- pc 28 .if_icmp .ne 16: yes
      refine And.intro (hi) ?_
      exact ⟨rfl, by rw [nwC, if_neg (show ¬ I 34 1 = 8 from h1), if_neg (show ¬ I 34 1 = 16 from h2)], rfl⟩
    · -- pc 28 .if_icmp .ne 16: no
      refine And.intro (hi) ?_
      exact ⟨rfl, by rw [nwC, if_neg (show ¬ I 34 1 = 8 from h1), if_pos (show I 34 1 = 16 from h2)], rfl⟩
  · -- pc 6 .if_icmp .ne 16: no
    refine And.intro (hi) ?_
    exact ⟨rfl, by rw [nwC, if_pos (show I 34 1 = 8 from h1)], rfl⟩
set_option maxRecDepth 100000 in
set_option maxHeartbeats 4000000 in
theorem c_miss1 (sx : Nat × (Nat → Int32)) (I : Mm) (J : Ml) : Mt sx MX1_isMissing [.ref 36] I J (na_b I J (I 36 1 = 0)) := by
  refine Mt.of2 _ rfl (by decide +kernel) (Nat.le_of_ble_eq_true rfl) ?_
  refine GW.run kX1_isMissing (fun _ => false) 37 0 rfl ?_
  refine And.intro (fun h1 => ?_) (fun h1 => ?_)
  · -- pc 4 .ifCond .ne 7: yes
    exact ⟨na_nl_b0, rfl, rfl, Or.inr ⟨h1, rfl⟩⟩
  · -- pc 4 .ifCond .ne 7: no
    exact ⟨na_nl_b1, rfl, rfl, Or.inl ⟨h1, rfl⟩⟩
set_option maxRecDepth 100000 in
set_option maxHeartbeats 4000000 in
theorem c_put1 (sx : Nat × (Nat → Int32)) (i : Int32) (hi : vp_in i 40) (v : Int64) (I : Mm) (J : Ml) : Mt sx MX1_put [.ref 36, .int i, .long v] I J (fun r I' J' => I = I' ∧ na_setL J 37 i.toNatClampNeg (nwC (I 36 1) v) = J' ∧ r = none) := by
  refine Mt.of2 _ rfl (by decide +kernel) (Nat.le_of_ble_eq_true rfl) ?_
  refine GW.run kX1_put (fun _ => false) 62 0 rfl ?_
  refine And.intro (fun h1 => ?_) (fun h1 => ?_)
  · -- pc 6 .if_icmp .ne 16: yes
    refine And.intro (fun h2 => ?_) (fun h2 => ?_)
    · -- pc 28 .if_icmp .ne 16: yes
      refine And.intro (hi) ?_
      exact ⟨rfl, by rw [nwC, if_neg (show ¬ I 36 1 = 8 from h1), if_neg (show ¬ I 36 1 = 16 from h2)], rfl⟩
    · -- pc 28 .if_icmp .ne 16: no
      refine And.intro (hi) ?_
      exact ⟨rfl, by rw [nwC, if_neg (show ¬ I 36 1 = 8 from h1), if_pos (show I 36 1 = 16 from h2)], rfl⟩
  · -- pc 6 .if_icmp .ne 16: no
    refine And.intro (hi) ?_
    exact ⟨rfl, by rw [nwC, if_pos (show I 36 1 = 8 from h1)], rfl⟩
set_option maxRecDepth 100000 in
set_option maxHeartbeats 4000000 in
theorem c_miss2 (sx : Nat × (Nat → Int32)) (I : Mm) (J : Ml) : Mt sx MX1_isMissing [.ref 38] I J (na_b I J (I 38 1 = 0)) := by
  refine Mt.of2 _ rfl (by decide +kernel) (Nat.le_of_ble_eq_true rfl) ?_
  refine GW.run kX1_isMissing (fun _ => false) 37 0 rfl ?_
  refine And.intro (fun h1 => ?_) (fun h1 => ?_)
  · -- pc 4 .ifCond .ne 7: yes
    exact ⟨na_nl_b0, rfl, rfl, Or.inr ⟨h1, rfl⟩⟩
  · -- pc 4 .ifCond .ne 7: no
    exact ⟨na_nl_b1, rfl, rfl, Or.inl ⟨h1, rfl⟩⟩
set_option maxRecDepth 100000 in
set_option maxHeartbeats 4000000 in
theorem c_put2 (sx : Nat × (Nat → Int32)) (i : Int32) (hi : vp_in i 40) (v : Int64) (I : Mm) (J : Ml) : Mt sx MX1_put [.ref 38, .int i, .long v] I J (fun r I' J' => I = I' ∧ na_setL J 39 i.toNatClampNeg (nwC (I 38 1) v) = J' ∧ r = none) := by
  refine Mt.of2 _ rfl (by decide +kernel) (Nat.le_of_ble_eq_true rfl) ?_
  refine GW.run kX1_put (fun _ => false) 62 0 rfl ?_
  refine And.intro (fun h1 => ?_) (fun h1 => ?_)
  · -- pc 6 .if_icmp .ne 16: yes
    refine And.intro (fun h2 => ?_) (fun h2 => ?_)
    · -- pc 28 .if_icmp .ne 16: yes
      refine And.intro (hi) ?_
      exact ⟨rfl, by rw [nwC, if_neg (show ¬ I 38 1 = 8 from h1), if_neg (show ¬ I 38 1 = 16 from h2)], rfl⟩
    · -- pc 28 .if_icmp .ne 16: no
      refine And.intro (hi) ?_
      exact ⟨rfl, by rw [nwC, if_neg (show ¬ I 38 1 = 8 from h1), if_pos (show I 38 1 = 16 from h2)], rfl⟩
  · -- pc 6 .if_icmp .ne 16: no
    refine And.intro (hi) ?_
    exact ⟨rfl, by rw [nwC, if_pos (show I 38 1 = 8 from h1)], rfl⟩
set_option maxRecDepth 100000 in
set_option maxHeartbeats 4000000 in
theorem c_miss3 (sx : Nat × (Nat → Int32)) (I : Mm) (J : Ml) : Mt sx MX1_isMissing [.ref 40] I J (na_b I J (I 40 1 = 0)) := by
  refine Mt.of2 _ rfl (by decide +kernel) (Nat.le_of_ble_eq_true rfl) ?_
  refine GW.run kX1_isMissing (fun _ => false) 37 0 rfl ?_
  refine And.intro (fun h1 => ?_) (fun h1 => ?_)
  · -- pc 4 .ifCond .ne 7: yes
    exact ⟨na_nl_b0, rfl, rfl, Or.inr ⟨h1, rfl⟩⟩
  · -- pc 4 .ifCond .ne 7: no
    exact ⟨na_nl_b1, rfl, rfl, Or.inl ⟨h1, rfl⟩⟩
set_option maxRecDepth 100000 in
set_option maxHeartbeats 4000000 in
theorem c_put3 (sx : Nat × (Nat → Int32)) (i : Int32) (hi : vp_in i 40) (v : Int64) (I : Mm) (J : Ml) : Mt sx MX1_put [.ref 40, .int i, .long v] I J (fun r I' J' => I = I' ∧ na_setL J 41 i.toNatClampNeg (nwC (I 40 1) v) = J' ∧ r = none) := by
  refine Mt.of2 _ rfl (by decide +kernel) (Nat.le_of_ble_eq_true rfl) ?_
  refine GW.run kX1_put (fun _ => false) 62 0 rfl ?_
  refine And.intro (fun h1 => ?_) (fun h1 => ?_)
  · -- pc 6 .if_icmp .ne 16: yes
    refine And.intro (fun h2 => ?_) (fun h2 => ?_)
    · -- pc 28 .if_icmp .ne 16: yes
      refine And.intro (hi) ?_
      exact ⟨rfl, by rw [nwC, if_neg (show ¬ I 40 1 = 8 from h1), if_neg (show ¬ I 40 1 = 16 from h2)], rfl⟩
    · -- pc 28 .if_icmp .ne 16: no
      refine And.intro (hi) ?_
      exact ⟨rfl, by rw [nwC, if_neg (show ¬ I 40 1 = 8 from h1), if_pos (show I 40 1 = 16 from h2)], rfl⟩
  · -- pc 6 .if_icmp .ne 16: no
    refine And.intro (hi) ?_
    exact ⟨rfl, by rw [nwC, if_pos (show I 40 1 = 8 from h1)], rfl⟩
set_option maxRecDepth 100000 in
set_option maxHeartbeats 4000000 in
theorem pr_write0 (sx : Nat × (Nat → Int32)) (i : Int32) (v : Int64) : PrL sx MX3_write MX4_write [.int 0, .int i, .long v] := by
  intro I J hS
  obtain ⟨s1, s2, n, s3, s4, s5, s6⟩ := hS.2.2.2.1 0 (by decide)
  have s45 : I 34 2 = I 49 0 := s4.trans s5.symm
  refine Mt.of2 _ rfl (by decide +kernel) (Nat.le_of_ble_eq_true rfl) ?_
  refine GW.run kX3_write (fun _ => false) 75 0 rfl ?_
  refine Mt.conseq (c_noSheet _ _ _ _) ?_
  rintro _ _ _ ⟨rfl, rfl, ⟨h1, rfl⟩ | ⟨h1, rfl⟩⟩
  · -- pc 1 call X3_noSheet true
    exact absurd h1 (by decide)
  · -- pc 1 call X3_noSheet false
    refine And.intro (fun _ => ?_) (fun hh => absurd hh (by decide))
    refine And.intro (by unfold vp_in; decide) ?_
    refine Mt.conseq (c_miss0 _ _ _) ?_
    rintro _ _ _ ⟨rfl, rfl, ⟨h2, rfl⟩ | ⟨h2, rfl⟩⟩
    · -- pc 25 call X1_isMissing true
      refine And.intro (fun hh => absurd hh (by decide)) (fun _ => ?_)
      refine Mt.conseq (c_fnd5 _ _ _) ?_
      rintro _ _ _ ⟨rfl, rfl, rfl⟩
      refine ⟨_, rfl, ?_⟩
      refine Mt.of2 _ rfl (by decide +kernel) (Nat.le_of_ble_eq_true rfl) ?_
      refine GW.run kX4_write (fun _ => false) 88 0 rfl ?_
      refine Mt.conseq (m_isSheet _ _ _ _) ?_
      rintro _ _ _ ⟨rfl, rfl, ⟨g1, rfl⟩ | ⟨g1, rfl⟩⟩
      · -- pc 1 call X4_isSheet true
        refine And.intro (fun _ => ?_) (fun hh => absurd hh (by decide))
        refine And.intro (by unfold vp_in; decide) ?_
        refine And.intro (fun g2 => ?_) (fun g2 => ?_)
        · -- pc 21 .ifCond .ne 12: yes
          exact absurd (show I 48 0 = 0 from s1.symm.trans h2) g2
        · -- pc 21 .ifCond .ne 12: no
          refine Mt.conseq (m_fnd5 _ _ _) ?_
          rintro _ _ _ ⟨rfl, rfl, rfl⟩
          exact ⟨rfl, hS.found (by decide)⟩
      · -- pc 1 call X4_isSheet false
        exact absurd (by decide) g1
    · -- pc 25 call X1_isMissing false
      refine And.intro (fun _ => ?_) (fun hh => absurd hh (by decide))
      refine Mt.conseq (c_outside _ _ _ _ _ _) ?_
      rintro _ _ _ ⟨rfl, rfl, ⟨h4, rfl⟩ | ⟨h4, rfl⟩⟩
      · -- pc 48 call X3_outside true
        refine And.intro (fun hh => absurd hh (by decide)) (fun _ => ?_)
        refine Mt.conseq (c_fnd0 _ _ _) ?_
        rintro _ _ _ ⟨rfl, rfl, rfl⟩
        refine ⟨_, rfl, ?_⟩
        refine Mt.of2 _ rfl (by decide +kernel) (Nat.le_of_ble_eq_true rfl) ?_
        refine GW.run kX4_write (fun _ => false) 88 0 rfl ?_
        refine Mt.conseq (m_isSheet _ _ _ _) ?_
        rintro _ _ _ ⟨rfl, rfl, ⟨g1, rfl⟩ | ⟨g1, rfl⟩⟩
        · -- pc 1 call X4_isSheet true
          refine And.intro (fun _ => ?_) (fun hh => absurd hh (by decide))
          refine And.intro (by unfold vp_in; decide) ?_
          refine And.intro (fun g2 => ?_) (fun g2 => ?_)
          · -- pc 21 .ifCond .ne 12: yes
            refine And.intro (by unfold vp_in; decide) ?_
            refine Mt.conseq (m_in _ _ _ _ _ _) ?_
            rintro _ _ _ ⟨rfl, rfl, ⟨g3, rfl⟩ | ⟨g3, rfl⟩⟩
            · -- pc 43 call X4_in true
              exact (out_in h4 (show 0 ≤ i ∧ i ≤ I 34 2 - 1 by rw [s45]; exact g3)).elim
            · -- pc 43 call X4_in false
              refine And.intro (fun hh => absurd hh (by decide)) (fun _ => ?_)
              refine Mt.conseq (m_fnd0 _ _ _) ?_
              rintro _ _ _ ⟨rfl, rfl, rfl⟩
              exact ⟨rfl, hS.found (by decide)⟩
          · -- pc 21 .ifCond .ne 12: no
            exact absurd (show I 34 1 = 0 from s1.trans g2) h2
        · -- pc 1 call X4_isSheet false
          exact absurd (by decide) g1
      · -- pc 48 call X3_outside false
        obtain ⟨i', hi, rfl⟩ := nbd40 s4 s3 h4
        have hbi : vp_in (nI i') 40 := vp_in_nI (by omega) (by omega)
        have hci := nI_clamp (n := i') (by omega)
        have hix : (40 : Int32) * 0 + nI i' = nI (0 + i') := by rw [show (40 : Int32) * 0 = nI 0 by decide, nI_add]
        have hbx : vp_in ((40 : Int32) * 0 + nI i') 160 := by rw [hix]; exact vp_in_nI (by omega) (by omega)
        have hcx : ((40 : Int32) * 0 + nI i').toNatClampNeg = 0 + i' := by rw [hix, nI_clamp (by omega)]
        refine And.intro (fun _ => ?_) (fun hh => absurd hh (by decide))
        refine And.intro (hbi) ?_
        refine Mt.conseq (c_put0 _ _ hbi _ _ _) ?_
        rintro _ _ _ ⟨rfl, rfl, rfl⟩
        refine ⟨_, rfl, ?_⟩
        refine Mt.of2 _ rfl (by decide +kernel) (Nat.le_of_ble_eq_true rfl) ?_
        refine GW.run kX4_write (fun _ => false) 88 0 rfl ?_
        refine Mt.conseq (m_isSheet _ _ _ _) ?_
        rintro _ _ _ ⟨rfl, rfl, ⟨g1, rfl⟩ | ⟨g1, rfl⟩⟩
        · -- pc 1 call X4_isSheet true
          refine And.intro (fun _ => ?_) (fun hh => absurd hh (by decide))
          refine And.intro (by unfold vp_in; decide) ?_
          refine And.intro (fun g2 => ?_) (fun g2 => ?_)
          · -- pc 21 .ifCond .ne 12: yes
            refine And.intro (by unfold vp_in; decide) ?_
            refine Mt.conseq (m_in _ _ _ _ _ _) ?_
            rintro _ _ _ ⟨rfl, rfl, ⟨g3, rfl⟩ | ⟨g3, rfl⟩⟩
            · -- pc 43 call X4_in true
              refine And.intro (fun _ => ?_) (fun hh => absurd hh (by decide))
              refine And.intro (hbx) ?_
              refine And.intro (by unfold vp_in; decide) ?_
              refine Mt.conseq (m_nar _ _ _ _ _) ?_
              rintro _ _ _ ⟨rfl, rfl, rfl⟩
              refine And.intro (hbx) ?_
              refine ⟨?_, ?_⟩
              · show some (Value.long (na_setL J 35 (nI i').toNatClampNeg (nwC (I 34 1) v) 50 ((40 : Int32) * 0 + nI i').toNatClampNeg)) = some (Value.long (J 35 (nI i').toNatClampNeg))
                rw [na_setL_get, if_neg (fun z => absurd z.1 (by decide)), hcx, hci]
                exact congrArg (fun x => some (Value.long x)) (s6 i' hi).symm
              · show Sim I (na_setL (na_setL J 35 (nI i').toNatClampNeg (nwC (I 34 1) v)) 50 ((40 : Int32) * 0 + nI i').toNatClampNeg (nwC (I 48 0) v))
                rw [hcx, hci, ← s1]
                exact hS.wrote (s := 0) (i := i') (by decide) (by omega) _
            · -- pc 43 call X4_in false
              exact (nout_nin h4 (show ¬ (0 ≤ (nI i') ∧ (nI i') ≤ I 34 2 - 1) by rw [s45]; exact g3)).elim
          · -- pc 21 .ifCond .ne 12: no
            exact absurd (show I 34 1 = 0 from s1.trans g2) h2
        · -- pc 1 call X4_isSheet false
          exact absurd (by decide) g1
set_option maxRecDepth 100000 in
set_option maxHeartbeats 4000000 in
theorem pr_write1 (sx : Nat × (Nat → Int32)) (i : Int32) (v : Int64) : PrL sx MX3_write MX4_write [.int 1, .int i, .long v] := by
  intro I J hS
  obtain ⟨s1, s2, n, s3, s4, s5, s6⟩ := hS.2.2.2.1 1 (by decide)
  have s45 : I 36 2 = I 49 1 := s4.trans s5.symm
  refine Mt.of2 _ rfl (by decide +kernel) (Nat.le_of_ble_eq_true rfl) ?_
  refine GW.run kX3_write (fun _ => false) 75 0 rfl ?_
  refine Mt.conseq (c_noSheet _ _ _ _) ?_
  rintro _ _ _ ⟨rfl, rfl, ⟨h1, rfl⟩ | ⟨h1, rfl⟩⟩
  · -- pc 1 call X3_noSheet true
    exact absurd h1 (by decide)
  · -- pc 1 call X3_noSheet false
    refine And.intro (fun _ => ?_) (fun hh => absurd hh (by decide))
    refine And.intro (by unfold vp_in; decide) ?_
    refine Mt.conseq (c_miss1 _ _ _) ?_
    rintro _ _ _ ⟨rfl, rfl, ⟨h2, rfl⟩ | ⟨h2, rfl⟩⟩
    · -- pc 25 call X1_isMissing true
      refine And.intro (fun hh => absurd hh (by decide)) (fun _ => ?_)
      refine Mt.conseq (c_fnd5 _ _ _) ?_
      rintro _ _ _ ⟨rfl, rfl, rfl⟩
      refine ⟨_, rfl, ?_⟩
      refine Mt.of2 _ rfl (by decide +kernel) (Nat.le_of_ble_eq_true rfl) ?_
      refine GW.run kX4_write (fun _ => false) 88 0 rfl ?_
      refine Mt.conseq (m_isSheet _ _ _ _) ?_
      rintro _ _ _ ⟨rfl, rfl, ⟨g1, rfl⟩ | ⟨g1, rfl⟩⟩
      · -- pc 1 call X4_isSheet true
        refine And.intro (fun _ => ?_) (fun hh => absurd hh (by decide))
        refine And.intro (by unfold vp_in; decide) ?_
        refine And.intro (fun g2 => ?_) (fun g2 => ?_)
        · -- pc 21 .ifCond .ne 12: yes
          exact absurd (show I 48 1 = 0 from s1.symm.trans h2) g2
        · -- pc 21 .ifCond .ne 12: no
          refine Mt.conseq (m_fnd5 _ _ _) ?_
          rintro _ _ _ ⟨rfl, rfl, rfl⟩
          exact ⟨rfl, hS.found (by decide)⟩
      · -- pc 1 call X4_isSheet false
        exact absurd (by decide) g1
    · -- pc 25 call X1_isMissing false
      refine And.intro (fun _ => ?_) (fun hh => absurd hh (by decide))
      refine Mt.conseq (c_outside _ _ _ _ _ _) ?_
      rintro _ _ _ ⟨rfl, rfl, ⟨h4, rfl⟩ | ⟨h4, rfl⟩⟩
      · -- pc 48 call X3_outside true
        refine And.intro (fun hh => absurd hh (by decide)) (fun _ => ?_)
        refine Mt.conseq (c_fnd0 _ _ _) ?_
        rintro _ _ _ ⟨rfl, rfl, rfl⟩
        refine ⟨_, rfl, ?_⟩
        refine Mt.of2 _ rfl (by decide +kernel) (Nat.le_of_ble_eq_true rfl) ?_
        refine GW.run kX4_write (fun _ => false) 88 0 rfl ?_
        refine Mt.conseq (m_isSheet _ _ _ _) ?_
        rintro _ _ _ ⟨rfl, rfl, ⟨g1, rfl⟩ | ⟨g1, rfl⟩⟩
        · -- pc 1 call X4_isSheet true
          refine And.intro (fun _ => ?_) (fun hh => absurd hh (by decide))
          refine And.intro (by unfold vp_in; decide) ?_
          refine And.intro (fun g2 => ?_) (fun g2 => ?_)
          · -- pc 21 .ifCond .ne 12: yes
            refine And.intro (by unfold vp_in; decide) ?_
            refine Mt.conseq (m_in _ _ _ _ _ _) ?_
            rintro _ _ _ ⟨rfl, rfl, ⟨g3, rfl⟩ | ⟨g3, rfl⟩⟩
            · -- pc 43 call X4_in true
              exact (out_in h4 (show 0 ≤ i ∧ i ≤ I 36 2 - 1 by rw [s45]; exact g3)).elim
            · -- pc 43 call X4_in false
              refine And.intro (fun hh => absurd hh (by decide)) (fun _ => ?_)
              refine Mt.conseq (m_fnd0 _ _ _) ?_
              rintro _ _ _ ⟨rfl, rfl, rfl⟩
              exact ⟨rfl, hS.found (by decide)⟩
          · -- pc 21 .ifCond .ne 12: no
            exact absurd (show I 36 1 = 0 from s1.trans g2) h2
        · -- pc 1 call X4_isSheet false
          exact absurd (by decide) g1
      · -- pc 48 call X3_outside false
        obtain ⟨i', hi, rfl⟩ := nbd40 s4 s3 h4
        have hbi : vp_in (nI i') 40 := vp_in_nI (by omega) (by omega)
        have hci := nI_clamp (n := i') (by omega)
        have hix : (40 : Int32) * 1 + nI i' = nI (40 + i') := by rw [show (40 : Int32) * 1 = nI 40 by decide, nI_add]
        have hbx : vp_in ((40 : Int32) * 1 + nI i') 160 := by rw [hix]; exact vp_in_nI (by omega) (by omega)
        have hcx : ((40 : Int32) * 1 + nI i').toNatClampNeg = 40 + i' := by rw [hix, nI_clamp (by omega)]
        refine And.intro (fun _ => ?_) (fun hh => absurd hh (by decide))
        refine And.intro (hbi) ?_
        refine Mt.conseq (c_put1 _ _ hbi _ _ _) ?_
        rintro _ _ _ ⟨rfl, rfl, rfl⟩
        refine ⟨_, rfl, ?_⟩
        refine Mt.of2 _ rfl (by decide +kernel) (Nat.le_of_ble_eq_true rfl) ?_
        refine GW.run kX4_write (fun _ => false) 88 0 rfl ?_
        refine Mt.conseq (m_isSheet _ _ _ _) ?_
        rintro _ _ _ ⟨rfl, rfl, ⟨g1, rfl⟩ | ⟨g1, rfl⟩⟩
        · -- pc 1 call X4_isSheet true
          refine And.intro (fun _ => ?_) (fun hh => absurd hh (by decide))
          refine And.intro (by unfold vp_in; decide) ?_
          refine And.intro (fun g2 => ?_) (fun g2 => ?_)
          · -- pc 21 .ifCond .ne 12: yes
            refine And.intro (by unfold vp_in; decide) ?_
            refine Mt.conseq (m_in _ _ _ _ _ _) ?_
            rintro _ _ _ ⟨rfl, rfl, ⟨g3, rfl⟩ | ⟨g3, rfl⟩⟩
            · -- pc 43 call X4_in true
              refine And.intro (fun _ => ?_) (fun hh => absurd hh (by decide))
              refine And.intro (hbx) ?_
              refine And.intro (by unfold vp_in; decide) ?_
              refine Mt.conseq (m_nar _ _ _ _ _) ?_
              rintro _ _ _ ⟨rfl, rfl, rfl⟩
              refine And.intro (hbx) ?_
              refine ⟨?_, ?_⟩
              · show some (Value.long (na_setL J 37 (nI i').toNatClampNeg (nwC (I 36 1) v) 50 ((40 : Int32) * 1 + nI i').toNatClampNeg)) = some (Value.long (J 37 (nI i').toNatClampNeg))
                rw [na_setL_get, if_neg (fun z => absurd z.1 (by decide)), hcx, hci]
                exact congrArg (fun x => some (Value.long x)) (s6 i' hi).symm
              · show Sim I (na_setL (na_setL J 37 (nI i').toNatClampNeg (nwC (I 36 1) v)) 50 ((40 : Int32) * 1 + nI i').toNatClampNeg (nwC (I 48 1) v))
                rw [hcx, hci, ← s1]
                exact hS.wrote (s := 1) (i := i') (by decide) (by omega) _
            · -- pc 43 call X4_in false
              exact (nout_nin h4 (show ¬ (0 ≤ (nI i') ∧ (nI i') ≤ I 36 2 - 1) by rw [s45]; exact g3)).elim
          · -- pc 21 .ifCond .ne 12: no
            exact absurd (show I 36 1 = 0 from s1.trans g2) h2
        · -- pc 1 call X4_isSheet false
          exact absurd (by decide) g1
set_option maxRecDepth 100000 in
set_option maxHeartbeats 4000000 in
theorem pr_write2 (sx : Nat × (Nat → Int32)) (i : Int32) (v : Int64) : PrL sx MX3_write MX4_write [.int 2, .int i, .long v] := by
  intro I J hS
  obtain ⟨s1, s2, n, s3, s4, s5, s6⟩ := hS.2.2.2.1 2 (by decide)
  have s45 : I 38 2 = I 49 2 := s4.trans s5.symm
  refine Mt.of2 _ rfl (by decide +kernel) (Nat.le_of_ble_eq_true rfl) ?_
  refine GW.run kX3_write (fun _ => false) 75 0 rfl ?_
  refine Mt.conseq (c_noSheet _ _ _ _) ?_
  rintro _ _ _ ⟨rfl, rfl, ⟨h1, rfl⟩ | ⟨h1, rfl⟩⟩
  · -- pc 1 call X3_noSheet true
    exact absurd h1 (by decide)
  · -- pc 1 call X3_noSheet false
    refine And.intro (fun _ => ?_) (fun hh => absurd hh (by decide))
    refine And.intro (by unfold vp_in; decide) ?_
    refine Mt.conseq (c_miss2 _ _ _) ?_
    rintro _ _ _ ⟨rfl, rfl, ⟨h2, rfl⟩ | ⟨h2, rfl⟩⟩
    · -- pc 25 call X1_isMissing true
      refine And.intro (fun hh => absurd hh (by decide)) (fun _ => ?_)
      refine Mt.conseq (c_fnd5 _ _ _) ?_
      rintro _ _ _ ⟨rfl, rfl, rfl⟩
      refine ⟨_, rfl, ?_⟩
      refine Mt.of2 _ rfl (by decide +kernel) (Nat.le_of_ble_eq_true rfl) ?_
      refine GW.run kX4_write (fun _ => false) 88 0 rfl ?_
      refine Mt.conseq (m_isSheet _ _ _ _) ?_
      rintro _ _ _ ⟨rfl, rfl, ⟨g1, rfl⟩ | ⟨g1, rfl⟩⟩
      · -- pc 1 call X4_isSheet true
        refine And.intro (fun _ => ?_) (fun hh => absurd hh (by decide))
        refine And.intro (by unfold vp_in; decide) ?_
        refine And.intro (fun g2 => ?_) (fun g2 => ?_)
        · -- pc 21 .ifCond .ne 12: yes
          exact absurd (show I 48 2 = 0 from s1.symm.trans h2) g2
        · -- pc 21 .ifCond .ne 12: no
          refine Mt.conseq (m_fnd5 _ _ _) ?_
          rintro _ _ _ ⟨rfl, rfl, rfl⟩
          exact ⟨rfl, hS.found (by decide)⟩
      · -- pc 1 call X4_isSheet false
        exact absurd (by decide) g1
    · -- pc 25 call X1_isMissing false
      refine And.intro (fun _ => ?_) (fun hh => absurd hh (by decide))
      refine Mt.conseq (c_outside _ _ _ _ _ _) ?_
      rintro _ _ _ ⟨rfl, rfl, ⟨h4, rfl⟩ | ⟨h4, rfl⟩⟩
      · -- pc 48 call X3_outside true
        refine And.intro (fun hh => absurd hh (by decide)) (fun _ => ?_)
        refine Mt.conseq (c_fnd0 _ _ _) ?_
        rintro _ _ _ ⟨rfl, rfl, rfl⟩
        refine ⟨_, rfl, ?_⟩
        refine Mt.of2 _ rfl (by decide +kernel) (Nat.le_of_ble_eq_true rfl) ?_
        refine GW.run kX4_write (fun _ => false) 88 0 rfl ?_
        refine Mt.conseq (m_isSheet _ _ _ _) ?_
        rintro _ _ _ ⟨rfl, rfl, ⟨g1, rfl⟩ | ⟨g1, rfl⟩⟩
        · -- pc 1 call X4_isSheet true
          refine And.intro (fun _ => ?_) (fun hh => absurd hh (by decide))
          refine And.intro (by unfold vp_in; decide) ?_
          refine And.intro (fun g2 => ?_) (fun g2 => ?_)
          · -- pc 21 .ifCond .ne 12: yes
            refine And.intro (by unfold vp_in; decide) ?_
            refine Mt.conseq (m_in _ _ _ _ _ _) ?_
            rintro _ _ _ ⟨rfl, rfl, ⟨g3, rfl⟩ | ⟨g3, rfl⟩⟩
            · -- pc 43 call X4_in true
              exact (out_in h4 (show 0 ≤ i ∧ i ≤ I 38 2 - 1 by rw [s45]; exact g3)).elim
            · -- pc 43 call X4_in false
              refine And.intro (fun hh => absurd hh (by decide)) (fun _ => ?_)
              refine Mt.conseq (m_fnd0 _ _ _) ?_
              rintro _ _ _ ⟨rfl, rfl, rfl⟩
              exact ⟨rfl, hS.found (by decide)⟩
          · -- pc 21 .ifCond .ne 12: no
            exact absurd (show I 38 1 = 0 from s1.trans g2) h2
        · -- pc 1 call X4_isSheet false
          exact absurd (by decide) g1
      · -- pc 48 call X3_outside false
        obtain ⟨i', hi, rfl⟩ := nbd40 s4 s3 h4
        have hbi : vp_in (nI i') 40 := vp_in_nI (by omega) (by omega)
        have hci := nI_clamp (n := i') (by omega)
        have hix : (40 : Int32) * 2 + nI i' = nI (80 + i') := by rw [show (40 : Int32) * 2 = nI 80 by decide, nI_add]
        have hbx : vp_in ((40 : Int32) * 2 + nI i') 160 := by rw [hix]; exact vp_in_nI (by omega) (by omega)
        have hcx : ((40 : Int32) * 2 + nI i').toNatClampNeg = 80 + i' := by rw [hix, nI_clamp (by omega)]
        refine And.intro (fun _ => ?_) (fun hh => absurd hh (by decide))
        refine And.intro (hbi) ?_
        refine Mt.conseq (c_put2 _ _ hbi _ _ _) ?_
        rintro _ _ _ ⟨rfl, rfl, rfl⟩
        refine ⟨_, rfl, ?_⟩
        refine Mt.of2 _ rfl (by decide +kernel) (Nat.le_of_ble_eq_true rfl) ?_
        refine GW.run kX4_write (fun _ => false) 88 0 rfl ?_
        refine Mt.conseq (m_isSheet _ _ _ _) ?_
        rintro _ _ _ ⟨rfl, rfl, ⟨g1, rfl⟩ | ⟨g1, rfl⟩⟩
        · -- pc 1 call X4_isSheet true
          refine And.intro (fun _ => ?_) (fun hh => absurd hh (by decide))
          refine And.intro (by unfold vp_in; decide) ?_
          refine And.intro (fun g2 => ?_) (fun g2 => ?_)
          · -- pc 21 .ifCond .ne 12: yes
            refine And.intro (by unfold vp_in; decide) ?_
            refine Mt.conseq (m_in _ _ _ _ _ _) ?_
            rintro _ _ _ ⟨rfl, rfl, ⟨g3, rfl⟩ | ⟨g3, rfl⟩⟩
            · -- pc 43 call X4_in true
              refine And.intro (fun _ => ?_) (fun hh => absurd hh (by decide))
              refine And.intro (hbx) ?_
              refine And.intro (by unfold vp_in; decide) ?_
              refine Mt.conseq (m_nar _ _ _ _ _) ?_
              rintro _ _ _ ⟨rfl, rfl, rfl⟩
              refine And.intro (hbx) ?_
              refine ⟨?_, ?_⟩
              · show some (Value.long (na_setL J 39 (nI i').toNatClampNeg (nwC (I 38 1) v) 50 ((40 : Int32) * 2 + nI i').toNatClampNeg)) = some (Value.long (J 39 (nI i').toNatClampNeg))
                rw [na_setL_get, if_neg (fun z => absurd z.1 (by decide)), hcx, hci]
                exact congrArg (fun x => some (Value.long x)) (s6 i' hi).symm
              · show Sim I (na_setL (na_setL J 39 (nI i').toNatClampNeg (nwC (I 38 1) v)) 50 ((40 : Int32) * 2 + nI i').toNatClampNeg (nwC (I 48 2) v))
                rw [hcx, hci, ← s1]
                exact hS.wrote (s := 2) (i := i') (by decide) (by omega) _
            · -- pc 43 call X4_in false
              exact (nout_nin h4 (show ¬ (0 ≤ (nI i') ∧ (nI i') ≤ I 38 2 - 1) by rw [s45]; exact g3)).elim
          · -- pc 21 .ifCond .ne 12: no
            exact absurd (show I 38 1 = 0 from s1.trans g2) h2
        · -- pc 1 call X4_isSheet false
          exact absurd (by decide) g1
set_option maxRecDepth 100000 in
set_option maxHeartbeats 4000000 in
theorem pr_write3 (sx : Nat × (Nat → Int32)) (i : Int32) (v : Int64) : PrL sx MX3_write MX4_write [.int 3, .int i, .long v] := by
  intro I J hS
  obtain ⟨s1, s2, n, s3, s4, s5, s6⟩ := hS.2.2.2.1 3 (by decide)
  have s45 : I 40 2 = I 49 3 := s4.trans s5.symm
  refine Mt.of2 _ rfl (by decide +kernel) (Nat.le_of_ble_eq_true rfl) ?_
  refine GW.run kX3_write (fun _ => false) 75 0 rfl ?_
  refine Mt.conseq (c_noSheet _ _ _ _) ?_
  rintro _ _ _ ⟨rfl, rfl, ⟨h1, rfl⟩ | ⟨h1, rfl⟩⟩
  · -- pc 1 call X3_noSheet true
    exact absurd h1 (by decide)
  · -- pc 1 call X3_noSheet false
    refine And.intro (fun _ => ?_) (fun hh => absurd hh (by decide))
    refine And.intro (by unfold vp_in; decide) ?_
    refine Mt.conseq (c_miss3 _ _ _) ?_
    rintro _ _ _ ⟨rfl, rfl, ⟨h2, rfl⟩ | ⟨h2, rfl⟩⟩
    · -- pc 25 call X1_isMissing true
      refine And.intro (fun hh => absurd hh (by decide)) (fun _ => ?_)
      refine Mt.conseq (c_fnd5 _ _ _) ?_
      rintro _ _ _ ⟨rfl, rfl, rfl⟩
      refine ⟨_, rfl, ?_⟩
      refine Mt.of2 _ rfl (by decide +kernel) (Nat.le_of_ble_eq_true rfl) ?_
      refine GW.run kX4_write (fun _ => false) 88 0 rfl ?_
      refine Mt.conseq (m_isSheet _ _ _ _) ?_
      rintro _ _ _ ⟨rfl, rfl, ⟨g1, rfl⟩ | ⟨g1, rfl⟩⟩
      · -- pc 1 call X4_isSheet true
        refine And.intro (fun _ => ?_) (fun hh => absurd hh (by decide))
        refine And.intro (by unfold vp_in; decide) ?_
        refine And.intro (fun g2 => ?_) (fun g2 => ?_)
        · -- pc 21 .ifCond .ne 12: yes
          exact absurd (show I 48 3 = 0 from s1.symm.trans h2) g2
        · -- pc 21 .ifCond .ne 12: no
          refine Mt.conseq (m_fnd5 _ _ _) ?_
          rintro _ _ _ ⟨rfl, rfl, rfl⟩
          exact ⟨rfl, hS.found (by decide)⟩
      · -- pc 1 call X4_isSheet false
        exact absurd (by decide) g1
    · -- pc 25 call X1_isMissing false
      refine And.intro (fun _ => ?_) (fun hh => absurd hh (by decide))
      refine Mt.conseq (c_outside _ _ _ _ _ _) ?_
      rintro _ _ _ ⟨rfl, rfl, ⟨h4, rfl⟩ | ⟨h4, rfl⟩⟩
      · -- pc 48 call X3_outside true
        refine And.intro (fun hh => absurd hh (by decide)) (fun _ => ?_)
        refine Mt.conseq (c_fnd0 _ _ _) ?_
        rintro _ _ _ ⟨rfl, rfl, rfl⟩
        refine ⟨_, rfl, ?_⟩
        refine Mt.of2 _ rfl (by decide +kernel) (Nat.le_of_ble_eq_true rfl) ?_
        refine GW.run kX4_write (fun _ => false) 88 0 rfl ?_
        refine Mt.conseq (m_isSheet _ _ _ _) ?_
        rintro _ _ _ ⟨rfl, rfl, ⟨g1, rfl⟩ | ⟨g1, rfl⟩⟩
        · -- pc 1 call X4_isSheet true
          refine And.intro (fun _ => ?_) (fun hh => absurd hh (by decide))
          refine And.intro (by unfold vp_in; decide) ?_
          refine And.intro (fun g2 => ?_) (fun g2 => ?_)
          · -- pc 21 .ifCond .ne 12: yes
            refine And.intro (by unfold vp_in; decide) ?_
            refine Mt.conseq (m_in _ _ _ _ _ _) ?_
            rintro _ _ _ ⟨rfl, rfl, ⟨g3, rfl⟩ | ⟨g3, rfl⟩⟩
            · -- pc 43 call X4_in true
              exact (out_in h4 (show 0 ≤ i ∧ i ≤ I 40 2 - 1 by rw [s45]; exact g3)).elim
            · -- pc 43 call X4_in false
              refine And.intro (fun hh => absurd hh (by decide)) (fun _ => ?_)
              refine Mt.conseq (m_fnd0 _ _ _) ?_
              rintro _ _ _ ⟨rfl, rfl, rfl⟩
              exact ⟨rfl, hS.found (by decide)⟩
          · -- pc 21 .ifCond .ne 12: no
            exact absurd (show I 40 1 = 0 from s1.trans g2) h2
        · -- pc 1 call X4_isSheet false
          exact absurd (by decide) g1
      · -- pc 48 call X3_outside false
        obtain ⟨i', hi, rfl⟩ := nbd40 s4 s3 h4
        have hbi : vp_in (nI i') 40 := vp_in_nI (by omega) (by omega)
        have hci := nI_clamp (n := i') (by omega)
        have hix : (40 : Int32) * 3 + nI i' = nI (120 + i') := by rw [show (40 : Int32) * 3 = nI 120 by decide, nI_add]
        have hbx : vp_in ((40 : Int32) * 3 + nI i') 160 := by rw [hix]; exact vp_in_nI (by omega) (by omega)
        have hcx : ((40 : Int32) * 3 + nI i').toNatClampNeg = 120 + i' := by rw [hix, nI_clamp (by omega)]
        refine And.intro (fun _ => ?_) (fun hh => absurd hh (by decide))
        refine And.intro (hbi) ?_
        refine Mt.conseq (c_put3 _ _ hbi _ _ _) ?_
        rintro _ _ _ ⟨rfl, rfl, rfl⟩
        refine ⟨_, rfl, ?_⟩
        refine Mt.of2 _ rfl (by decide +kernel) (Nat.le_of_ble_eq_true rfl) ?_
        refine GW.run kX4_write (fun _ => false) 88 0 rfl ?_
        refine Mt.conseq (m_isSheet _ _ _ _) ?_
        rintro _ _ _ ⟨rfl, rfl, ⟨g1, rfl⟩ | ⟨g1, rfl⟩⟩
        · -- pc 1 call X4_isSheet true
          refine And.intro (fun _ => ?_) (fun hh => absurd hh (by decide))
          refine And.intro (by unfold vp_in; decide) ?_
          refine And.intro (fun g2 => ?_) (fun g2 => ?_)
          · -- pc 21 .ifCond .ne 12: yes
            refine And.intro (by unfold vp_in; decide) ?_
            refine Mt.conseq (m_in _ _ _ _ _ _) ?_
            rintro _ _ _ ⟨rfl, rfl, ⟨g3, rfl⟩ | ⟨g3, rfl⟩⟩
            · -- pc 43 call X4_in true
              refine And.intro (fun _ => ?_) (fun hh => absurd hh (by decide))
              refine And.intro (hbx) ?_
              refine And.intro (by unfold vp_in; decide) ?_
              refine Mt.conseq (m_nar _ _ _ _ _) ?_
              rintro _ _ _ ⟨rfl, rfl, rfl⟩
              refine And.intro (hbx) ?_
              refine ⟨?_, ?_⟩
              · show some (Value.long (na_setL J 41 (nI i').toNatClampNeg (nwC (I 40 1) v) 50 ((40 : Int32) * 3 + nI i').toNatClampNeg)) = some (Value.long (J 41 (nI i').toNatClampNeg))
                rw [na_setL_get, if_neg (fun z => absurd z.1 (by decide)), hcx, hci]
                exact congrArg (fun x => some (Value.long x)) (s6 i' hi).symm
              · show Sim I (na_setL (na_setL J 41 (nI i').toNatClampNeg (nwC (I 40 1) v)) 50 ((40 : Int32) * 3 + nI i').toNatClampNeg (nwC (I 48 3) v))
                rw [hcx, hci, ← s1]
                exact hS.wrote (s := 3) (i := i') (by decide) (by omega) _
            · -- pc 43 call X4_in false
              exact (nout_nin h4 (show ¬ (0 ≤ (nI i') ∧ (nI i') ≤ I 40 2 - 1) by rw [s45]; exact g3)).elim
          · -- pc 21 .ifCond .ne 12: no
            exact absurd (show I 40 1 = 0 from s1.trans g2) h2
        · -- pc 1 call X4_isSheet false
          exact absurd (by decide) g1
set_option maxRecDepth 100000 in
set_option maxHeartbeats 4000000 in
theorem pr_writex (sx : Nat × (Nat → Int32)) (s i : Int32) (v : Int64) (hx : outP s 0 3) : PrL sx MX3_write MX4_write [.int s, .int i, .long v] := by
  intro I J hS
  refine Mt.of2 _ rfl (by decide +kernel) (Nat.le_of_ble_eq_true rfl) ?_
  refine GW.run kX3_write (fun _ => false) 75 0 rfl ?_
  refine Mt.conseq (c_noSheet _ _ _ _) ?_
  rintro _ _ _ ⟨rfl, rfl, ⟨h1, rfl⟩ | ⟨h1, rfl⟩⟩
  · -- pc 1 call X3_noSheet true
    refine And.intro (fun hh => absurd hh (by decide)) (fun _ => ?_)
    refine Mt.conseq (c_fnd0 _ _ _) ?_
    rintro _ _ _ ⟨rfl, rfl, rfl⟩
    refine ⟨_, rfl, ?_⟩
    refine Mt.of2 _ rfl (by decide +kernel) (Nat.le_of_ble_eq_true rfl) ?_
    refine GW.run kX4_write (fun _ => false) 88 0 rfl ?_
    refine Mt.conseq (m_isSheet _ _ _ _) ?_
    rintro _ _ _ ⟨rfl, rfl, ⟨g1, rfl⟩ | ⟨g1, rfl⟩⟩
    · -- pc 1 call X4_isSheet true
      exact (out_in h1 g1).elim
    · -- pc 1 call X4_isSheet false
      refine And.intro (fun hh => absurd hh (by decide)) (fun _ => ?_)
      refine Mt.conseq (m_fnd0 _ _ _) ?_
      rintro _ _ _ ⟨rfl, rfl, rfl⟩
      exact ⟨rfl, hS.found (by decide)⟩
  · -- pc 1 call X3_noSheet false
    exact absurd hx h1
theorem pr_write (sx : Nat × (Nat → Int32)) (s i : Int32) (v : Int64) : PrL sx MX3_write MX4_write [.int s, .int i, .long v] := by
  by_cases hx : outP s 0 3
  · exact pr_writex sx s i v hx
  · obtain ⟨t, ht, rfl⟩ := nout_nI (b := 3) (by decide) hx
    obtain rfl | rfl | rfl | rfl : t = 0 ∨ t = 1 ∨ t = 2 ∨ t = 3 := by omega
    · exact pr_write0 sx i v
    · exact pr_write1 sx i v
    · exact pr_write2 sx i v
    · exact pr_write3 sx i v
