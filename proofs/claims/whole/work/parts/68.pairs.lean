/-! PAIRS: now, of -/
theorem has255 : ∀ q, q < 8 → hasP 255 (nI q) := by decide
theorem bri_all {P : Nat} (hP8 : P ≤ 8) (N : Mm) : ∀ q, q ≤ P → bri N P 255 q = brA N P q
  | 0, _ => rfl
  | q + 1, hq => by rw [bri, brA, if_pos (has255 q (by omega)), bri_all hP8 N q (by omega)]
set_option maxRecDepth 100000 in
set_option maxHeartbeats 4000000 in
theorem pr_now (sx : Nat × (Nat → Int32)) (w : Int32) : PrI sx MX3_now MX4_now [.int w] := by
  intro I J hS
  obtain ⟨P, hN, ha, hP8, hP1, hP3, hpl⟩ := hS.nt
  have e73 : I 44 3 = I 1 7 := hP3.trans hP1.symm
  refine Mt.of2 _ rfl (by decide +kernel) (Nat.le_of_ble_eq_true rfl) ?_
  refine GW.run kX3_now (fun _ => false) 71 0 rfl ?_
  refine And.intro (fun h1 => ?_) (And.intro (fun h1 => ?_) (And.intro (fun h1 => ?_) (And.intro (fun h1 => ?_) (And.intro (fun h1 => ?_) (And.intro (fun h1 => ?_) (And.intro (fun h1 => ?_) (And.intro (fun h1 => ?_) (trivial))))))))
  · -- pc 1 switch None
    refine Mt.conseq (c_fnd0 _ _ _) ?_
    rintro _ _ _ ⟨rfl, rfl, rfl⟩
    refine ⟨trivial, _, rfl, ?_⟩
    refine Mt.of2 _ rfl (by decide +kernel) (Nat.le_of_ble_eq_true rfl) ?_
    refine GW.run kX4_now (fun _ => false) 64 0 rfl ?_
    refine And.intro (fun g1 => ?_) (And.intro (fun g1 => ?_) (And.intro (fun g1 => ?_) (And.intro (fun g1 => ?_) (And.intro (fun g1 => ?_) (And.intro (fun g1 => ?_) (And.intro (fun g1 => ?_) (And.intro (fun g1 => ?_) (trivial))))))))
    · -- pc 1 switch None
      refine Mt.conseq (m_fnd0 _ _ _) ?_
      rintro _ _ _ ⟨rfl, rfl, rfl⟩
      exact ⟨trivial, rfl, hS.found (by decide)⟩
    · -- pc 1 switch 0
      exfalso
      omega
    · -- pc 1 switch 1
      exfalso
      omega
    · -- pc 1 switch 2
      exfalso
      omega
    · -- pc 1 switch 3
      exfalso
      omega
    · -- pc 1 switch 4
      exfalso
      omega
    · -- pc 1 switch 5
      exfalso
      omega
    · -- pc 1 switch 6
      exfalso
      omega
  · -- pc 1 switch 0
    refine ⟨trivial, _, rfl, ?_⟩
    refine Mt.of2 _ rfl (by decide +kernel) (Nat.le_of_ble_eq_true rfl) ?_
    refine GW.run kX4_now (fun _ => false) 64 0 rfl ?_
    refine And.intro (fun g1 => ?_) (And.intro (fun g1 => ?_) (And.intro (fun g1 => ?_) (And.intro (fun g1 => ?_) (And.intro (fun g1 => ?_) (And.intro (fun g1 => ?_) (And.intro (fun g1 => ?_) (And.intro (fun g1 => ?_) (trivial))))))))
    · -- pc 1 switch None
      exfalso
      omega
    · -- pc 1 switch 0
      refine And.intro (by unfold vp_in; decide) ?_
      exact ⟨trivial, congrArg (fun x => some (Value.int x)) (ha.1 6 (by decide) (by decide)), hS⟩
    · -- pc 1 switch 1
      exfalso
      omega
    · -- pc 1 switch 2
      exfalso
      omega
    · -- pc 1 switch 3
      exfalso
      omega
    · -- pc 1 switch 4
      exfalso
      omega
    · -- pc 1 switch 5
      exfalso
      omega
    · -- pc 1 switch 6
      exfalso
      omega
  · -- pc 1 switch 1
    refine Mt.conseq (c_sum_2 _ 8 (by decide) _ _) ?_
    rintro _ _ _ ⟨rfl, rfl, rfl⟩
    refine ⟨trivial, _, rfl, ?_⟩
    refine Mt.of2 _ rfl (by decide +kernel) (Nat.le_of_ble_eq_true rfl) ?_
    refine GW.run kX4_now (fun _ => false) 64 0 rfl ?_
    refine And.intro (fun g1 => ?_) (And.intro (fun g1 => ?_) (And.intro (fun g1 => ?_) (And.intro (fun g1 => ?_) (And.intro (fun g1 => ?_) (And.intro (fun g1 => ?_) (And.intro (fun g1 => ?_) (And.intro (fun g1 => ?_) (trivial))))))))
    · -- pc 1 switch None
      exfalso
      omega
    · -- pc 1 switch 0
      exfalso
      omega
    · -- pc 1 switch 1
      refine Mt.conseq ((by have h := m_su sx (I 44) 0 (by decide) 0 rfl I J; rw [show sR (I 44) (I) = I from sR_self (I)] at h; exact h)) ?_
      rintro _ _ _ ⟨rfl, rfl, rfl⟩
      exact ⟨trivial, congrArg (fun x => some (Value.int x)) (sum_eq ha (w := 0) (by decide) 8 (by decide)), hS⟩
    · -- pc 1 switch 2
      exfalso
      omega
    · -- pc 1 switch 3
      exfalso
      omega
    · -- pc 1 switch 4
      exfalso
      omega
    · -- pc 1 switch 5
      exfalso
      omega
    · -- pc 1 switch 6
      exfalso
      omega
  · -- pc 1 switch 2
    refine Mt.conseq (c_sum_3 _ 8 (by decide) _ _) ?_
    rintro _ _ _ ⟨rfl, rfl, rfl⟩
    refine ⟨trivial, _, rfl, ?_⟩
    refine Mt.of2 _ rfl (by decide +kernel) (Nat.le_of_ble_eq_true rfl) ?_
    refine GW.run kX4_now (fun _ => false) 64 0 rfl ?_
    refine And.intro (fun g1 => ?_) (And.intro (fun g1 => ?_) (And.intro (fun g1 => ?_) (And.intro (fun g1 => ?_) (And.intro (fun g1 => ?_) (And.intro (fun g1 => ?_) (And.intro (fun g1 => ?_) (And.intro (fun g1 => ?_) (trivial))))))))
    · -- pc 1 switch None
      exfalso
      omega
    · -- pc 1 switch 0
      exfalso
      omega
    · -- pc 1 switch 1
      exfalso
      omega
    · -- pc 1 switch 2
      refine Mt.conseq ((by have h := m_su sx (I 44) 1 (by decide) 1 rfl I J; rw [show sR (I 44) (I) = I from sR_self (I)] at h; exact h)) ?_
      rintro _ _ _ ⟨rfl, rfl, rfl⟩
      exact ⟨trivial, congrArg (fun x => some (Value.int x)) (sum_eq ha (w := 1) (by decide) 8 (by decide)), hS⟩
    · -- pc 1 switch 3
      exfalso
      omega
    · -- pc 1 switch 4
      exfalso
      omega
    · -- pc 1 switch 5
      exfalso
      omega
    · -- pc 1 switch 6
      exfalso
      omega
  · -- pc 1 switch 3
    refine Mt.conseq (c_sum_4 _ 8 (by decide) _ _) ?_
    rintro _ _ _ ⟨rfl, rfl, rfl⟩
    refine ⟨trivial, _, rfl, ?_⟩
    refine Mt.of2 _ rfl (by decide +kernel) (Nat.le_of_ble_eq_true rfl) ?_
    refine GW.run kX4_now (fun _ => false) 64 0 rfl ?_
    refine And.intro (fun g1 => ?_) (And.intro (fun g1 => ?_) (And.intro (fun g1 => ?_) (And.intro (fun g1 => ?_) (And.intro (fun g1 => ?_) (And.intro (fun g1 => ?_) (And.intro (fun g1 => ?_) (And.intro (fun g1 => ?_) (trivial))))))))
    · -- pc 1 switch None
      exfalso
      omega
    · -- pc 1 switch 0
      exfalso
      omega
    · -- pc 1 switch 1
      exfalso
      omega
    · -- pc 1 switch 2
      exfalso
      omega
    · -- pc 1 switch 3
      refine Mt.conseq ((by have h := m_su sx (I 44) 2 (by decide) 2 rfl I J; rw [show sR (I 44) (I) = I from sR_self (I)] at h; exact h)) ?_
      rintro _ _ _ ⟨rfl, rfl, rfl⟩
      exact ⟨trivial, congrArg (fun x => some (Value.int x)) (sum_eq ha (w := 2) (by decide) 8 (by decide)), hS⟩
    · -- pc 1 switch 4
      exfalso
      omega
    · -- pc 1 switch 5
      exfalso
      omega
    · -- pc 1 switch 6
      exfalso
      omega
  · -- pc 1 switch 4
    refine Mt.conseq ((by have h := c_stf sx 1 (Or.inl rfl) (gN 1 I) P hP1 hP8 I J; rw [pN_gN] at h; exact h)) ?_
    rintro _ _ _ ⟨rfl, rfl, rfl⟩
    refine ⟨trivial, _, rfl, ?_⟩
    refine Mt.of2 _ rfl (by decide +kernel) (Nat.le_of_ble_eq_true rfl) ?_
    refine GW.run kX4_now (fun _ => false) 64 0 rfl ?_
    refine And.intro (fun g1 => ?_) (And.intro (fun g1 => ?_) (And.intro (fun g1 => ?_) (And.intro (fun g1 => ?_) (And.intro (fun g1 => ?_) (And.intro (fun g1 => ?_) (And.intro (fun g1 => ?_) (And.intro (fun g1 => ?_) (trivial))))))))
    · -- pc 1 switch None
      exfalso
      omega
    · -- pc 1 switch 0
      exfalso
      omega
    · -- pc 1 switch 1
      exfalso
      omega
    · -- pc 1 switch 2
      exfalso
      omega
    · -- pc 1 switch 3
      exfalso
      omega
    · -- pc 1 switch 4
      refine Mt.conseq ((by have h := m_stf sx (I 44) P hP3 hP8 I J; rw [show sR (I 44) (I) = I from sR_self (I)] at h; exact h)) ?_
      rintro _ _ _ ⟨rfl, rfl, rfl⟩
      exact ⟨trivial, congrArg (fun x => some (Value.int x)) (stf_c ha P (Nat.le_refl _)), hS⟩
    · -- pc 1 switch 5
      exfalso
      omega
    · -- pc 1 switch 6
      exfalso
      omega
  · -- pc 1 switch 5
    refine Mt.conseq ((by have h := c_bri sx 1 (Or.inl rfl) (gN 1 I) P hP1 hP8 255 I J; rw [pN_gN] at h; exact h)) ?_
    rintro _ _ _ ⟨rfl, rfl, rfl⟩
    refine ⟨trivial, _, rfl, ?_⟩
    refine Mt.of2 _ rfl (by decide +kernel) (Nat.le_of_ble_eq_true rfl) ?_
    refine GW.run kX4_now (fun _ => false) 64 0 rfl ?_
    refine And.intro (fun g1 => ?_) (And.intro (fun g1 => ?_) (And.intro (fun g1 => ?_) (And.intro (fun g1 => ?_) (And.intro (fun g1 => ?_) (And.intro (fun g1 => ?_) (And.intro (fun g1 => ?_) (And.intro (fun g1 => ?_) (trivial))))))))
    · -- pc 1 switch None
      exfalso
      omega
    · -- pc 1 switch 0
      exfalso
      omega
    · -- pc 1 switch 1
      exfalso
      omega
    · -- pc 1 switch 2
      exfalso
      omega
    · -- pc 1 switch 3
      exfalso
      omega
    · -- pc 1 switch 4
      exfalso
      omega
    · -- pc 1 switch 5
      refine Mt.conseq ((by have h := m_brA sx (I 44) P hP3 hP8 I J; rw [show sR (I 44) (I) = I from sR_self (I)] at h; exact h)) ?_
      rintro _ _ _ ⟨rfl, rfl, rfl⟩
      exact ⟨trivial, congrArg (fun x => some (Value.int x)) ((brA_c ha P (Nat.le_refl _)).trans (bri_all hP8 _ P (Nat.le_refl _)).symm), hS⟩
    · -- pc 1 switch 6
      exfalso
      omega
  · -- pc 1 switch 6
    refine ⟨trivial, _, rfl, ?_⟩
    refine Mt.of2 _ rfl (by decide +kernel) (Nat.le_of_ble_eq_true rfl) ?_
    refine GW.run kX4_now (fun _ => false) 64 0 rfl ?_
    refine And.intro (fun g1 => ?_) (And.intro (fun g1 => ?_) (And.intro (fun g1 => ?_) (And.intro (fun g1 => ?_) (And.intro (fun g1 => ?_) (And.intro (fun g1 => ?_) (And.intro (fun g1 => ?_) (And.intro (fun g1 => ?_) (trivial))))))))
    · -- pc 1 switch None
      exfalso
      omega
    · -- pc 1 switch 0
      exfalso
      omega
    · -- pc 1 switch 1
      exfalso
      omega
    · -- pc 1 switch 2
      exfalso
      omega
    · -- pc 1 switch 3
      exfalso
      omega
    · -- pc 1 switch 4
      exfalso
      omega
    · -- pc 1 switch 5
      exfalso
      omega
    · -- pc 1 switch 6
      refine And.intro (by unfold vp_in; decide) ?_
      exact ⟨trivial, congrArg (fun x => some (Value.int x)) (ha.1 4 (by decide) (by decide)), hS⟩
set_option maxRecDepth 100000 in
set_option maxHeartbeats 4000000 in
theorem pr_of0 (sx : Nat × (Nat → Int32)) (one : Int32) : PrI sx MX3_of MX4_of [.int one, .int 0] := by
  intro I J hS
  obtain ⟨P, hN, ha, hP8, hP1, hP3, hpl⟩ := hS.nt
  have e73 : I 44 3 = I 1 7 := hP3.trans hP1.symm
  refine Mt.of2 _ rfl (by decide +kernel) (Nat.le_of_ble_eq_true rfl) ?_
  refine GW.run kX3_of (fun _ => false) 58 0 rfl ?_
  refine Mt.conseq (c_nobody _ _ _ _) ?_
  rintro _ _ _ ⟨rfl, rfl, ⟨h1, rfl⟩ | ⟨h1, rfl⟩⟩
  · -- pc 2 call X3_nobody true
    refine And.intro (fun _ => ?_) (fun hh => absurd hh (by decide))
    refine Mt.conseq (c_fnd0 _ _ _) ?_
    rintro _ _ _ ⟨rfl, rfl, rfl⟩
    refine ⟨trivial, _, rfl, ?_⟩
    refine Mt.of2 _ rfl (by decide +kernel) (Nat.le_of_ble_eq_true rfl) ?_
    refine GW.run kX4_of (fun _ => false) 55 0 rfl ?_
    refine Mt.conseq ((by have h := m_isOne sx one (I 44) (fnd I 0) J; rw [show sR (I 44) (fnd I 0) = fnd I 0 from sR_self (fnd I 0), e73] at h; exact h)) ?_
    rintro _ _ _ ⟨rfl, rfl, ⟨g1, rfl⟩ | ⟨g1, rfl⟩⟩
    · -- pc 2 call X4_isOne true
      exact (out_in h1 g1).elim
    · -- pc 2 call X4_isOne false
      refine And.intro (fun _ => ?_) (fun hh => absurd hh (by decide))
      refine Mt.conseq (m_fnd0 _ _ _) ?_
      rintro _ _ _ ⟨rfl, rfl, rfl⟩
      exact ⟨trivial, rfl, hS.found (by decide)⟩
  · -- pc 2 call X3_nobody false
    obtain ⟨p, hp, rfl⟩ := nbd hP1 hP8 h1
    have hbp : vp_in (nI p) 8 := vp_in_nI (by omega) (by omega)
    have hcp := nI_clamp (n := p) (by omega)
    refine And.intro (fun hh => absurd hh (by decide)) (fun _ => ?_)
    refine Mt.conseq (c_outside _ _ _ _ _ _) ?_
    rintro _ _ _ ⟨rfl, rfl, ⟨h3, rfl⟩ | ⟨h3, rfl⟩⟩
    · -- pc 11 call X3_outside true
      exact absurd h3 (by decide)
    · -- pc 11 call X3_outside false
      refine And.intro (fun _ => ?_) (fun hh => absurd hh (by decide))
      refine And.intro (fun _ => ?_) (fun hh => absurd hh (by decide))
      refine Mt.conseq (c_rop _ 1 (by decide) 0 (by decide) _ (by decide) _ _) ?_
      rintro _ _ _ ⟨rfl, rfl, rfl⟩
      refine And.intro (hbp) ?_
      refine ⟨trivial, _, rfl, ?_⟩
      refine Mt.of2 _ rfl (by decide +kernel) (Nat.le_of_ble_eq_true rfl) ?_
      refine GW.run kX4_of (fun _ => false) 55 0 rfl ?_
      refine Mt.conseq ((by have h := m_isOne sx (nI p) (I 44) (I) J; rw [show sR (I 44) (I) = I from sR_self (I), e73] at h; exact h)) ?_
      rintro _ _ _ ⟨rfl, rfl, ⟨g1, rfl⟩ | ⟨g1, rfl⟩⟩
      · -- pc 2 call X4_isOne true
        refine And.intro (fun hh => absurd hh (by decide)) (fun _ => ?_)
        refine Mt.conseq (m_in _ _ _ _ _ _) ?_
        rintro _ _ _ ⟨rfl, rfl, ⟨g2, rfl⟩ | ⟨g2, rfl⟩⟩
        · -- pc 11 call X4_in true
          refine And.intro (fun _ => ?_) (fun hh => absurd hh (by decide))
          refine And.intro (fun _ => ?_) (fun hh => absurd hh (by decide))
          refine Mt.conseq ((by have h := m_its sx p 0 (by omega) (by decide) 0 (by decide) (I 44) (I) J; rw [show sR (I 44) (I) = I from sR_self (I)] at h; exact h)) ?_
          rintro _ _ _ ⟨rfl, rfl, rfl⟩
          refine ⟨trivial, ?_, hS⟩
          rw [hcp]
          exact congrArg (fun x => some (Value.int x)) (ha.2.2 5 p (by decide) (by decide) hp)
        · -- pc 11 call X4_in false
          exact (nout_nin h3 g2).elim
      · -- pc 2 call X4_isOne false
        exact (nout_nin h1 g1).elim
set_option maxRecDepth 100000 in
set_option maxHeartbeats 4000000 in
theorem pr_of1 (sx : Nat × (Nat → Int32)) (one : Int32) : PrI sx MX3_of MX4_of [.int one, .int 1] := by
  intro I J hS
  obtain ⟨P, hN, ha, hP8, hP1, hP3, hpl⟩ := hS.nt
  have e73 : I 44 3 = I 1 7 := hP3.trans hP1.symm
  refine Mt.of2 _ rfl (by decide +kernel) (Nat.le_of_ble_eq_true rfl) ?_
  refine GW.run kX3_of (fun _ => false) 58 0 rfl ?_
  refine Mt.conseq (c_nobody _ _ _ _) ?_
  rintro _ _ _ ⟨rfl, rfl, ⟨h1, rfl⟩ | ⟨h1, rfl⟩⟩
  · -- pc 2 call X3_nobody true
    refine And.intro (fun _ => ?_) (fun hh => absurd hh (by decide))
    refine Mt.conseq (c_fnd0 _ _ _) ?_
    rintro _ _ _ ⟨rfl, rfl, rfl⟩
    refine ⟨trivial, _, rfl, ?_⟩
    refine Mt.of2 _ rfl (by decide +kernel) (Nat.le_of_ble_eq_true rfl) ?_
    refine GW.run kX4_of (fun _ => false) 55 0 rfl ?_
    refine Mt.conseq ((by have h := m_isOne sx one (I 44) (fnd I 0) J; rw [show sR (I 44) (fnd I 0) = fnd I 0 from sR_self (fnd I 0), e73] at h; exact h)) ?_
    rintro _ _ _ ⟨rfl, rfl, ⟨g1, rfl⟩ | ⟨g1, rfl⟩⟩
    · -- pc 2 call X4_isOne true
      exact (out_in h1 g1).elim
    · -- pc 2 call X4_isOne false
      refine And.intro (fun _ => ?_) (fun hh => absurd hh (by decide))
      refine Mt.conseq (m_fnd0 _ _ _) ?_
      rintro _ _ _ ⟨rfl, rfl, rfl⟩
      exact ⟨trivial, rfl, hS.found (by decide)⟩
  · -- pc 2 call X3_nobody false
    obtain ⟨p, hp, rfl⟩ := nbd hP1 hP8 h1
    have hbp : vp_in (nI p) 8 := vp_in_nI (by omega) (by omega)
    have hcp := nI_clamp (n := p) (by omega)
    refine And.intro (fun hh => absurd hh (by decide)) (fun _ => ?_)
    refine Mt.conseq (c_outside _ _ _ _ _ _) ?_
    rintro _ _ _ ⟨rfl, rfl, ⟨h3, rfl⟩ | ⟨h3, rfl⟩⟩
    · -- pc 11 call X3_outside true
      exact absurd h3 (by decide)
    · -- pc 11 call X3_outside false
      refine And.intro (fun _ => ?_) (fun hh => absurd hh (by decide))
      refine And.intro (fun _ => ?_) (fun hh => absurd hh (by decide))
      refine Mt.conseq (c_rop _ 1 (by decide) 1 (by decide) _ (by decide) _ _) ?_
      rintro _ _ _ ⟨rfl, rfl, rfl⟩
      refine And.intro (hbp) ?_
      refine ⟨trivial, _, rfl, ?_⟩
      refine Mt.of2 _ rfl (by decide +kernel) (Nat.le_of_ble_eq_true rfl) ?_
      refine GW.run kX4_of (fun _ => false) 55 0 rfl ?_
      refine Mt.conseq ((by have h := m_isOne sx (nI p) (I 44) (I) J; rw [show sR (I 44) (I) = I from sR_self (I), e73] at h; exact h)) ?_
      rintro _ _ _ ⟨rfl, rfl, ⟨g1, rfl⟩ | ⟨g1, rfl⟩⟩
      · -- pc 2 call X4_isOne true
        refine And.intro (fun hh => absurd hh (by decide)) (fun _ => ?_)
        refine Mt.conseq (m_in _ _ _ _ _ _) ?_
        rintro _ _ _ ⟨rfl, rfl, ⟨g2, rfl⟩ | ⟨g2, rfl⟩⟩
        · -- pc 11 call X4_in true
          refine And.intro (fun _ => ?_) (fun hh => absurd hh (by decide))
          refine And.intro (fun _ => ?_) (fun hh => absurd hh (by decide))
          refine Mt.conseq ((by have h := m_its sx p 1 (by omega) (by decide) 1 (by decide) (I 44) (I) J; rw [show sR (I 44) (I) = I from sR_self (I)] at h; exact h)) ?_
          rintro _ _ _ ⟨rfl, rfl, rfl⟩
          refine ⟨trivial, ?_, hS⟩
          rw [hcp]
          exact congrArg (fun x => some (Value.int x)) (ha.2.2 6 p (by decide) (by decide) hp)
        · -- pc 11 call X4_in false
          exact (nout_nin h3 g2).elim
      · -- pc 2 call X4_isOne false
        exact (nout_nin h1 g1).elim
set_option maxRecDepth 100000 in
set_option maxHeartbeats 4000000 in
theorem pr_of2 (sx : Nat × (Nat → Int32)) (one : Int32) : PrI sx MX3_of MX4_of [.int one, .int 2] := by
  intro I J hS
  obtain ⟨P, hN, ha, hP8, hP1, hP3, hpl⟩ := hS.nt
  have e73 : I 44 3 = I 1 7 := hP3.trans hP1.symm
  refine Mt.of2 _ rfl (by decide +kernel) (Nat.le_of_ble_eq_true rfl) ?_
  refine GW.run kX3_of (fun _ => false) 58 0 rfl ?_
  refine Mt.conseq (c_nobody _ _ _ _) ?_
  rintro _ _ _ ⟨rfl, rfl, ⟨h1, rfl⟩ | ⟨h1, rfl⟩⟩
  · -- pc 2 call X3_nobody true
    refine And.intro (fun _ => ?_) (fun hh => absurd hh (by decide))
    refine Mt.conseq (c_fnd0 _ _ _) ?_
    rintro _ _ _ ⟨rfl, rfl, rfl⟩
    refine ⟨trivial, _, rfl, ?_⟩
    refine Mt.of2 _ rfl (by decide +kernel) (Nat.le_of_ble_eq_true rfl) ?_
    refine GW.run kX4_of (fun _ => false) 55 0 rfl ?_
    refine Mt.conseq ((by have h := m_isOne sx one (I 44) (fnd I 0) J; rw [show sR (I 44) (fnd I 0) = fnd I 0 from sR_self (fnd I 0), e73] at h; exact h)) ?_
    rintro _ _ _ ⟨rfl, rfl, ⟨g1, rfl⟩ | ⟨g1, rfl⟩⟩
    · -- pc 2 call X4_isOne true
      exact (out_in h1 g1).elim
    · -- pc 2 call X4_isOne false
      refine And.intro (fun _ => ?_) (fun hh => absurd hh (by decide))
      refine Mt.conseq (m_fnd0 _ _ _) ?_
      rintro _ _ _ ⟨rfl, rfl, rfl⟩
      exact ⟨trivial, rfl, hS.found (by decide)⟩
  · -- pc 2 call X3_nobody false
    obtain ⟨p, hp, rfl⟩ := nbd hP1 hP8 h1
    have hbp : vp_in (nI p) 8 := vp_in_nI (by omega) (by omega)
    have hcp := nI_clamp (n := p) (by omega)
    refine And.intro (fun hh => absurd hh (by decide)) (fun _ => ?_)
    refine Mt.conseq (c_outside _ _ _ _ _ _) ?_
    rintro _ _ _ ⟨rfl, rfl, ⟨h3, rfl⟩ | ⟨h3, rfl⟩⟩
    · -- pc 11 call X3_outside true
      exact absurd h3 (by decide)
    · -- pc 11 call X3_outside false
      refine And.intro (fun _ => ?_) (fun hh => absurd hh (by decide))
      refine And.intro (fun _ => ?_) (fun hh => absurd hh (by decide))
      refine Mt.conseq (c_rop _ 1 (by decide) 2 (by decide) _ (by decide) _ _) ?_
      rintro _ _ _ ⟨rfl, rfl, rfl⟩
      refine And.intro (hbp) ?_
      refine ⟨trivial, _, rfl, ?_⟩
      refine Mt.of2 _ rfl (by decide +kernel) (Nat.le_of_ble_eq_true rfl) ?_
      refine GW.run kX4_of (fun _ => false) 55 0 rfl ?_
      refine Mt.conseq ((by have h := m_isOne sx (nI p) (I 44) (I) J; rw [show sR (I 44) (I) = I from sR_self (I), e73] at h; exact h)) ?_
      rintro _ _ _ ⟨rfl, rfl, ⟨g1, rfl⟩ | ⟨g1, rfl⟩⟩
      · -- pc 2 call X4_isOne true
        refine And.intro (fun hh => absurd hh (by decide)) (fun _ => ?_)
        refine Mt.conseq (m_in _ _ _ _ _ _) ?_
        rintro _ _ _ ⟨rfl, rfl, ⟨g2, rfl⟩ | ⟨g2, rfl⟩⟩
        · -- pc 11 call X4_in true
          refine And.intro (fun _ => ?_) (fun hh => absurd hh (by decide))
          refine And.intro (fun _ => ?_) (fun hh => absurd hh (by decide))
          refine Mt.conseq ((by have h := m_its sx p 2 (by omega) (by decide) 2 (by decide) (I 44) (I) J; rw [show sR (I 44) (I) = I from sR_self (I)] at h; exact h)) ?_
          rintro _ _ _ ⟨rfl, rfl, rfl⟩
          refine ⟨trivial, ?_, hS⟩
          rw [hcp]
          exact congrArg (fun x => some (Value.int x)) (ha.2.2 7 p (by decide) (by decide) hp)
        · -- pc 11 call X4_in false
          exact (nout_nin h3 g2).elim
      · -- pc 2 call X4_isOne false
        exact (nout_nin h1 g1).elim
set_option maxRecDepth 100000 in
set_option maxHeartbeats 4000000 in
theorem pr_of3 (sx : Nat × (Nat → Int32)) (one : Int32) : PrI sx MX3_of MX4_of [.int one, .int 3] := by
  intro I J hS
  obtain ⟨P, hN, ha, hP8, hP1, hP3, hpl⟩ := hS.nt
  have e73 : I 44 3 = I 1 7 := hP3.trans hP1.symm
  refine Mt.of2 _ rfl (by decide +kernel) (Nat.le_of_ble_eq_true rfl) ?_
  refine GW.run kX3_of (fun _ => false) 58 0 rfl ?_
  refine Mt.conseq (c_nobody _ _ _ _) ?_
  rintro _ _ _ ⟨rfl, rfl, ⟨h1, rfl⟩ | ⟨h1, rfl⟩⟩
  · -- pc 2 call X3_nobody true
    refine And.intro (fun _ => ?_) (fun hh => absurd hh (by decide))
    refine Mt.conseq (c_fnd0 _ _ _) ?_
    rintro _ _ _ ⟨rfl, rfl, rfl⟩
    refine ⟨trivial, _, rfl, ?_⟩
    refine Mt.of2 _ rfl (by decide +kernel) (Nat.le_of_ble_eq_true rfl) ?_
    refine GW.run kX4_of (fun _ => false) 55 0 rfl ?_
    refine Mt.conseq ((by have h := m_isOne sx one (I 44) (fnd I 0) J; rw [show sR (I 44) (fnd I 0) = fnd I 0 from sR_self (fnd I 0), e73] at h; exact h)) ?_
    rintro _ _ _ ⟨rfl, rfl, ⟨g1, rfl⟩ | ⟨g1, rfl⟩⟩
    · -- pc 2 call X4_isOne true
      exact (out_in h1 g1).elim
    · -- pc 2 call X4_isOne false
      refine And.intro (fun _ => ?_) (fun hh => absurd hh (by decide))
      refine Mt.conseq (m_fnd0 _ _ _) ?_
      rintro _ _ _ ⟨rfl, rfl, rfl⟩
      exact ⟨trivial, rfl, hS.found (by decide)⟩
  · -- pc 2 call X3_nobody false
    obtain ⟨p, hp, rfl⟩ := nbd hP1 hP8 h1
    have hbp : vp_in (nI p) 8 := vp_in_nI (by omega) (by omega)
    have hcp := nI_clamp (n := p) (by omega)
    refine And.intro (fun hh => absurd hh (by decide)) (fun _ => ?_)
    refine Mt.conseq (c_outside _ _ _ _ _ _) ?_
    rintro _ _ _ ⟨rfl, rfl, ⟨h3, rfl⟩ | ⟨h3, rfl⟩⟩
    · -- pc 11 call X3_outside true
      exact absurd h3 (by decide)
    · -- pc 11 call X3_outside false
      refine And.intro (fun _ => ?_) (fun hh => absurd hh (by decide))
      refine And.intro (fun _ => ?_) (fun hh => absurd hh (by decide))
      refine Mt.conseq (c_rop _ 1 (by decide) 3 (by decide) _ (by decide) _ _) ?_
      rintro _ _ _ ⟨rfl, rfl, rfl⟩
      refine And.intro (hbp) ?_
      refine ⟨trivial, _, rfl, ?_⟩
      refine Mt.of2 _ rfl (by decide +kernel) (Nat.le_of_ble_eq_true rfl) ?_
      refine GW.run kX4_of (fun _ => false) 55 0 rfl ?_
      refine Mt.conseq ((by have h := m_isOne sx (nI p) (I 44) (I) J; rw [show sR (I 44) (I) = I from sR_self (I), e73] at h; exact h)) ?_
      rintro _ _ _ ⟨rfl, rfl, ⟨g1, rfl⟩ | ⟨g1, rfl⟩⟩
      · -- pc 2 call X4_isOne true
        refine And.intro (fun hh => absurd hh (by decide)) (fun _ => ?_)
        refine Mt.conseq (m_in _ _ _ _ _ _) ?_
        rintro _ _ _ ⟨rfl, rfl, ⟨g2, rfl⟩ | ⟨g2, rfl⟩⟩
        · -- pc 11 call X4_in true
          refine And.intro (fun _ => ?_) (fun hh => absurd hh (by decide))
          refine And.intro (fun _ => ?_) (fun hh => absurd hh (by decide))
          refine Mt.conseq ((by have h := m_its sx p 3 (by omega) (by decide) 3 (by decide) (I 44) (I) J; rw [show sR (I 44) (I) = I from sR_self (I)] at h; exact h)) ?_
          rintro _ _ _ ⟨rfl, rfl, rfl⟩
          refine ⟨trivial, ?_, hS⟩
          rw [hcp]
          exact congrArg (fun x => some (Value.int x)) (ha.2.2 8 p (by decide) (by decide) hp)
        · -- pc 11 call X4_in false
          exact (nout_nin h3 g2).elim
      · -- pc 2 call X4_isOne false
        exact (nout_nin h1 g1).elim
set_option maxRecDepth 100000 in
set_option maxHeartbeats 4000000 in
theorem pr_of4 (sx : Nat × (Nat → Int32)) (one : Int32) : PrI sx MX3_of MX4_of [.int one, .int 4] := by
  intro I J hS
  obtain ⟨P, hN, ha, hP8, hP1, hP3, hpl⟩ := hS.nt
  have e73 : I 44 3 = I 1 7 := hP3.trans hP1.symm
  refine Mt.of2 _ rfl (by decide +kernel) (Nat.le_of_ble_eq_true rfl) ?_
  refine GW.run kX3_of (fun _ => false) 58 0 rfl ?_
  refine Mt.conseq (c_nobody _ _ _ _) ?_
  rintro _ _ _ ⟨rfl, rfl, ⟨h1, rfl⟩ | ⟨h1, rfl⟩⟩
  · -- pc 2 call X3_nobody true
    refine And.intro (fun _ => ?_) (fun hh => absurd hh (by decide))
    refine Mt.conseq (c_fnd0 _ _ _) ?_
    rintro _ _ _ ⟨rfl, rfl, rfl⟩
    refine ⟨trivial, _, rfl, ?_⟩
    refine Mt.of2 _ rfl (by decide +kernel) (Nat.le_of_ble_eq_true rfl) ?_
    refine GW.run kX4_of (fun _ => false) 55 0 rfl ?_
    refine Mt.conseq ((by have h := m_isOne sx one (I 44) (fnd I 0) J; rw [show sR (I 44) (fnd I 0) = fnd I 0 from sR_self (fnd I 0), e73] at h; exact h)) ?_
    rintro _ _ _ ⟨rfl, rfl, ⟨g1, rfl⟩ | ⟨g1, rfl⟩⟩
    · -- pc 2 call X4_isOne true
      exact (out_in h1 g1).elim
    · -- pc 2 call X4_isOne false
      refine And.intro (fun _ => ?_) (fun hh => absurd hh (by decide))
      refine Mt.conseq (m_fnd0 _ _ _) ?_
      rintro _ _ _ ⟨rfl, rfl, rfl⟩
      exact ⟨trivial, rfl, hS.found (by decide)⟩
  · -- pc 2 call X3_nobody false
    obtain ⟨p, hp, rfl⟩ := nbd hP1 hP8 h1
    have hbp : vp_in (nI p) 8 := vp_in_nI (by omega) (by omega)
    have hcp := nI_clamp (n := p) (by omega)
    refine And.intro (fun hh => absurd hh (by decide)) (fun _ => ?_)
    refine Mt.conseq (c_outside _ _ _ _ _ _) ?_
    rintro _ _ _ ⟨rfl, rfl, ⟨h3, rfl⟩ | ⟨h3, rfl⟩⟩
    · -- pc 11 call X3_outside true
      exact absurd h3 (by decide)
    · -- pc 11 call X3_outside false
      refine And.intro (fun _ => ?_) (fun hh => absurd hh (by decide))
      refine And.intro (fun _ => ?_) (fun hh => absurd hh (by decide))
      refine Mt.conseq (c_rop _ 1 (by decide) 4 (by decide) _ (by decide) _ _) ?_
      rintro _ _ _ ⟨rfl, rfl, rfl⟩
      refine And.intro (hbp) ?_
      refine ⟨trivial, _, rfl, ?_⟩
      refine Mt.of2 _ rfl (by decide +kernel) (Nat.le_of_ble_eq_true rfl) ?_
      refine GW.run kX4_of (fun _ => false) 55 0 rfl ?_
      refine Mt.conseq ((by have h := m_isOne sx (nI p) (I 44) (I) J; rw [show sR (I 44) (I) = I from sR_self (I), e73] at h; exact h)) ?_
      rintro _ _ _ ⟨rfl, rfl, ⟨g1, rfl⟩ | ⟨g1, rfl⟩⟩
      · -- pc 2 call X4_isOne true
        refine And.intro (fun hh => absurd hh (by decide)) (fun _ => ?_)
        refine Mt.conseq (m_in _ _ _ _ _ _) ?_
        rintro _ _ _ ⟨rfl, rfl, ⟨g2, rfl⟩ | ⟨g2, rfl⟩⟩
        · -- pc 11 call X4_in true
          refine And.intro (fun _ => ?_) (fun hh => absurd hh (by decide))
          refine And.intro (fun _ => ?_) (fun hh => absurd hh (by decide))
          refine Mt.conseq ((by have h := m_its sx p 4 (by omega) (by decide) 4 (by decide) (I 44) (I) J; rw [show sR (I 44) (I) = I from sR_self (I)] at h; exact h)) ?_
          rintro _ _ _ ⟨rfl, rfl, rfl⟩
          refine ⟨trivial, ?_, hS⟩
          rw [hcp]
          exact congrArg (fun x => some (Value.int x)) (ha.2.2 9 p (by decide) (by decide) hp)
        · -- pc 11 call X4_in false
          exact (nout_nin h3 g2).elim
      · -- pc 2 call X4_isOne false
        exact (nout_nin h1 g1).elim
set_option maxRecDepth 100000 in
set_option maxHeartbeats 4000000 in
theorem pr_of5 (sx : Nat × (Nat → Int32)) (one : Int32) : PrI sx MX3_of MX4_of [.int one, .int 5] := by
  intro I J hS
  obtain ⟨P, hN, ha, hP8, hP1, hP3, hpl⟩ := hS.nt
  have e73 : I 44 3 = I 1 7 := hP3.trans hP1.symm
  refine Mt.of2 _ rfl (by decide +kernel) (Nat.le_of_ble_eq_true rfl) ?_
  refine GW.run kX3_of (fun _ => false) 58 0 rfl ?_
  refine Mt.conseq (c_nobody _ _ _ _) ?_
  rintro _ _ _ ⟨rfl, rfl, ⟨h1, rfl⟩ | ⟨h1, rfl⟩⟩
  · -- pc 2 call X3_nobody true
    refine And.intro (fun _ => ?_) (fun hh => absurd hh (by decide))
    refine Mt.conseq (c_fnd0 _ _ _) ?_
    rintro _ _ _ ⟨rfl, rfl, rfl⟩
    refine ⟨trivial, _, rfl, ?_⟩
    refine Mt.of2 _ rfl (by decide +kernel) (Nat.le_of_ble_eq_true rfl) ?_
    refine GW.run kX4_of (fun _ => false) 55 0 rfl ?_
    refine Mt.conseq ((by have h := m_isOne sx one (I 44) (fnd I 0) J; rw [show sR (I 44) (fnd I 0) = fnd I 0 from sR_self (fnd I 0), e73] at h; exact h)) ?_
    rintro _ _ _ ⟨rfl, rfl, ⟨g1, rfl⟩ | ⟨g1, rfl⟩⟩
    · -- pc 2 call X4_isOne true
      exact (out_in h1 g1).elim
    · -- pc 2 call X4_isOne false
      refine And.intro (fun _ => ?_) (fun hh => absurd hh (by decide))
      refine Mt.conseq (m_fnd0 _ _ _) ?_
      rintro _ _ _ ⟨rfl, rfl, rfl⟩
      exact ⟨trivial, rfl, hS.found (by decide)⟩
  · -- pc 2 call X3_nobody false
    obtain ⟨p, hp, rfl⟩ := nbd hP1 hP8 h1
    have hbp : vp_in (nI p) 8 := vp_in_nI (by omega) (by omega)
    have hcp := nI_clamp (n := p) (by omega)
    refine And.intro (fun hh => absurd hh (by decide)) (fun _ => ?_)
    refine Mt.conseq (c_outside _ _ _ _ _ _) ?_
    rintro _ _ _ ⟨rfl, rfl, ⟨h3, rfl⟩ | ⟨h3, rfl⟩⟩
    · -- pc 11 call X3_outside true
      exact absurd h3 (by decide)
    · -- pc 11 call X3_outside false
      refine And.intro (fun _ => ?_) (fun hh => absurd hh (by decide))
      refine And.intro (fun hh => absurd hh (by decide)) (fun _ => ?_)
      refine Mt.conseq ((by have h := c_brt sx 1 (Or.inl rfl) (gN 1 I) P hP1 hP8 p (by omega) I J; rw [pN_gN] at h; exact h)) ?_
      rintro _ _ _ ⟨rfl, rfl, rfl⟩
      refine ⟨trivial, _, rfl, ?_⟩
      refine Mt.of2 _ rfl (by decide +kernel) (Nat.le_of_ble_eq_true rfl) ?_
      refine GW.run kX4_of (fun _ => false) 55 0 rfl ?_
      refine Mt.conseq ((by have h := m_isOne sx (nI p) (I 44) (I) J; rw [show sR (I 44) (I) = I from sR_self (I), e73] at h; exact h)) ?_
      rintro _ _ _ ⟨rfl, rfl, ⟨g1, rfl⟩ | ⟨g1, rfl⟩⟩
      · -- pc 2 call X4_isOne true
        refine And.intro (fun hh => absurd hh (by decide)) (fun _ => ?_)
        refine Mt.conseq (m_in _ _ _ _ _ _) ?_
        rintro _ _ _ ⟨rfl, rfl, ⟨g2, rfl⟩ | ⟨g2, rfl⟩⟩
        · -- pc 11 call X4_in true
          refine And.intro (fun _ => ?_) (fun hh => absurd hh (by decide))
          refine And.intro (fun hh => absurd hh (by decide)) (fun _ => ?_)
          refine Mt.conseq ((by have h := m_brt sx (I 44) P hP3 hP8 p (by omega) (I) J; rw [show sR (I 44) (I) = I from sR_self (I)] at h; exact h)) ?_
          rintro _ _ _ ⟨rfl, rfl, rfl⟩
          exact ⟨trivial, congrArg (fun x => some (Value.int x)) (brt_c ha hp), hS⟩
        · -- pc 11 call X4_in false
          exact (nout_nin h3 g2).elim
      · -- pc 2 call X4_isOne false
        exact (nout_nin h1 g1).elim
set_option maxRecDepth 100000 in
set_option maxHeartbeats 4000000 in
theorem pr_ofx (sx : Nat × (Nat → Int32)) (one w : Int32) (hw : outP w 0 5) : PrI sx MX3_of MX4_of [.int one, .int w] := by
  intro I J hS
  obtain ⟨P, hN, ha, hP8, hP1, hP3, hpl⟩ := hS.nt
  have e73 : I 44 3 = I 1 7 := hP3.trans hP1.symm
  refine Mt.of2 _ rfl (by decide +kernel) (Nat.le_of_ble_eq_true rfl) ?_
  refine GW.run kX3_of (fun _ => false) 58 0 rfl ?_
  refine Mt.conseq (c_nobody _ _ _ _) ?_
  rintro _ _ _ ⟨rfl, rfl, ⟨h1, rfl⟩ | ⟨h1, rfl⟩⟩
  · -- pc 2 call X3_nobody true
    refine And.intro (fun _ => ?_) (fun hh => absurd hh (by decide))
    refine Mt.conseq (c_fnd0 _ _ _) ?_
    rintro _ _ _ ⟨rfl, rfl, rfl⟩
    refine ⟨trivial, _, rfl, ?_⟩
    refine Mt.of2 _ rfl (by decide +kernel) (Nat.le_of_ble_eq_true rfl) ?_
    refine GW.run kX4_of (fun _ => false) 55 0 rfl ?_
    refine Mt.conseq ((by have h := m_isOne sx one (I 44) (fnd I 0) J; rw [show sR (I 44) (fnd I 0) = fnd I 0 from sR_self (fnd I 0), e73] at h; exact h)) ?_
    rintro _ _ _ ⟨rfl, rfl, ⟨g1, rfl⟩ | ⟨g1, rfl⟩⟩
    · -- pc 2 call X4_isOne true
      exact (out_in h1 g1).elim
    · -- pc 2 call X4_isOne false
      refine And.intro (fun _ => ?_) (fun hh => absurd hh (by decide))
      refine Mt.conseq (m_fnd0 _ _ _) ?_
      rintro _ _ _ ⟨rfl, rfl, rfl⟩
      exact ⟨trivial, rfl, hS.found (by decide)⟩
  · -- pc 2 call X3_nobody false
    refine And.intro (fun hh => absurd hh (by decide)) (fun _ => ?_)
    refine Mt.conseq (c_outside _ _ _ _ _ _) ?_
    rintro _ _ _ ⟨rfl, rfl, ⟨h3, rfl⟩ | ⟨h3, rfl⟩⟩
    · -- pc 11 call X3_outside true
      refine And.intro (fun hh => absurd hh (by decide)) (fun _ => ?_)
      refine Mt.conseq (c_fnd0 _ _ _) ?_
      rintro _ _ _ ⟨rfl, rfl, rfl⟩
      refine ⟨trivial, _, rfl, ?_⟩
      refine Mt.of2 _ rfl (by decide +kernel) (Nat.le_of_ble_eq_true rfl) ?_
      refine GW.run kX4_of (fun _ => false) 55 0 rfl ?_
      refine Mt.conseq ((by have h := m_isOne sx one (I 44) (fnd I 0) J; rw [show sR (I 44) (fnd I 0) = fnd I 0 from sR_self (fnd I 0), e73] at h; exact h)) ?_
      rintro _ _ _ ⟨rfl, rfl, ⟨g1, rfl⟩ | ⟨g1, rfl⟩⟩
      · -- pc 2 call X4_isOne true
        refine And.intro (fun hh => absurd hh (by decide)) (fun _ => ?_)
        refine Mt.conseq (m_in _ _ _ _ _ _) ?_
        rintro _ _ _ ⟨rfl, rfl, ⟨g2, rfl⟩ | ⟨g2, rfl⟩⟩
        · -- pc 11 call X4_in true
          exact (out_in h3 g2).elim
        · -- pc 11 call X4_in false
          refine And.intro (fun hh => absurd hh (by decide)) (fun _ => ?_)
          refine Mt.conseq (m_fnd0 _ _ _) ?_
          rintro _ _ _ ⟨rfl, rfl, rfl⟩
          exact ⟨trivial, rfl, hS.found (by decide)⟩
      · -- pc 2 call X4_isOne false
        exact (nout_nin h1 g1).elim
    · -- pc 11 call X3_outside false
      exact absurd hw h3
theorem pr_of (sx : Nat × (Nat → Int32)) (one w : Int32) : PrI sx MX3_of MX4_of [.int one, .int w] := by
  by_cases h : outP w 0 5
  · exact pr_ofx sx one w h
  · obtain ⟨n, hn, rfl⟩ := nout_nI (b := 5) (by decide) h
    obtain rfl | rfl | rfl | rfl | rfl | rfl : n = 0 ∨ n = 1 ∨ n = 2 ∨ n = 3 ∨ n = 4 ∨ n = 5 := by omega
    · exact pr_of0 sx one
    · exact pr_of1 sx one
    · exact pr_of2 sx one
    · exact pr_of3 sx one
    · exact pr_of4 sx one
    · exact pr_of5 sx one
