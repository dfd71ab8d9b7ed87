/-! PAIRS: set -/
theorem NOk.p1 {P : Nat} {N : Mm} (h : NOk P N) {j : Nat} {v : Int32} (hv : rg 0 7 v) : NOk P (na_set N 6 j v) := by
  refine ⟨h.1.off (Or.inr (by decide)), fun p hp => ?_, h.2.2.1, h.2.2.2.1, h.2.2.2.2.1, h.2.2.2.2.2.1, h.2.2.2.2.2.2⟩
  obtain ⟨h1, h2, h3, h4, h5⟩ := h.2.1 p hp
  refine ⟨h1, ?_, h3, h4, h5⟩
  rw [na_set_get]
  split
  · exact hv
  · exact h2
theorem NOk.p2 {P : Nat} {N : Mm} (h : NOk P N) {j : Nat} {v : Int32} (hv : rg 1 20 v) : NOk P (na_set N 7 j v) := by
  refine ⟨h.1.off (Or.inr (by decide)), fun p hp => ?_, h.2.2.1, h.2.2.2.1, h.2.2.2.2.1, h.2.2.2.2.2.1, h.2.2.2.2.2.2⟩
  obtain ⟨h1, h2, h3, h4, h5⟩ := h.2.1 p hp
  refine ⟨h1, h2, ?_, h4, h5⟩
  rw [na_set_get]
  split
  · exact hv
  · exact h3
theorem NOk.p3 {P : Nat} {N : Mm} (h : NOk P N) {j : Nat} {v : Int32} (hv : rg 0 999 v) : NOk P (na_set N 8 j v) := by
  refine ⟨h.1.off (Or.inr (by decide)), fun p hp => ?_, h.2.2.1, h.2.2.2.1, h.2.2.2.2.1, h.2.2.2.2.2.1, h.2.2.2.2.2.2⟩
  obtain ⟨h1, h2, h3, h4, h5⟩ := h.2.1 p hp
  refine ⟨h1, h2, h3, ?_, h5⟩
  rw [na_set_get]
  split
  · exact hv
  · exact h4
theorem rg01 {v : Int32} (h : rg 0 1 v) : v = 0 ∨ v = 1 := by
  obtain ⟨n, hn, rfl⟩ := nI_rg (b := 1) (by decide) h
  obtain rfl | rfl : n = 0 ∨ n = 1 := by omega
  · exact Or.inl rfl
  · exact Or.inr rfl
theorem NOk.p4 {P : Nat} {N : Mm} (h : NOk P N) {j : Nat} {v : Int32} (hv : rg 0 1 v) : NOk P (na_set N 9 j v) := by
  refine ⟨h.1.off (Or.inr (by decide)), fun p hp => ?_, h.2.2.1, h.2.2.2.1, h.2.2.2.2.1, h.2.2.2.2.2.1, h.2.2.2.2.2.2⟩
  obtain ⟨h1, h2, h3, h4, h5⟩ := h.2.1 p hp
  refine ⟨h1, h2, h3, h4, ?_⟩
  rw [na_set_get]
  split
  · exact rg01 hv
  · exact h5
set_option maxRecDepth 100000 in
set_option maxHeartbeats 4000000 in
theorem pr_set1 (sx : Nat × (Nat → Int32)) (one v : Int32) : PrI sx MX3_set MX4_set [.int one, .int 1, .int v] := by
  intro I J hS
  obtain ⟨P, hN, ha, hP8, hP1, hP3, hpl⟩ := hS.nt
  have e73 : I 44 3 = I 1 7 := hP3.trans hP1.symm
  refine Mt.of2 _ rfl (by decide +kernel) (Nat.le_of_ble_eq_true rfl) ?_
  refine GW.run kX3_set (fun _ => false) 60 0 rfl ?_
  refine Mt.conseq (c_nobody _ _ _ _) ?_
  rintro _ _ _ ⟨rfl, rfl, ⟨h1, rfl⟩ | ⟨h1, rfl⟩⟩
  · -- pc 2 call X3_nobody true
    refine And.intro (fun _ => ?_) (fun hh => absurd hh (by decide))
    refine Mt.conseq (c_fnd0 _ _ _) ?_
    rintro _ _ _ ⟨rfl, rfl, rfl⟩
    refine ⟨trivial, _, rfl, ?_⟩
    refine Mt.of2 _ rfl (by decide +kernel) (Nat.le_of_ble_eq_true rfl) ?_
    refine GW.run kX4_set (fun _ => false) 86 0 rfl ?_
    refine And.intro (fun hh => absurd hh (by decide)) (fun _ => ?_)
    refine Mt.conseq (m_isRoom _ _ _ _) ?_
    rintro _ _ _ ⟨rfl, rfl, ⟨g1, rfl⟩ | ⟨g1, rfl⟩⟩
    · -- pc 6 call X4_isRoom true
      refine Mt.conseq ((by have h := m_isOne sx one (I 44) (fnd I 0) J; rw [show sR (I 44) (fnd I 0) = fnd I 0 from sR_self (fnd I 0), e73] at h; exact h)) ?_
      rintro _ _ _ ⟨rfl, rfl, ⟨g2, rfl⟩ | ⟨g2, rfl⟩⟩
      · -- pc 66 call X4_isOne true
        exact (out_in h1 g2).elim
      · -- pc 66 call X4_isOne false
        refine And.intro (fun _ => ?_) (fun hh => absurd hh (by decide))
        refine Mt.conseq (m_fnd0 _ _ _) ?_
        rintro _ _ _ ⟨rfl, rfl, rfl⟩
        exact ⟨trivial, rfl, hS.found (by decide)⟩
    · -- pc 6 call X4_isRoom false
      refine Mt.conseq ((by have h := m_isOne sx one (I 44) (fnd I 0) J; rw [show sR (I 44) (fnd I 0) = fnd I 0 from sR_self (fnd I 0), e73] at h; exact h)) ?_
      rintro _ _ _ ⟨rfl, rfl, ⟨g4, rfl⟩ | ⟨g4, rfl⟩⟩
      · -- pc 66 call X4_isOne true
        exact (out_in h1 g4).elim
      · -- pc 66 call X4_isOne false
        refine And.intro (fun _ => ?_) (fun hh => absurd hh (by decide))
        refine Mt.conseq (m_fnd0 _ _ _) ?_
        rintro _ _ _ ⟨rfl, rfl, rfl⟩
        exact ⟨trivial, rfl, hS.found (by decide)⟩
  · -- pc 2 call X3_nobody false
    obtain ⟨p, hp, rfl⟩ := nbd hP1 hP8 h1
    have hbp : vp_in (nI p) 8 := vp_in_nI (by omega) (by omega)
    have hcp := nI_clamp (n := p) (by omega)
    refine And.intro (fun hh => absurd hh (by decide)) (fun _ => ?_)
    refine Mt.conseq (c_outside _ _ _ _ _ _) ?_
    rintro _ _ _ ⟨rfl, rfl, ⟨h3, rfl⟩ | ⟨h3, rfl⟩⟩
    · -- pc 11 call X3_outside true
      exact absurd h3 (by decide)
    · -- pc 11 call X3_outside false
      refine And.intro (fun hh => absurd hh (by decide)) (fun _ => ?_)
      refine And.intro (by unfold vp_in; decide) ?_
      refine And.intro (by unfold vp_in; decide) ?_
      refine Mt.conseq (c_outside _ _ _ _ _ _) ?_
      rintro _ _ _ ⟨rfl, rfl, ⟨h4, rfl⟩ | ⟨h4, rfl⟩⟩
      · -- pc 28 call X3_outside true
        have hv : outP v 0 7 := h4
        refine And.intro (fun hh => absurd hh (by decide)) (fun _ => ?_)
        refine Mt.conseq (c_fnd0 _ _ _) ?_
        rintro _ _ _ ⟨rfl, rfl, rfl⟩
        refine ⟨trivial, _, rfl, ?_⟩
        refine Mt.of2 _ rfl (by decide +kernel) (Nat.le_of_ble_eq_true rfl) ?_
        refine GW.run kX4_set (fun _ => false) 86 0 rfl ?_
        refine And.intro (fun hh => absurd hh (by decide)) (fun _ => ?_)
        refine Mt.conseq (m_isRoom _ _ _ _) ?_
        rintro _ _ _ ⟨rfl, rfl, ⟨g1, rfl⟩ | ⟨g1, rfl⟩⟩
        · -- pc 6 call X4_isRoom true
          exact (out_in hv g1).elim
        · -- pc 6 call X4_isRoom false
          refine Mt.conseq ((by have h := m_isOne sx (nI p) (I 44) (fnd I 0) J; rw [show sR (I 44) (fnd I 0) = fnd I 0 from sR_self (fnd I 0), e73] at h; exact h)) ?_
          rintro _ _ _ ⟨rfl, rfl, ⟨g2, rfl⟩ | ⟨g2, rfl⟩⟩
          · -- pc 66 call X4_isOne true
            refine And.intro (fun hh => absurd hh (by decide)) (fun _ => ?_)
            refine And.intro (fun hh => absurd hh (by decide)) (fun _ => ?_)
            refine Mt.conseq (m_fnd0 _ _ _) ?_
            rintro _ _ _ ⟨rfl, rfl, rfl⟩
            exact ⟨trivial, rfl, hS.found (by decide)⟩
          · -- pc 66 call X4_isOne false
            exact (nout_nin h1 g2).elim
      · -- pc 28 call X3_outside false
        have hv : ¬ outP v 0 7 := h4
        refine And.intro (fun _ => ?_) (fun hh => absurd hh (by decide))
        refine Mt.conseq (c_rop _ 1 (by decide) 1 (by decide) _ (by decide) _ _) ?_
        rintro _ _ _ ⟨rfl, rfl, rfl⟩
        refine Mt.conseq (c_xch_7 _ (nI p) _ hbp _ _) ?_
        rintro _ _ _ ⟨rfl, rfl, rfl⟩
        refine ⟨trivial, _, rfl, ?_⟩
        refine Mt.of2 _ rfl (by decide +kernel) (Nat.le_of_ble_eq_true rfl) ?_
        refine GW.run kX4_set (fun _ => false) 86 0 rfl ?_
        refine And.intro (fun hh => absurd hh (by decide)) (fun _ => ?_)
        refine Mt.conseq (m_isRoom _ _ _ _) ?_
        rintro _ _ _ ⟨rfl, rfl, ⟨g1, rfl⟩ | ⟨g1, rfl⟩⟩
        · -- pc 6 call X4_isRoom true
          refine Mt.conseq ((by have h := m_isOne sx (nI p) (I 44) (na_set I 7 (nI p).toNatClampNeg v) J; rw [show sR (I 44) (na_set I 7 (nI p).toNatClampNeg v) = na_set I 7 (nI p).toNatClampNeg v from sR_self (na_set I 7 (nI p).toNatClampNeg v), e73] at h; exact h)) ?_
          rintro _ _ _ ⟨rfl, rfl, ⟨g2, rfl⟩ | ⟨g2, rfl⟩⟩
          · -- pc 66 call X4_isOne true
            refine And.intro (fun hh => absurd hh (by decide)) (fun _ => ?_)
            refine And.intro (fun _ => ?_) (fun hh => absurd hh (by decide))
            refine Mt.conseq ((by have h := m_its sx p 1 (by omega) (by decide) 1 (by decide) (I 44) (na_set I 7 (nI p).toNatClampNeg v) J; rw [show sR (I 44) (na_set I 7 (nI p).toNatClampNeg v) = na_set I 7 (nI p).toNatClampNeg v from sR_self (na_set I 7 (nI p).toNatClampNeg v)] at h; exact h)) ?_
            rintro _ _ _ ⟨rfl, rfl, rfl⟩
            refine Mt.conseq ((by have h := m_puts sx v p 1 (by omega) (by decide) 1 (by decide) (I 44) (na_set I 7 (nI p).toNatClampNeg v) J; rw [show sR (I 44) (na_set I 7 (nI p).toNatClampNeg v) = na_set I 7 (nI p).toNatClampNeg v from sR_self (na_set I 7 (nI p).toNatClampNeg v)] at h; exact h)) ?_
            rintro _ _ _ ⟨rfl, rfl, rfl⟩
            have hvr : rg 0 7 v := nout_rg (by decide) (by decide) hv
            refine ⟨trivial, ?_, ?_⟩
            · rw [hcp]; exact congrArg (fun x => some (Value.int x)) (ha.2.2 6 p (by decide) (by decide) hp)
            · rw [hcp, nt_set (k := 6) (by decide) rfl]
              exact hS.night (hN.p1 hvr) (agP hP8 ha (p := p) (w := 1) (by decide) _) (set_hi (by decide) fun a ha => gN_hi ha)
          · -- pc 66 call X4_isOne false
            exact (nout_nin h1 g2).elim
        · -- pc 6 call X4_isRoom false
          exact (nout_nin hv g1).elim
set_option maxRecDepth 100000 in
set_option maxHeartbeats 4000000 in
theorem pr_set2 (sx : Nat × (Nat → Int32)) (one v : Int32) : PrI sx MX3_set MX4_set [.int one, .int 2, .int v] := by
  intro I J hS
  obtain ⟨P, hN, ha, hP8, hP1, hP3, hpl⟩ := hS.nt
  have e73 : I 44 3 = I 1 7 := hP3.trans hP1.symm
  refine Mt.of2 _ rfl (by decide +kernel) (Nat.le_of_ble_eq_true rfl) ?_
  refine GW.run kX3_set (fun _ => false) 60 0 rfl ?_
  refine Mt.conseq (c_nobody _ _ _ _) ?_
  rintro _ _ _ ⟨rfl, rfl, ⟨h1, rfl⟩ | ⟨h1, rfl⟩⟩
  · -- pc 2 call X3_nobody true
    refine And.intro (fun _ => ?_) (fun hh => absurd hh (by decide))
    refine Mt.conseq (c_fnd0 _ _ _) ?_
    rintro _ _ _ ⟨rfl, rfl, rfl⟩
    refine ⟨trivial, _, rfl, ?_⟩
    refine Mt.of2 _ rfl (by decide +kernel) (Nat.le_of_ble_eq_true rfl) ?_
    refine GW.run kX4_set (fun _ => false) 86 0 rfl ?_
    refine And.intro (fun _ => ?_) (fun hh => absurd hh (by decide))
    refine And.intro (fun hh => absurd hh (by decide)) (fun _ => ?_)
    refine Mt.conseq (m_in _ _ _ _ _ _) ?_
    rintro _ _ _ ⟨rfl, rfl, ⟨g1, rfl⟩ | ⟨g1, rfl⟩⟩
    · -- pc 21 call X4_in true
      refine Mt.conseq ((by have h := m_isOne sx one (I 44) (fnd I 0) J; rw [show sR (I 44) (fnd I 0) = fnd I 0 from sR_self (fnd I 0), e73] at h; exact h)) ?_
      rintro _ _ _ ⟨rfl, rfl, ⟨g2, rfl⟩ | ⟨g2, rfl⟩⟩
      · -- pc 66 call X4_isOne true
        exact (out_in h1 g2).elim
      · -- pc 66 call X4_isOne false
        refine And.intro (fun _ => ?_) (fun hh => absurd hh (by decide))
        refine Mt.conseq (m_fnd0 _ _ _) ?_
        rintro _ _ _ ⟨rfl, rfl, rfl⟩
        exact ⟨trivial, rfl, hS.found (by decide)⟩
    · -- pc 21 call X4_in false
      refine Mt.conseq ((by have h := m_isOne sx one (I 44) (fnd I 0) J; rw [show sR (I 44) (fnd I 0) = fnd I 0 from sR_self (fnd I 0), e73] at h; exact h)) ?_
      rintro _ _ _ ⟨rfl, rfl, ⟨g4, rfl⟩ | ⟨g4, rfl⟩⟩
      · -- pc 66 call X4_isOne true
        exact (out_in h1 g4).elim
      · -- pc 66 call X4_isOne false
        refine And.intro (fun _ => ?_) (fun hh => absurd hh (by decide))
        refine Mt.conseq (m_fnd0 _ _ _) ?_
        rintro _ _ _ ⟨rfl, rfl, rfl⟩
        exact ⟨trivial, rfl, hS.found (by decide)⟩
  · -- pc 2 call X3_nobody false
    obtain ⟨p, hp, rfl⟩ := nbd hP1 hP8 h1
    have hbp : vp_in (nI p) 8 := vp_in_nI (by omega) (by omega)
    have hcp := nI_clamp (n := p) (by omega)
    refine And.intro (fun hh => absurd hh (by decide)) (fun _ => ?_)
    refine Mt.conseq (c_outside _ _ _ _ _ _) ?_
    rintro _ _ _ ⟨rfl, rfl, ⟨h3, rfl⟩ | ⟨h3, rfl⟩⟩
    · -- pc 11 call X3_outside true
      exact absurd h3 (by decide)
    · -- pc 11 call X3_outside false
      refine And.intro (fun hh => absurd hh (by decide)) (fun _ => ?_)
      refine And.intro (by unfold vp_in; decide) ?_
      refine And.intro (by unfold vp_in; decide) ?_
      refine Mt.conseq (c_outside _ _ _ _ _ _) ?_
      rintro _ _ _ ⟨rfl, rfl, ⟨h4, rfl⟩ | ⟨h4, rfl⟩⟩
      · -- pc 28 call X3_outside true
        have hv : outP v 1 20 := h4
        refine And.intro (fun hh => absurd hh (by decide)) (fun _ => ?_)
        refine Mt.conseq (c_fnd0 _ _ _) ?_
        rintro _ _ _ ⟨rfl, rfl, rfl⟩
        refine ⟨trivial, _, rfl, ?_⟩
        refine Mt.of2 _ rfl (by decide +kernel) (Nat.le_of_ble_eq_true rfl) ?_
        refine GW.run kX4_set (fun _ => false) 86 0 rfl ?_
        refine And.intro (fun _ => ?_) (fun hh => absurd hh (by decide))
        refine And.intro (fun hh => absurd hh (by decide)) (fun _ => ?_)
        refine Mt.conseq (m_in _ _ _ _ _ _) ?_
        rintro _ _ _ ⟨rfl, rfl, ⟨g1, rfl⟩ | ⟨g1, rfl⟩⟩
        · -- pc 21 call X4_in true
          exact (out_in hv g1).elim
        · -- pc 21 call X4_in false
          refine Mt.conseq ((by have h := m_isOne sx (nI p) (I 44) (fnd I 0) J; rw [show sR (I 44) (fnd I 0) = fnd I 0 from sR_self (fnd I 0), e73] at h; exact h)) ?_
          rintro _ _ _ ⟨rfl, rfl, ⟨g2, rfl⟩ | ⟨g2, rfl⟩⟩
          · -- pc 66 call X4_isOne true
            refine And.intro (fun hh => absurd hh (by decide)) (fun _ => ?_)
            refine And.intro (fun hh => absurd hh (by decide)) (fun _ => ?_)
            refine Mt.conseq (m_fnd0 _ _ _) ?_
            rintro _ _ _ ⟨rfl, rfl, rfl⟩
            exact ⟨trivial, rfl, hS.found (by decide)⟩
          · -- pc 66 call X4_isOne false
            exact (nout_nin h1 g2).elim
      · -- pc 28 call X3_outside false
        have hv : ¬ outP v 1 20 := h4
        refine And.intro (fun _ => ?_) (fun hh => absurd hh (by decide))
        refine Mt.conseq (c_rop _ 1 (by decide) 2 (by decide) _ (by decide) _ _) ?_
        rintro _ _ _ ⟨rfl, rfl, rfl⟩
        refine Mt.conseq (c_xch_8 _ (nI p) _ hbp _ _) ?_
        rintro _ _ _ ⟨rfl, rfl, rfl⟩
        refine ⟨trivial, _, rfl, ?_⟩
        refine Mt.of2 _ rfl (by decide +kernel) (Nat.le_of_ble_eq_true rfl) ?_
        refine GW.run kX4_set (fun _ => false) 86 0 rfl ?_
        refine And.intro (fun _ => ?_) (fun hh => absurd hh (by decide))
        refine And.intro (fun hh => absurd hh (by decide)) (fun _ => ?_)
        refine Mt.conseq (m_in _ _ _ _ _ _) ?_
        rintro _ _ _ ⟨rfl, rfl, ⟨g1, rfl⟩ | ⟨g1, rfl⟩⟩
        · -- pc 21 call X4_in true
          refine Mt.conseq ((by have h := m_isOne sx (nI p) (I 44) (na_set I 8 (nI p).toNatClampNeg v) J; rw [show sR (I 44) (na_set I 8 (nI p).toNatClampNeg v) = na_set I 8 (nI p).toNatClampNeg v from sR_self (na_set I 8 (nI p).toNatClampNeg v), e73] at h; exact h)) ?_
          rintro _ _ _ ⟨rfl, rfl, ⟨g2, rfl⟩ | ⟨g2, rfl⟩⟩
          · -- pc 66 call X4_isOne true
            refine And.intro (fun hh => absurd hh (by decide)) (fun _ => ?_)
            refine And.intro (fun _ => ?_) (fun hh => absurd hh (by decide))
            refine Mt.conseq ((by have h := m_its sx p 2 (by omega) (by decide) 2 (by decide) (I 44) (na_set I 8 (nI p).toNatClampNeg v) J; rw [show sR (I 44) (na_set I 8 (nI p).toNatClampNeg v) = na_set I 8 (nI p).toNatClampNeg v from sR_self (na_set I 8 (nI p).toNatClampNeg v)] at h; exact h)) ?_
            rintro _ _ _ ⟨rfl, rfl, rfl⟩
            refine Mt.conseq ((by have h := m_puts sx v p 2 (by omega) (by decide) 2 (by decide) (I 44) (na_set I 8 (nI p).toNatClampNeg v) J; rw [show sR (I 44) (na_set I 8 (nI p).toNatClampNeg v) = na_set I 8 (nI p).toNatClampNeg v from sR_self (na_set I 8 (nI p).toNatClampNeg v)] at h; exact h)) ?_
            rintro _ _ _ ⟨rfl, rfl, rfl⟩
            have hvr : rg 1 20 v := nout_rg (by decide) (by decide) hv
            refine ⟨trivial, ?_, ?_⟩
            · rw [hcp]; exact congrArg (fun x => some (Value.int x)) (ha.2.2 7 p (by decide) (by decide) hp)
            · rw [hcp, nt_set (k := 7) (by decide) rfl]
              exact hS.night (hN.p2 hvr) (agP hP8 ha (p := p) (w := 2) (by decide) _) (set_hi (by decide) fun a ha => gN_hi ha)
          · -- pc 66 call X4_isOne false
            exact (nout_nin h1 g2).elim
        · -- pc 21 call X4_in false
          exact (nout_nin hv g1).elim
set_option maxRecDepth 100000 in
set_option maxHeartbeats 4000000 in
theorem pr_set3 (sx : Nat × (Nat → Int32)) (one v : Int32) : PrI sx MX3_set MX4_set [.int one, .int 3, .int v] := by
  intro I J hS
  obtain ⟨P, hN, ha, hP8, hP1, hP3, hpl⟩ := hS.nt
  have e73 : I 44 3 = I 1 7 := hP3.trans hP1.symm
  refine Mt.of2 _ rfl (by decide +kernel) (Nat.le_of_ble_eq_true rfl) ?_
  refine GW.run kX3_set (fun _ => false) 60 0 rfl ?_
  refine Mt.conseq (c_nobody _ _ _ _) ?_
  rintro _ _ _ ⟨rfl, rfl, ⟨h1, rfl⟩ | ⟨h1, rfl⟩⟩
  · -- pc 2 call X3_nobody true
    refine And.intro (fun _ => ?_) (fun hh => absurd hh (by decide))
    refine Mt.conseq (c_fnd0 _ _ _) ?_
    rintro _ _ _ ⟨rfl, rfl, rfl⟩
    refine ⟨trivial, _, rfl, ?_⟩
    refine Mt.of2 _ rfl (by decide +kernel) (Nat.le_of_ble_eq_true rfl) ?_
    refine GW.run kX4_set (fun _ => false) 86 0 rfl ?_
    refine And.intro (fun _ => ?_) (fun hh => absurd hh (by decide))
    refine And.intro (fun _ => ?_) (fun hh => absurd hh (by decide))
    refine And.intro (fun hh => absurd hh (by decide)) (fun _ => ?_)
    refine Mt.conseq (m_in _ _ _ _ _ _) ?_
    rintro _ _ _ ⟨rfl, rfl, ⟨g1, rfl⟩ | ⟨g1, rfl⟩⟩
    · -- pc 37 call X4_in true
      refine Mt.conseq ((by have h := m_isOne sx one (I 44) (fnd I 0) J; rw [show sR (I 44) (fnd I 0) = fnd I 0 from sR_self (fnd I 0), e73] at h; exact h)) ?_
      rintro _ _ _ ⟨rfl, rfl, ⟨g2, rfl⟩ | ⟨g2, rfl⟩⟩
      · -- pc 66 call X4_isOne true
        exact (out_in h1 g2).elim
      · -- pc 66 call X4_isOne false
        refine And.intro (fun _ => ?_) (fun hh => absurd hh (by decide))
        refine Mt.conseq (m_fnd0 _ _ _) ?_
        rintro _ _ _ ⟨rfl, rfl, rfl⟩
        exact ⟨trivial, rfl, hS.found (by decide)⟩
    · -- pc 37 call X4_in false
      refine Mt.conseq ((by have h := m_isOne sx one (I 44) (fnd I 0) J; rw [show sR (I 44) (fnd I 0) = fnd I 0 from sR_self (fnd I 0), e73] at h; exact h)) ?_
      rintro _ _ _ ⟨rfl, rfl, ⟨g4, rfl⟩ | ⟨g4, rfl⟩⟩
      · -- pc 66 call X4_isOne true
        exact (out_in h1 g4).elim
      · -- pc 66 call X4_isOne false
        refine And.intro (fun _ => ?_) (fun hh => absurd hh (by decide))
        refine Mt.conseq (m_fnd0 _ _ _) ?_
        rintro _ _ _ ⟨rfl, rfl, rfl⟩
        exact ⟨trivial, rfl, hS.found (by decide)⟩
  · -- pc 2 call X3_nobody false
    obtain ⟨p, hp, rfl⟩ := nbd hP1 hP8 h1
    have hbp : vp_in (nI p) 8 := vp_in_nI (by omega) (by omega)
    have hcp := nI_clamp (n := p) (by omega)
    refine And.intro (fun hh => absurd hh (by decide)) (fun _ => ?_)
    refine Mt.conseq (c_outside _ _ _ _ _ _) ?_
    rintro _ _ _ ⟨rfl, rfl, ⟨h3, rfl⟩ | ⟨h3, rfl⟩⟩
    · -- pc 11 call X3_outside true
      exact absurd h3 (by decide)
    · -- pc 11 call X3_outside false
      refine And.intro (fun hh => absurd hh (by decide)) (fun _ => ?_)
      refine And.intro (by unfold vp_in; decide) ?_
      refine And.intro (by unfold vp_in; decide) ?_
      refine Mt.conseq (c_outside _ _ _ _ _ _) ?_
      rintro _ _ _ ⟨rfl, rfl, ⟨h4, rfl⟩ | ⟨h4, rfl⟩⟩
      · -- pc 28 call X3_outside true
        have hv : outP v 0 999 := h4
        refine And.intro (fun hh => absurd hh (by decide)) (fun _ => ?_)
        refine Mt.conseq (c_fnd0 _ _ _) ?_
        rintro _ _ _ ⟨rfl, rfl, rfl⟩
        refine ⟨trivial, _, rfl, ?_⟩
        refine Mt.of2 _ rfl (by decide +kernel) (Nat.le_of_ble_eq_true rfl) ?_
        refine GW.run kX4_set (fun _ => false) 86 0 rfl ?_
        refine And.intro (fun _ => ?_) (fun hh => absurd hh (by decide))
        refine And.intro (fun _ => ?_) (fun hh => absurd hh (by decide))
        refine And.intro (fun hh => absurd hh (by decide)) (fun _ => ?_)
        refine Mt.conseq (m_in _ _ _ _ _ _) ?_
        rintro _ _ _ ⟨rfl, rfl, ⟨g1, rfl⟩ | ⟨g1, rfl⟩⟩
        · -- pc 37 call X4_in true
          exact (out_in hv g1).elim
        · -- pc 37 call X4_in false
          refine Mt.conseq ((by have h := m_isOne sx (nI p) (I 44) (fnd I 0) J; rw [show sR (I 44) (fnd I 0) = fnd I 0 from sR_self (fnd I 0), e73] at h; exact h)) ?_
          rintro _ _ _ ⟨rfl, rfl, ⟨g2, rfl⟩ | ⟨g2, rfl⟩⟩
          · -- pc 66 call X4_isOne true
            refine And.intro (fun hh => absurd hh (by decide)) (fun _ => ?_)
            refine And.intro (fun hh => absurd hh (by decide)) (fun _ => ?_)
            refine Mt.conseq (m_fnd0 _ _ _) ?_
            rintro _ _ _ ⟨rfl, rfl, rfl⟩
            exact ⟨trivial, rfl, hS.found (by decide)⟩
          · -- pc 66 call X4_isOne false
            exact (nout_nin h1 g2).elim
      · -- pc 28 call X3_outside false
        have hv : ¬ outP v 0 999 := h4
        refine And.intro (fun _ => ?_) (fun hh => absurd hh (by decide))
        refine Mt.conseq (c_rop _ 1 (by decide) 3 (by decide) _ (by decide) _ _) ?_
        rintro _ _ _ ⟨rfl, rfl, rfl⟩
        refine Mt.conseq (c_xch_9 _ (nI p) _ hbp _ _) ?_
        rintro _ _ _ ⟨rfl, rfl, rfl⟩
        refine ⟨trivial, _, rfl, ?_⟩
        refine Mt.of2 _ rfl (by decide +kernel) (Nat.le_of_ble_eq_true rfl) ?_
        refine GW.run kX4_set (fun _ => false) 86 0 rfl ?_
        refine And.intro (fun _ => ?_) (fun hh => absurd hh (by decide))
        refine And.intro (fun _ => ?_) (fun hh => absurd hh (by decide))
        refine And.intro (fun hh => absurd hh (by decide)) (fun _ => ?_)
        refine Mt.conseq (m_in _ _ _ _ _ _) ?_
        rintro _ _ _ ⟨rfl, rfl, ⟨g1, rfl⟩ | ⟨g1, rfl⟩⟩
        · -- pc 37 call X4_in true
          refine Mt.conseq ((by have h := m_isOne sx (nI p) (I 44) (na_set I 9 (nI p).toNatClampNeg v) J; rw [show sR (I 44) (na_set I 9 (nI p).toNatClampNeg v) = na_set I 9 (nI p).toNatClampNeg v from sR_self (na_set I 9 (nI p).toNatClampNeg v), e73] at h; exact h)) ?_
          rintro _ _ _ ⟨rfl, rfl, ⟨g2, rfl⟩ | ⟨g2, rfl⟩⟩
          · -- pc 66 call X4_isOne true
            refine And.intro (fun hh => absurd hh (by decide)) (fun _ => ?_)
            refine And.intro (fun _ => ?_) (fun hh => absurd hh (by decide))
            refine Mt.conseq ((by have h := m_its sx p 3 (by omega) (by decide) 3 (by decide) (I 44) (na_set I 9 (nI p).toNatClampNeg v) J; rw [show sR (I 44) (na_set I 9 (nI p).toNatClampNeg v) = na_set I 9 (nI p).toNatClampNeg v from sR_self (na_set I 9 (nI p).toNatClampNeg v)] at h; exact h)) ?_
            rintro _ _ _ ⟨rfl, rfl, rfl⟩
            refine Mt.conseq ((by have h := m_puts sx v p 3 (by omega) (by decide) 3 (by decide) (I 44) (na_set I 9 (nI p).toNatClampNeg v) J; rw [show sR (I 44) (na_set I 9 (nI p).toNatClampNeg v) = na_set I 9 (nI p).toNatClampNeg v from sR_self (na_set I 9 (nI p).toNatClampNeg v)] at h; exact h)) ?_
            rintro _ _ _ ⟨rfl, rfl, rfl⟩
            have hvr : rg 0 999 v := nout_rg (by decide) (by decide) hv
            refine ⟨trivial, ?_, ?_⟩
            · rw [hcp]; exact congrArg (fun x => some (Value.int x)) (ha.2.2 8 p (by decide) (by decide) hp)
            · rw [hcp, nt_set (k := 8) (by decide) rfl]
              exact hS.night (hN.p3 hvr) (agP hP8 ha (p := p) (w := 3) (by decide) _) (set_hi (by decide) fun a ha => gN_hi ha)
          · -- pc 66 call X4_isOne false
            exact (nout_nin h1 g2).elim
        · -- pc 37 call X4_in false
          exact (nout_nin hv g1).elim
set_option maxRecDepth 100000 in
set_option maxHeartbeats 4000000 in
theorem pr_set4 (sx : Nat × (Nat → Int32)) (one v : Int32) : PrI sx MX3_set MX4_set [.int one, .int 4, .int v] := by
  intro I J hS
  obtain ⟨P, hN, ha, hP8, hP1, hP3, hpl⟩ := hS.nt
  have e73 : I 44 3 = I 1 7 := hP3.trans hP1.symm
  refine Mt.of2 _ rfl (by decide +kernel) (Nat.le_of_ble_eq_true rfl) ?_
  refine GW.run kX3_set (fun _ => false) 60 0 rfl ?_
  refine Mt.conseq (c_nobody _ _ _ _) ?_
  rintro _ _ _ ⟨rfl, rfl, ⟨h1, rfl⟩ | ⟨h1, rfl⟩⟩
  · -- pc 2 call X3_nobody true
    refine And.intro (fun _ => ?_) (fun hh => absurd hh (by decide))
    refine Mt.conseq (c_fnd0 _ _ _) ?_
    rintro _ _ _ ⟨rfl, rfl, rfl⟩
    refine ⟨trivial, _, rfl, ?_⟩
    refine Mt.of2 _ rfl (by decide +kernel) (Nat.le_of_ble_eq_true rfl) ?_
    refine GW.run kX4_set (fun _ => false) 86 0 rfl ?_
    refine And.intro (fun _ => ?_) (fun hh => absurd hh (by decide))
    refine And.intro (fun _ => ?_) (fun hh => absurd hh (by decide))
    refine And.intro (fun _ => ?_) (fun hh => absurd hh (by decide))
    refine And.intro (fun hh => absurd hh (by decide)) (fun _ => ?_)
    refine Mt.conseq (m_in _ _ _ _ _ _) ?_
    rintro _ _ _ ⟨rfl, rfl, ⟨g1, rfl⟩ | ⟨g1, rfl⟩⟩
    · -- pc 51 call X4_in true
      refine And.intro (fun hh => absurd hh (by decide)) (fun _ => ?_)
      refine Mt.conseq ((by have h := m_isOne sx one (I 44) (fnd I 0) J; rw [show sR (I 44) (fnd I 0) = fnd I 0 from sR_self (fnd I 0), e73] at h; exact h)) ?_
      rintro _ _ _ ⟨rfl, rfl, ⟨g2, rfl⟩ | ⟨g2, rfl⟩⟩
      · -- pc 66 call X4_isOne true
        exact (out_in h1 g2).elim
      · -- pc 66 call X4_isOne false
        refine And.intro (fun _ => ?_) (fun hh => absurd hh (by decide))
        refine Mt.conseq (m_fnd0 _ _ _) ?_
        rintro _ _ _ ⟨rfl, rfl, rfl⟩
        exact ⟨trivial, rfl, hS.found (by decide)⟩
    · -- pc 51 call X4_in false
      refine And.intro (fun _ => ?_) (fun hh => absurd hh (by decide))
      refine Mt.conseq ((by have h := m_isOne sx one (I 44) (fnd I 0) J; rw [show sR (I 44) (fnd I 0) = fnd I 0 from sR_self (fnd I 0), e73] at h; exact h)) ?_
      rintro _ _ _ ⟨rfl, rfl, ⟨g4, rfl⟩ | ⟨g4, rfl⟩⟩
      · -- pc 66 call X4_isOne true
        exact (out_in h1 g4).elim
      · -- pc 66 call X4_isOne false
        refine And.intro (fun _ => ?_) (fun hh => absurd hh (by decide))
        refine Mt.conseq (m_fnd0 _ _ _) ?_
        rintro _ _ _ ⟨rfl, rfl, rfl⟩
        exact ⟨trivial, rfl, hS.found (by decide)⟩
  · -- pc 2 call X3_nobody false
    obtain ⟨p, hp, rfl⟩ := nbd hP1 hP8 h1
    have hbp : vp_in (nI p) 8 := vp_in_nI (by omega) (by omega)
    have hcp := nI_clamp (n := p) (by omega)
    refine And.intro (fun hh => absurd hh (by decide)) (fun _ => ?_)
    refine Mt.conseq (c_outside _ _ _ _ _ _) ?_
    rintro _ _ _ ⟨rfl, rfl, ⟨h3, rfl⟩ | ⟨h3, rfl⟩⟩
    · -- pc 11 call X3_outside true
      exact absurd h3 (by decide)
    · -- pc 11 call X3_outside false
      refine And.intro (fun hh => absurd hh (by decide)) (fun _ => ?_)
      refine And.intro (by unfold vp_in; decide) ?_
      refine And.intro (by unfold vp_in; decide) ?_
      refine Mt.conseq (c_outside _ _ _ _ _ _) ?_
      rintro _ _ _ ⟨rfl, rfl, ⟨h4, rfl⟩ | ⟨h4, rfl⟩⟩
      · -- pc 28 call X3_outside true
        have hv : outP v 0 1 := h4
        refine And.intro (fun hh => absurd hh (by decide)) (fun _ => ?_)
        refine Mt.conseq (c_fnd0 _ _ _) ?_
        rintro _ _ _ ⟨rfl, rfl, rfl⟩
        refine ⟨trivial, _, rfl, ?_⟩
        refine Mt.of2 _ rfl (by decide +kernel) (Nat.le_of_ble_eq_true rfl) ?_
        refine GW.run kX4_set (fun _ => false) 86 0 rfl ?_
        refine And.intro (fun _ => ?_) (fun hh => absurd hh (by decide))
        refine And.intro (fun _ => ?_) (fun hh => absurd hh (by decide))
        refine And.intro (fun _ => ?_) (fun hh => absurd hh (by decide))
        refine And.intro (fun hh => absurd hh (by decide)) (fun _ => ?_)
        refine Mt.conseq (m_in _ _ _ _ _ _) ?_
        rintro _ _ _ ⟨rfl, rfl, ⟨g1, rfl⟩ | ⟨g1, rfl⟩⟩
        · -- pc 51 call X4_in true
          exact (out_in hv g1).elim
        · -- pc 51 call X4_in false
          refine And.intro (fun _ => ?_) (fun hh => absurd hh (by decide))
          refine Mt.conseq ((by have h := m_isOne sx (nI p) (I 44) (fnd I 0) J; rw [show sR (I 44) (fnd I 0) = fnd I 0 from sR_self (fnd I 0), e73] at h; exact h)) ?_
          rintro _ _ _ ⟨rfl, rfl, ⟨g2, rfl⟩ | ⟨g2, rfl⟩⟩
          · -- pc 66 call X4_isOne true
            refine And.intro (fun hh => absurd hh (by decide)) (fun _ => ?_)
            refine And.intro (fun hh => absurd hh (by decide)) (fun _ => ?_)
            refine Mt.conseq (m_fnd0 _ _ _) ?_
            rintro _ _ _ ⟨rfl, rfl, rfl⟩
            exact ⟨trivial, rfl, hS.found (by decide)⟩
          · -- pc 66 call X4_isOne false
            exact (nout_nin h1 g2).elim
      · -- pc 28 call X3_outside false
        have hv : ¬ outP v 0 1 := h4
        refine And.intro (fun _ => ?_) (fun hh => absurd hh (by decide))
        refine Mt.conseq (c_rop _ 1 (by decide) 4 (by decide) _ (by decide) _ _) ?_
        rintro _ _ _ ⟨rfl, rfl, rfl⟩
        refine Mt.conseq (c_xch_10 _ (nI p) _ hbp _ _) ?_
        rintro _ _ _ ⟨rfl, rfl, rfl⟩
        refine ⟨trivial, _, rfl, ?_⟩
        refine Mt.of2 _ rfl (by decide +kernel) (Nat.le_of_ble_eq_true rfl) ?_
        refine GW.run kX4_set (fun _ => false) 86 0 rfl ?_
        refine And.intro (fun _ => ?_) (fun hh => absurd hh (by decide))
        refine And.intro (fun _ => ?_) (fun hh => absurd hh (by decide))
        refine And.intro (fun _ => ?_) (fun hh => absurd hh (by decide))
        refine And.intro (fun hh => absurd hh (by decide)) (fun _ => ?_)
        refine Mt.conseq (m_in _ _ _ _ _ _) ?_
        rintro _ _ _ ⟨rfl, rfl, ⟨g1, rfl⟩ | ⟨g1, rfl⟩⟩
        · -- pc 51 call X4_in true
          refine And.intro (fun hh => absurd hh (by decide)) (fun _ => ?_)
          refine Mt.conseq ((by have h := m_isOne sx (nI p) (I 44) (na_set I 10 (nI p).toNatClampNeg v) J; rw [show sR (I 44) (na_set I 10 (nI p).toNatClampNeg v) = na_set I 10 (nI p).toNatClampNeg v from sR_self (na_set I 10 (nI p).toNatClampNeg v), e73] at h; exact h)) ?_
          rintro _ _ _ ⟨rfl, rfl, ⟨g2, rfl⟩ | ⟨g2, rfl⟩⟩
          · -- pc 66 call X4_isOne true
            refine And.intro (fun hh => absurd hh (by decide)) (fun _ => ?_)
            refine And.intro (fun _ => ?_) (fun hh => absurd hh (by decide))
            refine Mt.conseq ((by have h := m_its sx p 4 (by omega) (by decide) 4 (by decide) (I 44) (na_set I 10 (nI p).toNatClampNeg v) J; rw [show sR (I 44) (na_set I 10 (nI p).toNatClampNeg v) = na_set I 10 (nI p).toNatClampNeg v from sR_self (na_set I 10 (nI p).toNatClampNeg v)] at h; exact h)) ?_
            rintro _ _ _ ⟨rfl, rfl, rfl⟩
            refine Mt.conseq ((by have h := m_puts sx v p 4 (by omega) (by decide) 4 (by decide) (I 44) (na_set I 10 (nI p).toNatClampNeg v) J; rw [show sR (I 44) (na_set I 10 (nI p).toNatClampNeg v) = na_set I 10 (nI p).toNatClampNeg v from sR_self (na_set I 10 (nI p).toNatClampNeg v)] at h; exact h)) ?_
            rintro _ _ _ ⟨rfl, rfl, rfl⟩
            have hvr : rg 0 1 v := nout_rg (by decide) (by decide) hv
            refine ⟨trivial, ?_, ?_⟩
            · rw [hcp]; exact congrArg (fun x => some (Value.int x)) (ha.2.2 9 p (by decide) (by decide) hp)
            · rw [hcp, nt_set (k := 9) (by decide) rfl]
              exact hS.night (hN.p4 hvr) (agP hP8 ha (p := p) (w := 4) (by decide) _) (set_hi (by decide) fun a ha => gN_hi ha)
          · -- pc 66 call X4_isOne false
            exact (nout_nin h1 g2).elim
        · -- pc 51 call X4_in false
          exact (nout_nin hv g1).elim
set_option maxRecDepth 100000 in
set_option maxHeartbeats 4000000 in
theorem pr_setx (sx : Nat × (Nat → Int32)) (one w v : Int32) (hw : outP w 1 4) : PrI sx MX3_set MX4_set [.int one, .int w, .int v] := by
  intro I J hS
  obtain ⟨P, hN, ha, hP8, hP1, hP3, hpl⟩ := hS.nt
  have e73 : I 44 3 = I 1 7 := hP3.trans hP1.symm
  refine Mt.of2 _ rfl (by decide +kernel) (Nat.le_of_ble_eq_true rfl) ?_
  refine GW.run kX3_set (fun _ => false) 60 0 rfl ?_
  refine Mt.conseq (c_nobody _ _ _ _) ?_
  rintro _ _ _ ⟨rfl, rfl, ⟨h1, rfl⟩ | ⟨h1, rfl⟩⟩
  · -- pc 2 call X3_nobody true
    refine And.intro (fun _ => ?_) (fun hh => absurd hh (by decide))
    refine Mt.conseq (c_fnd0 _ _ _) ?_
    rintro _ _ _ ⟨rfl, rfl, rfl⟩
    refine ⟨trivial, _, rfl, ?_⟩
    refine Mt.of2 _ rfl (by decide +kernel) (Nat.le_of_ble_eq_true rfl) ?_
    refine GW.run kX4_set (fun _ => false) 86 0 rfl ?_
    refine And.intro (fun g1 => ?_) (fun g1 => ?_)
    · -- pc 2 .if_icmp .ne 10: yes
      refine And.intro (fun g2 => ?_) (fun g2 => ?_)
      · -- pc 14 .if_icmp .ne 13: yes
        refine And.intro (fun g3 => ?_) (fun g3 => ?_)
        · -- pc 29 .if_icmp .ne 14: yes
          refine And.intro (fun g4 => ?_) (fun g4 => ?_)
          · -- pc 45 .if_icmp .ne 16: yes
            refine Mt.conseq ((by have h := m_isOne sx one (I 44) (fnd I 0) J; rw [show sR (I 44) (fnd I 0) = fnd I 0 from sR_self (fnd I 0), e73] at h; exact h)) ?_
            rintro _ _ _ ⟨rfl, rfl, ⟨g5, rfl⟩ | ⟨g5, rfl⟩⟩
            · -- pc 66 call X4_isOne true
              exact (out_in h1 g5).elim
            · -- pc 66 call X4_isOne false
              refine And.intro (fun _ => ?_) (fun hh => absurd hh (by decide))
              refine Mt.conseq (m_fnd0 _ _ _) ?_
              rintro _ _ _ ⟨rfl, rfl, rfl⟩
              exact ⟨trivial, rfl, hS.found (by decide)⟩
          · -- pc 45 .if_icmp .ne 16: no
            exact absurd (show outP 4 1 4 from (show w = 4 from g4) ▸ hw) (by decide)
        · -- pc 29 .if_icmp .ne 14: no
          exact absurd (show outP 3 1 4 from (show w = 3 from g3) ▸ hw) (by decide)
      · -- pc 14 .if_icmp .ne 13: no
        exact absurd (show outP 2 1 4 from (show w = 2 from g2) ▸ hw) (by decide)
    · -- pc 2 .if_icmp .ne 10: no
      exact absurd (show outP 1 1 4 from (show w = 1 from g1) ▸ hw) (by decide)
  · -- pc 2 call X3_nobody false
    refine And.intro (fun hh => absurd hh (by decide)) (fun _ => ?_)
    refine Mt.conseq (c_outside _ _ _ _ _ _) ?_
    rintro _ _ _ ⟨rfl, rfl, ⟨h3, rfl⟩ | ⟨h3, rfl⟩⟩
    · -- pc 11 call X3_outside true
      refine And.intro (fun _ => ?_) (fun hh => absurd hh (by decide))
      refine Mt.conseq (c_fnd0 _ _ _) ?_
      rintro _ _ _ ⟨rfl, rfl, rfl⟩
      refine ⟨trivial, _, rfl, ?_⟩
      refine Mt.of2 _ rfl (by decide +kernel) (Nat.le_of_ble_eq_true rfl) ?_
      refine GW.run kX4_set (fun _ => false) 86 0 rfl ?_
      refine And.intro (fun g1 => ?_) (fun g1 => ?_)
      · -- pc 2 .if_icmp .ne 10: yes
        refine And.intro (fun g2 => ?_) (fun g2 => ?_)
        · -- pc 14 .if_icmp .ne 13: yes
          refine And.intro (fun g3 => ?_) (fun g3 => ?_)
          · -- pc 29 .if_icmp .ne 14: yes
            refine And.intro (fun g4 => ?_) (fun g4 => ?_)
            · -- pc 45 .if_icmp .ne 16: yes
              refine Mt.conseq ((by have h := m_isOne sx one (I 44) (fnd I 0) J; rw [show sR (I 44) (fnd I 0) = fnd I 0 from sR_self (fnd I 0), e73] at h; exact h)) ?_
              rintro _ _ _ ⟨rfl, rfl, ⟨g5, rfl⟩ | ⟨g5, rfl⟩⟩
              · -- pc 66 call X4_isOne true
                refine And.intro (fun hh => absurd hh (by decide)) (fun _ => ?_)
                refine And.intro (fun hh => absurd hh (by decide)) (fun _ => ?_)
                refine Mt.conseq (m_fnd0 _ _ _) ?_
                rintro _ _ _ ⟨rfl, rfl, rfl⟩
                exact ⟨trivial, rfl, hS.found (by decide)⟩
              · -- pc 66 call X4_isOne false
                exact (nout_nin h1 g5).elim
            · -- pc 45 .if_icmp .ne 16: no
              exact absurd (show outP 4 1 4 from (show w = 4 from g4) ▸ hw) (by decide)
          · -- pc 29 .if_icmp .ne 14: no
            exact absurd (show outP 3 1 4 from (show w = 3 from g3) ▸ hw) (by decide)
        · -- pc 14 .if_icmp .ne 13: no
          exact absurd (show outP 2 1 4 from (show w = 2 from g2) ▸ hw) (by decide)
      · -- pc 2 .if_icmp .ne 10: no
        exact absurd (show outP 1 1 4 from (show w = 1 from g1) ▸ hw) (by decide)
    · -- pc 11 call X3_outside false
      exact absurd hw h3
theorem pr_set (sx : Nat × (Nat → Int32)) (one w v : Int32) : PrI sx MX3_set MX4_set [.int one, .int w, .int v] := by
  by_cases h : outP w 1 4
  · exact pr_setx sx one w v h
  · have h1 := nout_rg (a := 1) (b := 4) (by decide) (by decide) h
    obtain ⟨n, hn, rfl⟩ := nI_rg (b := 4) (by decide) ⟨by have := h1.1; omega, h1.2⟩
    obtain rfl | rfl | rfl | rfl | rfl : n = 0 ∨ n = 1 ∨ n = 2 ∨ n = 3 ∨ n = 4 := by omega
    · exact absurd h1.1 (by decide)
    · exact pr_set1 sx one v
    · exact pr_set2 sx one v
    · exact pr_set3 sx one v
    · exact pr_set4 sx one v
