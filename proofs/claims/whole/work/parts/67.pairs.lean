/-! PAIRS: on -/
set_option maxRecDepth 100000 in
set_option maxHeartbeats 4000000 in
theorem pr_on0 (sx : Nat × (Nat → Int32)) (r n : Int32) : PrI sx MX3_on MX4_on [.int r, .int n, .int 0] := by
  intro I J hS
  obtain ⟨P, hN, ha, hP8, hP1, hP3, hpl⟩ := hS.nt
  have e73 : I 44 3 = I 1 7 := hP3.trans hP1.symm
  refine Mt.of2 _ rfl (by decide +kernel) (Nat.le_of_ble_eq_true rfl) ?_
  refine GW.run kX3_on (fun _ => false) 59 0 rfl ?_
  refine Mt.conseq (c_noRoom _ _ _ _) ?_
  rintro _ _ _ ⟨rfl, rfl, ⟨h1, rfl⟩ | ⟨h1, rfl⟩⟩
  · -- pc 1 call X3_noRoom true
    refine And.intro (fun _ => ?_) (fun hh => absurd hh (by decide))
    refine Mt.conseq (c_fnd0 _ _ _) ?_
    rintro _ _ _ ⟨rfl, rfl, rfl⟩
    refine ⟨trivial, _, rfl, ?_⟩
    refine Mt.of2 _ rfl (by decide +kernel) (Nat.le_of_ble_eq_true rfl) ?_
    refine GW.run kX4_on (fun _ => false) 67 0 rfl ?_
    refine Mt.conseq (m_isRoom _ _ _ _) ?_
    rintro _ _ _ ⟨rfl, rfl, ⟨g1, rfl⟩ | ⟨g1, rfl⟩⟩
    · -- pc 1 call X4_isRoom true
      exact (out_in h1 g1).elim
    · -- pc 1 call X4_isRoom false
      refine And.intro (fun _ => ?_) (fun hh => absurd hh (by decide))
      refine Mt.conseq (m_fnd0 _ _ _) ?_
      rintro _ _ _ ⟨rfl, rfl, rfl⟩
      exact ⟨trivial, rfl, hS.found (by decide)⟩
  · -- pc 1 call X3_noRoom false
    obtain ⟨r', hr, rfl⟩ := nout_nI (b := 7) (by decide) h1
    have hbr : vp_in (nI r') 8 := vp_in_nI (by omega) (by omega)
    have hcr := nI_clamp (n := r') (by omega)
    refine And.intro (fun hh => absurd hh (by decide)) (fun _ => ?_)
    refine Mt.conseq (c_outside _ _ _ _ _ _) ?_
    rintro _ _ _ ⟨rfl, rfl, ⟨h3, rfl⟩ | ⟨h3, rfl⟩⟩
    · -- pc 11 call X3_outside true
      refine And.intro (fun _ => ?_) (fun hh => absurd hh (by decide))
      refine Mt.conseq (c_fnd0 _ _ _) ?_
      rintro _ _ _ ⟨rfl, rfl, rfl⟩
      refine ⟨trivial, _, rfl, ?_⟩
      refine Mt.of2 _ rfl (by decide +kernel) (Nat.le_of_ble_eq_true rfl) ?_
      refine GW.run kX4_on (fun _ => false) 67 0 rfl ?_
      refine Mt.conseq (m_isRoom _ _ _ _) ?_
      rintro _ _ _ ⟨rfl, rfl, ⟨g1, rfl⟩ | ⟨g1, rfl⟩⟩
      · -- pc 1 call X4_isRoom true
        refine And.intro (fun hh => absurd hh (by decide)) (fun _ => ?_)
        refine Mt.conseq (m_in _ _ _ _ _ _) ?_
        rintro _ _ _ ⟨rfl, rfl, ⟨g2, rfl⟩ | ⟨g2, rfl⟩⟩
        · -- pc 11 call X4_in true
          exact (out_in h3 g2).elim
        · -- pc 11 call X4_in false
          refine And.intro (fun _ => ?_) (fun hh => absurd hh (by decide))
          refine Mt.conseq (m_fnd0 _ _ _) ?_
          rintro _ _ _ ⟨rfl, rfl, rfl⟩
          exact ⟨trivial, rfl, hS.found (by decide)⟩
      · -- pc 1 call X4_isRoom false
        exact (nout_nin h1 g1).elim
    · -- pc 11 call X3_outside false
      obtain ⟨K, hK, rfl⟩ := nout_nI (b := 60) (by decide) h3
      refine And.intro (fun hh => absurd hh (by decide)) (fun _ => ?_)
      refine Mt.conseq (c_outside _ _ _ _ _ _) ?_
      rintro _ _ _ ⟨rfl, rfl, ⟨h5, rfl⟩ | ⟨h5, rfl⟩⟩
      · -- pc 20 call X3_outside true
        exact absurd h5 (by decide)
      · -- pc 20 call X3_outside false
        refine And.intro (fun _ => ?_) (fun hh => absurd hh (by decide))
        refine Mt.conseq (c_sah _ P hP8 I hP1 _) ?_
        rintro _ _ _ ⟨⟨M, rfl, h6⟩, rfl, rfl⟩
        refine Mt.conseq (c_ph sx 21 (Or.inr rfl) M P (Agr.ok h6 hN).1 hP8 (Agr.ok h6 hN).2 K hK I J) ?_
        rintro _ _ _ ⟨rfl, rfl, rfl⟩
        refine Mt.conseq (c_ror _ 21 (by decide) 0 (by decide) _ (by decide) _ _) ?_
        rintro _ _ _ ⟨rfl, rfl, rfl⟩
        refine And.intro (hbr) ?_
        refine ⟨trivial, _, rfl, ?_⟩
        refine Mt.of2 _ rfl (by decide +kernel) (Nat.le_of_ble_eq_true rfl) ?_
        refine GW.run kX4_on (fun _ => false) 67 0 rfl ?_
        refine Mt.conseq (m_isRoom _ _ _ _) ?_
        rintro _ _ _ ⟨rfl, rfl, ⟨g1, rfl⟩ | ⟨g1, rfl⟩⟩
        · -- pc 1 call X4_isRoom true
          refine And.intro (fun hh => absurd hh (by decide)) (fun _ => ?_)
          refine Mt.conseq (m_in _ _ _ _ _ _) ?_
          rintro _ _ _ ⟨rfl, rfl, ⟨g2, rfl⟩ | ⟨g2, rfl⟩⟩
          · -- pc 11 call X4_in true
            refine And.intro (fun hh => absurd hh (by decide)) (fun _ => ?_)
            refine Mt.conseq (m_in _ _ _ _ _ _) ?_
            rintro _ _ _ ⟨rfl, rfl, ⟨g3, rfl⟩ | ⟨g3, rfl⟩⟩
            · -- pc 20 call X4_in true
              refine And.intro (fun _ => ?_) (fun hh => absurd hh (by decide))
              refine Mt.conseq ((by have h := m_kp46 sx (I 44) (pN 21 (itH P K M) I) J; rw [show sR (I 44) (pN 21 (itH P K M) I) = pN 21 (itH P K M) I from sR_self (pN 21 (itH P K M) I)] at h; exact h)) ?_
              rintro _ _ _ ⟨rfl, rfl, rfl⟩
              refine Mt.conseq (m_ps _ (I 44) P hP3 hP8 hpl K hK _ _) ?_
              rintro _ _ _ ⟨rfl, rfl, rfl⟩
              refine Mt.conseq (m_there _ r' 0 (by omega) (by decide) _ (by decide) _ _ _) ?_
              rintro _ _ _ ⟨rfl, rfl, rfl⟩
              refine Mt.conseq (m_rs46 _ _ _ _) ?_
              rintro _ _ _ ⟨rfl, rfl, rfl⟩
              refine ⟨trivial, ?_, hS.junk (fun j hj => (mv_E _ _ j hj).trans (mv_E _ _ j hj))⟩
              rw [hcr]
              have e1 := (itM_ag hP8 ha hN.1 hN.2.1 K).2.1 1 r' (by decide) (by decide) (by omega)
              have e2 := (itH_c h6 hN.2.1.pl K).2.1 1 r' (by decide) (by decide) (by omega)
              exact congrArg (fun x => some (Value.int x)) (e1.trans e2.symm)
            · -- pc 20 call X4_in false
              exact (nout_nin h5 g3).elim
          · -- pc 11 call X4_in false
            exact (nout_nin h3 g2).elim
        · -- pc 1 call X4_isRoom false
          exact (nout_nin h1 g1).elim
set_option maxRecDepth 100000 in
set_option maxHeartbeats 4000000 in
theorem pr_on1 (sx : Nat × (Nat → Int32)) (r n : Int32) : PrI sx MX3_on MX4_on [.int r, .int n, .int 1] := by
  intro I J hS
  obtain ⟨P, hN, ha, hP8, hP1, hP3, hpl⟩ := hS.nt
  have e73 : I 44 3 = I 1 7 := hP3.trans hP1.symm
  refine Mt.of2 _ rfl (by decide +kernel) (Nat.le_of_ble_eq_true rfl) ?_
  refine GW.run kX3_on (fun _ => false) 59 0 rfl ?_
  refine Mt.conseq (c_noRoom _ _ _ _) ?_
  rintro _ _ _ ⟨rfl, rfl, ⟨h1, rfl⟩ | ⟨h1, rfl⟩⟩
  · -- pc 1 call X3_noRoom true
    refine And.intro (fun _ => ?_) (fun hh => absurd hh (by decide))
    refine Mt.conseq (c_fnd0 _ _ _) ?_
    rintro _ _ _ ⟨rfl, rfl, rfl⟩
    refine ⟨trivial, _, rfl, ?_⟩
    refine Mt.of2 _ rfl (by decide +kernel) (Nat.le_of_ble_eq_true rfl) ?_
    refine GW.run kX4_on (fun _ => false) 67 0 rfl ?_
    refine Mt.conseq (m_isRoom _ _ _ _) ?_
    rintro _ _ _ ⟨rfl, rfl, ⟨g1, rfl⟩ | ⟨g1, rfl⟩⟩
    · -- pc 1 call X4_isRoom true
      exact (out_in h1 g1).elim
    · -- pc 1 call X4_isRoom false
      refine And.intro (fun _ => ?_) (fun hh => absurd hh (by decide))
      refine Mt.conseq (m_fnd0 _ _ _) ?_
      rintro _ _ _ ⟨rfl, rfl, rfl⟩
      exact ⟨trivial, rfl, hS.found (by decide)⟩
  · -- pc 1 call X3_noRoom false
    obtain ⟨r', hr, rfl⟩ := nout_nI (b := 7) (by decide) h1
    have hbr : vp_in (nI r') 8 := vp_in_nI (by omega) (by omega)
    have hcr := nI_clamp (n := r') (by omega)
    refine And.intro (fun hh => absurd hh (by decide)) (fun _ => ?_)
    refine Mt.conseq (c_outside _ _ _ _ _ _) ?_
    rintro _ _ _ ⟨rfl, rfl, ⟨h3, rfl⟩ | ⟨h3, rfl⟩⟩
    · -- pc 11 call X3_outside true
      refine And.intro (fun _ => ?_) (fun hh => absurd hh (by decide))
      refine Mt.conseq (c_fnd0 _ _ _) ?_
      rintro _ _ _ ⟨rfl, rfl, rfl⟩
      refine ⟨trivial, _, rfl, ?_⟩
      refine Mt.of2 _ rfl (by decide +kernel) (Nat.le_of_ble_eq_true rfl) ?_
      refine GW.run kX4_on (fun _ => false) 67 0 rfl ?_
      refine Mt.conseq (m_isRoom _ _ _ _) ?_
      rintro _ _ _ ⟨rfl, rfl, ⟨g1, rfl⟩ | ⟨g1, rfl⟩⟩
      · -- pc 1 call X4_isRoom true
        refine And.intro (fun hh => absurd hh (by decide)) (fun _ => ?_)
        refine Mt.conseq (m_in _ _ _ _ _ _) ?_
        rintro _ _ _ ⟨rfl, rfl, ⟨g2, rfl⟩ | ⟨g2, rfl⟩⟩
        · -- pc 11 call X4_in true
          exact (out_in h3 g2).elim
        · -- pc 11 call X4_in false
          refine And.intro (fun _ => ?_) (fun hh => absurd hh (by decide))
          refine Mt.conseq (m_fnd0 _ _ _) ?_
          rintro _ _ _ ⟨rfl, rfl, rfl⟩
          exact ⟨trivial, rfl, hS.found (by decide)⟩
      · -- pc 1 call X4_isRoom false
        exact (nout_nin h1 g1).elim
    · -- pc 11 call X3_outside false
      obtain ⟨K, hK, rfl⟩ := nout_nI (b := 60) (by decide) h3
      refine And.intro (fun hh => absurd hh (by decide)) (fun _ => ?_)
      refine Mt.conseq (c_outside _ _ _ _ _ _) ?_
      rintro _ _ _ ⟨rfl, rfl, ⟨h5, rfl⟩ | ⟨h5, rfl⟩⟩
      · -- pc 20 call X3_outside true
        exact absurd h5 (by decide)
      · -- pc 20 call X3_outside false
        refine And.intro (fun _ => ?_) (fun hh => absurd hh (by decide))
        refine Mt.conseq (c_sah _ P hP8 I hP1 _) ?_
        rintro _ _ _ ⟨⟨M, rfl, h6⟩, rfl, rfl⟩
        refine Mt.conseq (c_ph sx 21 (Or.inr rfl) M P (Agr.ok h6 hN).1 hP8 (Agr.ok h6 hN).2 K hK I J) ?_
        rintro _ _ _ ⟨rfl, rfl, rfl⟩
        refine Mt.conseq (c_ror _ 21 (by decide) 1 (by decide) _ (by decide) _ _) ?_
        rintro _ _ _ ⟨rfl, rfl, rfl⟩
        refine And.intro (hbr) ?_
        refine ⟨trivial, _, rfl, ?_⟩
        refine Mt.of2 _ rfl (by decide +kernel) (Nat.le_of_ble_eq_true rfl) ?_
        refine GW.run kX4_on (fun _ => false) 67 0 rfl ?_
        refine Mt.conseq (m_isRoom _ _ _ _) ?_
        rintro _ _ _ ⟨rfl, rfl, ⟨g1, rfl⟩ | ⟨g1, rfl⟩⟩
        · -- pc 1 call X4_isRoom true
          refine And.intro (fun hh => absurd hh (by decide)) (fun _ => ?_)
          refine Mt.conseq (m_in _ _ _ _ _ _) ?_
          rintro _ _ _ ⟨rfl, rfl, ⟨g2, rfl⟩ | ⟨g2, rfl⟩⟩
          · -- pc 11 call X4_in true
            refine And.intro (fun hh => absurd hh (by decide)) (fun _ => ?_)
            refine Mt.conseq (m_in _ _ _ _ _ _) ?_
            rintro _ _ _ ⟨rfl, rfl, ⟨g3, rfl⟩ | ⟨g3, rfl⟩⟩
            · -- pc 20 call X4_in true
              refine And.intro (fun _ => ?_) (fun hh => absurd hh (by decide))
              refine Mt.conseq ((by have h := m_kp46 sx (I 44) (pN 21 (itH P K M) I) J; rw [show sR (I 44) (pN 21 (itH P K M) I) = pN 21 (itH P K M) I from sR_self (pN 21 (itH P K M) I)] at h; exact h)) ?_
              rintro _ _ _ ⟨rfl, rfl, rfl⟩
              refine Mt.conseq (m_ps _ (I 44) P hP3 hP8 hpl K hK _ _) ?_
              rintro _ _ _ ⟨rfl, rfl, rfl⟩
              refine Mt.conseq (m_there _ r' 1 (by omega) (by decide) _ (by decide) _ _ _) ?_
              rintro _ _ _ ⟨rfl, rfl, rfl⟩
              refine Mt.conseq (m_rs46 _ _ _ _) ?_
              rintro _ _ _ ⟨rfl, rfl, rfl⟩
              refine ⟨trivial, ?_, hS.junk (fun j hj => (mv_E _ _ j hj).trans (mv_E _ _ j hj))⟩
              rw [hcr]
              have e1 := (itM_ag hP8 ha hN.1 hN.2.1 K).2.1 2 r' (by decide) (by decide) (by omega)
              have e2 := (itH_c h6 hN.2.1.pl K).2.1 2 r' (by decide) (by decide) (by omega)
              exact congrArg (fun x => some (Value.int x)) (e1.trans e2.symm)
            · -- pc 20 call X4_in false
              exact (nout_nin h5 g3).elim
          · -- pc 11 call X4_in false
            exact (nout_nin h3 g2).elim
        · -- pc 1 call X4_isRoom false
          exact (nout_nin h1 g1).elim
set_option maxRecDepth 100000 in
set_option maxHeartbeats 4000000 in
theorem pr_onx (sx : Nat × (Nat → Int32)) (r n w : Int32) (hw : outP w 0 1) : PrI sx MX3_on MX4_on [.int r, .int n, .int w] := by
  intro I J hS
  refine Mt.of2 _ rfl (by decide +kernel) (Nat.le_of_ble_eq_true rfl) ?_
  refine GW.run kX3_on (fun _ => false) 59 0 rfl ?_
  refine Mt.conseq (c_noRoom _ _ _ _) ?_
  rintro _ _ _ ⟨rfl, rfl, ⟨h1, rfl⟩ | ⟨h1, rfl⟩⟩
  · -- pc 1 call X3_noRoom true
    refine And.intro (fun _ => ?_) (fun hh => absurd hh (by decide))
    refine Mt.conseq (c_fnd0 _ _ _) ?_
    rintro _ _ _ ⟨rfl, rfl, rfl⟩
    refine ⟨trivial, _, rfl, ?_⟩
    refine Mt.of2 _ rfl (by decide +kernel) (Nat.le_of_ble_eq_true rfl) ?_
    refine GW.run kX4_on (fun _ => false) 67 0 rfl ?_
    refine Mt.conseq (m_isRoom _ _ _ _) ?_
    rintro _ _ _ ⟨rfl, rfl, ⟨g1, rfl⟩ | ⟨g1, rfl⟩⟩
    · -- pc 1 call X4_isRoom true
      exact (out_in h1 g1).elim
    · -- pc 1 call X4_isRoom false
      refine And.intro (fun _ => ?_) (fun hh => absurd hh (by decide))
      refine Mt.conseq (m_fnd0 _ _ _) ?_
      rintro _ _ _ ⟨rfl, rfl, rfl⟩
      exact ⟨trivial, rfl, hS.found (by decide)⟩
  · -- pc 1 call X3_noRoom false
    refine And.intro (fun hh => absurd hh (by decide)) (fun _ => ?_)
    refine Mt.conseq (c_outside _ _ _ _ _ _) ?_
    rintro _ _ _ ⟨rfl, rfl, ⟨h3, rfl⟩ | ⟨h3, rfl⟩⟩
    · -- pc 11 call X3_outside true
      refine And.intro (fun _ => ?_) (fun hh => absurd hh (by decide))
      refine Mt.conseq (c_fnd0 _ _ _) ?_
      rintro _ _ _ ⟨rfl, rfl, rfl⟩
      refine ⟨trivial, _, rfl, ?_⟩
      refine Mt.of2 _ rfl (by decide +kernel) (Nat.le_of_ble_eq_true rfl) ?_
      refine GW.run kX4_on (fun _ => false) 67 0 rfl ?_
      refine Mt.conseq (m_isRoom _ _ _ _) ?_
      rintro _ _ _ ⟨rfl, rfl, ⟨g1, rfl⟩ | ⟨g1, rfl⟩⟩
      · -- pc 1 call X4_isRoom true
        refine And.intro (fun hh => absurd hh (by decide)) (fun _ => ?_)
        refine Mt.conseq (m_in _ _ _ _ _ _) ?_
        rintro _ _ _ ⟨rfl, rfl, ⟨g2, rfl⟩ | ⟨g2, rfl⟩⟩
        · -- pc 11 call X4_in true
          exact (out_in h3 g2).elim
        · -- pc 11 call X4_in false
          refine And.intro (fun _ => ?_) (fun hh => absurd hh (by decide))
          refine Mt.conseq (m_fnd0 _ _ _) ?_
          rintro _ _ _ ⟨rfl, rfl, rfl⟩
          exact ⟨trivial, rfl, hS.found (by decide)⟩
      · -- pc 1 call X4_isRoom false
        exact (nout_nin h1 g1).elim
    · -- pc 11 call X3_outside false
      refine And.intro (fun hh => absurd hh (by decide)) (fun _ => ?_)
      refine Mt.conseq (c_outside _ _ _ _ _ _) ?_
      rintro _ _ _ ⟨rfl, rfl, ⟨h5, rfl⟩ | ⟨h5, rfl⟩⟩
      · -- pc 20 call X3_outside true
        refine And.intro (fun hh => absurd hh (by decide)) (fun _ => ?_)
        refine Mt.conseq (c_fnd0 _ _ _) ?_
        rintro _ _ _ ⟨rfl, rfl, rfl⟩
        refine ⟨trivial, _, rfl, ?_⟩
        refine Mt.of2 _ rfl (by decide +kernel) (Nat.le_of_ble_eq_true rfl) ?_
        refine GW.run kX4_on (fun _ => false) 67 0 rfl ?_
        refine Mt.conseq (m_isRoom _ _ _ _) ?_
        rintro _ _ _ ⟨rfl, rfl, ⟨g1, rfl⟩ | ⟨g1, rfl⟩⟩
        · -- pc 1 call X4_isRoom true
          refine And.intro (fun hh => absurd hh (by decide)) (fun _ => ?_)
          refine Mt.conseq (m_in _ _ _ _ _ _) ?_
          rintro _ _ _ ⟨rfl, rfl, ⟨g2, rfl⟩ | ⟨g2, rfl⟩⟩
          · -- pc 11 call X4_in true
            refine And.intro (fun hh => absurd hh (by decide)) (fun _ => ?_)
            refine Mt.conseq (m_in _ _ _ _ _ _) ?_
            rintro _ _ _ ⟨rfl, rfl, ⟨g3, rfl⟩ | ⟨g3, rfl⟩⟩
            · -- pc 20 call X4_in true
              exact (out_in h5 g3).elim
            · -- pc 20 call X4_in false
              refine And.intro (fun hh => absurd hh (by decide)) (fun _ => ?_)
              refine Mt.conseq (m_fnd0 _ _ _) ?_
              rintro _ _ _ ⟨rfl, rfl, rfl⟩
              exact ⟨trivial, rfl, hS.found (by decide)⟩
          · -- pc 11 call X4_in false
            exact (nout_nin h3 g2).elim
        · -- pc 1 call X4_isRoom false
          exact (nout_nin h1 g1).elim
      · -- pc 20 call X3_outside false
        exact absurd hw h5
theorem pr_on (sx : Nat × (Nat → Int32)) (r n w : Int32) : PrI sx MX3_on MX4_on [.int r, .int n, .int w] := by
  by_cases h : outP w 0 1
  · exact pr_onx sx r n w h
  · rcases c01 h with rfl | rfl
    · exact pr_on0 sx r n
    · exact pr_on1 sx r n
