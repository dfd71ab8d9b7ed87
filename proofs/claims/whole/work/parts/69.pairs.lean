/-! PAIRS: room, roomOf -/
set_option maxRecDepth 100000 in
set_option maxHeartbeats 4000000 in
theorem m_told0 (sx : Nat × (Nat → Int32)) (v : Int32) (I : Mm) (J : Ml) : Mt sx MX4_isTold [.int 0, .int v] I J (na_b I J (0 ≤ v ∧ v ≤ 9999)) := by
  refine Mt.of2 _ rfl (by decide +kernel) (Nat.le_of_ble_eq_true rfl) ?_
  refine GW.run kX4_isTold (fun _ => false) 60 0 rfl ?_
  refine And.intro (fun _ => ?_) (fun hh => absurd hh (by decide))
  refine Mt.conseq (m_in _ _ _ _ _ _) ?_
  rintro _ _ _ ⟨rfl, rfl, ⟨h1, rfl⟩ | ⟨h1, rfl⟩⟩
  · -- pc 14 call X4_in true
    exact ⟨na_nl_b1, rfl, rfl, Or.inl ⟨h1, rfl⟩⟩
  · -- pc 14 call X4_in false
    exact ⟨na_nl_b0, rfl, rfl, Or.inr ⟨h1, rfl⟩⟩
set_option maxRecDepth 100000 in
set_option maxHeartbeats 4000000 in
theorem m_told1 (sx : Nat × (Nat → Int32)) (v : Int32) (I : Mm) (J : Ml) : Mt sx MX4_isTold [.int 1, .int v] I J (na_b I J (0 ≤ v ∧ v ≤ 9999)) := by
  refine Mt.of2 _ rfl (by decide +kernel) (Nat.le_of_ble_eq_true rfl) ?_
  refine GW.run kX4_isTold (fun _ => false) 60 0 rfl ?_
  refine And.intro (fun hh => absurd hh (by decide)) (fun _ => ?_)
  refine And.intro (fun hh => absurd hh (by decide)) (fun _ => ?_)
  refine Mt.conseq (m_in _ _ _ _ _ _) ?_
  rintro _ _ _ ⟨rfl, rfl, ⟨h1, rfl⟩ | ⟨h1, rfl⟩⟩
  · -- pc 14 call X4_in true
    exact ⟨na_nl_b1, rfl, rfl, Or.inl ⟨h1, rfl⟩⟩
  · -- pc 14 call X4_in false
    exact ⟨na_nl_b0, rfl, rfl, Or.inr ⟨h1, rfl⟩⟩
set_option maxRecDepth 100000 in
set_option maxHeartbeats 4000000 in
theorem m_told2 (sx : Nat × (Nat → Int32)) (v : Int32) (I : Mm) (J : Ml) : Mt sx MX4_isTold [.int 2, .int v] I J (na_b I J (0 ≤ v ∧ v ≤ 99)) := by
  refine Mt.of2 _ rfl (by decide +kernel) (Nat.le_of_ble_eq_true rfl) ?_
  refine GW.run kX4_isTold (fun _ => false) 60 0 rfl ?_
  refine And.intro (fun hh => absurd hh (by decide)) (fun _ => ?_)
  refine And.intro (fun _ => ?_) (fun hh => absurd hh (by decide))
  refine And.intro (fun hh => absurd hh (by decide)) (fun _ => ?_)
  refine Mt.conseq (m_in _ _ _ _ _ _) ?_
  rintro _ _ _ ⟨rfl, rfl, ⟨h1, rfl⟩ | ⟨h1, rfl⟩⟩
  · -- pc 29 call X4_in true
    exact ⟨na_nl_b1, rfl, rfl, Or.inl ⟨h1, rfl⟩⟩
  · -- pc 29 call X4_in false
    exact ⟨na_nl_b0, rfl, rfl, Or.inr ⟨h1, rfl⟩⟩
set_option maxRecDepth 100000 in
set_option maxHeartbeats 4000000 in
theorem m_told3 (sx : Nat × (Nat → Int32)) (v : Int32) (I : Mm) (J : Ml) : Mt sx MX4_isTold [.int 3, .int v] I J (na_b I J (0 ≤ v ∧ v ≤ 9)) := by
  refine Mt.of2 _ rfl (by decide +kernel) (Nat.le_of_ble_eq_true rfl) ?_
  refine GW.run kX4_isTold (fun _ => false) 60 0 rfl ?_
  refine And.intro (fun hh => absurd hh (by decide)) (fun _ => ?_)
  refine And.intro (fun _ => ?_) (fun hh => absurd hh (by decide))
  refine And.intro (fun _ => ?_) (fun hh => absurd hh (by decide))
  refine And.intro (fun hh => absurd hh (by decide)) (fun _ => ?_)
  refine Mt.conseq (m_in _ _ _ _ _ _) ?_
  rintro _ _ _ ⟨rfl, rfl, ⟨h1, rfl⟩ | ⟨h1, rfl⟩⟩
  · -- pc 44 call X4_in true
    refine And.intro (fun hh => absurd hh (by decide)) (fun _ => ?_)
    exact ⟨na_nl_b1, rfl, rfl, Or.inl ⟨h1, rfl⟩⟩
  · -- pc 44 call X4_in false
    refine And.intro (fun _ => ?_) (fun hh => absurd hh (by decide))
    exact ⟨na_nl_b0, rfl, rfl, Or.inr ⟨h1, rfl⟩⟩
set_option maxRecDepth 100000 in
set_option maxHeartbeats 4000000 in
theorem m_toldx (sx : Nat × (Nat → Int32)) (w v : Int32) (hw : outP w 0 3) (I : Mm) (J : Ml) : Mt sx MX4_isTold [.int w, .int v] I J (na_v I J 0) := by
  refine Mt.of2 _ rfl (by decide +kernel) (Nat.le_of_ble_eq_true rfl) ?_
  refine GW.run kX4_isTold (fun _ => false) 60 0 rfl ?_
  refine And.intro (fun h1 => ?_) (fun h1 => ?_)
  · -- pc 1 .ifCond .eq 8: yes
    exact absurd (show outP 0 0 3 from h1 ▸ hw) (by decide)
  · -- pc 1 .ifCond .eq 8: no
    refine And.intro (fun h2 => ?_) (fun h2 => ?_)
    · -- pc 6 .if_icmp .ne 14: yes
      refine And.intro (fun h3 => ?_) (fun h3 => ?_)
      · -- pc 22 .if_icmp .ne 13: yes
        refine And.intro (fun h4 => ?_) (fun h4 => ?_)
        · -- pc 37 .if_icmp .ne 17: yes
          exact ⟨na_nl_b0, rfl, rfl, rfl⟩
        · -- pc 37 .if_icmp .ne 17: no
          exact absurd (show outP 3 0 3 from (show w = 3 from h4) ▸ hw) (by decide)
      · -- pc 22 .if_icmp .ne 13: no
        exact absurd (show outP 2 0 3 from (show w = 2 from h3) ▸ hw) (by decide)
    · -- pc 6 .if_icmp .ne 14: no
      exact absurd (show outP 1 0 3 from (show w = 1 from h2) ▸ hw) (by decide)
theorem NOk.r1 {P : Nat} {N : Mm} (h : NOk P N) {j : Nat} {v : Int32} (hv : rg 0 9999 v) : NOk P (na_set N 1 j v) := by
  refine ⟨fun r hr => ?_, h.2.1.set (by decide), h.2.2.1, h.2.2.2.1, h.2.2.2.2.1, h.2.2.2.2.2.1, h.2.2.2.2.2.2⟩
  obtain ⟨h1, h2, h3, h4⟩ := h.1 r hr
  refine ⟨?_, h2, h3, h4⟩
  rw [na_set_get]
  split
  · exact hv
  · exact h1
theorem NOk.r2 {P : Nat} {N : Mm} (h : NOk P N) {j : Nat} {v : Int32} (hv : rg 0 9999 v) : NOk P (na_set N 2 j v) := by
  refine ⟨fun r hr => ?_, h.2.1.set (by decide), h.2.2.1, h.2.2.2.1, h.2.2.2.2.1, h.2.2.2.2.2.1, h.2.2.2.2.2.2⟩
  obtain ⟨h1, h2, h3, h4⟩ := h.1 r hr
  refine ⟨h1, ?_, h3, h4⟩
  rw [na_set_get]
  split
  · exact hv
  · exact h2
theorem NOk.r3 {P : Nat} {N : Mm} (h : NOk P N) {j : Nat} {v : Int32} (hv : rg 0 99 v) : NOk P (na_set N 3 j v) := by
  refine ⟨fun r hr => ?_, h.2.1.set (by decide), h.2.2.1, h.2.2.2.1, h.2.2.2.2.1, h.2.2.2.2.2.1, h.2.2.2.2.2.2⟩
  obtain ⟨h1, h2, h3, h4⟩ := h.1 r hr
  refine ⟨h1, h2, ?_, h4⟩
  rw [na_set_get]
  split
  · exact hv
  · exact h3
theorem NOk.r4 {P : Nat} {N : Mm} (h : NOk P N) {j : Nat} {v : Int32} (hv : rg 0 9 v) : NOk P (na_set N 4 j v) := by
  refine ⟨fun r hr => ?_, h.2.1.set (by decide), h.2.2.1, h.2.2.2.1, h.2.2.2.2.1, h.2.2.2.2.2.1, h.2.2.2.2.2.2⟩
  obtain ⟨h1, h2, h3, h4⟩ := h.1 r hr
  refine ⟨h1, h2, h3, ?_⟩
  rw [na_set_get]
  split
  · exact hv
  · exact h4
set_option maxRecDepth 100000 in
set_option maxHeartbeats 4000000 in
theorem pr_room0 (sx : Nat × (Nat → Int32)) (r v : Int32) : PrI sx MX3_room MX4_room [.int r, .int 0, .int v] := by
  intro I J hS
  obtain ⟨P, hN, ha, hP8, hP1, hP3, hpl⟩ := hS.nt
  have e73 : I 44 3 = I 1 7 := hP3.trans hP1.symm
  refine Mt.of2 _ rfl (by decide +kernel) (Nat.le_of_ble_eq_true rfl) ?_
  refine GW.run kX3_room (fun _ => false) 57 0 rfl ?_
  refine Mt.conseq (c_noRoom _ _ _ _) ?_
  rintro _ _ _ ⟨rfl, rfl, ⟨h1, rfl⟩ | ⟨h1, rfl⟩⟩
  · -- pc 1 call X3_noRoom true
    refine And.intro (fun _ => ?_) (fun hh => absurd hh (by decide))
    refine Mt.conseq (c_fnd0 _ _ _) ?_
    rintro _ _ _ ⟨rfl, rfl, rfl⟩
    refine ⟨trivial, _, rfl, ?_⟩
    refine Mt.of2 _ rfl (by decide +kernel) (Nat.le_of_ble_eq_true rfl) ?_
    refine GW.run kX4_room (fun _ => false) 53 0 rfl ?_
    refine Mt.conseq (m_isRoom _ _ _ _) ?_
    rintro _ _ _ ⟨rfl, rfl, ⟨g1, rfl⟩ | ⟨g1, rfl⟩⟩
    · -- pc 1 call X4_isRoom true
      exact (out_in h1 g1).elim
    · -- pc 1 call X4_isRoom false
      refine And.intro (fun _ => ?_) (fun hh => absurd hh (by decide))
      refine Mt.conseq (m_fnd0 _ _ _) ?_
      rintro _ _ _ ⟨rfl, rfl, rfl⟩
      exact ⟨trivial, rfl, hS.found (by decide)⟩
  · -- pc 1 call X3_noRoom false
    obtain ⟨r', hr, rfl⟩ := nout_nI (b := 7) (by decide) h1
    have hbr : vp_in (nI r') 8 := vp_in_nI (by omega) (by omega)
    have hcr := nI_clamp (n := r') (by omega)
    refine And.intro (fun hh => absurd hh (by decide)) (fun _ => ?_)
    refine Mt.conseq (c_outside _ _ _ _ _ _) ?_
    rintro _ _ _ ⟨rfl, rfl, ⟨h3, rfl⟩ | ⟨h3, rfl⟩⟩
    · -- pc 10 call X3_outside true
      exact absurd h3 (by decide)
    · -- pc 10 call X3_outside false
      refine And.intro (fun hh => absurd hh (by decide)) (fun _ => ?_)
      refine And.intro (by unfold vp_in; decide) ?_
      refine Mt.conseq (c_outside _ _ _ _ _ _) ?_
      rintro _ _ _ ⟨rfl, rfl, ⟨h4, rfl⟩ | ⟨h4, rfl⟩⟩
      · -- pc 23 call X3_outside true
        have hv : outP v 0 9999 := h4
        refine And.intro (fun hh => absurd hh (by decide)) (fun _ => ?_)
        refine Mt.conseq (c_fnd0 _ _ _) ?_
        rintro _ _ _ ⟨rfl, rfl, rfl⟩
        refine ⟨trivial, _, rfl, ?_⟩
        refine Mt.of2 _ rfl (by decide +kernel) (Nat.le_of_ble_eq_true rfl) ?_
        refine GW.run kX4_room (fun _ => false) 53 0 rfl ?_
        refine Mt.conseq (m_isRoom _ _ _ _) ?_
        rintro _ _ _ ⟨rfl, rfl, ⟨g1, rfl⟩ | ⟨g1, rfl⟩⟩
        · -- pc 1 call X4_isRoom true
          refine And.intro (fun hh => absurd hh (by decide)) (fun _ => ?_)
          refine Mt.conseq (m_told0 _ _ _ _) ?_
          rintro _ _ _ ⟨rfl, rfl, ⟨g2, rfl⟩ | ⟨g2, rfl⟩⟩
          · -- pc 9 call X4_isTold true
            exact (out_in hv g2).elim
          · -- pc 9 call X4_isTold false
            refine And.intro (fun hh => absurd hh (by decide)) (fun _ => ?_)
            refine Mt.conseq (m_fnd0 _ _ _) ?_
            rintro _ _ _ ⟨rfl, rfl, rfl⟩
            exact ⟨trivial, rfl, hS.found (by decide)⟩
        · -- pc 1 call X4_isRoom false
          exact (nout_nin h1 g1).elim
      · -- pc 23 call X3_outside false
        have hv : ¬ outP v 0 9999 := h4
        refine And.intro (fun _ => ?_) (fun hh => absurd hh (by decide))
        refine Mt.conseq (c_ror _ 1 (by decide) 0 (by decide) _ (by decide) _ _) ?_
        rintro _ _ _ ⟨rfl, rfl, rfl⟩
        refine Mt.conseq (c_xch_2 _ (nI r') _ hbr _ _) ?_
        rintro _ _ _ ⟨rfl, rfl, rfl⟩
        refine ⟨trivial, _, rfl, ?_⟩
        refine Mt.of2 _ rfl (by decide +kernel) (Nat.le_of_ble_eq_true rfl) ?_
        refine GW.run kX4_room (fun _ => false) 53 0 rfl ?_
        refine Mt.conseq (m_isRoom _ _ _ _) ?_
        rintro _ _ _ ⟨rfl, rfl, ⟨g1, rfl⟩ | ⟨g1, rfl⟩⟩
        · -- pc 1 call X4_isRoom true
          refine And.intro (fun hh => absurd hh (by decide)) (fun _ => ?_)
          refine Mt.conseq (m_told0 _ _ _ _) ?_
          rintro _ _ _ ⟨rfl, rfl, ⟨g2, rfl⟩ | ⟨g2, rfl⟩⟩
          · -- pc 9 call X4_isTold true
            refine And.intro (fun _ => ?_) (fun hh => absurd hh (by decide))
            refine Mt.conseq ((by have h := m_there sx r' 0 (by omega) (by decide) 0 (by decide) (I 44) (na_set I 2 (nI r').toNatClampNeg v) J; rw [show sR (I 44) (na_set I 2 (nI r').toNatClampNeg v) = na_set I 2 (nI r').toNatClampNeg v from sR_self (na_set I 2 (nI r').toNatClampNeg v)] at h; exact h)) ?_
            rintro _ _ _ ⟨rfl, rfl, rfl⟩
            refine Mt.conseq ((by have h := m_lies sx v r' 0 (by omega) (by decide) 0 (by decide) (I 44) (na_set I 2 (nI r').toNatClampNeg v) J; rw [show sR (I 44) (na_set I 2 (nI r').toNatClampNeg v) = na_set I 2 (nI r').toNatClampNeg v from sR_self (na_set I 2 (nI r').toNatClampNeg v)] at h; exact h)) ?_
            rintro _ _ _ ⟨rfl, rfl, rfl⟩
            have hvr : rg 0 9999 v := nout_rg (by decide) (by decide) hv
            refine ⟨trivial, ?_, ?_⟩
            · rw [hcr]; exact congrArg (fun x => some (Value.int x)) (ha.2.1 1 r' (by decide) (by decide) (by omega))
            · rw [hcr, nt_set (k := 1) (by decide) rfl, mx_id (by have := hvr.2; omega)]
              exact hS.night (hN.r1 hvr) (agR hP8 ha (r := r') (w := 0) (by omega) (by decide) _) (set_hi (by decide) fun a ha => gN_hi ha)
          · -- pc 9 call X4_isTold false
            exact (nout_nin hv g2).elim
        · -- pc 1 call X4_isRoom false
          exact (nout_nin h1 g1).elim
set_option maxRecDepth 100000 in
set_option maxHeartbeats 4000000 in
theorem pr_room1 (sx : Nat × (Nat → Int32)) (r v : Int32) : PrI sx MX3_room MX4_room [.int r, .int 1, .int v] := by
  intro I J hS
  obtain ⟨P, hN, ha, hP8, hP1, hP3, hpl⟩ := hS.nt
  have e73 : I 44 3 = I 1 7 := hP3.trans hP1.symm
  refine Mt.of2 _ rfl (by decide +kernel) (Nat.le_of_ble_eq_true rfl) ?_
  refine GW.run kX3_room (fun _ => false) 57 0 rfl ?_
  refine Mt.conseq (c_noRoom _ _ _ _) ?_
  rintro _ _ _ ⟨rfl, rfl, ⟨h1, rfl⟩ | ⟨h1, rfl⟩⟩
  · -- pc 1 call X3_noRoom true
    refine And.intro (fun _ => ?_) (fun hh => absurd hh (by decide))
    refine Mt.conseq (c_fnd0 _ _ _) ?_
    rintro _ _ _ ⟨rfl, rfl, rfl⟩
    refine ⟨trivial, _, rfl, ?_⟩
    refine Mt.of2 _ rfl (by decide +kernel) (Nat.le_of_ble_eq_true rfl) ?_
    refine GW.run kX4_room (fun _ => false) 53 0 rfl ?_
    refine Mt.conseq (m_isRoom _ _ _ _) ?_
    rintro _ _ _ ⟨rfl, rfl, ⟨g1, rfl⟩ | ⟨g1, rfl⟩⟩
    · -- pc 1 call X4_isRoom true
      exact (out_in h1 g1).elim
    · -- pc 1 call X4_isRoom false
      refine And.intro (fun _ => ?_) (fun hh => absurd hh (by decide))
      refine Mt.conseq (m_fnd0 _ _ _) ?_
      rintro _ _ _ ⟨rfl, rfl, rfl⟩
      exact ⟨trivial, rfl, hS.found (by decide)⟩
  · -- pc 1 call X3_noRoom false
    obtain ⟨r', hr, rfl⟩ := nout_nI (b := 7) (by decide) h1
    have hbr : vp_in (nI r') 8 := vp_in_nI (by omega) (by omega)
    have hcr := nI_clamp (n := r') (by omega)
    refine And.intro (fun hh => absurd hh (by decide)) (fun _ => ?_)
    refine Mt.conseq (c_outside _ _ _ _ _ _) ?_
    rintro _ _ _ ⟨rfl, rfl, ⟨h3, rfl⟩ | ⟨h3, rfl⟩⟩
    · -- pc 10 call X3_outside true
      exact absurd h3 (by decide)
    · -- pc 10 call X3_outside false
      refine And.intro (fun hh => absurd hh (by decide)) (fun _ => ?_)
      refine And.intro (by unfold vp_in; decide) ?_
      refine Mt.conseq (c_outside _ _ _ _ _ _) ?_
      rintro _ _ _ ⟨rfl, rfl, ⟨h4, rfl⟩ | ⟨h4, rfl⟩⟩
      · -- pc 23 call X3_outside true
        have hv : outP v 0 9999 := h4
        refine And.intro (fun hh => absurd hh (by decide)) (fun _ => ?_)
        refine Mt.conseq (c_fnd0 _ _ _) ?_
        rintro _ _ _ ⟨rfl, rfl, rfl⟩
        refine ⟨trivial, _, rfl, ?_⟩
        refine Mt.of2 _ rfl (by decide +kernel) (Nat.le_of_ble_eq_true rfl) ?_
        refine GW.run kX4_room (fun _ => false) 53 0 rfl ?_
        refine Mt.conseq (m_isRoom _ _ _ _) ?_
        rintro _ _ _ ⟨rfl, rfl, ⟨g1, rfl⟩ | ⟨g1, rfl⟩⟩
        · -- pc 1 call X4_isRoom true
          refine And.intro (fun hh => absurd hh (by decide)) (fun _ => ?_)
          refine Mt.conseq (m_told1 _ _ _ _) ?_
          rintro _ _ _ ⟨rfl, rfl, ⟨g2, rfl⟩ | ⟨g2, rfl⟩⟩
          · -- pc 9 call X4_isTold true
            exact (out_in hv g2).elim
          · -- pc 9 call X4_isTold false
            refine And.intro (fun hh => absurd hh (by decide)) (fun _ => ?_)
            refine Mt.conseq (m_fnd0 _ _ _) ?_
            rintro _ _ _ ⟨rfl, rfl, rfl⟩
            exact ⟨trivial, rfl, hS.found (by decide)⟩
        · -- pc 1 call X4_isRoom false
          exact (nout_nin h1 g1).elim
      · -- pc 23 call X3_outside false
        have hv : ¬ outP v 0 9999 := h4
        refine And.intro (fun _ => ?_) (fun hh => absurd hh (by decide))
        refine Mt.conseq (c_ror _ 1 (by decide) 1 (by decide) _ (by decide) _ _) ?_
        rintro _ _ _ ⟨rfl, rfl, rfl⟩
        refine Mt.conseq (c_xch_3 _ (nI r') _ hbr _ _) ?_
        rintro _ _ _ ⟨rfl, rfl, rfl⟩
        refine ⟨trivial, _, rfl, ?_⟩
        refine Mt.of2 _ rfl (by decide +kernel) (Nat.le_of_ble_eq_true rfl) ?_
        refine GW.run kX4_room (fun _ => false) 53 0 rfl ?_
        refine Mt.conseq (m_isRoom _ _ _ _) ?_
        rintro _ _ _ ⟨rfl, rfl, ⟨g1, rfl⟩ | ⟨g1, rfl⟩⟩
        · -- pc 1 call X4_isRoom true
          refine And.intro (fun hh => absurd hh (by decide)) (fun _ => ?_)
          refine Mt.conseq (m_told1 _ _ _ _) ?_
          rintro _ _ _ ⟨rfl, rfl, ⟨g2, rfl⟩ | ⟨g2, rfl⟩⟩
          · -- pc 9 call X4_isTold true
            refine And.intro (fun _ => ?_) (fun hh => absurd hh (by decide))
            refine Mt.conseq ((by have h := m_there sx r' 1 (by omega) (by decide) 1 (by decide) (I 44) (na_set I 3 (nI r').toNatClampNeg v) J; rw [show sR (I 44) (na_set I 3 (nI r').toNatClampNeg v) = na_set I 3 (nI r').toNatClampNeg v from sR_self (na_set I 3 (nI r').toNatClampNeg v)] at h; exact h)) ?_
            rintro _ _ _ ⟨rfl, rfl, rfl⟩
            refine Mt.conseq ((by have h := m_lies sx v r' 1 (by omega) (by decide) 1 (by decide) (I 44) (na_set I 3 (nI r').toNatClampNeg v) J; rw [show sR (I 44) (na_set I 3 (nI r').toNatClampNeg v) = na_set I 3 (nI r').toNatClampNeg v from sR_self (na_set I 3 (nI r').toNatClampNeg v)] at h; exact h)) ?_
            rintro _ _ _ ⟨rfl, rfl, rfl⟩
            have hvr : rg 0 9999 v := nout_rg (by decide) (by decide) hv
            refine ⟨trivial, ?_, ?_⟩
            · rw [hcr]; exact congrArg (fun x => some (Value.int x)) (ha.2.1 2 r' (by decide) (by decide) (by omega))
            · rw [hcr, nt_set (k := 2) (by decide) rfl, mx_id (by have := hvr.2; omega)]
              exact hS.night (hN.r2 hvr) (agR hP8 ha (r := r') (w := 1) (by omega) (by decide) _) (set_hi (by decide) fun a ha => gN_hi ha)
          · -- pc 9 call X4_isTold false
            exact (nout_nin hv g2).elim
        · -- pc 1 call X4_isRoom false
          exact (nout_nin h1 g1).elim
set_option maxRecDepth 100000 in
set_option maxHeartbeats 4000000 in
theorem pr_room2 (sx : Nat × (Nat → Int32)) (r v : Int32) : PrI sx MX3_room MX4_room [.int r, .int 2, .int v] := by
  intro I J hS
  obtain ⟨P, hN, ha, hP8, hP1, hP3, hpl⟩ := hS.nt
  have e73 : I 44 3 = I 1 7 := hP3.trans hP1.symm
  refine Mt.of2 _ rfl (by decide +kernel) (Nat.le_of_ble_eq_true rfl) ?_
  refine GW.run kX3_room (fun _ => false) 57 0 rfl ?_
  refine Mt.conseq (c_noRoom _ _ _ _) ?_
  rintro _ _ _ ⟨rfl, rfl, ⟨h1, rfl⟩ | ⟨h1, rfl⟩⟩
  · -- pc 1 call X3_noRoom true
    refine And.intro (fun _ => ?_) (fun hh => absurd hh (by decide))
    refine Mt.conseq (c_fnd0 _ _ _) ?_
    rintro _ _ _ ⟨rfl, rfl, rfl⟩
    refine ⟨trivial, _, rfl, ?_⟩
    refine Mt.of2 _ rfl (by decide +kernel) (Nat.le_of_ble_eq_true rfl) ?_
    refine GW.run kX4_room (fun _ => false) 53 0 rfl ?_
    refine Mt.conseq (m_isRoom _ _ _ _) ?_
    rintro _ _ _ ⟨rfl, rfl, ⟨g1, rfl⟩ | ⟨g1, rfl⟩⟩
    · -- pc 1 call X4_isRoom true
      exact (out_in h1 g1).elim
    · -- pc 1 call X4_isRoom false
      refine And.intro (fun _ => ?_) (fun hh => absurd hh (by decide))
      refine Mt.conseq (m_fnd0 _ _ _) ?_
      rintro _ _ _ ⟨rfl, rfl, rfl⟩
      exact ⟨trivial, rfl, hS.found (by decide)⟩
  · -- pc 1 call X3_noRoom false
    obtain ⟨r', hr, rfl⟩ := nout_nI (b := 7) (by decide) h1
    have hbr : vp_in (nI r') 8 := vp_in_nI (by omega) (by omega)
    have hcr := nI_clamp (n := r') (by omega)
    refine And.intro (fun hh => absurd hh (by decide)) (fun _ => ?_)
    refine Mt.conseq (c_outside _ _ _ _ _ _) ?_
    rintro _ _ _ ⟨rfl, rfl, ⟨h3, rfl⟩ | ⟨h3, rfl⟩⟩
    · -- pc 10 call X3_outside true
      exact absurd h3 (by decide)
    · -- pc 10 call X3_outside false
      refine And.intro (fun hh => absurd hh (by decide)) (fun _ => ?_)
      refine And.intro (by unfold vp_in; decide) ?_
      refine Mt.conseq (c_outside _ _ _ _ _ _) ?_
      rintro _ _ _ ⟨rfl, rfl, ⟨h4, rfl⟩ | ⟨h4, rfl⟩⟩
      · -- pc 23 call X3_outside true
        have hv : outP v 0 99 := h4
        refine And.intro (fun hh => absurd hh (by decide)) (fun _ => ?_)
        refine Mt.conseq (c_fnd0 _ _ _) ?_
        rintro _ _ _ ⟨rfl, rfl, rfl⟩
        refine ⟨trivial, _, rfl, ?_⟩
        refine Mt.of2 _ rfl (by decide +kernel) (Nat.le_of_ble_eq_true rfl) ?_
        refine GW.run kX4_room (fun _ => false) 53 0 rfl ?_
        refine Mt.conseq (m_isRoom _ _ _ _) ?_
        rintro _ _ _ ⟨rfl, rfl, ⟨g1, rfl⟩ | ⟨g1, rfl⟩⟩
        · -- pc 1 call X4_isRoom true
          refine And.intro (fun hh => absurd hh (by decide)) (fun _ => ?_)
          refine Mt.conseq (m_told2 _ _ _ _) ?_
          rintro _ _ _ ⟨rfl, rfl, ⟨g2, rfl⟩ | ⟨g2, rfl⟩⟩
          · -- pc 9 call X4_isTold true
            exact (out_in hv g2).elim
          · -- pc 9 call X4_isTold false
            refine And.intro (fun hh => absurd hh (by decide)) (fun _ => ?_)
            refine Mt.conseq (m_fnd0 _ _ _) ?_
            rintro _ _ _ ⟨rfl, rfl, rfl⟩
            exact ⟨trivial, rfl, hS.found (by decide)⟩
        · -- pc 1 call X4_isRoom false
          exact (nout_nin h1 g1).elim
      · -- pc 23 call X3_outside false
        have hv : ¬ outP v 0 99 := h4
        refine And.intro (fun _ => ?_) (fun hh => absurd hh (by decide))
        refine Mt.conseq (c_ror _ 1 (by decide) 2 (by decide) _ (by decide) _ _) ?_
        rintro _ _ _ ⟨rfl, rfl, rfl⟩
        refine Mt.conseq (c_xch_4 _ (nI r') _ hbr _ _) ?_
        rintro _ _ _ ⟨rfl, rfl, rfl⟩
        refine ⟨trivial, _, rfl, ?_⟩
        refine Mt.of2 _ rfl (by decide +kernel) (Nat.le_of_ble_eq_true rfl) ?_
        refine GW.run kX4_room (fun _ => false) 53 0 rfl ?_
        refine Mt.conseq (m_isRoom _ _ _ _) ?_
        rintro _ _ _ ⟨rfl, rfl, ⟨g1, rfl⟩ | ⟨g1, rfl⟩⟩
        · -- pc 1 call X4_isRoom true
          refine And.intro (fun hh => absurd hh (by decide)) (fun _ => ?_)
          refine Mt.conseq (m_told2 _ _ _ _) ?_
          rintro _ _ _ ⟨rfl, rfl, ⟨g2, rfl⟩ | ⟨g2, rfl⟩⟩
          · -- pc 9 call X4_isTold true
            refine And.intro (fun _ => ?_) (fun hh => absurd hh (by decide))
            refine Mt.conseq ((by have h := m_there sx r' 2 (by omega) (by decide) 2 (by decide) (I 44) (na_set I 4 (nI r').toNatClampNeg v) J; rw [show sR (I 44) (na_set I 4 (nI r').toNatClampNeg v) = na_set I 4 (nI r').toNatClampNeg v from sR_self (na_set I 4 (nI r').toNatClampNeg v)] at h; exact h)) ?_
            rintro _ _ _ ⟨rfl, rfl, rfl⟩
            refine Mt.conseq ((by have h := m_lies sx v r' 2 (by omega) (by decide) 2 (by decide) (I 44) (na_set I 4 (nI r').toNatClampNeg v) J; rw [show sR (I 44) (na_set I 4 (nI r').toNatClampNeg v) = na_set I 4 (nI r').toNatClampNeg v from sR_self (na_set I 4 (nI r').toNatClampNeg v)] at h; exact h)) ?_
            rintro _ _ _ ⟨rfl, rfl, rfl⟩
            have hvr : rg 0 99 v := nout_rg (by decide) (by decide) hv
            refine ⟨trivial, ?_, ?_⟩
            · rw [hcr]; exact congrArg (fun x => some (Value.int x)) (ha.2.1 3 r' (by decide) (by decide) (by omega))
            · rw [hcr, nt_set (k := 3) (by decide) rfl, mx_id (by have := hvr.2; omega)]
              exact hS.night (hN.r3 hvr) (agR hP8 ha (r := r') (w := 2) (by omega) (by decide) _) (set_hi (by decide) fun a ha => gN_hi ha)
          · -- pc 9 call X4_isTold false
            exact (nout_nin hv g2).elim
        · -- pc 1 call X4_isRoom false
          exact (nout_nin h1 g1).elim
set_option maxRecDepth 100000 in
set_option maxHeartbeats 4000000 in
theorem pr_room3 (sx : Nat × (Nat → Int32)) (r v : Int32) : PrI sx MX3_room MX4_room [.int r, .int 3, .int v] := by
  intro I J hS
  obtain ⟨P, hN, ha, hP8, hP1, hP3, hpl⟩ := hS.nt
  have e73 : I 44 3 = I 1 7 := hP3.trans hP1.symm
  refine Mt.of2 _ rfl (by decide +kernel) (Nat.le_of_ble_eq_true rfl) ?_
  refine GW.run kX3_room (fun _ => false) 57 0 rfl ?_
  refine Mt.conseq (c_noRoom _ _ _ _) ?_
  rintro _ _ _ ⟨rfl, rfl, ⟨h1, rfl⟩ | ⟨h1, rfl⟩⟩
  · -- pc 1 call X3_noRoom true
    refine And.intro (fun _ => ?_) (fun hh => absurd hh (by decide))
    refine Mt.conseq (c_fnd0 _ _ _) ?_
    rintro _ _ _ ⟨rfl, rfl, rfl⟩
    refine ⟨trivial, _, rfl, ?_⟩
    refine Mt.of2 _ rfl (by decide +kernel) (Nat.le_of_ble_eq_true rfl) ?_
    refine GW.run kX4_room (fun _ => false) 53 0 rfl ?_
    refine Mt.conseq (m_isRoom _ _ _ _) ?_
    rintro _ _ _ ⟨rfl, rfl, ⟨g1, rfl⟩ | ⟨g1, rfl⟩⟩
    · -- pc 1 call X4_isRoom true
      exact (out_in h1 g1).elim
    · -- pc 1 call X4_isRoom false
      refine And.intro (fun _ => ?_) (fun hh => absurd hh (by decide))
      refine Mt.conseq (m_fnd0 _ _ _) ?_
      rintro _ _ _ ⟨rfl, rfl, rfl⟩
      exact ⟨trivial, rfl, hS.found (by decide)⟩
  · -- pc 1 call X3_noRoom false
    obtain ⟨r', hr, rfl⟩ := nout_nI (b := 7) (by decide) h1
    have hbr : vp_in (nI r') 8 := vp_in_nI (by omega) (by omega)
    have hcr := nI_clamp (n := r') (by omega)
    refine And.intro (fun hh => absurd hh (by decide)) (fun _ => ?_)
    refine Mt.conseq (c_outside _ _ _ _ _ _) ?_
    rintro _ _ _ ⟨rfl, rfl, ⟨h3, rfl⟩ | ⟨h3, rfl⟩⟩
    · -- pc 10 call X3_outside true
      exact absurd h3 (by decide)
    · -- pc 10 call X3_outside false
      refine And.intro (fun hh => absurd hh (by decide)) (fun _ => ?_)
      refine And.intro (by unfold vp_in; decide) ?_
      refine Mt.conseq (c_outside _ _ _ _ _ _) ?_
      rintro _ _ _ ⟨rfl, rfl, ⟨h4, rfl⟩ | ⟨h4, rfl⟩⟩
      · -- pc 23 call X3_outside true
        have hv : outP v 0 9 := h4
        refine And.intro (fun hh => absurd hh (by decide)) (fun _ => ?_)
        refine Mt.conseq (c_fnd0 _ _ _) ?_
        rintro _ _ _ ⟨rfl, rfl, rfl⟩
        refine ⟨trivial, _, rfl, ?_⟩
        refine Mt.of2 _ rfl (by decide +kernel) (Nat.le_of_ble_eq_true rfl) ?_
        refine GW.run kX4_room (fun _ => false) 53 0 rfl ?_
        refine Mt.conseq (m_isRoom _ _ _ _) ?_
        rintro _ _ _ ⟨rfl, rfl, ⟨g1, rfl⟩ | ⟨g1, rfl⟩⟩
        · -- pc 1 call X4_isRoom true
          refine And.intro (fun hh => absurd hh (by decide)) (fun _ => ?_)
          refine Mt.conseq (m_told3 _ _ _ _) ?_
          rintro _ _ _ ⟨rfl, rfl, ⟨g2, rfl⟩ | ⟨g2, rfl⟩⟩
          · -- pc 9 call X4_isTold true
            exact (out_in hv g2).elim
          · -- pc 9 call X4_isTold false
            refine And.intro (fun hh => absurd hh (by decide)) (fun _ => ?_)
            refine Mt.conseq (m_fnd0 _ _ _) ?_
            rintro _ _ _ ⟨rfl, rfl, rfl⟩
            exact ⟨trivial, rfl, hS.found (by decide)⟩
        · -- pc 1 call X4_isRoom false
          exact (nout_nin h1 g1).elim
      · -- pc 23 call X3_outside false
        have hv : ¬ outP v 0 9 := h4
        refine And.intro (fun _ => ?_) (fun hh => absurd hh (by decide))
        refine Mt.conseq (c_ror _ 1 (by decide) 3 (by decide) _ (by decide) _ _) ?_
        rintro _ _ _ ⟨rfl, rfl, rfl⟩
        refine Mt.conseq (c_xch_5 _ (nI r') _ hbr _ _) ?_
        rintro _ _ _ ⟨rfl, rfl, rfl⟩
        refine ⟨trivial, _, rfl, ?_⟩
        refine Mt.of2 _ rfl (by decide +kernel) (Nat.le_of_ble_eq_true rfl) ?_
        refine GW.run kX4_room (fun _ => false) 53 0 rfl ?_
        refine Mt.conseq (m_isRoom _ _ _ _) ?_
        rintro _ _ _ ⟨rfl, rfl, ⟨g1, rfl⟩ | ⟨g1, rfl⟩⟩
        · -- pc 1 call X4_isRoom true
          refine And.intro (fun hh => absurd hh (by decide)) (fun _ => ?_)
          refine Mt.conseq (m_told3 _ _ _ _) ?_
          rintro _ _ _ ⟨rfl, rfl, ⟨g2, rfl⟩ | ⟨g2, rfl⟩⟩
          · -- pc 9 call X4_isTold true
            refine And.intro (fun _ => ?_) (fun hh => absurd hh (by decide))
            refine Mt.conseq ((by have h := m_there sx r' 3 (by omega) (by decide) 3 (by decide) (I 44) (na_set I 5 (nI r').toNatClampNeg v) J; rw [show sR (I 44) (na_set I 5 (nI r').toNatClampNeg v) = na_set I 5 (nI r').toNatClampNeg v from sR_self (na_set I 5 (nI r').toNatClampNeg v)] at h; exact h)) ?_
            rintro _ _ _ ⟨rfl, rfl, rfl⟩
            refine Mt.conseq ((by have h := m_lies sx v r' 3 (by omega) (by decide) 3 (by decide) (I 44) (na_set I 5 (nI r').toNatClampNeg v) J; rw [show sR (I 44) (na_set I 5 (nI r').toNatClampNeg v) = na_set I 5 (nI r').toNatClampNeg v from sR_self (na_set I 5 (nI r').toNatClampNeg v)] at h; exact h)) ?_
            rintro _ _ _ ⟨rfl, rfl, rfl⟩
            have hvr : rg 0 9 v := nout_rg (by decide) (by decide) hv
            refine ⟨trivial, ?_, ?_⟩
            · rw [hcr]; exact congrArg (fun x => some (Value.int x)) (ha.2.1 4 r' (by decide) (by decide) (by omega))
            · rw [hcr, nt_set (k := 4) (by decide) rfl, mx_id (by have := hvr.2; omega)]
              exact hS.night (hN.r4 hvr) (agR hP8 ha (r := r') (w := 3) (by omega) (by decide) _) (set_hi (by decide) fun a ha => gN_hi ha)
          · -- pc 9 call X4_isTold false
            exact (nout_nin hv g2).elim
        · -- pc 1 call X4_isRoom false
          exact (nout_nin h1 g1).elim
set_option maxRecDepth 100000 in
set_option maxHeartbeats 4000000 in
theorem pr_roomx (sx : Nat × (Nat → Int32)) (r w v : Int32) (hw : outP w 0 3) : PrI sx MX3_room MX4_room [.int r, .int w, .int v] := by
  intro I J hS
  obtain ⟨P, hN, ha, hP8, hP1, hP3, hpl⟩ := hS.nt
  have e73 : I 44 3 = I 1 7 := hP3.trans hP1.symm
  refine Mt.of2 _ rfl (by decide +kernel) (Nat.le_of_ble_eq_true rfl) ?_
  refine GW.run kX3_room (fun _ => false) 57 0 rfl ?_
  refine Mt.conseq (c_noRoom _ _ _ _) ?_
  rintro _ _ _ ⟨rfl, rfl, ⟨h1, rfl⟩ | ⟨h1, rfl⟩⟩
  · -- pc 1 call X3_noRoom true
    refine And.intro (fun _ => ?_) (fun hh => absurd hh (by decide))
    refine Mt.conseq (c_fnd0 _ _ _) ?_
    rintro _ _ _ ⟨rfl, rfl, rfl⟩
    refine ⟨trivial, _, rfl, ?_⟩
    refine Mt.of2 _ rfl (by decide +kernel) (Nat.le_of_ble_eq_true rfl) ?_
    refine GW.run kX4_room (fun _ => false) 53 0 rfl ?_
    refine Mt.conseq (m_isRoom _ _ _ _) ?_
    rintro _ _ _ ⟨rfl, rfl, ⟨g1, rfl⟩ | ⟨g1, rfl⟩⟩
    · -- pc 1 call X4_isRoom true
      exact (out_in h1 g1).elim
    · -- pc 1 call X4_isRoom false
      refine And.intro (fun _ => ?_) (fun hh => absurd hh (by decide))
      refine Mt.conseq (m_fnd0 _ _ _) ?_
      rintro _ _ _ ⟨rfl, rfl, rfl⟩
      exact ⟨trivial, rfl, hS.found (by decide)⟩
  · -- pc 1 call X3_noRoom false
    refine And.intro (fun hh => absurd hh (by decide)) (fun _ => ?_)
    refine Mt.conseq (c_outside _ _ _ _ _ _) ?_
    rintro _ _ _ ⟨rfl, rfl, ⟨h3, rfl⟩ | ⟨h3, rfl⟩⟩
    · -- pc 10 call X3_outside true
      refine And.intro (fun _ => ?_) (fun hh => absurd hh (by decide))
      refine Mt.conseq (c_fnd0 _ _ _) ?_
      rintro _ _ _ ⟨rfl, rfl, rfl⟩
      refine ⟨trivial, _, rfl, ?_⟩
      refine Mt.of2 _ rfl (by decide +kernel) (Nat.le_of_ble_eq_true rfl) ?_
      refine GW.run kX4_room (fun _ => false) 53 0 rfl ?_
      refine Mt.conseq (m_isRoom _ _ _ _) ?_
      rintro _ _ _ ⟨rfl, rfl, ⟨g1, rfl⟩ | ⟨g1, rfl⟩⟩
      · -- pc 1 call X4_isRoom true
        refine And.intro (fun hh => absurd hh (by decide)) (fun _ => ?_)
        refine Mt.conseq (m_toldx _ _ _ hw _ _) ?_
        rintro _ _ _ ⟨rfl, rfl, rfl⟩
        refine And.intro (fun hh => absurd hh (by decide)) (fun _ => ?_)
        refine Mt.conseq (m_fnd0 _ _ _) ?_
        rintro _ _ _ ⟨rfl, rfl, rfl⟩
        exact ⟨trivial, rfl, hS.found (by decide)⟩
      · -- pc 1 call X4_isRoom false
        exact (nout_nin h1 g1).elim
    · -- pc 10 call X3_outside false
      exact absurd hw h3
theorem pr_room (sx : Nat × (Nat → Int32)) (r w v : Int32) : PrI sx MX3_room MX4_room [.int r, .int w, .int v] := by
  by_cases h : outP w 0 3
  · exact pr_roomx sx r w v h
  · obtain ⟨n, hn, rfl⟩ := nout_nI (b := 3) (by decide) h
    obtain rfl | rfl | rfl | rfl : n = 0 ∨ n = 1 ∨ n = 2 ∨ n = 3 := by omega
    · exact pr_room0 sx r v
    · exact pr_room1 sx r v
    · exact pr_room2 sx r v
    · exact pr_room3 sx r v
def pS (c : Nat → Bool) : Nat → Nat
  | 0 => 0
  | q + 1 => pS c q ||| (if c q then 2 ^ q else 0)
theorem pS_bit (c : Nat → Bool) (p : Nat) : ∀ q, (pS c q).testBit p = (decide (p < q) && c p)
  | 0 => by simp [pS]
  | q + 1 => by
    rw [pS, Nat.testBit_or, pS_bit c p q]
    by_cases h : p = q
    · subst h
      split
      · rename_i h1; simp [h1, Nat.testBit_two_pow_self]
      · rename_i h1; simp [h1]
    · split
      · rename_i h1
        rw [Nat.testBit_two_pow_of_ne (Ne.symm h)]
        have : (p < q ↔ p < q + 1) := by omega
        simp [this]
      · have : (p < q ↔ p < q + 1) := by omega
        simp [this]
theorem pS_lt (c : Nat → Bool) : ∀ q, q ≤ 8 → pS c q < 2 ^ q
  | 0, _ => by simp [pS]
  | q + 1, hq => by
    rw [pS]
    have h := pS_lt c q (by omega)
    apply Nat.or_lt_two_pow
    · exact Nat.lt_of_lt_of_le h (Nat.pow_le_pow_right (by decide) (by omega))
    · split
      · exact Nat.pow_lt_pow_right (by decide) (by omega)
      · exact Nat.two_pow_pos _
theorem p256 {P : Nat} (hP8 : P ≤ 8) (c : Nat → Bool) : pS c P < 256 := Nat.lt_of_lt_of_le (pS_lt c P hP8) (Nat.pow_le_pow_right (by decide) hP8)
theorem insP_s {N : Mm} {r : Int32} : ∀ q, q ≤ 8 → insP N r q = nI (pS (fun p => decide (N 6 p = r)) q)
  | 0, _ => rfl
  | q + 1, hq => by
    rw [insP, insP_s q (by omega), pS]
    by_cases e : N 6 q = r
    · rw [if_pos e, if_pos (by simp [e]), shl1 q (by omega), fa_or]
    · rw [if_neg e, if_neg (by simp [e]), Nat.or_zero]
theorem hasbit : ∀ s, s < 256 → ∀ q, q < 8 → (hasP (nI s) (nI q) ↔ s.testBit q = true) := by decide +kernel
theorem has_ins {P : Nat} (hP8 : P ≤ 8) {N : Mm} {r : Int32} {q : Nat} (hq : q < P) : hasP (insP N r P) (nI q) ↔ N 6 q = r := by
  rw [insP_s P hP8, hasbit _ (p256 hP8 _) q (by omega), pS_bit]
  simp [hq]
theorem bri_brI {P : Nat} (hP8 : P ≤ 8) (N : Mm) (r : Int32) : ∀ q, q ≤ P → bri N P (insP N r P) q = brI N P r q
  | 0, _ => rfl
  | q + 1, hq => by
    rw [bri, brI, bri_brI hP8 N r q (by omega)]
    by_cases e : N 6 q = r
    · rw [if_pos ((has_ins hP8 (by omega)).mpr e), if_pos e]
    · rw [if_neg (fun h => e ((has_ins hP8 (by omega)).mp h)), if_neg e]
set_option maxRecDepth 100000 in
set_option maxHeartbeats 4000000 in
theorem pr_roomOf0 (sx : Nat × (Nat → Int32)) (r : Int32) : PrI sx MX3_roomOf MX4_roomOf [.int r, .int 0] := by
  intro I J hS
  obtain ⟨P, hN, ha, hP8, hP1, hP3, hpl⟩ := hS.nt
  have e73 : I 44 3 = I 1 7 := hP3.trans hP1.symm
  refine Mt.of2 _ rfl (by decide +kernel) (Nat.le_of_ble_eq_true rfl) ?_
  refine GW.run kX3_roomOf (fun _ => false) 68 0 rfl ?_
  refine Mt.conseq (c_noRoom _ _ _ _) ?_
  rintro _ _ _ ⟨rfl, rfl, ⟨h1, rfl⟩ | ⟨h1, rfl⟩⟩
  · -- pc 1 call X3_noRoom true
    refine And.intro (fun _ => ?_) (fun hh => absurd hh (by decide))
    refine Mt.conseq (c_fnd0 _ _ _) ?_
    rintro _ _ _ ⟨rfl, rfl, rfl⟩
    refine ⟨trivial, _, rfl, ?_⟩
    refine Mt.of2 _ rfl (by decide +kernel) (Nat.le_of_ble_eq_true rfl) ?_
    refine GW.run kX4_roomOf (fun _ => false) 61 0 rfl ?_
    refine Mt.conseq (m_isRoom _ _ _ _) ?_
    rintro _ _ _ ⟨rfl, rfl, ⟨g1, rfl⟩ | ⟨g1, rfl⟩⟩
    · -- pc 1 call X4_isRoom true
      exact (out_in h1 g1).elim
    · -- pc 1 call X4_isRoom false
      refine And.intro (fun _ => ?_) (fun hh => absurd hh (by decide))
      refine Mt.conseq (m_fnd0 _ _ _) ?_
      rintro _ _ _ ⟨rfl, rfl, rfl⟩
      exact ⟨trivial, rfl, hS.found (by decide)⟩
  · -- pc 1 call X3_noRoom false
    obtain ⟨r', hr, rfl⟩ := nout_nI (b := 7) (by decide) h1
    have hbr : vp_in (nI r') 8 := vp_in_nI (by omega) (by omega)
    have hcr := nI_clamp (n := r') (by omega)
    refine And.intro (fun hh => absurd hh (by decide)) (fun _ => ?_)
    refine Mt.conseq (c_outside _ _ _ _ _ _) ?_
    rintro _ _ _ ⟨rfl, rfl, ⟨h3, rfl⟩ | ⟨h3, rfl⟩⟩
    · -- pc 10 call X3_outside true
      exact absurd h3 (by decide)
    · -- pc 10 call X3_outside false
      refine And.intro (fun _ => ?_) (fun hh => absurd hh (by decide))
      refine And.intro (fun _ => ?_) (fun hh => absurd hh (by decide))
      refine And.intro (fun _ => ?_) (fun hh => absurd hh (by decide))
      refine Mt.conseq (c_ror _ 1 (by decide) 0 (by decide) _ (by decide) _ _) ?_
      rintro _ _ _ ⟨rfl, rfl, rfl⟩
      refine And.intro (hbr) ?_
      refine ⟨trivial, _, rfl, ?_⟩
      refine Mt.of2 _ rfl (by decide +kernel) (Nat.le_of_ble_eq_true rfl) ?_
      refine GW.run kX4_roomOf (fun _ => false) 61 0 rfl ?_
      refine Mt.conseq (m_isRoom _ _ _ _) ?_
      rintro _ _ _ ⟨rfl, rfl, ⟨g1, rfl⟩ | ⟨g1, rfl⟩⟩
      · -- pc 1 call X4_isRoom true
        refine And.intro (fun hh => absurd hh (by decide)) (fun _ => ?_)
        refine Mt.conseq (m_in _ _ _ _ _ _) ?_
        rintro _ _ _ ⟨rfl, rfl, ⟨g2, rfl⟩ | ⟨g2, rfl⟩⟩
        · -- pc 10 call X4_in true
          refine And.intro (fun _ => ?_) (fun hh => absurd hh (by decide))
          refine And.intro (fun _ => ?_) (fun hh => absurd hh (by decide))
          refine And.intro (fun _ => ?_) (fun hh => absurd hh (by decide))
          refine Mt.conseq ((by have h := m_there sx r' 0 (by omega) (by decide) 0 (by decide) (I 44) (I) J; rw [show sR (I 44) (I) = I from sR_self (I)] at h; exact h)) ?_
          rintro _ _ _ ⟨rfl, rfl, rfl⟩
          refine ⟨trivial, ?_, hS⟩
          rw [hcr]
          exact congrArg (fun x => some (Value.int x)) (ha.2.1 1 r' (by decide) (by decide) (by omega))
        · -- pc 10 call X4_in false
          exact (nout_nin h3 g2).elim
      · -- pc 1 call X4_isRoom false
        exact (nout_nin h1 g1).elim
set_option maxRecDepth 100000 in
set_option maxHeartbeats 4000000 in
theorem pr_roomOf1 (sx : Nat × (Nat → Int32)) (r : Int32) : PrI sx MX3_roomOf MX4_roomOf [.int r, .int 1] := by
  intro I J hS
  obtain ⟨P, hN, ha, hP8, hP1, hP3, hpl⟩ := hS.nt
  have e73 : I 44 3 = I 1 7 := hP3.trans hP1.symm
  refine Mt.of2 _ rfl (by decide +kernel) (Nat.le_of_ble_eq_true rfl) ?_
  refine GW.run kX3_roomOf (fun _ => false) 68 0 rfl ?_
  refine Mt.conseq (c_noRoom _ _ _ _) ?_
  rintro _ _ _ ⟨rfl, rfl, ⟨h1, rfl⟩ | ⟨h1, rfl⟩⟩
  · -- pc 1 call X3_noRoom true
    refine And.intro (fun _ => ?_) (fun hh => absurd hh (by decide))
    refine Mt.conseq (c_fnd0 _ _ _) ?_
    rintro _ _ _ ⟨rfl, rfl, rfl⟩
    refine ⟨trivial, _, rfl, ?_⟩
    refine Mt.of2 _ rfl (by decide +kernel) (Nat.le_of_ble_eq_true rfl) ?_
    refine GW.run kX4_roomOf (fun _ => false) 61 0 rfl ?_
    refine Mt.conseq (m_isRoom _ _ _ _) ?_
    rintro _ _ _ ⟨rfl, rfl, ⟨g1, rfl⟩ | ⟨g1, rfl⟩⟩
    · -- pc 1 call X4_isRoom true
      exact (out_in h1 g1).elim
    · -- pc 1 call X4_isRoom false
      refine And.intro (fun _ => ?_) (fun hh => absurd hh (by decide))
      refine Mt.conseq (m_fnd0 _ _ _) ?_
      rintro _ _ _ ⟨rfl, rfl, rfl⟩
      exact ⟨trivial, rfl, hS.found (by decide)⟩
  · -- pc 1 call X3_noRoom false
    obtain ⟨r', hr, rfl⟩ := nout_nI (b := 7) (by decide) h1
    have hbr : vp_in (nI r') 8 := vp_in_nI (by omega) (by omega)
    have hcr := nI_clamp (n := r') (by omega)
    refine And.intro (fun hh => absurd hh (by decide)) (fun _ => ?_)
    refine Mt.conseq (c_outside _ _ _ _ _ _) ?_
    rintro _ _ _ ⟨rfl, rfl, ⟨h3, rfl⟩ | ⟨h3, rfl⟩⟩
    · -- pc 10 call X3_outside true
      exact absurd h3 (by decide)
    · -- pc 10 call X3_outside false
      refine And.intro (fun _ => ?_) (fun hh => absurd hh (by decide))
      refine And.intro (fun _ => ?_) (fun hh => absurd hh (by decide))
      refine And.intro (fun _ => ?_) (fun hh => absurd hh (by decide))
      refine Mt.conseq (c_ror _ 1 (by decide) 1 (by decide) _ (by decide) _ _) ?_
      rintro _ _ _ ⟨rfl, rfl, rfl⟩
      refine And.intro (hbr) ?_
      refine ⟨trivial, _, rfl, ?_⟩
      refine Mt.of2 _ rfl (by decide +kernel) (Nat.le_of_ble_eq_true rfl) ?_
      refine GW.run kX4_roomOf (fun _ => false) 61 0 rfl ?_
      refine Mt.conseq (m_isRoom _ _ _ _) ?_
      rintro _ _ _ ⟨rfl, rfl, ⟨g1, rfl⟩ | ⟨g1, rfl⟩⟩
      · -- pc 1 call X4_isRoom true
        refine And.intro (fun hh => absurd hh (by decide)) (fun _ => ?_)
        refine Mt.conseq (m_in _ _ _ _ _ _) ?_
        rintro _ _ _ ⟨rfl, rfl, ⟨g2, rfl⟩ | ⟨g2, rfl⟩⟩
        · -- pc 10 call X4_in true
          refine And.intro (fun _ => ?_) (fun hh => absurd hh (by decide))
          refine And.intro (fun _ => ?_) (fun hh => absurd hh (by decide))
          refine And.intro (fun _ => ?_) (fun hh => absurd hh (by decide))
          refine Mt.conseq ((by have h := m_there sx r' 1 (by omega) (by decide) 1 (by decide) (I 44) (I) J; rw [show sR (I 44) (I) = I from sR_self (I)] at h; exact h)) ?_
          rintro _ _ _ ⟨rfl, rfl, rfl⟩
          refine ⟨trivial, ?_, hS⟩
          rw [hcr]
          exact congrArg (fun x => some (Value.int x)) (ha.2.1 2 r' (by decide) (by decide) (by omega))
        · -- pc 10 call X4_in false
          exact (nout_nin h3 g2).elim
      · -- pc 1 call X4_isRoom false
        exact (nout_nin h1 g1).elim
set_option maxRecDepth 100000 in
set_option maxHeartbeats 4000000 in
theorem pr_roomOf2 (sx : Nat × (Nat → Int32)) (r : Int32) : PrI sx MX3_roomOf MX4_roomOf [.int r, .int 2] := by
  intro I J hS
  obtain ⟨P, hN, ha, hP8, hP1, hP3, hpl⟩ := hS.nt
  have e73 : I 44 3 = I 1 7 := hP3.trans hP1.symm
  refine Mt.of2 _ rfl (by decide +kernel) (Nat.le_of_ble_eq_true rfl) ?_
  refine GW.run kX3_roomOf (fun _ => false) 68 0 rfl ?_
  refine Mt.conseq (c_noRoom _ _ _ _) ?_
  rintro _ _ _ ⟨rfl, rfl, ⟨h1, rfl⟩ | ⟨h1, rfl⟩⟩
  · -- pc 1 call X3_noRoom true
    refine And.intro (fun _ => ?_) (fun hh => absurd hh (by decide))
    refine Mt.conseq (c_fnd0 _ _ _) ?_
    rintro _ _ _ ⟨rfl, rfl, rfl⟩
    refine ⟨trivial, _, rfl, ?_⟩
    refine Mt.of2 _ rfl (by decide +kernel) (Nat.le_of_ble_eq_true rfl) ?_
    refine GW.run kX4_roomOf (fun _ => false) 61 0 rfl ?_
    refine Mt.conseq (m_isRoom _ _ _ _) ?_
    rintro _ _ _ ⟨rfl, rfl, ⟨g1, rfl⟩ | ⟨g1, rfl⟩⟩
    · -- pc 1 call X4_isRoom true
      exact (out_in h1 g1).elim
    · -- pc 1 call X4_isRoom false
      refine And.intro (fun _ => ?_) (fun hh => absurd hh (by decide))
      refine Mt.conseq (m_fnd0 _ _ _) ?_
      rintro _ _ _ ⟨rfl, rfl, rfl⟩
      exact ⟨trivial, rfl, hS.found (by decide)⟩
  · -- pc 1 call X3_noRoom false
    obtain ⟨r', hr, rfl⟩ := nout_nI (b := 7) (by decide) h1
    have hbr : vp_in (nI r') 8 := vp_in_nI (by omega) (by omega)
    have hcr := nI_clamp (n := r') (by omega)
    refine And.intro (fun hh => absurd hh (by decide)) (fun _ => ?_)
    refine Mt.conseq (c_outside _ _ _ _ _ _) ?_
    rintro _ _ _ ⟨rfl, rfl, ⟨h3, rfl⟩ | ⟨h3, rfl⟩⟩
    · -- pc 10 call X3_outside true
      exact absurd h3 (by decide)
    · -- pc 10 call X3_outside false
      refine And.intro (fun _ => ?_) (fun hh => absurd hh (by decide))
      refine And.intro (fun _ => ?_) (fun hh => absurd hh (by decide))
      refine And.intro (fun _ => ?_) (fun hh => absurd hh (by decide))
      refine Mt.conseq (c_ror _ 1 (by decide) 2 (by decide) _ (by decide) _ _) ?_
      rintro _ _ _ ⟨rfl, rfl, rfl⟩
      refine And.intro (hbr) ?_
      refine ⟨trivial, _, rfl, ?_⟩
      refine Mt.of2 _ rfl (by decide +kernel) (Nat.le_of_ble_eq_true rfl) ?_
      refine GW.run kX4_roomOf (fun _ => false) 61 0 rfl ?_
      refine Mt.conseq (m_isRoom _ _ _ _) ?_
      rintro _ _ _ ⟨rfl, rfl, ⟨g1, rfl⟩ | ⟨g1, rfl⟩⟩
      · -- pc 1 call X4_isRoom true
        refine And.intro (fun hh => absurd hh (by decide)) (fun _ => ?_)
        refine Mt.conseq (m_in _ _ _ _ _ _) ?_
        rintro _ _ _ ⟨rfl, rfl, ⟨g2, rfl⟩ | ⟨g2, rfl⟩⟩
        · -- pc 10 call X4_in true
          refine And.intro (fun _ => ?_) (fun hh => absurd hh (by decide))
          refine And.intro (fun _ => ?_) (fun hh => absurd hh (by decide))
          refine And.intro (fun _ => ?_) (fun hh => absurd hh (by decide))
          refine Mt.conseq ((by have h := m_there sx r' 2 (by omega) (by decide) 2 (by decide) (I 44) (I) J; rw [show sR (I 44) (I) = I from sR_self (I)] at h; exact h)) ?_
          rintro _ _ _ ⟨rfl, rfl, rfl⟩
          refine ⟨trivial, ?_, hS⟩
          rw [hcr]
          exact congrArg (fun x => some (Value.int x)) (ha.2.1 3 r' (by decide) (by decide) (by omega))
        · -- pc 10 call X4_in false
          exact (nout_nin h3 g2).elim
      · -- pc 1 call X4_isRoom false
        exact (nout_nin h1 g1).elim
set_option maxRecDepth 100000 in
set_option maxHeartbeats 4000000 in
theorem pr_roomOf3 (sx : Nat × (Nat → Int32)) (r : Int32) : PrI sx MX3_roomOf MX4_roomOf [.int r, .int 3] := by
  intro I J hS
  obtain ⟨P, hN, ha, hP8, hP1, hP3, hpl⟩ := hS.nt
  have e73 : I 44 3 = I 1 7 := hP3.trans hP1.symm
  refine Mt.of2 _ rfl (by decide +kernel) (Nat.le_of_ble_eq_true rfl) ?_
  refine GW.run kX3_roomOf (fun _ => false) 68 0 rfl ?_
  refine Mt.conseq (c_noRoom _ _ _ _) ?_
  rintro _ _ _ ⟨rfl, rfl, ⟨h1, rfl⟩ | ⟨h1, rfl⟩⟩
  · -- pc 1 call X3_noRoom true
    refine And.intro (fun _ => ?_) (fun hh => absurd hh (by decide))
    refine Mt.conseq (c_fnd0 _ _ _) ?_
    rintro _ _ _ ⟨rfl, rfl, rfl⟩
    refine ⟨trivial, _, rfl, ?_⟩
    refine Mt.of2 _ rfl (by decide +kernel) (Nat.le_of_ble_eq_true rfl) ?_
    refine GW.run kX4_roomOf (fun _ => false) 61 0 rfl ?_
    refine Mt.conseq (m_isRoom _ _ _ _) ?_
    rintro _ _ _ ⟨rfl, rfl, ⟨g1, rfl⟩ | ⟨g1, rfl⟩⟩
    · -- pc 1 call X4_isRoom true
      exact (out_in h1 g1).elim
    · -- pc 1 call X4_isRoom false
      refine And.intro (fun _ => ?_) (fun hh => absurd hh (by decide))
      refine Mt.conseq (m_fnd0 _ _ _) ?_
      rintro _ _ _ ⟨rfl, rfl, rfl⟩
      exact ⟨trivial, rfl, hS.found (by decide)⟩
  · -- pc 1 call X3_noRoom false
    obtain ⟨r', hr, rfl⟩ := nout_nI (b := 7) (by decide) h1
    have hbr : vp_in (nI r') 8 := vp_in_nI (by omega) (by omega)
    have hcr := nI_clamp (n := r') (by omega)
    refine And.intro (fun hh => absurd hh (by decide)) (fun _ => ?_)
    refine Mt.conseq (c_outside _ _ _ _ _ _) ?_
    rintro _ _ _ ⟨rfl, rfl, ⟨h3, rfl⟩ | ⟨h3, rfl⟩⟩
    · -- pc 10 call X3_outside true
      exact absurd h3 (by decide)
    · -- pc 10 call X3_outside false
      refine And.intro (fun _ => ?_) (fun hh => absurd hh (by decide))
      refine And.intro (fun _ => ?_) (fun hh => absurd hh (by decide))
      refine And.intro (fun _ => ?_) (fun hh => absurd hh (by decide))
      refine Mt.conseq (c_ror _ 1 (by decide) 3 (by decide) _ (by decide) _ _) ?_
      rintro _ _ _ ⟨rfl, rfl, rfl⟩
      refine And.intro (hbr) ?_
      refine ⟨trivial, _, rfl, ?_⟩
      refine Mt.of2 _ rfl (by decide +kernel) (Nat.le_of_ble_eq_true rfl) ?_
      refine GW.run kX4_roomOf (fun _ => false) 61 0 rfl ?_
      refine Mt.conseq (m_isRoom _ _ _ _) ?_
      rintro _ _ _ ⟨rfl, rfl, ⟨g1, rfl⟩ | ⟨g1, rfl⟩⟩
      · -- pc 1 call X4_isRoom true
        refine And.intro (fun hh => absurd hh (by decide)) (fun _ => ?_)
        refine Mt.conseq (m_in _ _ _ _ _ _) ?_
        rintro _ _ _ ⟨rfl, rfl, ⟨g2, rfl⟩ | ⟨g2, rfl⟩⟩
        · -- pc 10 call X4_in true
          refine And.intro (fun _ => ?_) (fun hh => absurd hh (by decide))
          refine And.intro (fun _ => ?_) (fun hh => absurd hh (by decide))
          refine And.intro (fun _ => ?_) (fun hh => absurd hh (by decide))
          refine Mt.conseq ((by have h := m_there sx r' 3 (by omega) (by decide) 3 (by decide) (I 44) (I) J; rw [show sR (I 44) (I) = I from sR_self (I)] at h; exact h)) ?_
          rintro _ _ _ ⟨rfl, rfl, rfl⟩
          refine ⟨trivial, ?_, hS⟩
          rw [hcr]
          exact congrArg (fun x => some (Value.int x)) (ha.2.1 4 r' (by decide) (by decide) (by omega))
        · -- pc 10 call X4_in false
          exact (nout_nin h3 g2).elim
      · -- pc 1 call X4_isRoom false
        exact (nout_nin h1 g1).elim
set_option maxRecDepth 100000 in
set_option maxHeartbeats 4000000 in
theorem pr_roomOf4 (sx : Nat × (Nat → Int32)) (r : Int32) : PrI sx MX3_roomOf MX4_roomOf [.int r, .int 4] := by
  intro I J hS
  obtain ⟨P, hN, ha, hP8, hP1, hP3, hpl⟩ := hS.nt
  have e73 : I 44 3 = I 1 7 := hP3.trans hP1.symm
  refine Mt.of2 _ rfl (by decide +kernel) (Nat.le_of_ble_eq_true rfl) ?_
  refine GW.run kX3_roomOf (fun _ => false) 68 0 rfl ?_
  refine Mt.conseq (c_noRoom _ _ _ _) ?_
  rintro _ _ _ ⟨rfl, rfl, ⟨h1, rfl⟩ | ⟨h1, rfl⟩⟩
  · -- pc 1 call X3_noRoom true
    refine And.intro (fun _ => ?_) (fun hh => absurd hh (by decide))
    refine Mt.conseq (c_fnd0 _ _ _) ?_
    rintro _ _ _ ⟨rfl, rfl, rfl⟩
    refine ⟨trivial, _, rfl, ?_⟩
    refine Mt.of2 _ rfl (by decide +kernel) (Nat.le_of_ble_eq_true rfl) ?_
    refine GW.run kX4_roomOf (fun _ => false) 61 0 rfl ?_
    refine Mt.conseq (m_isRoom _ _ _ _) ?_
    rintro _ _ _ ⟨rfl, rfl, ⟨g1, rfl⟩ | ⟨g1, rfl⟩⟩
    · -- pc 1 call X4_isRoom true
      exact (out_in h1 g1).elim
    · -- pc 1 call X4_isRoom false
      refine And.intro (fun _ => ?_) (fun hh => absurd hh (by decide))
      refine Mt.conseq (m_fnd0 _ _ _) ?_
      rintro _ _ _ ⟨rfl, rfl, rfl⟩
      exact ⟨trivial, rfl, hS.found (by decide)⟩
  · -- pc 1 call X3_noRoom false
    obtain ⟨r', hr, rfl⟩ := nout_nI (b := 7) (by decide) h1
    have hbr : vp_in (nI r') 8 := vp_in_nI (by omega) (by omega)
    have hcr := nI_clamp (n := r') (by omega)
    refine And.intro (fun hh => absurd hh (by decide)) (fun _ => ?_)
    refine Mt.conseq (c_outside _ _ _ _ _ _) ?_
    rintro _ _ _ ⟨rfl, rfl, ⟨h3, rfl⟩ | ⟨h3, rfl⟩⟩
    · -- pc 10 call X3_outside true
      exact absurd h3 (by decide)
    · -- pc 10 call X3_outside false
      refine And.intro (fun _ => ?_) (fun hh => absurd hh (by decide))
      refine And.intro (fun hh => absurd hh (by decide)) (fun _ => ?_)
      refine Mt.conseq ((by have h := c_insP sx 1 (Or.inl rfl) (gN 1 I) P hP1 hP8 (nI r') I J; rw [pN_gN] at h; exact h)) ?_
      rintro _ _ _ ⟨rfl, rfl, rfl⟩
      refine ⟨trivial, _, rfl, ?_⟩
      refine Mt.of2 _ rfl (by decide +kernel) (Nat.le_of_ble_eq_true rfl) ?_
      refine GW.run kX4_roomOf (fun _ => false) 61 0 rfl ?_
      refine Mt.conseq (m_isRoom _ _ _ _) ?_
      rintro _ _ _ ⟨rfl, rfl, ⟨g1, rfl⟩ | ⟨g1, rfl⟩⟩
      · -- pc 1 call X4_isRoom true
        refine And.intro (fun hh => absurd hh (by decide)) (fun _ => ?_)
        refine Mt.conseq (m_in _ _ _ _ _ _) ?_
        rintro _ _ _ ⟨rfl, rfl, ⟨g2, rfl⟩ | ⟨g2, rfl⟩⟩
        · -- pc 10 call X4_in true
          refine And.intro (fun _ => ?_) (fun hh => absurd hh (by decide))
          refine And.intro (fun hh => absurd hh (by decide)) (fun _ => ?_)
          refine Mt.conseq ((by have h := m_ins sx (I 44) P hP3 hP8 (nI r') (I) J; rw [show sR (I 44) (I) = I from sR_self (I)] at h; exact h)) ?_
          rintro _ _ _ ⟨rfl, rfl, rfl⟩
          exact ⟨trivial, congrArg (fun x => some (Value.int x)) (insP_c ha _ P (Nat.le_refl _)), hS⟩
        · -- pc 10 call X4_in false
          exact (nout_nin h3 g2).elim
      · -- pc 1 call X4_isRoom false
        exact (nout_nin h1 g1).elim
set_option maxRecDepth 100000 in
set_option maxHeartbeats 4000000 in
theorem pr_roomOf5 (sx : Nat × (Nat → Int32)) (r : Int32) : PrI sx MX3_roomOf MX4_roomOf [.int r, .int 5] := by
  intro I J hS
  obtain ⟨P, hN, ha, hP8, hP1, hP3, hpl⟩ := hS.nt
  have e73 : I 44 3 = I 1 7 := hP3.trans hP1.symm
  refine Mt.of2 _ rfl (by decide +kernel) (Nat.le_of_ble_eq_true rfl) ?_
  refine GW.run kX3_roomOf (fun _ => false) 68 0 rfl ?_
  refine Mt.conseq (c_noRoom _ _ _ _) ?_
  rintro _ _ _ ⟨rfl, rfl, ⟨h1, rfl⟩ | ⟨h1, rfl⟩⟩
  · -- pc 1 call X3_noRoom true
    refine And.intro (fun _ => ?_) (fun hh => absurd hh (by decide))
    refine Mt.conseq (c_fnd0 _ _ _) ?_
    rintro _ _ _ ⟨rfl, rfl, rfl⟩
    refine ⟨trivial, _, rfl, ?_⟩
    refine Mt.of2 _ rfl (by decide +kernel) (Nat.le_of_ble_eq_true rfl) ?_
    refine GW.run kX4_roomOf (fun _ => false) 61 0 rfl ?_
    refine Mt.conseq (m_isRoom _ _ _ _) ?_
    rintro _ _ _ ⟨rfl, rfl, ⟨g1, rfl⟩ | ⟨g1, rfl⟩⟩
    · -- pc 1 call X4_isRoom true
      exact (out_in h1 g1).elim
    · -- pc 1 call X4_isRoom false
      refine And.intro (fun _ => ?_) (fun hh => absurd hh (by decide))
      refine Mt.conseq (m_fnd0 _ _ _) ?_
      rintro _ _ _ ⟨rfl, rfl, rfl⟩
      exact ⟨trivial, rfl, hS.found (by decide)⟩
  · -- pc 1 call X3_noRoom false
    obtain ⟨r', hr, rfl⟩ := nout_nI (b := 7) (by decide) h1
    have hbr : vp_in (nI r') 8 := vp_in_nI (by omega) (by omega)
    have hcr := nI_clamp (n := r') (by omega)
    refine And.intro (fun hh => absurd hh (by decide)) (fun _ => ?_)
    refine Mt.conseq (c_outside _ _ _ _ _ _) ?_
    rintro _ _ _ ⟨rfl, rfl, ⟨h3, rfl⟩ | ⟨h3, rfl⟩⟩
    · -- pc 10 call X3_outside true
      exact absurd h3 (by decide)
    · -- pc 10 call X3_outside false
      refine And.intro (fun _ => ?_) (fun hh => absurd hh (by decide))
      refine And.intro (fun _ => ?_) (fun hh => absurd hh (by decide))
      refine And.intro (fun hh => absurd hh (by decide)) (fun _ => ?_)
      refine Mt.conseq ((by have h := c_insP sx 1 (Or.inl rfl) (gN 1 I) P hP1 hP8 (nI r') I J; rw [pN_gN] at h; exact h)) ?_
      rintro _ _ _ ⟨rfl, rfl, rfl⟩
      refine Mt.conseq ((by have h := c_bri sx 1 (Or.inl rfl) (gN 1 I) P hP1 hP8 (insP (gN 1 I) (nI r') P) I J; rw [pN_gN] at h; exact h)) ?_
      rintro _ _ _ ⟨rfl, rfl, rfl⟩
      refine ⟨trivial, _, rfl, ?_⟩
      refine Mt.of2 _ rfl (by decide +kernel) (Nat.le_of_ble_eq_true rfl) ?_
      refine GW.run kX4_roomOf (fun _ => false) 61 0 rfl ?_
      refine Mt.conseq (m_isRoom _ _ _ _) ?_
      rintro _ _ _ ⟨rfl, rfl, ⟨g1, rfl⟩ | ⟨g1, rfl⟩⟩
      · -- pc 1 call X4_isRoom true
        refine And.intro (fun hh => absurd hh (by decide)) (fun _ => ?_)
        refine Mt.conseq (m_in _ _ _ _ _ _) ?_
        rintro _ _ _ ⟨rfl, rfl, ⟨g2, rfl⟩ | ⟨g2, rfl⟩⟩
        · -- pc 10 call X4_in true
          refine And.intro (fun _ => ?_) (fun hh => absurd hh (by decide))
          refine And.intro (fun _ => ?_) (fun hh => absurd hh (by decide))
          refine And.intro (fun hh => absurd hh (by decide)) (fun _ => ?_)
          refine Mt.conseq ((by have h := m_brI sx (I 44) P hP3 hP8 (nI r') (I) J; rw [show sR (I 44) (I) = I from sR_self (I)] at h; exact h)) ?_
          rintro _ _ _ ⟨rfl, rfl, rfl⟩
          exact ⟨trivial, congrArg (fun x => some (Value.int x)) ((brI_c ha _ P (Nat.le_refl _)).trans (bri_brI hP8 _ _ P (Nat.le_refl _)).symm), hS⟩
        · -- pc 10 call X4_in false
          exact (nout_nin h3 g2).elim
      · -- pc 1 call X4_isRoom false
        exact (nout_nin h1 g1).elim
set_option maxRecDepth 100000 in
set_option maxHeartbeats 4000000 in
theorem pr_roomOfx (sx : Nat × (Nat → Int32)) (r w : Int32) (hw : outP w 0 5) : PrI sx MX3_roomOf MX4_roomOf [.int r, .int w] := by
  intro I J hS
  obtain ⟨P, hN, ha, hP8, hP1, hP3, hpl⟩ := hS.nt
  have e73 : I 44 3 = I 1 7 := hP3.trans hP1.symm
  refine Mt.of2 _ rfl (by decide +kernel) (Nat.le_of_ble_eq_true rfl) ?_
  refine GW.run kX3_roomOf (fun _ => false) 68 0 rfl ?_
  refine Mt.conseq (c_noRoom _ _ _ _) ?_
  rintro _ _ _ ⟨rfl, rfl, ⟨h1, rfl⟩ | ⟨h1, rfl⟩⟩
  · -- pc 1 call X3_noRoom true
    refine And.intro (fun _ => ?_) (fun hh => absurd hh (by decide))
    refine Mt.conseq (c_fnd0 _ _ _) ?_
    rintro _ _ _ ⟨rfl, rfl, rfl⟩
    refine ⟨trivial, _, rfl, ?_⟩
    refine Mt.of2 _ rfl (by decide +kernel) (Nat.le_of_ble_eq_true rfl) ?_
    refine GW.run kX4_roomOf (fun _ => false) 61 0 rfl ?_
    refine Mt.conseq (m_isRoom _ _ _ _) ?_
    rintro _ _ _ ⟨rfl, rfl, ⟨g1, rfl⟩ | ⟨g1, rfl⟩⟩
    · -- pc 1 call X4_isRoom true
      exact (out_in h1 g1).elim
    · -- pc 1 call X4_isRoom false
      refine And.intro (fun _ => ?_) (fun hh => absurd hh (by decide))
      refine Mt.conseq (m_fnd0 _ _ _) ?_
      rintro _ _ _ ⟨rfl, rfl, rfl⟩
      exact ⟨trivial, rfl, hS.found (by decide)⟩
  · -- pc 1 call X3_noRoom false
    refine And.intro (fun hh => absurd hh (by decide)) (fun _ => ?_)
    refine Mt.conseq (c_outside _ _ _ _ _ _) ?_
    rintro _ _ _ ⟨rfl, rfl, ⟨h3, rfl⟩ | ⟨h3, rfl⟩⟩
    · -- pc 10 call X3_outside true
      refine And.intro (fun hh => absurd hh (by decide)) (fun _ => ?_)
      refine Mt.conseq (c_fnd0 _ _ _) ?_
      rintro _ _ _ ⟨rfl, rfl, rfl⟩
      refine ⟨trivial, _, rfl, ?_⟩
      refine Mt.of2 _ rfl (by decide +kernel) (Nat.le_of_ble_eq_true rfl) ?_
      refine GW.run kX4_roomOf (fun _ => false) 61 0 rfl ?_
      refine Mt.conseq (m_isRoom _ _ _ _) ?_
      rintro _ _ _ ⟨rfl, rfl, ⟨g1, rfl⟩ | ⟨g1, rfl⟩⟩
      · -- pc 1 call X4_isRoom true
        refine And.intro (fun hh => absurd hh (by decide)) (fun _ => ?_)
        refine Mt.conseq (m_in _ _ _ _ _ _) ?_
        rintro _ _ _ ⟨rfl, rfl, ⟨g2, rfl⟩ | ⟨g2, rfl⟩⟩
        · -- pc 10 call X4_in true
          exact (out_in h3 g2).elim
        · -- pc 10 call X4_in false
          refine And.intro (fun hh => absurd hh (by decide)) (fun _ => ?_)
          refine Mt.conseq (m_fnd0 _ _ _) ?_
          rintro _ _ _ ⟨rfl, rfl, rfl⟩
          exact ⟨trivial, rfl, hS.found (by decide)⟩
      · -- pc 1 call X4_isRoom false
        exact (nout_nin h1 g1).elim
    · -- pc 10 call X3_outside false
      exact absurd hw h3
theorem pr_roomOf (sx : Nat × (Nat → Int32)) (r w : Int32) : PrI sx MX3_roomOf MX4_roomOf [.int r, .int w] := by
  by_cases h : outP w 0 5
  · exact pr_roomOfx sx r w h
  · obtain ⟨n, hn, rfl⟩ := nout_nI (b := 5) (by decide) h
    obtain rfl | rfl | rfl | rfl | rfl | rfl : n = 0 ∨ n = 1 ∨ n = 2 ∨ n = 3 ∨ n = 4 ∨ n = 5 := by omega
    · exact pr_roomOf0 sx r
    · exact pr_roomOf1 sx r
    · exact pr_roomOf2 sx r
    · exact pr_roomOf3 sx r
    · exact pr_roomOf4 sx r
    · exact pr_roomOf5 sx r
