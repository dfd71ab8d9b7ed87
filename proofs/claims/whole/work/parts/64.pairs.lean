/-! PAIRS: tear, image, undo, turn, one -/
theorem Sim.torn {I : Mm} {J : Ml} (h : Sim I J) {v w : Int32} (hv : v = 0) (hw : w = 0) : Sim (na_set (na_set I 0 3 v) 43 17 w) J := by
  subst hv hw
  have off : ∀ a j, ¬ (a = 0 ∧ j = 3) → ¬ (a = 43 ∧ j = 17) → na_set (na_set I 0 3 0) 43 17 0 a j = I a j := fun a j h1 h2 => by rw [na_set_get, if_neg h2, na_set_get, if_neg h1]
  have offa : ∀ a, a ≠ 0 → a ≠ 43 → na_set (na_set I 0 3 0) 43 17 0 a = I a := fun a h1 h2 => by rw [na_set_off h2, na_set_off h1]
  obtain ⟨h1, -, ⟨L, t1, t2, t3, t4⟩, h4, h5⟩ := h
  refine ⟨h1.eq (fun a q1 q2 => offa a (by omega) (by omega)) (offa 44 (by decide) (by decide)), ⟨rfl, Or.inl rfl⟩, ⟨L, t1, ?_, ?_, ?_⟩, fun s hs => ?_, fun k hk => ?_⟩
  · rw [offa 31 (by decide) (by decide)]; exact t2
  · rw [off 43 4 (by omega) (by omega)]; exact t3
  · rw [offa 32 (by decide) (by decide), offa 47 (by decide) (by decide)]; exact t4
  · unfold Sh
    rw [offa (34 + 2 * s) (by omega) (by omega), offa 48 (by decide) (by decide), offa 49 (by decide) (by decide)]
    exact h4 s hs
  · rw [offa 42 (by decide) (by decide), offa 45 (by decide) (by decide)]; exact h5 k hk
theorem Sim.kp {I : Mm} {J : Ml} (h : Sim I J) : I 0 3 = I 43 17 ∧ (I 0 3 = 0 ∨ I 0 3 = 1) := ⟨h.2.1.1, h.2.1.2.elim Or.inl (fun q => Or.inr q.1)⟩
set_option maxRecDepth 100000 in
set_option maxHeartbeats 4000000 in
theorem pr_tear (sx : Nat × (Nat → Int32)) : PrI sx MX3_tear MX4_tear [] := by
  intro I J hS
  refine Mt.of2 _ rfl (by decide +kernel) (Nat.le_of_ble_eq_true rfl) ?_
  refine GW.run kX3_tear (fun _ => false) 42 0 rfl ?_
  refine And.intro (fun h1 => ?_) (fun h1 => ?_)
  · -- pc 4 .ifCond .eq 7: yes
    refine And.intro (by first | exact Or.inl rfl | exact Or.inr rfl) ?_
    refine ⟨trivial, _, rfl, ?_⟩
    refine Mt.of2 _ rfl (by decide +kernel) (Nat.le_of_ble_eq_true rfl) ?_
    refine GW.run kX4_tear (fun _ => false) 42 0 rfl ?_
    refine And.intro (fun g1 => ?_) (fun g1 => ?_)
    · -- pc 4 .ifCond .eq 7: yes
      refine And.intro (by first | exact Or.inl rfl | exact Or.inr rfl) ?_
      exact ⟨trivial, rfl, hS.torn rfl rfl⟩
    · -- pc 4 .ifCond .eq 7: no
      refine And.intro (by first | exact Or.inl rfl | exact Or.inr rfl) ?_
      exact absurd (hS.kp.1.symm.trans h1) g1
  · -- pc 4 .ifCond .eq 7: no
    refine And.intro (by first | exact Or.inl rfl | exact Or.inr rfl) ?_
    refine ⟨trivial, _, rfl, ?_⟩
    refine Mt.of2 _ rfl (by decide +kernel) (Nat.le_of_ble_eq_true rfl) ?_
    refine GW.run kX4_tear (fun _ => false) 42 0 rfl ?_
    refine And.intro (fun g1 => ?_) (fun g1 => ?_)
    · -- pc 4 .ifCond .eq 7: yes
      refine And.intro (by first | exact Or.inl rfl | exact Or.inr rfl) ?_
      exact absurd (hS.kp.1.trans g1) h1
    · -- pc 4 .ifCond .eq 7: no
      refine And.intro (by first | exact Or.inl rfl | exact Or.inr rfl) ?_
      exact ⟨trivial, rfl, hS.torn rfl rfl⟩
theorem NOk.set5 {P : Nat} {N : Mm} (h : NOk P N) {j : Nat} {v : Int32} (hv : rg 0 5 v) : NOk P (na_set N 5 j v) := by
  refine ⟨h.1.off (Or.inr (by decide)), fun p hp => ?_, h.2.2.1, h.2.2.2.1, h.2.2.2.2.1, h.2.2.2.2.2.1, h.2.2.2.2.2.2⟩
  obtain ⟨h1, h2⟩ := h.2.1 p hp
  refine ⟨?_, h2⟩
  rw [na_set_get]
  split
  · exact hv
  · exact h1
theorem nout_rg {v A B : Int32} {a b : Int} (hA : A.toInt = a) (hB : B.toInt = b) (h : ¬ outP v A B) : rg a b v := by
  have h1 : ¬ v < A := fun q => h (Or.inl q)
  have h2 : ¬ B < v := fun q => h (Or.inr q)
  rw [lt_i] at h1 h2
  exact ⟨by omega, by omega⟩
set_option maxRecDepth 100000 in
set_option maxHeartbeats 4000000 in
theorem pr_turn (sx : Nat × (Nat → Int32)) (one kd : Int32) : PrI sx MX3_turn MX4_turn [.int one, .int kd] := by
  intro I J hS
  obtain ⟨P, hN, ha, hP8, hP1, hP3, hpl⟩ := hS.nt
  have e73 : I 44 3 = I 1 7 := hP3.trans hP1.symm
  refine Mt.of2 _ rfl (by decide +kernel) (Nat.le_of_ble_eq_true rfl) ?_
  refine GW.run kX3_turn (fun _ => false) 48 0 rfl ?_
  refine Mt.conseq (c_nobody _ _ _ _) ?_
  rintro _ _ _ ⟨rfl, rfl, ⟨h1, rfl⟩ | ⟨h1, rfl⟩⟩
  · -- pc 2 call X3_nobody true
    refine And.intro (fun _ => ?_) (fun hh => absurd hh (by decide))
    refine Mt.conseq (c_fnd0 _ _ _) ?_
    rintro _ _ _ ⟨rfl, rfl, rfl⟩
    refine ⟨trivial, _, rfl, ?_⟩
    refine Mt.of2 _ rfl (by decide +kernel) (Nat.le_of_ble_eq_true rfl) ?_
    refine GW.run kX4_turn (fun _ => false) 53 0 rfl ?_
    refine Mt.conseq ((by have h := m_isOne sx one (I 44) (fnd I 0) J; rw [show sR (I 44) (fnd I 0) = fnd I 0 from sR_self (fnd I 0), e73] at h; exact h)) ?_
    rintro _ _ _ ⟨rfl, rfl, ⟨g1, rfl⟩ | ⟨g1, rfl⟩⟩
    · -- pc 2 call X4_isOne true
      exact (out_in h1 g1).elim
    · -- pc 2 call X4_isOne false
      refine And.intro (fun _ => ?_) (fun hh => absurd hh (by decide))
      refine Mt.conseq (m_fnd0 _ _ _) ?_
      rintro _ _ _ ⟨rfl, rfl, rfl⟩
      exact ⟨trivial, rfl, hS.found (by decide)⟩
  · -- pc 2 call X3_nobody false
    obtain ⟨p, hp, rfl⟩ := nbd hP1 hP8 h1
    have hbp : vp_in (nI p) 8 := vp_in_nI (by omega) (by omega)
    have hcp := nI_clamp (n := p) (by omega)
    refine And.intro (fun hh => absurd hh (by decide)) (fun _ => ?_)
    refine Mt.conseq (c_noKind _ _ _ _) ?_
    rintro _ _ _ ⟨rfl, rfl, ⟨h3, rfl⟩ | ⟨h3, rfl⟩⟩
    · -- pc 9 call X3_noKind true
      refine And.intro (fun hh => absurd hh (by decide)) (fun _ => ?_)
      refine Mt.conseq (c_fnd0 _ _ _) ?_
      rintro _ _ _ ⟨rfl, rfl, rfl⟩
      refine ⟨trivial, _, rfl, ?_⟩
      refine Mt.of2 _ rfl (by decide +kernel) (Nat.le_of_ble_eq_true rfl) ?_
      refine GW.run kX4_turn (fun _ => false) 53 0 rfl ?_
      refine Mt.conseq ((by have h := m_isOne sx (nI p) (I 44) (fnd I 0) J; rw [show sR (I 44) (fnd I 0) = fnd I 0 from sR_self (fnd I 0), e73] at h; exact h)) ?_
      rintro _ _ _ ⟨rfl, rfl, ⟨g1, rfl⟩ | ⟨g1, rfl⟩⟩
      · -- pc 2 call X4_isOne true
        refine And.intro (fun hh => absurd hh (by decide)) (fun _ => ?_)
        refine Mt.conseq (m_isKind _ _ _ _) ?_
        rintro _ _ _ ⟨rfl, rfl, ⟨g2, rfl⟩ | ⟨g2, rfl⟩⟩
        · -- pc 9 call X4_isKind true
          exact (out_in h3 g2).elim
        · -- pc 9 call X4_isKind false
          refine And.intro (fun hh => absurd hh (by decide)) (fun _ => ?_)
          refine Mt.conseq (m_fnd0 _ _ _) ?_
          rintro _ _ _ ⟨rfl, rfl, rfl⟩
          exact ⟨trivial, rfl, hS.found (by decide)⟩
      · -- pc 2 call X4_isOne false
        exact (nout_nin h1 g1).elim
    · -- pc 9 call X3_noKind false
      refine And.intro (fun _ => ?_) (fun hh => absurd hh (by decide))
      refine Mt.conseq (c_xch_6 _ (nI p) _ hbp _ _) ?_
      rintro _ _ _ ⟨rfl, rfl, rfl⟩
      refine ⟨trivial, _, rfl, ?_⟩
      refine Mt.of2 _ rfl (by decide +kernel) (Nat.le_of_ble_eq_true rfl) ?_
      refine GW.run kX4_turn (fun _ => false) 53 0 rfl ?_
      refine Mt.conseq ((by have h := m_isOne sx (nI p) (I 44) (na_set I 6 (nI p).toNatClampNeg kd) J; rw [show sR (I 44) (na_set I 6 (nI p).toNatClampNeg kd) = na_set I 6 (nI p).toNatClampNeg kd from sR_self (na_set I 6 (nI p).toNatClampNeg kd), e73] at h; exact h)) ?_
      rintro _ _ _ ⟨rfl, rfl, ⟨g1, rfl⟩ | ⟨g1, rfl⟩⟩
      · -- pc 2 call X4_isOne true
        refine And.intro (fun hh => absurd hh (by decide)) (fun _ => ?_)
        refine Mt.conseq (m_isKind _ _ _ _) ?_
        rintro _ _ _ ⟨rfl, rfl, ⟨g2, rfl⟩ | ⟨g2, rfl⟩⟩
        · -- pc 9 call X4_isKind true
          refine And.intro (fun _ => ?_) (fun hh => absurd hh (by decide))
          refine Mt.conseq ((by have h := m_its sx p 0 (by omega) (by decide) 0 (by decide) (I 44) (na_set I 6 (nI p).toNatClampNeg kd) J; rw [show sR (I 44) (na_set I 6 (nI p).toNatClampNeg kd) = na_set I 6 (nI p).toNatClampNeg kd from sR_self (na_set I 6 (nI p).toNatClampNeg kd)] at h; exact h)) ?_
          rintro _ _ _ ⟨rfl, rfl, rfl⟩
          refine Mt.conseq ((by have h := m_puts sx kd p 0 (by omega) (by decide) 0 (by decide) (I 44) (na_set I 6 (nI p).toNatClampNeg kd) J; rw [show sR (I 44) (na_set I 6 (nI p).toNatClampNeg kd) = na_set I 6 (nI p).toNatClampNeg kd from sR_self (na_set I 6 (nI p).toNatClampNeg kd)] at h; exact h)) ?_
          rintro _ _ _ ⟨rfl, rfl, rfl⟩
          refine ⟨trivial, ?_, ?_⟩
          · rw [hcp]; exact congrArg (fun x => some (Value.int x)) (ha.2.2 5 p (by decide) (by decide) hp)
          · rw [hcp, nt_set (k := 5) (by decide) rfl]
            exact hS.night (hN.set5 (nout_rg (by decide) (by decide) h3)) (agP hP8 ha (w := 0) (by decide) _) (set_hi (by decide) fun a ha => gN_hi ha)
        · -- pc 9 call X4_isKind false
          exact (nout_nin h3 g2).elim
      · -- pc 2 call X4_isOne false
        exact (nout_nin h1 g1).elim
theorem adN_ok {P : Nat} {N : Mm} (h : NOk P N) (hP7 : P < 8) {kd rm nd : Int32} (hk : rg 0 5 kd) (hr : rg 0 7 rm) (hn : rg 1 20 nd) : NOk (P + 1) (adN N P kd rm nd) := by
  unfold adN
  refine ⟨(((((h.1.off (Or.inr (by decide))).off (Or.inr (by decide))).off (Or.inr (by decide))).off (Or.inr (by decide))).off (Or.inr (by decide))).off (Or.inl rfl), fun p hp => ?_, by rw [na_set_get, if_pos ⟨rfl, rfl⟩], by omega, ?_, ?_, ?_⟩
  · simp only [na_set_get]
    by_cases e : p = P
    · subst e
      simp
      exact ⟨hk, hr, hn, ⟨by decide, by decide⟩⟩
    · simp [e]
      exact h.2.1 p (by omega)
  · simp only [na_set_get]; simp; exact h.2.2.2.2.1
  · simp only [na_set_get]; simp; exact h.2.2.2.2.2.1
  · simp only [na_set_get]; simp; exact h.2.2.2.2.2.2
theorem Agr.more {P : Nat} {f : Nat → Int32} {N : Mm} (hP7 : P < 8) (hP3 : f 3 = nI P) (ha : Agr P (vN f) N) (kd rm nd : Int32) : Agr (P + 1) (vN (adM f P kd rm nd)) (adN N P kd rm nd) := by
  have h : Agr P (vN (adM f P kd rm nd)) (adN N P kd rm nd) := by
    unfold adM adN
    rw [hP3, nI_1]
    exact agS (agP (by omega) (agP (by omega) (agP (by omega) (agP (by omega) (agP (by omega) ha (w := 0) (by decide) _) (w := 1) (by decide) _) (w := 2) (by decide) _) (w := 3) (by decide) _) (w := 4) (by decide) _) (w := 3) (by decide) _
  refine ⟨h.1, h.2.1, fun k j h1 h2 h3 => ?_⟩
  by_cases e : j < P
  · exact h.2.2 k j h1 h2 e
  · obtain rfl : j = P := by omega
    obtain rfl | rfl | rfl | rfl | rfl : k = 5 ∨ k = 6 ∨ k = 7 ∨ k = 8 ∨ k = 9 := by omega
    all_goals
      simp only [adM, adN, vN, na_set_get, upd]
      simp
      try omega
theorem adN_hi {N : Mm} {P : Nat} {kd rm nd : Int32} (h : ∀ a, 10 ≤ a → N a = fun _ => 0) : ∀ a, 10 ≤ a → adN N P kd rm nd a = fun _ => 0 := set_hi (by decide) (set_hi (by decide) (set_hi (by decide) (set_hi (by decide) (set_hi (by decide) (set_hi (by decide) h)))))
theorem full8 {x y : Int32} {P : Nat} (hx : x = nI P) (hy : y = nI P) (hP8 : P ≤ 8) (h : 8 ≤ y) : x = 8 := by
  rw [hx]
  rw [hy, le_i, nI_toInt (by omega)] at h
  have e : (8 : Int32).toInt = 8 := by decide
  obtain rfl : P = 8 := by omega
  rfl
theorem full8b {x y : Int32} {P : Nat} (hx : x = nI P) (hy : y = nI P) (hP8 : P ≤ 8) (h : x = 8) : 8 ≤ y := by
  rw [hy, ← hx, h]
  exact Int32.le_refl _
theorem nfull {y : Int32} {P : Nat} (hy : y = nI P) (hP8 : P ≤ 8) (h : ¬ 8 ≤ y) : P < 8 := by
  rcases Nat.lt_or_ge P 8 with q | q
  · exact q
  · exfalso
    obtain rfl : P = 8 := by omega
    exact h (by rw [hy]; exact Int32.le_refl _)
set_option maxRecDepth 100000 in
set_option maxHeartbeats 4000000 in
theorem pr_one (sx : Nat × (Nat → Int32)) (kd rm : Int32) : PrI sx MX3_one MX4_one [.int kd, .int rm] := by
  intro I J hS
  obtain ⟨P, hN, ha, hP8, hP1, hP3, hpl⟩ := hS.nt
  have e73 : I 44 3 = I 1 7 := hP3.trans hP1.symm
  refine Mt.of2 _ rfl (by decide +kernel) (Nat.le_of_ble_eq_true rfl) ?_
  refine GW.run kX3_one (fun _ => false) 55 0 rfl ?_
  refine Mt.conseq (c_noKind _ _ _ _) ?_
  rintro _ _ _ ⟨rfl, rfl, ⟨h1, rfl⟩ | ⟨h1, rfl⟩⟩
  · -- pc 1 call X3_noKind true
    refine And.intro (fun _ => ?_) (fun hh => absurd hh (by decide))
    refine Mt.conseq (c_fnd0 _ _ _) ?_
    rintro _ _ _ ⟨rfl, rfl, rfl⟩
    refine ⟨trivial, _, rfl, ?_⟩
    refine Mt.of2 _ rfl (by decide +kernel) (Nat.le_of_ble_eq_true rfl) ?_
    refine GW.run kX4_one (fun _ => false) 62 0 rfl ?_
    refine Mt.conseq (m_isKind _ _ _ _) ?_
    rintro _ _ _ ⟨rfl, rfl, ⟨g1, rfl⟩ | ⟨g1, rfl⟩⟩
    · -- pc 1 call X4_isKind true
      exact (out_in h1 g1).elim
    · -- pc 1 call X4_isKind false
      refine And.intro (fun _ => ?_) (fun hh => absurd hh (by decide))
      refine Mt.conseq (m_fnd0 _ _ _) ?_
      rintro _ _ _ ⟨rfl, rfl, rfl⟩
      exact ⟨trivial, rfl, hS.found (by decide)⟩
  · -- pc 1 call X3_noKind false
    refine And.intro (fun hh => absurd hh (by decide)) (fun _ => ?_)
    refine Mt.conseq (c_noRoom _ _ _ _) ?_
    rintro _ _ _ ⟨rfl, rfl, ⟨h3, rfl⟩ | ⟨h3, rfl⟩⟩
    · -- pc 8 call X3_noRoom true
      refine And.intro (fun hh => absurd hh (by decide)) (fun _ => ?_)
      refine Mt.conseq (c_fnd0 _ _ _) ?_
      rintro _ _ _ ⟨rfl, rfl, rfl⟩
      refine ⟨trivial, _, rfl, ?_⟩
      refine Mt.of2 _ rfl (by decide +kernel) (Nat.le_of_ble_eq_true rfl) ?_
      refine GW.run kX4_one (fun _ => false) 62 0 rfl ?_
      refine Mt.conseq (m_isKind _ _ _ _) ?_
      rintro _ _ _ ⟨rfl, rfl, ⟨g1, rfl⟩ | ⟨g1, rfl⟩⟩
      · -- pc 1 call X4_isKind true
        refine And.intro (fun hh => absurd hh (by decide)) (fun _ => ?_)
        refine Mt.conseq (m_isRoom _ _ _ _) ?_
        rintro _ _ _ ⟨rfl, rfl, ⟨g2, rfl⟩ | ⟨g2, rfl⟩⟩
        · -- pc 8 call X4_isRoom true
          exact (out_in h3 g2).elim
        · -- pc 8 call X4_isRoom false
          refine And.intro (fun hh => absurd hh (by decide)) (fun _ => ?_)
          refine Mt.conseq (m_fnd0 _ _ _) ?_
          rintro _ _ _ ⟨rfl, rfl, rfl⟩
          exact ⟨trivial, rfl, hS.found (by decide)⟩
      · -- pc 1 call X4_isKind false
        exact (nout_nin h1 g1).elim
    · -- pc 8 call X3_noRoom false
      refine And.intro (fun _ => ?_) (fun hh => absurd hh (by decide))
      refine Mt.conseq ((by have h := c_full sx 1 (Or.inl rfl) (gN 1 I) I J; rw [pN_gN] at h; exact h)) ?_
      rintro _ _ _ ⟨rfl, rfl, ⟨h5, rfl⟩ | ⟨h5, rfl⟩⟩
      · -- pc 25 call X0_isFull true
        refine And.intro (fun hh => absurd hh (by decide)) (fun _ => ?_)
        refine Mt.conseq (c_fnd1 _ _ _) ?_
        rintro _ _ _ ⟨rfl, rfl, rfl⟩
        refine ⟨trivial, _, rfl, ?_⟩
        refine Mt.of2 _ rfl (by decide +kernel) (Nat.le_of_ble_eq_true rfl) ?_
        refine GW.run kX4_one (fun _ => false) 62 0 rfl ?_
        refine Mt.conseq (m_isKind _ _ _ _) ?_
        rintro _ _ _ ⟨rfl, rfl, ⟨g1, rfl⟩ | ⟨g1, rfl⟩⟩
        · -- pc 1 call X4_isKind true
          refine And.intro (fun hh => absurd hh (by decide)) (fun _ => ?_)
          refine Mt.conseq (m_isRoom _ _ _ _) ?_
          rintro _ _ _ ⟨rfl, rfl, ⟨g2, rfl⟩ | ⟨g2, rfl⟩⟩
          · -- pc 8 call X4_isRoom true
            refine And.intro (fun _ => ?_) (fun hh => absurd hh (by decide))
            refine And.intro (by unfold vp_in; decide) ?_
            refine And.intro (fun g3 => ?_) (fun g3 => ?_)
            · -- pc 29 .if_icmp .ne 10: yes
              exact absurd (full8 hP3 hP1 hP8 h5) g3
            · -- pc 29 .if_icmp .ne 10: no
              refine Mt.conseq (m_fnd1 _ _ _) ?_
              rintro _ _ _ ⟨rfl, rfl, rfl⟩
              exact ⟨trivial, rfl, hS.found (by decide)⟩
          · -- pc 8 call X4_isRoom false
            exact (nout_nin h3 g2).elim
        · -- pc 1 call X4_isKind false
          exact (nout_nin h1 g1).elim
      · -- pc 25 call X0_isFull false
        have hP7 := nfull hP1 hP8 h5
        refine And.intro (fun _ => ?_) (fun hh => absurd hh (by decide))
        refine Mt.conseq ((by have h := c_add sx 1 (Or.inl rfl) kd rm 3 (gN 1 I) P hP1 hP7 I J; rw [pN_gN] at h; exact h)) ?_
        rintro _ _ _ ⟨rfl, rfl, rfl⟩
        refine ⟨trivial, _, rfl, ?_⟩
        refine Mt.of2 _ rfl (by decide +kernel) (Nat.le_of_ble_eq_true rfl) ?_
        refine GW.run kX4_one (fun _ => false) 62 0 rfl ?_
        refine Mt.conseq (m_isKind _ _ _ _) ?_
        rintro _ _ _ ⟨rfl, rfl, ⟨g1, rfl⟩ | ⟨g1, rfl⟩⟩
        · -- pc 1 call X4_isKind true
          refine And.intro (fun hh => absurd hh (by decide)) (fun _ => ?_)
          refine Mt.conseq (m_isRoom _ _ _ _) ?_
          rintro _ _ _ ⟨rfl, rfl, ⟨g2, rfl⟩ | ⟨g2, rfl⟩⟩
          · -- pc 8 call X4_isRoom true
            refine And.intro (fun _ => ?_) (fun hh => absurd hh (by decide))
            refine And.intro (by unfold vp_in; decide) ?_
            refine And.intro (fun g3 => ?_) (fun g3 => ?_)
            · -- pc 29 .if_icmp .ne 10: yes
              refine Mt.conseq ((by have h := m_ad sx kd rm 3 (I 44) P hP3 hP7 (pN 1 (adN (gN 1 I) P kd rm 3) I) J; rw [show sR (I 44) (pN 1 (adN (gN 1 I) P kd rm 3) I) = pN 1 (adN (gN 1 I) P kd rm 3) I from sR_self (pN 1 (adN (gN 1 I) P kd rm 3) I)] at h; exact h)) ?_
              rintro _ _ _ ⟨rfl, rfl, rfl⟩
              refine And.intro (by unfold vp_in; decide) ?_
              refine ⟨trivial, ?_, ?_⟩
              · show some (Value.int (adM (I 44) P kd rm 3 3 - 1)) = _
                rw [adM]
                show some (Value.int (I 44 3 + 1 - 1)) = _
                rw [hP3, nI_1, nI_pred]
              · exact hS.night (adN_ok hN hP7 (nout_rg (by decide) (by decide) h1) (nout_rg (by decide) (by decide) h3) ⟨by decide, by decide⟩) (Agr.more hP7 hP3 ha _ _ _) (adN_hi fun a ha => gN_hi ha)
            · -- pc 29 .if_icmp .ne 10: no
              exact absurd (full8b hP3 hP1 hP8 g3) h5
          · -- pc 8 call X4_isRoom false
            exact (nout_nin h3 g2).elim
        · -- pc 1 call X4_isKind false
          exact (nout_nin h1 g1).elim
