/-! PAIRS: hours, on -/
theorem sum_eq {P : Nat} {f : Nat → Int32} {N : Mm} (h : Agr P (vN f) N) {w : Nat} (hw : w < 4) : ∀ n, n ≤ 8 → suM f w n = sumI (N (w + 1)) n
  | 0, _ => rfl
  | n + 1, hn => by
    rw [suM, sumI, sum_eq h hw n (by omega)]
    congr 1
    have := h.2.1 (w + 1) n (by omega) (by omega) (by omega)
    rw [← this]
    obtain rfl | rfl | rfl | rfl : w = 0 ∨ w = 1 ∨ w = 2 ∨ w = 3 := by omega
    all_goals rfl
theorem sumI_c {f g : Nat → Int32} : ∀ n, (∀ j, j < n → f j = g j) → sumI f n = sumI g n
  | 0, _ => rfl
  | n + 1, h => by rw [sumI, sumI, sumI_c n (fun j hj => h j (by omega)), h n (by omega)]
theorem hr_hour (P : Nat) (N : Mm) : hrN P N 0 6 = N 0 6 + 1 := by
  unfold hrN
  rw [itB_keep P _ (by decide), preN, na_set_get, if_pos ⟨rfl, rfl⟩, pre3_keep (by decide)]
theorem itH_hour (P : Nat) (N : Mm) : ∀ n, itH P n N 0 6 = N 0 6 + nI n
  | 0 => by show N 0 6 = N 0 6 + 0; rw [Int32.add_zero]
  | n + 1 => by rw [itH, hr_hour, itH_hour P N n, Int32.add_assoc, nI_1]
theorem itH_ok {P : Nat} {N : Mm} (h : NOk P N) {K : Nat} (hK : K ≤ 60) (hh : ¬ 9999 < N 0 6 + nI K) : NOk P (itH P K N) := by
  have hi := itH_inv h.2.2.2.1 h.1 h.2.1 K
  obtain ⟨r1, r2⟩ := h.2.2.2.2.2.2
  refine ⟨hi.1, hi.2, by rw [itH_0 (by decide)]; exact h.2.2.1, h.2.2.2.1, by rw [itH_0 (by decide)]; exact h.2.2.2.2.1, by rw [itH_0 (by decide)]; exact h.2.2.2.2.2.1, ?_⟩
  rw [itH_hour]
  have e : (N 0 6 + nI K).toInt = (N 0 6).toInt + K := by rw [tA (by rw [nI_toInt (by omega)]; omega) (by rw [nI_toInt (by omega)]; omega), nI_toInt (by omega)]
  rw [lt_i, i9999, e] at hh
  exact ⟨by omega, by omega⟩
theorem it_hi {B : Nat} {g : Mm → Nat → Mm} (hg : ∀ N, (∀ a, 10 ≤ a → N a = fun _ => 0) → ∀ r, (∀ a, 10 ≤ a → g N r a = fun _ => 0)) {N : Mm} (h : ∀ a, 10 ≤ a → N a = fun _ => 0) : ∀ n, ∀ a, 10 ≤ a → itN g n N a = fun _ => 0
  | 0 => h
  | n + 1 => hg _ (it_hi (B := B) hg h n) n
theorem hrN_hi (P : Nat) {N : Mm} (h : ∀ a, 10 ≤ a → N a = fun _ => 0) : ∀ a, 10 ≤ a → hrN P N a = fun _ => 0 := fun a ha => by rw [hrN_keep (by omega)]; exact h a ha
theorem itH_hi (P : Nat) {N : Mm} (h : ∀ a, 10 ≤ a → N a = fun _ => 0) : ∀ n, ∀ a, 10 ≤ a → itH P n N a = fun _ => 0
  | 0 => h
  | n + 1 => hrN_hi P (itH_hi P h n)
theorem nout1 {v : Int32} (h : ¬ outP v 1 60) : ∃ K, 1 ≤ K ∧ K ≤ 60 ∧ v = nI K := by
  obtain ⟨h1, h2⟩ := nout_rg (a := 1) (b := 60) (by decide) (by decide) h
  obtain ⟨K, hK, e⟩ := nI_rg (b := 60) (by decide) ⟨by omega, h2⟩
  refine ⟨K, ?_, hK, e⟩
  rw [e, nI_toInt (by omega)] at h1
  omega
set_option maxRecDepth 100000 in
set_option maxHeartbeats 4000000 in
theorem l_mhr (sx : Nat × (Nat → Int32)) (f : Nat → Int32) (P : Nat) (hP : f 3 = nI P) (hP8 : P ≤ 8) (hpl : ∀ p, p < P → vp_in (f (36 + 5 * p + 1)) 8) (K : Nat) (hK : K ≤ 60) (I : Mm) (J : Ml) (Rt : Option Value → Mm → Ml → Prop) (hR : Rt (some (.int (suM (itM P K f) 0 8))) (sR (itM P K f) I) J) : ∀ m n, n + m = K → GW sx (na_mi MX4_hours) Rt 40 [some (.ref 43), some (.int (nI K)), some (.int (nI n))] [] (sR (itM P n f) I) J := by
  intro m
  induction m with
  | zero =>
    intro n hn
    obtain rfl : K = n := by omega
    have hz : nI K ≤ nI K := Int32.le_refl _
    refine GW.run kX4_hours (fun pc => Nat.beq pc 40) 64 23 rfl ?_
    refine And.intro (fun _ => ?_) (fun hh => absurd hz hh)
    refine Mt.conseq (m_su _ (itM P K f) 0 (by decide) 0 rfl _ _) ?_
    rintro _ _ _ ⟨rfl, rfl, rfl⟩
    exact ⟨trivial, hR⟩
  | succ m ih =>
    intro n hn
    have hz : ¬ nI K ≤ nI n := nI_ge (by omega) (by omega)
    have hc := nI_clamp (n := n) (by omega)
    have ih := ih (n + 1) (by omega)
    refine GW.run kX4_hours (fun pc => Nat.beq pc 40) 64 23 rfl ?_
    refine And.intro (fun hh => absurd hh hz) (fun _ => ?_)
    refine Mt.conseq (m_hour _ (itM P n f) P (by rw [itM_3]; exact hP) hP8 (fun p hp => by rw [itM_pl P f hpl p n]; exact hpl p hp) _ _) ?_
    rintro _ _ _ ⟨rfl, rfl, rfl⟩
    exact GW.weak ih ⟨rfl, rfl, by rw [nI_1], trivial⟩
set_option maxRecDepth 100000 in
set_option maxHeartbeats 4000000 in
theorem pr_hours (sx : Nat × (Nat → Int32)) (n : Int32) : PrI sx MX3_hours MX4_hours [.int n] := by
  intro I J hS
  obtain ⟨P, hN, ha, hP8, hP1, hP3, hpl⟩ := hS.nt
  have e73 : I 44 3 = I 1 7 := hP3.trans hP1.symm
  refine Mt.of2 _ rfl (by decide +kernel) (Nat.le_of_ble_eq_true rfl) ?_
  refine GW.run kX3_hours (fun _ => false) 60 0 rfl ?_
  refine Mt.conseq (c_outside _ _ _ _ _ _) ?_
  rintro _ _ _ ⟨rfl, rfl, ⟨h1, rfl⟩ | ⟨h1, rfl⟩⟩
  · -- pc 4 call X3_outside true
    refine And.intro (fun hh => absurd hh (by decide)) (fun _ => ?_)
    refine Mt.conseq (c_fnd0 _ _ _) ?_
    rintro _ _ _ ⟨rfl, rfl, rfl⟩
    refine ⟨trivial, _, rfl, ?_⟩
    refine Mt.of2 _ rfl (by decide +kernel) (Nat.le_of_ble_eq_true rfl) ?_
    refine GW.run kX4_hours (fun pc => Nat.beq pc 40) 64 0 rfl ?_
    refine Mt.conseq (m_in _ _ _ _ _ _) ?_
    rintro _ _ _ ⟨rfl, rfl, ⟨g1, rfl⟩ | ⟨g1, rfl⟩⟩
    · -- pc 4 call X4_in true
      exact (out_in h1 g1).elim
    · -- pc 4 call X4_in false
      refine And.intro (fun hh => absurd hh (by decide)) (fun _ => ?_)
      refine Mt.conseq (m_fnd0 _ _ _) ?_
      rintro _ _ _ ⟨rfl, rfl, rfl⟩
      exact ⟨trivial, rfl, hS.found (by decide)⟩
  · -- pc 4 call X3_outside false
    obtain ⟨K, hK1, hK, rfl⟩ := nout1 h1
    refine And.intro (fun _ => ?_) (fun hh => absurd hh (by decide))
    refine And.intro (fun h3 => ?_) (fun h3 => ?_)
    · -- pc 29 .if_icmp .le 10: yes
      refine Mt.conseq ((by have h := c_ph sx 1 (Or.inl rfl) (gN 1 I) P hP1 hP8 hN.2.1.pl K hK I J; rw [pN_gN] at h; exact h)) ?_
      rintro _ _ _ ⟨rfl, rfl, rfl⟩
      refine Mt.conseq (c_sum_2 _ 8 (by decide) _ _) ?_
      rintro _ _ _ ⟨rfl, rfl, rfl⟩
      refine ⟨trivial, _, rfl, ?_⟩
      refine Mt.of2 _ rfl (by decide +kernel) (Nat.le_of_ble_eq_true rfl) ?_
      refine GW.run kX4_hours (fun pc => Nat.beq pc 40) 64 0 rfl ?_
      refine Mt.conseq (m_in _ _ _ _ _ _) ?_
      rintro _ _ _ ⟨rfl, rfl, ⟨g1, rfl⟩ | ⟨g1, rfl⟩⟩
      · -- pc 4 call X4_in true
        refine And.intro (fun _ => ?_) (fun hh => absurd hh (by decide))
        refine And.intro (by unfold vp_in; decide) ?_
        refine And.intro (fun g2 => ?_) (fun g2 => ?_)
        · -- pc 28 .if_icmp .le 10: yes
          refine GW.eqI (sR_self (pN 1 (itH P K (gN 1 I)) I)).symm ?_
          refine l_mhr sx (I 44) P hP3 hP8 hpl K hK (pN 1 (itH P K (gN 1 I)) I) J _ ?_ K 0 (by omega)
          have hag := itM_ag hP8 ha hN.1 hN.2.1 K
          refine ⟨?_, hS.night (itH_ok hN hK (fun q => absurd h3 (Int32.not_le.mpr q))) hag (itH_hi P (fun a ha => gN_hi ha) K)⟩
          rw [sum_eq hag (w := 0) (by decide) 8 (by decide)]
          rfl
        · -- pc 28 .if_icmp .le 10: no
          exact absurd (show I 44 0 + nI K ≤ 9999 by rw [show I 44 0 = I 1 6 from ha.1 6 (by decide) (by decide)]; exact h3) g2
      · -- pc 4 call X4_in false
        exact (nout_nin h1 g1).elim
    · -- pc 29 .if_icmp .le 10: no
      refine Mt.conseq (c_fnd4 _ _ _) ?_
      rintro _ _ _ ⟨rfl, rfl, rfl⟩
      refine ⟨trivial, _, rfl, ?_⟩
      refine Mt.of2 _ rfl (by decide +kernel) (Nat.le_of_ble_eq_true rfl) ?_
      refine GW.run kX4_hours (fun pc => Nat.beq pc 40) 64 0 rfl ?_
      refine Mt.conseq (m_in _ _ _ _ _ _) ?_
      rintro _ _ _ ⟨rfl, rfl, ⟨g1, rfl⟩ | ⟨g1, rfl⟩⟩
      · -- pc 4 call X4_in true
        refine And.intro (fun _ => ?_) (fun hh => absurd hh (by decide))
        refine And.intro (by unfold vp_in; decide) ?_
        refine And.intro (fun g2 => ?_) (fun g2 => ?_)
        · -- pc 28 .if_icmp .le 10: yes
          exact absurd (show I 1 6 + nI K ≤ 9999 by rw [← show I 44 0 = I 1 6 from ha.1 6 (by decide) (by decide)]; exact g2) h3
        · -- pc 28 .if_icmp .le 10: no
          refine Mt.conseq (m_fnd4 _ _ _) ?_
          rintro _ _ _ ⟨rfl, rfl, rfl⟩
          exact ⟨trivial, rfl, hS.found (by decide)⟩
      · -- pc 4 call X4_in false
        exact (nout_nin h1 g1).elim
