/-! PAIRS: costs -/
theorem pN_p2 {nb : Nat} {A B I : Mm} : pN nb A (pN nb B I) = pN nb A I := by
  funext a
  by_cases h : nb ≤ a ∧ a ≤ nb + 9
  · rw [pN_in h, pN_in h]
  · rw [pN_out h, pN_out h, pN_out h]
theorem c_sah2 (sx : Nat × (Nat → Int32)) (P : Nat) (hP8 : P ≤ 8) (I : Mm) (hP : I 1 7 = nI P) (X : Mm) (J : Ml) : Mt sx MX3_startAhead [.ref 0] (pN 21 X I) J (fun r I' J' => (∃ M, pN 21 M I = I' ∧ Agr P M (gN 1 I)) ∧ J = J' ∧ r = some (.ref 21)) :=
  Mt.conseq (c_sah sx P hP8 (pN 21 X I) (by rw [pN_out (by omega)]; exact hP) J) (by
    rintro _ _ _ ⟨⟨M, rfl, h⟩, rfl, rfl⟩
    refine ⟨⟨M, pN_p2.symm, ?_⟩, rfl, rfl⟩
    rw [gN_eq (I := I) fun a h1 h2 => pN_out (by omega)] at h
    exact h)
theorem m_kp1 (sx : Nat × (Nat → Int32)) (f : Nat → Int32) (I : Mm) (J : Ml) : Mt sx MX4_moveAll [.ref 43, .int 1, .ref 46] (sR f I) J (fun r' I' J' => (∃ t, sR f (sA 46 t I) = I' ∧ E76 t f) ∧ J = J' ∧ r' = none) :=
  Mt.conseq (m_kp46 sx f I J) (by
    rintro _ _ _ ⟨rfl, rfl, rfl⟩
    exact ⟨⟨_, rfl, mv_E _ _⟩, rfl, rfl⟩)
theorem m_rs1 (sx : Nat × (Nat → Int32)) (f t f0 : Nat → Int32) (ht : E76 t f0) (I : Mm) (J : Ml) : Mt sx MX4_moveAll [.ref 43, .int 0, .ref 46] (sR f (sA 46 t I)) J (fun r' I' J' => (∃ g, sR g (sA 46 t I) = I' ∧ E76 g f0) ∧ J = J' ∧ r' = none) :=
  Mt.conseq (m_rs46 sx f (sA 46 t I) J) (by
    rintro _ _ _ ⟨rfl, rfl, rfl⟩
    exact ⟨⟨_, rfl, fun j hj => (mv_E _ _ j hj).trans (ht j hj)⟩, rfl, rfl⟩)
theorem sumI_k {f g : Nat → Int32} : ∀ n, (∀ j, j < n → f j = g j) → sumI f n = sumI g n
  | 0, _ => rfl
  | n + 1, h => by rw [sumI, sumI, sumI_k n (fun j hj => h j (by omega)), h n (by omega)]
theorem sum_c {P : Nat} {M N : Mm} (h : Agr P M N) {k : Nat} (h1 : 1 ≤ k) (h2 : k < 5) : sumI (M k) 8 = sumI (N k) 8 := sumI_k 8 fun j hj => h.2.1 k j h1 h2 hj
theorem cg2 {a b c d : Int32} (h : a = b) (k : c = d) : some (Value.int (a - c)) = some (Value.int (b - d)) := by rw [h, k]
theorem rm_c {P p : Nat} {M N : Mm} (hp : p < P) (h : Agr P M N) : Agr (P - 1) (rmN2 M P p) (rmN2 N P p) := by
  refine ⟨fun b h1 h2 => ?_, fun a b h1 h2 h3 => ?_, fun a b h1 h2 h3 => ?_⟩
  · by_cases e : b = 7
    · subst e; rw [rm_07, rm_07, h.1 7 h1 h2]
    · rw [rm_0 e, rm_0 e, h.1 b h1 h2]
  · rw [rm_off (by omega) (by omega), rm_off (by omega) (by omega), h.2.1 a b h1 h2 h3]
  · rw [rm_on hp ⟨h1, h2⟩ h3, rm_on hp ⟨h1, h2⟩ h3, h.2.2 a _ h1 h2 (by split <;> omega)]
set_option maxRecDepth 100000 in
set_option maxHeartbeats 4000000 in
theorem pr_costs (sx : Nat × (Nat → Int32)) (one n : Int32) : PrI sx MX3_costs MX4_costs [.int one, .int n] := by
  intro I J hS
  obtain ⟨P, hN, ha, hP8, hP1, hP3, hpl⟩ := hS.nt
  have e73 : I 44 3 = I 1 7 := hP3.trans hP1.symm
  refine Mt.of2 _ rfl (by decide +kernel) (Nat.le_of_ble_eq_true rfl) ?_
  refine GW.run kX3_costs (fun _ => false) 69 0 rfl ?_
  refine Mt.conseq (c_nobody _ _ _ _) ?_
  rintro _ _ _ ⟨rfl, rfl, ⟨h1, rfl⟩ | ⟨h1, rfl⟩⟩
  · -- pc 2 call X3_nobody true
    refine And.intro (fun _ => ?_) (fun hh => absurd hh (by decide))
    refine Mt.conseq (c_fnd0 _ _ _) ?_
    rintro _ _ _ ⟨rfl, rfl, rfl⟩
    refine ⟨trivial, _, rfl, ?_⟩
    refine Mt.of2 _ rfl (by decide +kernel) (Nat.le_of_ble_eq_true rfl) ?_
    refine GW.run kX4_costs (fun _ => false) 77 0 rfl ?_
    refine Mt.conseq ((by have h := m_isOne sx one (I 44) (fnd I 0) J; rw [show sR (I 44) (fnd I 0) = fnd I 0 from sR_self (fnd I 0), e73] at h; exact h)) ?_
    rintro _ _ _ ⟨rfl, rfl, ⟨g1, rfl⟩ | ⟨g1, rfl⟩⟩
    · -- pc 2 call X4_isOne true
      exact (out_in h1 g1).elim
    · -- pc 2 call X4_isOne false
      refine And.intro (fun _ => ?_) (fun hh => absurd hh (by decide))
      refine Mt.conseq (m_fnd0 _ _ _) ?_
      rintro _ _ _ ⟨rfl, rfl, rfl⟩
      exact ⟨trivial, rfl, hS.found (by decide)⟩
  · -- pc 2 call X3_nobody false
    obtain ⟨p, hp, rfl⟩ := nbd hP1 hP8 h1
    have hbp : vp_in (nI p) 8 := vp_in_nI (by omega) (by omega)
    have hcp := nI_clamp (n := p) (by omega)
    refine And.intro (fun hh => absurd hh (by decide)) (fun _ => ?_)
    refine Mt.conseq (c_outside _ _ _ _ _ _) ?_
    rintro _ _ _ ⟨rfl, rfl, ⟨h3, rfl⟩ | ⟨h3, rfl⟩⟩
    · -- pc 12 call X3_outside true
      refine And.intro (fun hh => absurd hh (by decide)) (fun _ => ?_)
      refine Mt.conseq (c_fnd0 _ _ _) ?_
      rintro _ _ _ ⟨rfl, rfl, rfl⟩
      refine ⟨trivial, _, rfl, ?_⟩
      refine Mt.of2 _ rfl (by decide +kernel) (Nat.le_of_ble_eq_true rfl) ?_
      refine GW.run kX4_costs (fun _ => false) 77 0 rfl ?_
      refine Mt.conseq ((by have h := m_isOne sx (nI p) (I 44) (fnd I 0) J; rw [show sR (I 44) (fnd I 0) = fnd I 0 from sR_self (fnd I 0), e73] at h; exact h)) ?_
      rintro _ _ _ ⟨rfl, rfl, ⟨g1, rfl⟩ | ⟨g1, rfl⟩⟩
      · -- pc 2 call X4_isOne true
        refine And.intro (fun hh => absurd hh (by decide)) (fun _ => ?_)
        refine Mt.conseq (m_isSpan _ _ _ _) ?_
        rintro _ _ _ ⟨rfl, rfl, ⟨g2, rfl⟩ | ⟨g2, rfl⟩⟩
        · -- pc 9 call X4_isSpan true
          exact (out_in h3 g2).elim
        · -- pc 9 call X4_isSpan false
          refine And.intro (fun hh => absurd hh (by decide)) (fun _ => ?_)
          refine Mt.conseq (m_fnd0 _ _ _) ?_
          rintro _ _ _ ⟨rfl, rfl, rfl⟩
          exact ⟨trivial, rfl, hS.found (by decide)⟩
      · -- pc 2 call X4_isOne false
        exact (nout_nin h1 g1).elim
    · -- pc 12 call X3_outside false
      obtain ⟨K, hK, rfl⟩ := nout_nI (b := 40) (by decide) h3
      refine And.intro (fun _ => ?_) (fun hh => absurd hh (by decide))
      refine Mt.conseq (c_sah _ P hP8 I hP1 _) ?_
      rintro _ _ _ ⟨⟨M, rfl, h5⟩, rfl, rfl⟩
      have hM := h5
      refine Mt.conseq (c_ph sx 21 (Or.inr rfl) M P (Agr.ok hM hN).1 hP8 (Agr.ok hM hN).2 K (by omega) I J) ?_
      rintro _ _ _ ⟨rfl, rfl, rfl⟩
      refine Mt.conseq (c_sum_22 _ 8 (by decide) _ _) ?_
      rintro _ _ _ ⟨rfl, rfl, rfl⟩
      refine Mt.conseq (c_sah2 _ P hP8 I hP1 _ _) ?_
      rintro _ _ _ ⟨⟨M2, rfl, h8⟩, rfl, rfl⟩
      have hM2 := h8
      have hO := rm_ok hN hp
      have hR2 := rm_c hp hM2
      refine Mt.conseq (c_rm sx 21 (Or.inr rfl) M2 P (Agr.ok hM2 hN).1 hP8 p hp I J) ?_
      rintro _ _ _ ⟨rfl, rfl, rfl⟩
      refine Mt.conseq (c_ph sx 21 (Or.inr rfl) (rmN2 M2 P p) (P - 1) (Agr.ok hR2 hO).1 (by omega) (Agr.ok hR2 hO).2 K (by omega) I J) ?_
      rintro _ _ _ ⟨rfl, rfl, rfl⟩
      refine Mt.conseq (c_sum_22 _ 8 (by decide) _ _) ?_
      rintro _ _ _ ⟨rfl, rfl, rfl⟩
      refine ⟨trivial, _, rfl, ?_⟩
      refine Mt.of2 _ rfl (by decide +kernel) (Nat.le_of_ble_eq_true rfl) ?_
      refine GW.run kX4_costs (fun _ => false) 77 0 rfl ?_
      refine Mt.conseq ((by have h := m_isOne sx (nI p) (I 44) (pN 21 (itH (P - 1) K (rmN2 M2 P p)) I) J; rw [show sR (I 44) (pN 21 (itH (P - 1) K (rmN2 M2 P p)) I) = pN 21 (itH (P - 1) K (rmN2 M2 P p)) I from sR_self (pN 21 (itH (P - 1) K (rmN2 M2 P p)) I), e73] at h; exact h)) ?_
      rintro _ _ _ ⟨rfl, rfl, ⟨g1, rfl⟩ | ⟨g1, rfl⟩⟩
      · -- pc 2 call X4_isOne true
        refine And.intro (fun hh => absurd hh (by decide)) (fun _ => ?_)
        refine Mt.conseq (m_isSpan _ _ _ _) ?_
        rintro _ _ _ ⟨rfl, rfl, ⟨g2, rfl⟩ | ⟨g2, rfl⟩⟩
        · -- pc 9 call X4_isSpan true
          refine And.intro (fun _ => ?_) (fun hh => absurd hh (by decide))
          refine Mt.conseq ((by have h := m_kp1 sx (I 44) (pN 21 (itH (P - 1) K (rmN2 M2 P p)) I) J; rw [show sR (I 44) (pN 21 (itH (P - 1) K (rmN2 M2 P p)) I) = pN 21 (itH (P - 1) K (rmN2 M2 P p)) I from sR_self (pN 21 (itH (P - 1) K (rmN2 M2 P p)) I)] at h; exact h)) ?_
          rintro _ _ _ ⟨⟨t, rfl, g3⟩, rfl, rfl⟩
          have ht := g3
          refine Mt.conseq (m_ps _ (I 44) P hP3 hP8 hpl K (by omega) _ _) ?_
          rintro _ _ _ ⟨rfl, rfl, rfl⟩
          refine Mt.conseq (m_su _ _ 0 (by decide) _ rfl _ _) ?_
          rintro _ _ _ ⟨rfl, rfl, rfl⟩
          refine Mt.conseq (m_rs1 _ _ t (I 44) ht _ _) ?_
          rintro _ _ _ ⟨⟨g, rfl, g6⟩, rfl, rfl⟩
          have hga := Agr.trans (E76.agr hP8 g6) ha
          have hg3 : g 3 = nI P := (g6 3 (by decide)).trans hP3
          have hl := Agr.ok (rm_ag hp hga) hO
          refine Mt.conseq (m_lv _ g P hg3 hP8 p hp _ _) ?_
          rintro _ _ _ ⟨rfl, rfl, rfl⟩
          refine Mt.conseq (m_ps _ (lvM g P p) (P - 1) hl.1 (by omega) hl.2 K (by omega) _ _) ?_
          rintro _ _ _ ⟨rfl, rfl, rfl⟩
          refine Mt.conseq (m_su _ _ 0 (by decide) _ rfl _ _) ?_
          rintro _ _ _ ⟨rfl, rfl, rfl⟩
          refine Mt.conseq (m_rs1 _ _ t (I 44) ht _ _) ?_
          rintro _ _ _ ⟨⟨g2, rfl, g10⟩, rfl, rfl⟩
          have hg2 := g10
          refine ⟨trivial, ?_, hS.junk hg2⟩
          have s1 : suM (itM P K (I 44)) 0 8 = sumI (itH P K M 1) 8 := (sum_eq (itM_ag hP8 ha hN.1 hN.2.1 K) (w := 0) (by decide) 8 (by decide)).trans (sum_c (itH_c hM hN.2.1.pl K) (by decide) (by decide)).symm
          have s2 : suM (itM (P - 1) K (lvM g P p)) 0 8 = sumI (itH (P - 1) K (rmN2 M2 P p) 1) 8 := (sum_eq (itM_ag (by omega) (rm_ag hp hga) hO.1 hO.2.1 K) (w := 0) (by decide) 8 (by decide)).trans (sum_c (itH_c hR2 hO.2.1.pl K) (by decide) (by decide)).symm
          exact cg2 s2 s1
        · -- pc 9 call X4_isSpan false
          exact (nout_nin h3 g2).elim
      · -- pc 2 call X4_isOne false
        exact (nout_nin h1 g1).elim
