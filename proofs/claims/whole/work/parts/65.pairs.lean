/-! PAIRS: image, undo, hours -/
theorem NOk.agr {P : Nat} {M N : Mm} (h : NOk P N) (a : Agr P M N) : NOk P M := by
  refine ⟨fun r hr => ?_, fun p hp => ?_, (a.1 7 (by decide) (by decide)).trans h.2.2.1, h.2.2.2.1, ?_, ?_, ?_⟩
  · rw [a.2.1 1 r (by decide) (by decide) hr, a.2.1 2 r (by decide) (by decide) hr, a.2.1 3 r (by decide) (by decide) hr, a.2.1 4 r (by decide) (by decide) hr]
    exact h.1 r hr
  · rw [a.2.2 5 p (by decide) (by decide) hp, a.2.2 6 p (by decide) (by decide) hp, a.2.2 7 p (by decide) (by decide) hp, a.2.2 8 p (by decide) (by decide) hp, a.2.2 9 p (by decide) (by decide) hp]
    exact h.2.1 p hp
  · rw [a.1 4 (by decide) (by decide)]; exact h.2.2.2.2.1
  · rw [a.1 5 (by decide) (by decide)]; exact h.2.2.2.2.2.1
  · rw [a.1 6 (by decide) (by decide)]; exact h.2.2.2.2.2.2
theorem gN_pN {P nb : Nat} {M I : Mm} : Agr P (gN nb (pN nb M I)) M := by
  have e : ∀ k, k ≤ 9 → gN nb (pN nb M I) k = M k := fun k hk => by rw [gN_in hk, pN_in (by omega), show nb + k - nb = k by omega]
  exact ⟨fun j _ _ => by rw [e 0 (by decide)], fun k j _ h _ => by rw [e k (by omega)], fun k j _ h _ => by rw [e k (by omega)]⟩
/-- all that is told is kept -/
theorem Sim.imaged {I : Mm} {J : Ml} (h : Sim I J) {P : Nat} {M : Mm} (hN : NOk P (gN 1 I)) (ha : Agr P (vN (I 44)) (gN 1 I)) (hM : Agr P M (gN 1 I)) {g : Nat → Int32} (hg : E76 g (I 44)) : Sim (na_set (sR (I 44) (sA 52 g (na_set (pN 11 M I) 0 3 1))) 43 17 1) J := by
  have off : ∀ a j, ¬ (11 ≤ a ∧ a ≤ 20) → a ≠ 52 → ¬ (a = 0 ∧ j = 3) → ¬ (a = 43 ∧ j = 17) → na_set (sR (I 44) (sA 52 g (na_set (pN 11 M I) 0 3 1))) 43 17 1 a j = I a j := fun a j h1 h2 h3 h4 => by
    rw [na_set_get, if_neg h4]
    by_cases h5 : a = 44
    · subst h5; rfl
    · rw [sR_off h5, sA_off h2, na_set_get, if_neg h3, pN_out (by omega)]
  have offa : ∀ a, ¬ (11 ≤ a ∧ a ≤ 20) → a ≠ 52 → a ≠ 0 → a ≠ 43 → na_set (sR (I 44) (sA 52 g (na_set (pN 11 M I) 0 3 1))) 43 17 1 a = I a := fun a h1 h2 h3 h4 => funext fun j => off a j h1 h2 (by omega) (by omega)
  obtain ⟨h1, -, ⟨L, t1, t2, t3, t4⟩, h4, h5⟩ := h
  have eg : gN 11 (na_set (sR (I 44) (sA 52 g (na_set (pN 11 M I) 0 3 1))) 43 17 1) = gN 11 (pN 11 M I) := gN_eq fun a q1 q2 => by rw [na_set_off (by omega), sR_off (by omega), sA_off (by omega), na_set_off (by omega)]
  have hM2 : Agr P (gN 11 (pN 11 M I)) (gN 1 I) := gN_pN.trans hM
  refine ⟨h1.eq (fun a q1 q2 => offa a (by omega) (by omega) (by omega) (by omega)) (offa 44 (by omega) (by decide) (by decide) (by decide)), ⟨rfl, Or.inr ⟨rfl, P, ?_, ?_⟩⟩, ⟨L, t1, ?_, ?_, ?_⟩, fun s hs => ?_, fun k hk => ?_⟩
  · rw [eg]; exact hN.agr hM2
  · rw [eg]
    show Agr P (vN g) _
    exact ((hg.agr hN.2.2.2.1).trans ha).trans hM2.symm
  · rw [offa 31 (by omega) (by decide) (by decide) (by decide)]; exact t2
  · rw [off 43 4 (by omega) (by decide) (by omega) (by omega)]; exact t3
  · rw [offa 32 (by omega) (by decide) (by decide) (by decide), offa 47 (by omega) (by decide) (by decide) (by decide)]; exact t4
  · unfold Sh
    rw [offa (34 + 2 * s) (by omega) (by omega) (by omega) (by omega), offa 48 (by omega) (by decide) (by decide) (by decide), offa 49 (by omega) (by decide) (by decide) (by decide)]
    exact h4 s hs
  · rw [offa 42 (by omega) (by decide) (by decide) (by decide), offa 45 (by omega) (by decide) (by decide) (by decide)]; exact h5 k hk
set_option maxRecDepth 100000 in
set_option maxHeartbeats 4000000 in
theorem pr_image (sx : Nat × (Nat → Int32)) : PrI sx MX3_image MX4_image [] := by
  intro I J hS
  obtain ⟨P, hN, ha, hP8, hP1, hP3, hpl⟩ := hS.nt
  have e73 : I 44 3 = I 1 7 := hP3.trans hP1.symm
  refine Mt.of2 _ rfl (by decide +kernel) (Nat.le_of_ble_eq_true rfl) ?_
  refine GW.run kX3_image (fun _ => false) 40 0 rfl ?_
  refine Mt.conseq (c_bec_11_1 _ P hP8 I hP1 _) ?_
  rintro _ _ _ ⟨⟨M, rfl, h1⟩, rfl, rfl⟩
  refine And.intro (by first | exact Or.inl rfl | exact Or.inr rfl) ?_
  refine ⟨trivial, _, rfl, ?_⟩
  refine Mt.of2 _ rfl (by decide +kernel) (Nat.le_of_ble_eq_true rfl) ?_
  refine GW.run kX4_image (fun _ => false) 40 0 rfl ?_
  refine Mt.conseq ((by have h := m_kp52 sx (I 44) (na_set (pN 11 M I) 0 3 1) J; rw [show sR (I 44) (na_set (pN 11 M I) 0 3 1) = na_set (pN 11 M I) 0 3 1 from sR_self (na_set (pN 11 M I) 0 3 1)] at h; exact h)) ?_
  rintro _ _ _ ⟨rfl, rfl, rfl⟩
  refine And.intro (by first | exact Or.inl rfl | exact Or.inr rfl) ?_
  exact ⟨trivial, rfl, hS.imaged hN ha h1 (mv_E _ _)⟩
theorem Sim.nk {I : Mm} {J : Ml} (h : Sim I J) (h0 : ¬ I 0 3 = 0) : ∃ Q, NOk Q (gN 11 I) ∧ Agr Q (vN (I 52)) (gN 11 I) ∧ Q ≤ 8 ∧ I 11 7 = nI Q := by
  rcases h.2.1.2 with q | ⟨-, Q, hN, ha⟩
  · exact absurd q h0
  · exact ⟨Q, hN, ha, hN.2.2.2.1, hN.2.2.1⟩
theorem pN_cut {nb : Nat} {M I : Mm} : pN nb M I = pN nb (gN nb (pN nb M I)) I := by
  funext a
  by_cases h : nb ≤ a ∧ a ≤ nb + 9
  · rw [pN_in h, pN_in h, gN_in (by omega), pN_in (by omega), show nb + (a - nb) - nb = a - nb by omega]
  · rw [pN_out h, pN_out h]
set_option maxRecDepth 100000 in
set_option maxHeartbeats 4000000 in
theorem pr_undo (sx : Nat × (Nat → Int32)) : PrI sx MX3_undo MX4_undo [] := by
  intro I J hS
  obtain ⟨P, hN, ha, hP8, hP1, hP3, hpl⟩ := hS.nt
  have e73 : I 44 3 = I 1 7 := hP3.trans hP1.symm
  refine Mt.of2 _ rfl (by decide +kernel) (Nat.le_of_ble_eq_true rfl) ?_
  refine GW.run kX3_undo (fun _ => false) 46 0 rfl ?_
  refine And.intro (fun h1 => ?_) (fun h1 => ?_)
  · -- pc 4 .ifCond .ne 10: yes
    obtain ⟨Q, hNq, haq, hQ8, hQ1⟩ := hS.nk h1
    refine Mt.conseq (c_bec_1_11 _ Q hQ8 I hQ1 _) ?_
    rintro _ _ _ ⟨⟨M, rfl, h2⟩, rfl, rfl⟩
    refine ⟨trivial, _, rfl, ?_⟩
    refine Mt.of2 _ rfl (by decide +kernel) (Nat.le_of_ble_eq_true rfl) ?_
    refine GW.run kX4_undo (fun _ => false) 47 0 rfl ?_
    refine And.intro (fun g1 => ?_) (fun g1 => ?_)
    · -- pc 4 .ifCond .ne 10: yes
      refine Mt.conseq ((by have h := m_rs52 sx (I 44) (pN 1 M I) J; rw [show sR (I 44) (pN 1 M I) = pN 1 M I from sR_self (pN 1 M I)] at h; exact h)) ?_
      rintro _ _ _ ⟨rfl, rfl, rfl⟩
      refine And.intro (by unfold vp_in; decide) ?_
      have hM2 : Agr Q (gN 1 (pN 1 M I)) (gN 11 I) := gN_pN.trans h2
      have e3 : I 52 3 = nI Q := (haq.1 7 (by decide) (by decide)).trans hQ1
      refine ⟨trivial, ?_, ?_⟩
      · exact congrArg (fun x => some (Value.int x)) (e3.trans (hM2.1 7 (by decide) (by decide) |>.trans hQ1).symm)
      · have hx : sR (mv 76 (I 52) (I 44)) (pN 1 M I) = sR (mv 76 (I 52) (I 44)) (pN 1 (gN 1 (pN 1 M I)) I) := by rw [← pN_cut]
        have hg : Sim (sR (mv 76 (I 52) (I 44)) (pN 1 (gN 1 (pN 1 M I)) I)) J := hS.night (hNq.agr hM2) ((((mv_E (I 52) (I 44)).agr hQ8).trans haq).trans hM2.symm) (fun a ha => gN_hi ha)
        rw [← hx] at hg
        exact hg
    · -- pc 4 .ifCond .ne 10: no
      exact absurd (hS.kp.1.trans g1) h1
  · -- pc 4 .ifCond .ne 10: no
    refine Mt.conseq (c_fnd3 _ _ _) ?_
    rintro _ _ _ ⟨rfl, rfl, rfl⟩
    refine ⟨trivial, _, rfl, ?_⟩
    refine Mt.of2 _ rfl (by decide +kernel) (Nat.le_of_ble_eq_true rfl) ?_
    refine GW.run kX4_undo (fun _ => false) 47 0 rfl ?_
    refine And.intro (fun g1 => ?_) (fun g1 => ?_)
    · -- pc 4 .ifCond .ne 10: yes
      exact absurd (hS.kp.1.symm.trans h1) g1
    · -- pc 4 .ifCond .ne 10: no
      refine Mt.conseq (m_fnd3 _ _ _) ?_
      rintro _ _ _ ⟨rfl, rfl, rfl⟩
      exact ⟨trivial, rfl, hS.found (by decide)⟩
