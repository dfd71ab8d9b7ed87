/-! PAIRS: as -/
abbrev kO (x w : Int32) : Prop := w = x ∨ w = 0 ∨ (x = 4 ∧ w = 1) ∨ (x = 5 ∧ w = 2)
set_option maxRecDepth 100000 in
set_option maxHeartbeats 4000000 in
theorem isk_n_3 (sx : Nat × (Nat → Int32)) (k0 w : Int32) (I : Mm) (J : Ml) (Rt : Option Value → Mm → Ml → Prop) (hT : False → Rt (some (.int 1)) I J) (hF : ¬ False → Rt (some (.int 0)) I J) : GW sx (na_mi MX3_isKindOf) Rt 4 [some (.int k0), some (.int w), some (.int (-1)), some (.int 3)] [] I J := by
  refine GW.run kX3_isKindOf (fun pc => Nat.beq pc 4) 53 4 rfl ?_
  refine And.intro (fun hh => absurd hh (by decide)) (fun _ => ?_)
  refine Mt.conseq (c_noKind _ _ _ _) ?_
  rintro _ _ _ ⟨rfl, rfl, ⟨h1, rfl⟩ | ⟨h1, rfl⟩⟩
  · -- pc 11 call X3_noKind true
    refine And.intro (fun _ => ?_) (fun hh => absurd hh (by decide))
    exact ⟨na_nl_b0, hF id⟩
  · -- pc 11 call X3_noKind false
    exact absurd (by decide) h1
set_option maxRecDepth 100000 in
set_option maxHeartbeats 4000000 in
theorem isk_n_2 (sx : Nat × (Nat → Int32)) (k0 w : Int32) (I : Mm) (J : Ml) (Rt : Option Value → Mm → Ml → Prop) (hT : False → Rt (some (.int 1)) I J) (hF : ¬ False → Rt (some (.int 0)) I J) : GW sx (na_mi MX3_isKindOf) Rt 4 [some (.int k0), some (.int w), some (.int (-1)), some (.int 2)] [] I J := by
  refine GW.run kX3_isKindOf (fun pc => Nat.beq pc 4) 53 4 rfl ?_
  refine And.intro (fun hh => absurd hh (by decide)) (fun _ => ?_)
  refine Mt.conseq (c_noKind _ _ _ _) ?_
  rintro _ _ _ ⟨rfl, rfl, ⟨h1, rfl⟩ | ⟨h1, rfl⟩⟩
  · -- pc 11 call X3_noKind true
    refine And.intro (fun _ => ?_) (fun hh => absurd hh (by decide))
    exact ⟨na_nl_b0, hF id⟩
  · -- pc 11 call X3_noKind false
    exact absurd (by decide) h1
set_option maxRecDepth 100000 in
set_option maxHeartbeats 4000000 in
theorem isk_n_1 (sx : Nat × (Nat → Int32)) (k0 w : Int32) (I : Mm) (J : Ml) (Rt : Option Value → Mm → Ml → Prop) (hT : False → Rt (some (.int 1)) I J) (hF : ¬ False → Rt (some (.int 0)) I J) : GW sx (na_mi MX3_isKindOf) Rt 4 [some (.int k0), some (.int w), some (.int (-1)), some (.int 1)] [] I J := by
  refine GW.run kX3_isKindOf (fun pc => Nat.beq pc 4) 53 4 rfl ?_
  refine And.intro (fun hh => absurd hh (by decide)) (fun _ => ?_)
  refine Mt.conseq (c_noKind _ _ _ _) ?_
  rintro _ _ _ ⟨rfl, rfl, ⟨h1, rfl⟩ | ⟨h1, rfl⟩⟩
  · -- pc 11 call X3_noKind true
    refine And.intro (fun _ => ?_) (fun hh => absurd hh (by decide))
    exact ⟨na_nl_b0, hF id⟩
  · -- pc 11 call X3_noKind false
    exact absurd (by decide) h1
set_option maxRecDepth 100000 in
set_option maxHeartbeats 4000000 in
theorem isk_0_2 (sx : Nat × (Nat → Int32)) (k0 w : Int32) (I : Mm) (J : Ml) (Rt : Option Value → Mm → Ml → Prop) (hT : (w = 0 ∨ False) → Rt (some (.int 1)) I J) (hF : ¬ (w = 0 ∨ False) → Rt (some (.int 0)) I J) : GW sx (na_mi MX3_isKindOf) Rt 4 [some (.int k0), some (.int w), some (.int 0), some (.int 2)] [] I J := by
  refine GW.run kX3_isKindOf (fun pc => Nat.beq pc 4) 53 4 rfl ?_
  refine And.intro (fun hh => absurd hh (by decide)) (fun _ => ?_)
  refine Mt.conseq (c_noKind _ _ _ _) ?_
  rintro _ _ _ ⟨rfl, rfl, ⟨h1, rfl⟩ | ⟨h1, rfl⟩⟩
  · -- pc 11 call X3_noKind true
    exact absurd h1 (by decide)
  · -- pc 11 call X3_noKind false
    refine And.intro (fun hh => absurd hh (by decide)) (fun _ => ?_)
    refine And.intro (fun h2 => ?_) (fun h2 => ?_)
    · -- pc 19 .if_icmp .ne 5: yes
      refine And.intro (by unfold vp_in; decide) ?_
      exact GW.weak (isk_n_3 sx k0 w I J _ (fun q => hT (Or.inr q)) (fun q => hF (fun z => z.elim (fun e => h2 (Eq.symm e)) q))) ⟨rfl, rfl, rfl, rfl, trivial⟩
    · -- pc 19 .if_icmp .ne 5: no
      exact ⟨na_nl_b1, hT (Or.inl (Eq.symm h2))⟩
set_option maxRecDepth 100000 in
set_option maxHeartbeats 4000000 in
theorem isk_0_1 (sx : Nat × (Nat → Int32)) (k0 w : Int32) (I : Mm) (J : Ml) (Rt : Option Value → Mm → Ml → Prop) (hT : (w = 0 ∨ False) → Rt (some (.int 1)) I J) (hF : ¬ (w = 0 ∨ False) → Rt (some (.int 0)) I J) : GW sx (na_mi MX3_isKindOf) Rt 4 [some (.int k0), some (.int w), some (.int 0), some (.int 1)] [] I J := by
  refine GW.run kX3_isKindOf (fun pc => Nat.beq pc 4) 53 4 rfl ?_
  refine And.intro (fun hh => absurd hh (by decide)) (fun _ => ?_)
  refine Mt.conseq (c_noKind _ _ _ _) ?_
  rintro _ _ _ ⟨rfl, rfl, ⟨h1, rfl⟩ | ⟨h1, rfl⟩⟩
  · -- pc 11 call X3_noKind true
    exact absurd h1 (by decide)
  · -- pc 11 call X3_noKind false
    refine And.intro (fun hh => absurd hh (by decide)) (fun _ => ?_)
    refine And.intro (fun h2 => ?_) (fun h2 => ?_)
    · -- pc 19 .if_icmp .ne 5: yes
      refine And.intro (by unfold vp_in; decide) ?_
      exact GW.weak (isk_n_2 sx k0 w I J _ (fun q => hT (Or.inr q)) (fun q => hF (fun z => z.elim (fun e => h2 (Eq.symm e)) q))) ⟨rfl, rfl, rfl, rfl, trivial⟩
    · -- pc 19 .if_icmp .ne 5: no
      exact ⟨na_nl_b1, hT (Or.inl (Eq.symm h2))⟩
set_option maxRecDepth 100000 in
set_option maxHeartbeats 4000000 in
theorem isk_1_1 (sx : Nat × (Nat → Int32)) (k0 w : Int32) (I : Mm) (J : Ml) (Rt : Option Value → Mm → Ml → Prop) (hT : (w = 1 ∨ (w = 0 ∨ False)) → Rt (some (.int 1)) I J) (hF : ¬ (w = 1 ∨ (w = 0 ∨ False)) → Rt (some (.int 0)) I J) : GW sx (na_mi MX3_isKindOf) Rt 4 [some (.int k0), some (.int w), some (.int 1), some (.int 1)] [] I J := by
  refine GW.run kX3_isKindOf (fun pc => Nat.beq pc 4) 53 4 rfl ?_
  refine And.intro (fun hh => absurd hh (by decide)) (fun _ => ?_)
  refine Mt.conseq (c_noKind _ _ _ _) ?_
  rintro _ _ _ ⟨rfl, rfl, ⟨h1, rfl⟩ | ⟨h1, rfl⟩⟩
  · -- pc 11 call X3_noKind true
    exact absurd h1 (by decide)
  · -- pc 11 call X3_noKind false
    refine And.intro (fun hh => absurd hh (by decide)) (fun _ => ?_)
    refine And.intro (fun h2 => ?_) (fun h2 => ?_)
    · -- pc 19 .if_icmp .ne 5: yes
      refine And.intro (by unfold vp_in; decide) ?_
      exact GW.weak (isk_0_2 sx k0 w I J _ (fun q => hT (Or.inr q)) (fun q => hF (fun z => z.elim (fun e => h2 (Eq.symm e)) q))) ⟨rfl, rfl, rfl, rfl, trivial⟩
    · -- pc 19 .if_icmp .ne 5: no
      exact ⟨na_nl_b1, hT (Or.inl (Eq.symm h2))⟩
set_option maxRecDepth 100000 in
set_option maxHeartbeats 4000000 in
theorem isk_2_1 (sx : Nat × (Nat → Int32)) (k0 w : Int32) (I : Mm) (J : Ml) (Rt : Option Value → Mm → Ml → Prop) (hT : (w = 2 ∨ (w = 0 ∨ False)) → Rt (some (.int 1)) I J) (hF : ¬ (w = 2 ∨ (w = 0 ∨ False)) → Rt (some (.int 0)) I J) : GW sx (na_mi MX3_isKindOf) Rt 4 [some (.int k0), some (.int w), some (.int 2), some (.int 1)] [] I J := by
  refine GW.run kX3_isKindOf (fun pc => Nat.beq pc 4) 53 4 rfl ?_
  refine And.intro (fun hh => absurd hh (by decide)) (fun _ => ?_)
  refine Mt.conseq (c_noKind _ _ _ _) ?_
  rintro _ _ _ ⟨rfl, rfl, ⟨h1, rfl⟩ | ⟨h1, rfl⟩⟩
  · -- pc 11 call X3_noKind true
    exact absurd h1 (by decide)
  · -- pc 11 call X3_noKind false
    refine And.intro (fun hh => absurd hh (by decide)) (fun _ => ?_)
    refine And.intro (fun h2 => ?_) (fun h2 => ?_)
    · -- pc 19 .if_icmp .ne 5: yes
      refine And.intro (by unfold vp_in; decide) ?_
      exact GW.weak (isk_0_2 sx k0 w I J _ (fun q => hT (Or.inr q)) (fun q => hF (fun z => z.elim (fun e => h2 (Eq.symm e)) q))) ⟨rfl, rfl, rfl, rfl, trivial⟩
    · -- pc 19 .if_icmp .ne 5: no
      exact ⟨na_nl_b1, hT (Or.inl (Eq.symm h2))⟩
set_option maxRecDepth 100000 in
set_option maxHeartbeats 4000000 in
theorem isk_0_0 (sx : Nat × (Nat → Int32)) (k0 w : Int32) (I : Mm) (J : Ml) (Rt : Option Value → Mm → Ml → Prop) (hT : (w = 0 ∨ False) → Rt (some (.int 1)) I J) (hF : ¬ (w = 0 ∨ False) → Rt (some (.int 0)) I J) : GW sx (na_mi MX3_isKindOf) Rt 4 [some (.int k0), some (.int w), some (.int 0), some (.int 0)] [] I J := by
  refine GW.run kX3_isKindOf (fun pc => Nat.beq pc 4) 53 4 rfl ?_
  refine And.intro (fun hh => absurd hh (by decide)) (fun _ => ?_)
  refine Mt.conseq (c_noKind _ _ _ _) ?_
  rintro _ _ _ ⟨rfl, rfl, ⟨h1, rfl⟩ | ⟨h1, rfl⟩⟩
  · -- pc 11 call X3_noKind true
    exact absurd h1 (by decide)
  · -- pc 11 call X3_noKind false
    refine And.intro (fun hh => absurd hh (by decide)) (fun _ => ?_)
    refine And.intro (fun h2 => ?_) (fun h2 => ?_)
    · -- pc 19 .if_icmp .ne 5: yes
      refine And.intro (by unfold vp_in; decide) ?_
      exact GW.weak (isk_n_1 sx k0 w I J _ (fun q => hT (Or.inr q)) (fun q => hF (fun z => z.elim (fun e => h2 (Eq.symm e)) q))) ⟨rfl, rfl, rfl, rfl, trivial⟩
    · -- pc 19 .if_icmp .ne 5: no
      exact ⟨na_nl_b1, hT (Or.inl (Eq.symm h2))⟩
set_option maxRecDepth 100000 in
set_option maxHeartbeats 4000000 in
theorem isk_1_0 (sx : Nat × (Nat → Int32)) (k0 w : Int32) (I : Mm) (J : Ml) (Rt : Option Value → Mm → Ml → Prop) (hT : (w = 1 ∨ (w = 0 ∨ False)) → Rt (some (.int 1)) I J) (hF : ¬ (w = 1 ∨ (w = 0 ∨ False)) → Rt (some (.int 0)) I J) : GW sx (na_mi MX3_isKindOf) Rt 4 [some (.int k0), some (.int w), some (.int 1), some (.int 0)] [] I J := by
  refine GW.run kX3_isKindOf (fun pc => Nat.beq pc 4) 53 4 rfl ?_
  refine And.intro (fun hh => absurd hh (by decide)) (fun _ => ?_)
  refine Mt.conseq (c_noKind _ _ _ _) ?_
  rintro _ _ _ ⟨rfl, rfl, ⟨h1, rfl⟩ | ⟨h1, rfl⟩⟩
  · -- pc 11 call X3_noKind true
    exact absurd h1 (by decide)
  · -- pc 11 call X3_noKind false
    refine And.intro (fun hh => absurd hh (by decide)) (fun _ => ?_)
    refine And.intro (fun h2 => ?_) (fun h2 => ?_)
    · -- pc 19 .if_icmp .ne 5: yes
      refine And.intro (by unfold vp_in; decide) ?_
      exact GW.weak (isk_0_1 sx k0 w I J _ (fun q => hT (Or.inr q)) (fun q => hF (fun z => z.elim (fun e => h2 (Eq.symm e)) q))) ⟨rfl, rfl, rfl, rfl, trivial⟩
    · -- pc 19 .if_icmp .ne 5: no
      exact ⟨na_nl_b1, hT (Or.inl (Eq.symm h2))⟩
set_option maxRecDepth 100000 in
set_option maxHeartbeats 4000000 in
theorem isk_2_0 (sx : Nat × (Nat → Int32)) (k0 w : Int32) (I : Mm) (J : Ml) (Rt : Option Value → Mm → Ml → Prop) (hT : (w = 2 ∨ (w = 0 ∨ False)) → Rt (some (.int 1)) I J) (hF : ¬ (w = 2 ∨ (w = 0 ∨ False)) → Rt (some (.int 0)) I J) : GW sx (na_mi MX3_isKindOf) Rt 4 [some (.int k0), some (.int w), some (.int 2), some (.int 0)] [] I J := by
  refine GW.run kX3_isKindOf (fun pc => Nat.beq pc 4) 53 4 rfl ?_
  refine And.intro (fun hh => absurd hh (by decide)) (fun _ => ?_)
  refine Mt.conseq (c_noKind _ _ _ _) ?_
  rintro _ _ _ ⟨rfl, rfl, ⟨h1, rfl⟩ | ⟨h1, rfl⟩⟩
  · -- pc 11 call X3_noKind true
    exact absurd h1 (by decide)
  · -- pc 11 call X3_noKind false
    refine And.intro (fun hh => absurd hh (by decide)) (fun _ => ?_)
    refine And.intro (fun h2 => ?_) (fun h2 => ?_)
    · -- pc 19 .if_icmp .ne 5: yes
      refine And.intro (by unfold vp_in; decide) ?_
      exact GW.weak (isk_0_1 sx k0 w I J _ (fun q => hT (Or.inr q)) (fun q => hF (fun z => z.elim (fun e => h2 (Eq.symm e)) q))) ⟨rfl, rfl, rfl, rfl, trivial⟩
    · -- pc 19 .if_icmp .ne 5: no
      exact ⟨na_nl_b1, hT (Or.inl (Eq.symm h2))⟩
set_option maxRecDepth 100000 in
set_option maxHeartbeats 4000000 in
theorem isk_3_0 (sx : Nat × (Nat → Int32)) (k0 w : Int32) (I : Mm) (J : Ml) (Rt : Option Value → Mm → Ml → Prop) (hT : (w = 3 ∨ (w = 0 ∨ False)) → Rt (some (.int 1)) I J) (hF : ¬ (w = 3 ∨ (w = 0 ∨ False)) → Rt (some (.int 0)) I J) : GW sx (na_mi MX3_isKindOf) Rt 4 [some (.int k0), some (.int w), some (.int 3), some (.int 0)] [] I J := by
  refine GW.run kX3_isKindOf (fun pc => Nat.beq pc 4) 53 4 rfl ?_
  refine And.intro (fun hh => absurd hh (by decide)) (fun _ => ?_)
  refine Mt.conseq (c_noKind _ _ _ _) ?_
  rintro _ _ _ ⟨rfl, rfl, ⟨h1, rfl⟩ | ⟨h1, rfl⟩⟩
  · -- pc 11 call X3_noKind true
    exact absurd h1 (by decide)
  · -- pc 11 call X3_noKind false
    refine And.intro (fun hh => absurd hh (by decide)) (fun _ => ?_)
    refine And.intro (fun h2 => ?_) (fun h2 => ?_)
    · -- pc 19 .if_icmp .ne 5: yes
      refine And.intro (by unfold vp_in; decide) ?_
      exact GW.weak (isk_0_1 sx k0 w I J _ (fun q => hT (Or.inr q)) (fun q => hF (fun z => z.elim (fun e => h2 (Eq.symm e)) q))) ⟨rfl, rfl, rfl, rfl, trivial⟩
    · -- pc 19 .if_icmp .ne 5: no
      exact ⟨na_nl_b1, hT (Or.inl (Eq.symm h2))⟩
set_option maxRecDepth 100000 in
set_option maxHeartbeats 4000000 in
theorem isk_4_0 (sx : Nat × (Nat → Int32)) (k0 w : Int32) (I : Mm) (J : Ml) (Rt : Option Value → Mm → Ml → Prop) (hT : (w = 4 ∨ (w = 1 ∨ (w = 0 ∨ False))) → Rt (some (.int 1)) I J) (hF : ¬ (w = 4 ∨ (w = 1 ∨ (w = 0 ∨ False))) → Rt (some (.int 0)) I J) : GW sx (na_mi MX3_isKindOf) Rt 4 [some (.int k0), some (.int w), some (.int 4), some (.int 0)] [] I J := by
  refine GW.run kX3_isKindOf (fun pc => Nat.beq pc 4) 53 4 rfl ?_
  refine And.intro (fun hh => absurd hh (by decide)) (fun _ => ?_)
  refine Mt.conseq (c_noKind _ _ _ _) ?_
  rintro _ _ _ ⟨rfl, rfl, ⟨h1, rfl⟩ | ⟨h1, rfl⟩⟩
  · -- pc 11 call X3_noKind true
    exact absurd h1 (by decide)
  · -- pc 11 call X3_noKind false
    refine And.intro (fun hh => absurd hh (by decide)) (fun _ => ?_)
    refine And.intro (fun h2 => ?_) (fun h2 => ?_)
    · -- pc 19 .if_icmp .ne 5: yes
      refine And.intro (by unfold vp_in; decide) ?_
      exact GW.weak (isk_1_1 sx k0 w I J _ (fun q => hT (Or.inr q)) (fun q => hF (fun z => z.elim (fun e => h2 (Eq.symm e)) q))) ⟨rfl, rfl, rfl, rfl, trivial⟩
    · -- pc 19 .if_icmp .ne 5: no
      exact ⟨na_nl_b1, hT (Or.inl (Eq.symm h2))⟩
set_option maxRecDepth 100000 in
set_option maxHeartbeats 4000000 in
theorem isk_5_0 (sx : Nat × (Nat → Int32)) (k0 w : Int32) (I : Mm) (J : Ml) (Rt : Option Value → Mm → Ml → Prop) (hT : (w = 5 ∨ (w = 2 ∨ (w = 0 ∨ False))) → Rt (some (.int 1)) I J) (hF : ¬ (w = 5 ∨ (w = 2 ∨ (w = 0 ∨ False))) → Rt (some (.int 0)) I J) : GW sx (na_mi MX3_isKindOf) Rt 4 [some (.int k0), some (.int w), some (.int 5), some (.int 0)] [] I J := by
  refine GW.run kX3_isKindOf (fun pc => Nat.beq pc 4) 53 4 rfl ?_
  refine And.intro (fun hh => absurd hh (by decide)) (fun _ => ?_)
  refine Mt.conseq (c_noKind _ _ _ _) ?_
  rintro _ _ _ ⟨rfl, rfl, ⟨h1, rfl⟩ | ⟨h1, rfl⟩⟩
  · -- pc 11 call X3_noKind true
    exact absurd h1 (by decide)
  · -- pc 11 call X3_noKind false
    refine And.intro (fun hh => absurd hh (by decide)) (fun _ => ?_)
    refine And.intro (fun h2 => ?_) (fun h2 => ?_)
    · -- pc 19 .if_icmp .ne 5: yes
      refine And.intro (by unfold vp_in; decide) ?_
      exact GW.weak (isk_2_1 sx k0 w I J _ (fun q => hT (Or.inr q)) (fun q => hF (fun z => z.elim (fun e => h2 (Eq.symm e)) q))) ⟨rfl, rfl, rfl, rfl, trivial⟩
    · -- pc 19 .if_icmp .ne 5: no
      exact ⟨na_nl_b1, hT (Or.inl (Eq.symm h2))⟩
set_option maxRecDepth 100000 in
set_option maxHeartbeats 4000000 in
theorem c_isk0 (sx : Nat × (Nat → Int32)) (w : Int32) (I : Mm) (J : Ml) : Mt sx MX3_isKindOf [.int 0, .int w] I J (na_b I J (kO 0 w)) := by
  refine Mt.of2 _ rfl (by decide +kernel) (Nat.le_of_ble_eq_true rfl) ?_
  refine GW.run kX3_isKindOf (fun pc => Nat.beq pc 4) 53 0 rfl ?_
  have e : kO 0 w ↔ (w = 0 ∨ False) := by
    unfold kO
    simp only [show ¬ ((0 : Int32) = 4) by decide, false_and, or_false, false_or, true_and, or_assoc, or_self, show ¬ ((0 : Int32) = 5) by decide]
    try (constructor <;> intro h <;> rcases h with h | h | h <;> simp [h])
  exact isk_0_0 sx _ w I J _ (fun q => ⟨rfl, rfl, Or.inl ⟨e.mpr q, rfl⟩⟩) (fun q => ⟨rfl, rfl, Or.inr ⟨fun z => q (e.mp z), rfl⟩⟩)
set_option maxRecDepth 100000 in
set_option maxHeartbeats 4000000 in
theorem c_isk1 (sx : Nat × (Nat → Int32)) (w : Int32) (I : Mm) (J : Ml) : Mt sx MX3_isKindOf [.int 1, .int w] I J (na_b I J (kO 1 w)) := by
  refine Mt.of2 _ rfl (by decide +kernel) (Nat.le_of_ble_eq_true rfl) ?_
  refine GW.run kX3_isKindOf (fun pc => Nat.beq pc 4) 53 0 rfl ?_
  have e : kO 1 w ↔ (w = 1 ∨ (w = 0 ∨ False)) := by
    unfold kO
    simp only [show ¬ ((1 : Int32) = 4) by decide, false_and, or_false, false_or, true_and, or_assoc, or_self, show ¬ ((1 : Int32) = 5) by decide]
    try (constructor <;> intro h <;> rcases h with h | h | h <;> simp [h])
  exact isk_1_0 sx _ w I J _ (fun q => ⟨rfl, rfl, Or.inl ⟨e.mpr q, rfl⟩⟩) (fun q => ⟨rfl, rfl, Or.inr ⟨fun z => q (e.mp z), rfl⟩⟩)
set_option maxRecDepth 100000 in
set_option maxHeartbeats 4000000 in
theorem c_isk2 (sx : Nat × (Nat → Int32)) (w : Int32) (I : Mm) (J : Ml) : Mt sx MX3_isKindOf [.int 2, .int w] I J (na_b I J (kO 2 w)) := by
  refine Mt.of2 _ rfl (by decide +kernel) (Nat.le_of_ble_eq_true rfl) ?_
  refine GW.run kX3_isKindOf (fun pc => Nat.beq pc 4) 53 0 rfl ?_
  have e : kO 2 w ↔ (w = 2 ∨ (w = 0 ∨ False)) := by
    unfold kO
    simp only [show ¬ ((2 : Int32) = 4) by decide, false_and, or_false, false_or, true_and, or_assoc, or_self, show ¬ ((2 : Int32) = 5) by decide]
    try (constructor <;> intro h <;> rcases h with h | h | h <;> simp [h])
  exact isk_2_0 sx _ w I J _ (fun q => ⟨rfl, rfl, Or.inl ⟨e.mpr q, rfl⟩⟩) (fun q => ⟨rfl, rfl, Or.inr ⟨fun z => q (e.mp z), rfl⟩⟩)
set_option maxRecDepth 100000 in
set_option maxHeartbeats 4000000 in
theorem c_isk3 (sx : Nat × (Nat → Int32)) (w : Int32) (I : Mm) (J : Ml) : Mt sx MX3_isKindOf [.int 3, .int w] I J (na_b I J (kO 3 w)) := by
  refine Mt.of2 _ rfl (by decide +kernel) (Nat.le_of_ble_eq_true rfl) ?_
  refine GW.run kX3_isKindOf (fun pc => Nat.beq pc 4) 53 0 rfl ?_
  have e : kO 3 w ↔ (w = 3 ∨ (w = 0 ∨ False)) := by
    unfold kO
    simp only [show ¬ ((3 : Int32) = 4) by decide, false_and, or_false, false_or, true_and, or_assoc, or_self, show ¬ ((3 : Int32) = 5) by decide]
    try (constructor <;> intro h <;> rcases h with h | h | h <;> simp [h])
  exact isk_3_0 sx _ w I J _ (fun q => ⟨rfl, rfl, Or.inl ⟨e.mpr q, rfl⟩⟩) (fun q => ⟨rfl, rfl, Or.inr ⟨fun z => q (e.mp z), rfl⟩⟩)
set_option maxRecDepth 100000 in
set_option maxHeartbeats 4000000 in
theorem c_isk4 (sx : Nat × (Nat → Int32)) (w : Int32) (I : Mm) (J : Ml) : Mt sx MX3_isKindOf [.int 4, .int w] I J (na_b I J (kO 4 w)) := by
  refine Mt.of2 _ rfl (by decide +kernel) (Nat.le_of_ble_eq_true rfl) ?_
  refine GW.run kX3_isKindOf (fun pc => Nat.beq pc 4) 53 0 rfl ?_
  have e : kO 4 w ↔ (w = 4 ∨ (w = 1 ∨ (w = 0 ∨ False))) := by
    unfold kO
    simp only [show ¬ ((4 : Int32) = 5) by decide, false_and, or_false, false_or, true_and, or_assoc, or_self]
    try (constructor <;> intro h <;> rcases h with h | h | h <;> simp [h])
  exact isk_4_0 sx _ w I J _ (fun q => ⟨rfl, rfl, Or.inl ⟨e.mpr q, rfl⟩⟩) (fun q => ⟨rfl, rfl, Or.inr ⟨fun z => q (e.mp z), rfl⟩⟩)
set_option maxRecDepth 100000 in
set_option maxHeartbeats 4000000 in
theorem c_isk5 (sx : Nat × (Nat → Int32)) (w : Int32) (I : Mm) (J : Ml) : Mt sx MX3_isKindOf [.int 5, .int w] I J (na_b I J (kO 5 w)) := by
  refine Mt.of2 _ rfl (by decide +kernel) (Nat.le_of_ble_eq_true rfl) ?_
  refine GW.run kX3_isKindOf (fun pc => Nat.beq pc 4) 53 0 rfl ?_
  have e : kO 5 w ↔ (w = 5 ∨ (w = 2 ∨ (w = 0 ∨ False))) := by
    unfold kO
    simp only [show ¬ ((5 : Int32) = 4) by decide, false_and, or_false, false_or, true_and, or_assoc, or_self]
    try (constructor <;> intro h <;> rcases h with h | h | h <;> simp [h])
  exact isk_5_0 sx _ w I J _ (fun q => ⟨rfl, rfl, Or.inl ⟨e.mpr q, rfl⟩⟩) (fun q => ⟨rfl, rfl, Or.inr ⟨fun z => q (e.mp z), rfl⟩⟩)
theorem c_isk (sx : Nat × (Nat → Int32)) (x w : Int32) (hx : rg 0 5 x) (I : Mm) (J : Ml) : Mt sx MX3_isKindOf [.int x, .int w] I J (na_b I J (kO x w)) := by
  obtain ⟨n, hn, rfl⟩ := nI_rg (b := 5) (by decide) hx
  obtain rfl | rfl | rfl | rfl | rfl | rfl : n = 0 ∨ n = 1 ∨ n = 2 ∨ n = 3 ∨ n = 4 ∨ n = 5 := by omega
  · exact c_isk0 sx w I J
  · exact c_isk1 sx w I J
  · exact c_isk2 sx w I J
  · exact c_isk3 sx w I J
  · exact c_isk4 sx w I J
  · exact c_isk5 sx w I J
set_option maxRecDepth 100000 in
set_option maxHeartbeats 4000000 in
theorem pr_as (sx : Nat × (Nat → Int32)) (one w : Int32) : PrI sx MX3_as MX4_as [.int one, .int w] := by
  intro I J hS
  obtain ⟨P, hN, ha, hP8, hP1, hP3, hpl⟩ := hS.nt
  have e73 : I 44 3 = I 1 7 := hP3.trans hP1.symm
  refine Mt.of2 _ rfl (by decide +kernel) (Nat.le_of_ble_eq_true rfl) ?_
  refine GW.run kX3_as (fun _ => false) 59 0 rfl ?_
  refine Mt.conseq (c_nobody _ _ _ _) ?_
  rintro _ _ _ ⟨rfl, rfl, ⟨h1, rfl⟩ | ⟨h1, rfl⟩⟩
  · -- pc 2 call X3_nobody true
    refine And.intro (fun _ => ?_) (fun hh => absurd hh (by decide))
    refine Mt.conseq (c_fnd0 _ _ _) ?_
    rintro _ _ _ ⟨rfl, rfl, rfl⟩
    refine ⟨trivial, _, rfl, ?_⟩
    refine Mt.of2 _ rfl (by decide +kernel) (Nat.le_of_ble_eq_true rfl) ?_
    refine GW.run kX4_as (fun _ => false) 78 0 rfl ?_
    refine Mt.conseq ((by have h := m_isOne sx one (I 44) (fnd I 0) J; rw [show sR (I 44) (fnd I 0) = fnd I 0 from sR_self (fnd I 0), e73] at h; exact h)) ?_
    rintro _ _ _ ⟨rfl, rfl, ⟨g1, rfl⟩ | ⟨g1, rfl⟩⟩
    · -- pc 2 call X4_isOne true
      exact (out_in h1 g1).elim
    · -- pc 2 call X4_isOne false
      refine And.intro (fun _ => ?_) (fun hh => absurd hh (by decide))
      refine Mt.conseq (m_fnd0 _ _ _) ?_
      rintro _ _ _ ⟨rfl, rfl, rfl⟩
      exact ⟨trivial, rfl, hS.found (by decide)⟩
  · -- pc 2 call X3_nobody false
    obtain ⟨p, hp, rfl⟩ := nbd hP1 hP8 h1
    have hbp : vp_in (nI p) 8 := vp_in_nI (by omega) (by omega)
    have hcp := nI_clamp (n := p) (by omega)
    refine And.intro (fun hh => absurd hh (by decide)) (fun _ => ?_)
    refine Mt.conseq (c_noKind _ _ _ _) ?_
    rintro _ _ _ ⟨rfl, rfl, ⟨h3, rfl⟩ | ⟨h3, rfl⟩⟩
    · -- pc 9 call X3_noKind true
      refine And.intro (fun hh => absurd hh (by decide)) (fun _ => ?_)
      refine Mt.conseq (c_fnd0 _ _ _) ?_
      rintro _ _ _ ⟨rfl, rfl, rfl⟩
      refine ⟨trivial, _, rfl, ?_⟩
      refine Mt.of2 _ rfl (by decide +kernel) (Nat.le_of_ble_eq_true rfl) ?_
      refine GW.run kX4_as (fun _ => false) 78 0 rfl ?_
      refine Mt.conseq ((by have h := m_isOne sx (nI p) (I 44) (fnd I 0) J; rw [show sR (I 44) (fnd I 0) = fnd I 0 from sR_self (fnd I 0), e73] at h; exact h)) ?_
      rintro _ _ _ ⟨rfl, rfl, ⟨g1, rfl⟩ | ⟨g1, rfl⟩⟩
      · -- pc 2 call X4_isOne true
        refine And.intro (fun hh => absurd hh (by decide)) (fun _ => ?_)
        refine Mt.conseq (m_isKind _ _ _ _) ?_
        rintro _ _ _ ⟨rfl, rfl, ⟨g2, rfl⟩ | ⟨g2, rfl⟩⟩
        · -- pc 9 call X4_isKind true
          exact (out_in h3 g2).elim
        · -- pc 9 call X4_isKind false
          refine And.intro (fun hh => absurd hh (by decide)) (fun _ => ?_)
          refine Mt.conseq (m_fnd0 _ _ _) ?_
          rintro _ _ _ ⟨rfl, rfl, rfl⟩
          exact ⟨trivial, rfl, hS.found (by decide)⟩
      · -- pc 2 call X4_isOne false
        exact (nout_nin h1 g1).elim
    · -- pc 9 call X3_noKind false
      refine And.intro (fun _ => ?_) (fun hh => absurd hh (by decide))
      refine And.intro (hbp) ?_
      refine Mt.conseq (c_isk _ _ _ (by rw [hcp]; exact (hN.2.1 p hp).1) _ _) ?_
      rintro _ _ _ ⟨rfl, rfl, ⟨h5, rfl⟩ | ⟨h5, rfl⟩⟩
      · -- pc 32 call X3_isKindOf true
        have e5 : I 44 (36 + 5 * p + 0) = I 6 p := ha.2.2 5 p (by decide) (by decide) hp
        have hk : kO (I 44 (36 + 5 * p + 0)) w := by have q := h5; rw [hcp] at q; rw [e5]; exact q
        refine And.intro (fun _ => ?_) (fun hh => absurd hh (by decide))
        refine And.intro (hbp) ?_
        refine ⟨trivial, _, rfl, ?_⟩
        refine Mt.of2 _ rfl (by decide +kernel) (Nat.le_of_ble_eq_true rfl) ?_
        refine GW.run kX4_as (fun _ => false) 78 0 rfl ?_
        refine Mt.conseq ((by have h := m_isOne sx (nI p) (I 44) (I) J; rw [show sR (I 44) (I) = I from sR_self (I), e73] at h; exact h)) ?_
        rintro _ _ _ ⟨rfl, rfl, ⟨g1, rfl⟩ | ⟨g1, rfl⟩⟩
        · -- pc 2 call X4_isOne true
          refine And.intro (fun hh => absurd hh (by decide)) (fun _ => ?_)
          refine Mt.conseq (m_isKind _ _ _ _) ?_
          rintro _ _ _ ⟨rfl, rfl, ⟨g2, rfl⟩ | ⟨g2, rfl⟩⟩
          · -- pc 9 call X4_isKind true
            refine And.intro (fun _ => ?_) (fun hh => absurd hh (by decide))
            refine Mt.conseq ((by have h := m_its sx p 0 (by omega) (by decide) 0 (by decide) (I 44) (I) J; rw [show sR (I 44) (I) = I from sR_self (I)] at h; exact h)) ?_
            rintro _ _ _ ⟨rfl, rfl, rfl⟩
            refine And.intro (fun g4 => ?_) (fun g4 => ?_)
            · -- pc 30 .ifCond .eq 28: yes
              refine And.intro (fun hh => absurd hh (by decide)) (fun _ => ?_)
              refine Mt.conseq ((by have h := m_its sx p 2 (by omega) (by decide) 2 (by decide) (I 44) (I) J; rw [show sR (I 44) (I) = I from sR_self (I)] at h; exact h)) ?_
              rintro _ _ _ ⟨rfl, rfl, rfl⟩
              refine ⟨trivial, ?_, hS⟩
              rw [hcp]
              exact congrArg (fun x => some (Value.int x)) (ha.2.2 7 p (by decide) (by decide) hp)
            · -- pc 30 .ifCond .eq 28: no
              refine And.intro (fun g6 => ?_) (fun g6 => ?_)
              · -- pc 35 .if_icmp .eq 23: yes
                refine And.intro (fun hh => absurd hh (by decide)) (fun _ => ?_)
                refine Mt.conseq ((by have h := m_its sx p 2 (by omega) (by decide) 2 (by decide) (I 44) (I) J; rw [show sR (I 44) (I) = I from sR_self (I)] at h; exact h)) ?_
                rintro _ _ _ ⟨rfl, rfl, rfl⟩
                refine ⟨trivial, ?_, hS⟩
                rw [hcp]
                exact congrArg (fun x => some (Value.int x)) (ha.2.2 7 p (by decide) (by decide) hp)
              · -- pc 35 .if_icmp .eq 23: no
                refine And.intro (fun g8 => ?_) (fun g8 => ?_)
                · -- pc 40 .if_icmp .ne 8: yes
                  refine And.intro (fun g9 => ?_) (fun g9 => ?_)
                  · -- pc 50 .if_icmp .ne 12: yes
                    exact absurd hk (fun z => z.elim g6 (fun z => z.elim g4 (fun z => z.elim (fun z => g8 z.2) (fun z => g9 z.2))))
                  · -- pc 50 .if_icmp .ne 12: no
                    refine And.intro (fun g10 => ?_) (fun g10 => ?_)
                    · -- pc 55 .if_icmp .ne 7: yes
                      exact absurd hk (fun z => z.elim g6 (fun z => z.elim g4 (fun z => z.elim (fun z => g8 z.2) (fun z => g10 z.1))))
                    · -- pc 55 .if_icmp .ne 7: no
                      refine And.intro (fun hh => absurd hh (by decide)) (fun _ => ?_)
                      refine Mt.conseq ((by have h := m_its sx p 2 (by omega) (by decide) 2 (by decide) (I 44) (I) J; rw [show sR (I 44) (I) = I from sR_self (I)] at h; exact h)) ?_
                      rintro _ _ _ ⟨rfl, rfl, rfl⟩
                      refine ⟨trivial, ?_, hS⟩
                      rw [hcp]
                      exact congrArg (fun x => some (Value.int x)) (ha.2.2 7 p (by decide) (by decide) hp)
                · -- pc 40 .if_icmp .ne 8: no
                  refine And.intro (fun g12 => ?_) (fun g12 => ?_)
                  · -- pc 45 .if_icmp .eq 13: yes
                    refine And.intro (fun hh => absurd hh (by decide)) (fun _ => ?_)
                    refine Mt.conseq ((by have h := m_its sx p 2 (by omega) (by decide) 2 (by decide) (I 44) (I) J; rw [show sR (I 44) (I) = I from sR_self (I)] at h; exact h)) ?_
                    rintro _ _ _ ⟨rfl, rfl, rfl⟩
                    refine ⟨trivial, ?_, hS⟩
                    rw [hcp]
                    exact congrArg (fun x => some (Value.int x)) (ha.2.2 7 p (by decide) (by decide) hp)
                  · -- pc 45 .if_icmp .eq 13: no
                    refine And.intro (fun g14 => ?_) (fun g14 => ?_)
                    · -- pc 50 .if_icmp .ne 12: yes
                      exact absurd hk (fun z => z.elim g6 (fun z => z.elim g4 (fun z => z.elim (fun z => g12 z.1) (fun z => g14 z.2))))
                    · -- pc 50 .if_icmp .ne 12: no
                      refine And.intro (fun g15 => ?_) (fun g15 => ?_)
                      · -- pc 55 .if_icmp .ne 7: yes
                        exact absurd hk (fun z => z.elim g6 (fun z => z.elim g4 (fun z => z.elim (fun z => g12 z.1) (fun z => g15 z.1))))
                      · -- pc 55 .if_icmp .ne 7: no
                        refine And.intro (fun hh => absurd hh (by decide)) (fun _ => ?_)
                        refine Mt.conseq ((by have h := m_its sx p 2 (by omega) (by decide) 2 (by decide) (I 44) (I) J; rw [show sR (I 44) (I) = I from sR_self (I)] at h; exact h)) ?_
                        rintro _ _ _ ⟨rfl, rfl, rfl⟩
                        refine ⟨trivial, ?_, hS⟩
                        rw [hcp]
                        exact congrArg (fun x => some (Value.int x)) (ha.2.2 7 p (by decide) (by decide) hp)
          · -- pc 9 call X4_isKind false
            exact (nout_nin h3 g2).elim
        · -- pc 2 call X4_isOne false
          exact (nout_nin h1 g1).elim
      · -- pc 32 call X3_isKindOf false
        have e5 : I 44 (36 + 5 * p + 0) = I 6 p := ha.2.2 5 p (by decide) (by decide) hp
        have hk : ¬ kO (I 44 (36 + 5 * p + 0)) w := by have q := h5; rw [hcp] at q; rw [e5]; exact q
        refine And.intro (fun hh => absurd hh (by decide)) (fun _ => ?_)
        refine Mt.conseq (c_fnd2 _ _ _) ?_
        rintro _ _ _ ⟨rfl, rfl, rfl⟩
        refine ⟨trivial, _, rfl, ?_⟩
        refine Mt.of2 _ rfl (by decide +kernel) (Nat.le_of_ble_eq_true rfl) ?_
        refine GW.run kX4_as (fun _ => false) 78 0 rfl ?_
        refine Mt.conseq ((by have h := m_isOne sx (nI p) (I 44) (fnd I 2) J; rw [show sR (I 44) (fnd I 2) = fnd I 2 from sR_self (fnd I 2), e73] at h; exact h)) ?_
        rintro _ _ _ ⟨rfl, rfl, ⟨g1, rfl⟩ | ⟨g1, rfl⟩⟩
        · -- pc 2 call X4_isOne true
          refine And.intro (fun hh => absurd hh (by decide)) (fun _ => ?_)
          refine Mt.conseq (m_isKind _ _ _ _) ?_
          rintro _ _ _ ⟨rfl, rfl, ⟨g2, rfl⟩ | ⟨g2, rfl⟩⟩
          · -- pc 9 call X4_isKind true
            refine And.intro (fun _ => ?_) (fun hh => absurd hh (by decide))
            refine Mt.conseq ((by have h := m_its sx p 0 (by omega) (by decide) 0 (by decide) (I 44) (fnd I 2) J; rw [show sR (I 44) (fnd I 2) = fnd I 2 from sR_self (fnd I 2)] at h; exact h)) ?_
            rintro _ _ _ ⟨rfl, rfl, rfl⟩
            refine And.intro (fun g4 => ?_) (fun g4 => ?_)
            · -- pc 30 .ifCond .eq 28: yes
              exact absurd (show kO (I 44 (36 + 5 * p + 0)) w from Or.inr (Or.inl g4)) hk
            · -- pc 30 .ifCond .eq 28: no
              refine And.intro (fun g5 => ?_) (fun g5 => ?_)
              · -- pc 35 .if_icmp .eq 23: yes
                exact absurd (show kO (I 44 (36 + 5 * p + 0)) w from Or.inl g5) hk
              · -- pc 35 .if_icmp .eq 23: no
                refine And.intro (fun g6 => ?_) (fun g6 => ?_)
                · -- pc 40 .if_icmp .ne 8: yes
                  refine And.intro (fun g7 => ?_) (fun g7 => ?_)
                  · -- pc 50 .if_icmp .ne 12: yes
                    refine And.intro (fun _ => ?_) (fun hh => absurd hh (by decide))
                    refine Mt.conseq (m_fnd2 _ _ _) ?_
                    rintro _ _ _ ⟨rfl, rfl, rfl⟩
                    exact ⟨trivial, rfl, hS.found (by decide)⟩
                  · -- pc 50 .if_icmp .ne 12: no
                    refine And.intro (fun g9 => ?_) (fun g9 => ?_)
                    · -- pc 55 .if_icmp .ne 7: yes
                      refine And.intro (fun _ => ?_) (fun hh => absurd hh (by decide))
                      refine Mt.conseq (m_fnd2 _ _ _) ?_
                      rintro _ _ _ ⟨rfl, rfl, rfl⟩
                      exact ⟨trivial, rfl, hS.found (by decide)⟩
                    · -- pc 55 .if_icmp .ne 7: no
                      exact absurd (show kO (I 44 (36 + 5 * p + 0)) w from Or.inr (Or.inr (Or.inr ⟨g9, g7⟩))) hk
                · -- pc 40 .if_icmp .ne 8: no
                  refine And.intro (fun g11 => ?_) (fun g11 => ?_)
                  · -- pc 45 .if_icmp .eq 13: yes
                    exact absurd (show kO (I 44 (36 + 5 * p + 0)) w from Or.inr (Or.inr (Or.inl ⟨g11, g6⟩))) hk
                  · -- pc 45 .if_icmp .eq 13: no
                    refine And.intro (fun g12 => ?_) (fun g12 => ?_)
                    · -- pc 50 .if_icmp .ne 12: yes
                      refine And.intro (fun _ => ?_) (fun hh => absurd hh (by decide))
                      refine Mt.conseq (m_fnd2 _ _ _) ?_
                      rintro _ _ _ ⟨rfl, rfl, rfl⟩
                      exact ⟨trivial, rfl, hS.found (by decide)⟩
                    · -- pc 50 .if_icmp .ne 12: no
                      refine And.intro (fun g14 => ?_) (fun g14 => ?_)
                      · -- pc 55 .if_icmp .ne 7: yes
                        refine And.intro (fun _ => ?_) (fun hh => absurd hh (by decide))
                        refine Mt.conseq (m_fnd2 _ _ _) ?_
                        rintro _ _ _ ⟨rfl, rfl, rfl⟩
                        exact ⟨trivial, rfl, hS.found (by decide)⟩
                      · -- pc 55 .if_icmp .ne 7: no
                        exact absurd (show kO (I 44 (36 + 5 * p + 0)) w from Or.inr (Or.inr (Or.inr ⟨g14, g12⟩))) hk
          · -- pc 9 call X4_isKind false
            exact (nout_nin h3 g2).elim
        · -- pc 2 call X4_isOne false
          exact (nout_nin h1 g1).elim
