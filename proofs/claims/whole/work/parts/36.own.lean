/-! THE CLASS'S OWN SMALL METHODS -/
def fnd (I : Mm) (f : Nat) : Mm := na_set I 42 f (I 42 f + 1)
set_option maxRecDepth 100000 in
set_option maxHeartbeats 4000000 in
theorem c_fnd0 (sx : Nat × (Nat → Int32)) (I : Mm) (J : Ml) : Mt sx MX3_finding [.ref 0, .int (-1000000001)] I J (fun r I' J' => fnd I 0 = I' ∧ J = J' ∧ r = some (.int (-1000000001))) := by
  refine Mt.of2 _ rfl (by decide +kernel) (Nat.le_of_ble_eq_true rfl) ?_
  refine GW.run kX3_finding (fun _ => false) 49 0 rfl ?_
  refine Mt.conseq (c_outside _ _ _ _ _ _) ?_
  rintro _ _ _ ⟨rfl, rfl, ⟨h1, rfl⟩ | ⟨h1, rfl⟩⟩
  · -- pc 9 call X3_outside true
    refine And.intro (fun _ => ?_) (fun hh => absurd hh (by decide))
    exact absurd h1 (by decide)
  · -- pc 9 call X3_outside false
    refine And.intro (fun hh => absurd hh (by decide)) (fun _ => ?_)
    refine And.intro (by unfold vp_in; decide) ?_
    refine And.intro (by unfold vp_in; decide) ?_
    exact ⟨trivial, rfl, rfl, rfl⟩
set_option maxRecDepth 100000 in
set_option maxHeartbeats 4000000 in
theorem c_fnd1 (sx : Nat × (Nat → Int32)) (I : Mm) (J : Ml) : Mt sx MX3_finding [.ref 0, .int (-1000000002)] I J (fun r I' J' => fnd I 1 = I' ∧ J = J' ∧ r = some (.int (-1000000002))) := by
  refine Mt.of2 _ rfl (by decide +kernel) (Nat.le_of_ble_eq_true rfl) ?_
  refine GW.run kX3_finding (fun _ => false) 49 0 rfl ?_
  refine Mt.conseq (c_outside _ _ _ _ _ _) ?_
  rintro _ _ _ ⟨rfl, rfl, ⟨h1, rfl⟩ | ⟨h1, rfl⟩⟩
  · -- pc 9 call X3_outside true
    refine And.intro (fun _ => ?_) (fun hh => absurd hh (by decide))
    exact absurd h1 (by decide)
  · -- pc 9 call X3_outside false
    refine And.intro (fun hh => absurd hh (by decide)) (fun _ => ?_)
    refine And.intro (by unfold vp_in; decide) ?_
    refine And.intro (by unfold vp_in; decide) ?_
    exact ⟨trivial, rfl, rfl, rfl⟩
set_option maxRecDepth 100000 in
set_option maxHeartbeats 4000000 in
theorem c_fnd2 (sx : Nat × (Nat → Int32)) (I : Mm) (J : Ml) : Mt sx MX3_finding [.ref 0, .int (-1000000003)] I J (fun r I' J' => fnd I 2 = I' ∧ J = J' ∧ r = some (.int (-1000000003))) := by
  refine Mt.of2 _ rfl (by decide +kernel) (Nat.le_of_ble_eq_true rfl) ?_
  refine GW.run kX3_finding (fun _ => false) 49 0 rfl ?_
  refine Mt.conseq (c_outside _ _ _ _ _ _) ?_
  rintro _ _ _ ⟨rfl, rfl, ⟨h1, rfl⟩ | ⟨h1, rfl⟩⟩
  · -- pc 9 call X3_outside true
    refine And.intro (fun _ => ?_) (fun hh => absurd hh (by decide))
    exact absurd h1 (by decide)
  · -- pc 9 call X3_outside false
    refine And.intro (fun hh => absurd hh (by decide)) (fun _ => ?_)
    refine And.intro (by unfold vp_in; decide) ?_
    refine And.intro (by unfold vp_in; decide) ?_
    exact ⟨trivial, rfl, rfl, rfl⟩
set_option maxRecDepth 100000 in
set_option maxHeartbeats 4000000 in
theorem c_fnd3 (sx : Nat × (Nat → Int32)) (I : Mm) (J : Ml) : Mt sx MX3_finding [.ref 0, .int (-1000000004)] I J (fun r I' J' => fnd I 3 = I' ∧ J = J' ∧ r = some (.int (-1000000004))) := by
  refine Mt.of2 _ rfl (by decide +kernel) (Nat.le_of_ble_eq_true rfl) ?_
  refine GW.run kX3_finding (fun _ => false) 49 0 rfl ?_
  refine Mt.conseq (c_outside _ _ _ _ _ _) ?_
  rintro _ _ _ ⟨rfl, rfl, ⟨h1, rfl⟩ | ⟨h1, rfl⟩⟩
  · -- pc 9 call X3_outside true
    refine And.intro (fun _ => ?_) (fun hh => absurd hh (by decide))
    exact absurd h1 (by decide)
  · -- pc 9 call X3_outside false
    refine And.intro (fun hh => absurd hh (by decide)) (fun _ => ?_)
    refine And.intro (by unfold vp_in; decide) ?_
    refine And.intro (by unfold vp_in; decide) ?_
    exact ⟨trivial, rfl, rfl, rfl⟩
set_option maxRecDepth 100000 in
set_option maxHeartbeats 4000000 in
theorem c_fnd4 (sx : Nat × (Nat → Int32)) (I : Mm) (J : Ml) : Mt sx MX3_finding [.ref 0, .int (-1000000005)] I J (fun r I' J' => fnd I 4 = I' ∧ J = J' ∧ r = some (.int (-1000000005))) := by
  refine Mt.of2 _ rfl (by decide +kernel) (Nat.le_of_ble_eq_true rfl) ?_
  refine GW.run kX3_finding (fun _ => false) 49 0 rfl ?_
  refine Mt.conseq (c_outside _ _ _ _ _ _) ?_
  rintro _ _ _ ⟨rfl, rfl, ⟨h1, rfl⟩ | ⟨h1, rfl⟩⟩
  · -- pc 9 call X3_outside true
    refine And.intro (fun _ => ?_) (fun hh => absurd hh (by decide))
    exact absurd h1 (by decide)
  · -- pc 9 call X3_outside false
    refine And.intro (fun hh => absurd hh (by decide)) (fun _ => ?_)
    refine And.intro (by unfold vp_in; decide) ?_
    refine And.intro (by unfold vp_in; decide) ?_
    exact ⟨trivial, rfl, rfl, rfl⟩
set_option maxRecDepth 100000 in
set_option maxHeartbeats 4000000 in
theorem c_fnd5 (sx : Nat × (Nat → Int32)) (I : Mm) (J : Ml) : Mt sx MX3_finding [.ref 0, .int (-1000000006)] I J (fun r I' J' => fnd I 5 = I' ∧ J = J' ∧ r = some (.int (-1000000006))) := by
  refine Mt.of2 _ rfl (by decide +kernel) (Nat.le_of_ble_eq_true rfl) ?_
  refine GW.run kX3_finding (fun _ => false) 49 0 rfl ?_
  refine Mt.conseq (c_outside _ _ _ _ _ _) ?_
  rintro _ _ _ ⟨rfl, rfl, ⟨h1, rfl⟩ | ⟨h1, rfl⟩⟩
  · -- pc 9 call X3_outside true
    refine And.intro (fun _ => ?_) (fun hh => absurd hh (by decide))
    exact absurd h1 (by decide)
  · -- pc 9 call X3_outside false
    refine And.intro (fun hh => absurd hh (by decide)) (fun _ => ?_)
    refine And.intro (by unfold vp_in; decide) ?_
    refine And.intro (by unfold vp_in; decide) ?_
    exact ⟨trivial, rfl, rfl, rfl⟩
set_option maxRecDepth 100000 in
set_option maxHeartbeats 4000000 in
theorem c_fnd6 (sx : Nat × (Nat → Int32)) (I : Mm) (J : Ml) : Mt sx MX3_finding [.ref 0, .int (-1000000007)] I J (fun r I' J' => fnd I 6 = I' ∧ J = J' ∧ r = some (.int (-1000000007))) := by
  refine Mt.of2 _ rfl (by decide +kernel) (Nat.le_of_ble_eq_true rfl) ?_
  refine GW.run kX3_finding (fun _ => false) 49 0 rfl ?_
  refine Mt.conseq (c_outside _ _ _ _ _ _) ?_
  rintro _ _ _ ⟨rfl, rfl, ⟨h1, rfl⟩ | ⟨h1, rfl⟩⟩
  · -- pc 9 call X3_outside true
    refine And.intro (fun _ => ?_) (fun hh => absurd hh (by decide))
    exact absurd h1 (by decide)
  · -- pc 9 call X3_outside false
    refine And.intro (fun hh => absurd hh (by decide)) (fun _ => ?_)
    refine And.intro (by unfold vp_in; decide) ?_
    refine And.intro (by unfold vp_in; decide) ?_
    exact ⟨trivial, rfl, rfl, rfl⟩
set_option maxRecDepth 100000 in
set_option maxHeartbeats 4000000 in
theorem c_nobody (sx : Nat × (Nat → Int32)) (v : Int32) (I : Mm) (J : Ml) : Mt sx MX3_nobody [.ref 0, .int v] I J (na_b I J (outP v 0 (I 1 7 - 1))) := by
  refine Mt.of2 _ rfl (by decide +kernel) (Nat.le_of_ble_eq_true rfl) ?_
  refine GW.run kX3_nobody (fun _ => false) 39 0 rfl ?_
  refine Mt.conseq (c_outside _ _ _ _ _ _) ?_
  rintro _ _ _ ⟨rfl, rfl, ⟨h1, rfl⟩ | ⟨h1, rfl⟩⟩
  · -- pc 11 call X3_outside true
    exact ⟨na_nl_b1, rfl, rfl, Or.inl ⟨h1, rfl⟩⟩
  · -- pc 11 call X3_outside false
    exact ⟨na_nl_b0, rfl, rfl, Or.inr ⟨h1, rfl⟩⟩
def is8 (a : Nat) : Prop := na_nth na_lay a = some (.inl (0, 8))
set_option maxRecDepth 100000 in
set_option maxHeartbeats 4000000 in
theorem c_xch_2 (sx : Nat × (Nat → Int32)) (i v : Int32) (hi : vp_in i 8) (I : Mm) (J : Ml) : Mt sx MX3_exchange [.ref 2, .int i, .int v] I J (fun r I' J' => na_set I 2 i.toNatClampNeg v = I' ∧ J = J' ∧ r = some (.int (I 2 i.toNatClampNeg))) := by
  refine Mt.of2 _ rfl (by decide +kernel) (Nat.le_of_ble_eq_true rfl) ?_
  refine GW.run kX3_exchange (fun _ => false) 40 0 rfl ?_
  refine And.intro (hi) ?_
  refine And.intro (hi) ?_
  exact ⟨trivial, rfl, rfl, rfl⟩
set_option maxRecDepth 100000 in
set_option maxHeartbeats 4000000 in
theorem c_xch_3 (sx : Nat × (Nat → Int32)) (i v : Int32) (hi : vp_in i 8) (I : Mm) (J : Ml) : Mt sx MX3_exchange [.ref 3, .int i, .int v] I J (fun r I' J' => na_set I 3 i.toNatClampNeg v = I' ∧ J = J' ∧ r = some (.int (I 3 i.toNatClampNeg))) := by
  refine Mt.of2 _ rfl (by decide +kernel) (Nat.le_of_ble_eq_true rfl) ?_
  refine GW.run kX3_exchange (fun _ => false) 40 0 rfl ?_
  refine And.intro (hi) ?_
  refine And.intro (hi) ?_
  exact ⟨trivial, rfl, rfl, rfl⟩
set_option maxRecDepth 100000 in
set_option maxHeartbeats 4000000 in
theorem c_xch_4 (sx : Nat × (Nat → Int32)) (i v : Int32) (hi : vp_in i 8) (I : Mm) (J : Ml) : Mt sx MX3_exchange [.ref 4, .int i, .int v] I J (fun r I' J' => na_set I 4 i.toNatClampNeg v = I' ∧ J = J' ∧ r = some (.int (I 4 i.toNatClampNeg))) := by
  refine Mt.of2 _ rfl (by decide +kernel) (Nat.le_of_ble_eq_true rfl) ?_
  refine GW.run kX3_exchange (fun _ => false) 40 0 rfl ?_
  refine And.intro (hi) ?_
  refine And.intro (hi) ?_
  exact ⟨trivial, rfl, rfl, rfl⟩
set_option maxRecDepth 100000 in
set_option maxHeartbeats 4000000 in
theorem c_xch_5 (sx : Nat × (Nat → Int32)) (i v : Int32) (hi : vp_in i 8) (I : Mm) (J : Ml) : Mt sx MX3_exchange [.ref 5, .int i, .int v] I J (fun r I' J' => na_set I 5 i.toNatClampNeg v = I' ∧ J = J' ∧ r = some (.int (I 5 i.toNatClampNeg))) := by
  refine Mt.of2 _ rfl (by decide +kernel) (Nat.le_of_ble_eq_true rfl) ?_
  refine GW.run kX3_exchange (fun _ => false) 40 0 rfl ?_
  refine And.intro (hi) ?_
  refine And.intro (hi) ?_
  exact ⟨trivial, rfl, rfl, rfl⟩
set_option maxRecDepth 100000 in
set_option maxHeartbeats 4000000 in
theorem c_xch_6 (sx : Nat × (Nat → Int32)) (i v : Int32) (hi : vp_in i 8) (I : Mm) (J : Ml) : Mt sx MX3_exchange [.ref 6, .int i, .int v] I J (fun r I' J' => na_set I 6 i.toNatClampNeg v = I' ∧ J = J' ∧ r = some (.int (I 6 i.toNatClampNeg))) := by
  refine Mt.of2 _ rfl (by decide +kernel) (Nat.le_of_ble_eq_true rfl) ?_
  refine GW.run kX3_exchange (fun _ => false) 40 0 rfl ?_
  refine And.intro (hi) ?_
  refine And.intro (hi) ?_
  exact ⟨trivial, rfl, rfl, rfl⟩
set_option maxRecDepth 100000 in
set_option maxHeartbeats 4000000 in
theorem c_xch_7 (sx : Nat × (Nat → Int32)) (i v : Int32) (hi : vp_in i 8) (I : Mm) (J : Ml) : Mt sx MX3_exchange [.ref 7, .int i, .int v] I J (fun r I' J' => na_set I 7 i.toNatClampNeg v = I' ∧ J = J' ∧ r = some (.int (I 7 i.toNatClampNeg))) := by
  refine Mt.of2 _ rfl (by decide +kernel) (Nat.le_of_ble_eq_true rfl) ?_
  refine GW.run kX3_exchange (fun _ => false) 40 0 rfl ?_
  refine And.intro (hi) ?_
  refine And.intro (hi) ?_
  exact ⟨trivial, rfl, rfl, rfl⟩
set_option maxRecDepth 100000 in
set_option maxHeartbeats 4000000 in
theorem c_xch_8 (sx : Nat × (Nat → Int32)) (i v : Int32) (hi : vp_in i 8) (I : Mm) (J : Ml) : Mt sx MX3_exchange [.ref 8, .int i, .int v] I J (fun r I' J' => na_set I 8 i.toNatClampNeg v = I' ∧ J = J' ∧ r = some (.int (I 8 i.toNatClampNeg))) := by
  refine Mt.of2 _ rfl (by decide +kernel) (Nat.le_of_ble_eq_true rfl) ?_
  refine GW.run kX3_exchange (fun _ => false) 40 0 rfl ?_
  refine And.intro (hi) ?_
  refine And.intro (hi) ?_
  exact ⟨trivial, rfl, rfl, rfl⟩
set_option maxRecDepth 100000 in
set_option maxHeartbeats 4000000 in
theorem c_xch_9 (sx : Nat × (Nat → Int32)) (i v : Int32) (hi : vp_in i 8) (I : Mm) (J : Ml) : Mt sx MX3_exchange [.ref 9, .int i, .int v] I J (fun r I' J' => na_set I 9 i.toNatClampNeg v = I' ∧ J = J' ∧ r = some (.int (I 9 i.toNatClampNeg))) := by
  refine Mt.of2 _ rfl (by decide +kernel) (Nat.le_of_ble_eq_true rfl) ?_
  refine GW.run kX3_exchange (fun _ => false) 40 0 rfl ?_
  refine And.intro (hi) ?_
  refine And.intro (hi) ?_
  exact ⟨trivial, rfl, rfl, rfl⟩
set_option maxRecDepth 100000 in
set_option maxHeartbeats 4000000 in
theorem c_xch_10 (sx : Nat × (Nat → Int32)) (i v : Int32) (hi : vp_in i 8) (I : Mm) (J : Ml) : Mt sx MX3_exchange [.ref 10, .int i, .int v] I J (fun r I' J' => na_set I 10 i.toNatClampNeg v = I' ∧ J = J' ∧ r = some (.int (I 10 i.toNatClampNeg))) := by
  refine Mt.of2 _ rfl (by decide +kernel) (Nat.le_of_ble_eq_true rfl) ?_
  refine GW.run kX3_exchange (fun _ => false) 40 0 rfl ?_
  refine And.intro (hi) ?_
  refine And.intro (hi) ?_
  exact ⟨trivial, rfl, rfl, rfl⟩
set_option maxRecDepth 100000 in
set_option maxHeartbeats 4000000 in
theorem l_sum_2 (sx : Nat × (Nat → Int32)) (K : Nat) (hK : K ≤ 8) (I : Mm) (J : Ml) (Rt : Option Value → Mm → Ml → Prop) (hR : Rt (some (.int (sumI (I 2) K))) I J) : ∀ m n, n + m = K → GW sx (na_mi MX3_sum) Rt 4 [some (.ref 2), some (.int (nI K)), some (.int (sumI (I 2) n)), some (.int (nI n))] [] I J := by
  intro m
  induction m with
  | zero =>
    intro n hn
    obtain rfl : K = n := by omega
    have hz : nI K ≤ nI K := Int32.le_refl _
    refine GW.run kX3_sum (fun pc => Nat.beq pc 4) 51 4 rfl ?_
    refine And.intro (fun _ => ?_) (fun hh => absurd hz hh)
    exact ⟨trivial, hR⟩
  | succ m ih =>
    intro n hn
    have hz : ¬ nI K ≤ nI n := nI_ge (by omega) (by omega)
    have hz2 : ¬ Int32.ofNat 8 ≤ nI n := nI_ge (a := n) (b := 8) (by omega) (by omega)
    have hb7 : vp_in (nI n) 8 := vp_in_nI (by omega) (by omega)
    have hc := nI_clamp (n := n) (by omega)
    have ih := ih (n + 1) (by omega)
    refine GW.run kX3_sum (fun pc => Nat.beq pc 4) 51 4 rfl ?_
    refine And.intro (fun hh => absurd hh hz) (fun _ => ?_)
    refine And.intro (fun hh => absurd hh hz2) (fun _ => ?_)
    refine And.intro (hb7) ?_
    exact GW.weak ih ⟨rfl, rfl, by simp only [sumI, hc], by rw [nI_1], trivial⟩
set_option maxRecDepth 100000 in
set_option maxHeartbeats 4000000 in
theorem c_sum_2 (sx : Nat × (Nat → Int32)) (K : Nat) (hK : K ≤ 8) (I : Mm) (J : Ml) : Mt sx MX3_sum [.ref 2, .int (nI K)] I J (na_v I J (sumI (I 2) K)) := by
  refine Mt.of2 _ rfl (by decide +kernel) (Nat.le_of_ble_eq_true rfl) ?_
  refine GW.run kX3_sum (fun pc => Nat.beq pc 4) 51 0 rfl ?_
  exact l_sum_2 sx K hK I J _ ⟨rfl, rfl, rfl⟩ K 0 (by omega)
set_option maxRecDepth 100000 in
set_option maxHeartbeats 4000000 in
theorem l_sum_3 (sx : Nat × (Nat → Int32)) (K : Nat) (hK : K ≤ 8) (I : Mm) (J : Ml) (Rt : Option Value → Mm → Ml → Prop) (hR : Rt (some (.int (sumI (I 3) K))) I J) : ∀ m n, n + m = K → GW sx (na_mi MX3_sum) Rt 4 [some (.ref 3), some (.int (nI K)), some (.int (sumI (I 3) n)), some (.int (nI n))] [] I J := by
  intro m
  induction m with
  | zero =>
    intro n hn
    obtain rfl : K = n := by omega
    have hz : nI K ≤ nI K := Int32.le_refl _
    refine GW.run kX3_sum (fun pc => Nat.beq pc 4) 51 4 rfl ?_
    refine And.intro (fun _ => ?_) (fun hh => absurd hz hh)
    exact ⟨trivial, hR⟩
  | succ m ih =>
    intro n hn
    have hz : ¬ nI K ≤ nI n := nI_ge (by omega) (by omega)
    have hz2 : ¬ Int32.ofNat 8 ≤ nI n := nI_ge (a := n) (b := 8) (by omega) (by omega)
    have hb7 : vp_in (nI n) 8 := vp_in_nI (by omega) (by omega)
    have hc := nI_clamp (n := n) (by omega)
    have ih := ih (n + 1) (by omega)
    refine GW.run kX3_sum (fun pc => Nat.beq pc 4) 51 4 rfl ?_
    refine And.intro (fun hh => absurd hh hz) (fun _ => ?_)
    refine And.intro (fun hh => absurd hh hz2) (fun _ => ?_)
    refine And.intro (hb7) ?_
    exact GW.weak ih ⟨rfl, rfl, by simp only [sumI, hc], by rw [nI_1], trivial⟩
set_option maxRecDepth 100000 in
set_option maxHeartbeats 4000000 in
theorem c_sum_3 (sx : Nat × (Nat → Int32)) (K : Nat) (hK : K ≤ 8) (I : Mm) (J : Ml) : Mt sx MX3_sum [.ref 3, .int (nI K)] I J (na_v I J (sumI (I 3) K)) := by
  refine Mt.of2 _ rfl (by decide +kernel) (Nat.le_of_ble_eq_true rfl) ?_
  refine GW.run kX3_sum (fun pc => Nat.beq pc 4) 51 0 rfl ?_
  exact l_sum_3 sx K hK I J _ ⟨rfl, rfl, rfl⟩ K 0 (by omega)
set_option maxRecDepth 100000 in
set_option maxHeartbeats 4000000 in
theorem l_sum_4 (sx : Nat × (Nat → Int32)) (K : Nat) (hK : K ≤ 8) (I : Mm) (J : Ml) (Rt : Option Value → Mm → Ml → Prop) (hR : Rt (some (.int (sumI (I 4) K))) I J) : ∀ m n, n + m = K → GW sx (na_mi MX3_sum) Rt 4 [some (.ref 4), some (.int (nI K)), some (.int (sumI (I 4) n)), some (.int (nI n))] [] I J := by
  intro m
  induction m with
  | zero =>
    intro n hn
    obtain rfl : K = n := by omega
    have hz : nI K ≤ nI K := Int32.le_refl _
    refine GW.run kX3_sum (fun pc => Nat.beq pc 4) 51 4 rfl ?_
    refine And.intro (fun _ => ?_) (fun hh => absurd hz hh)
    exact ⟨trivial, hR⟩
  | succ m ih =>
    intro n hn
    have hz : ¬ nI K ≤ nI n := nI_ge (by omega) (by omega)
    have hz2 : ¬ Int32.ofNat 8 ≤ nI n := nI_ge (a := n) (b := 8) (by omega) (by omega)
    have hb7 : vp_in (nI n) 8 := vp_in_nI (by omega) (by omega)
    have hc := nI_clamp (n := n) (by omega)
    have ih := ih (n + 1) (by omega)
    refine GW.run kX3_sum (fun pc => Nat.beq pc 4) 51 4 rfl ?_
    refine And.intro (fun hh => absurd hh hz) (fun _ => ?_)
    refine And.intro (fun hh => absurd hh hz2) (fun _ => ?_)
    refine And.intro (hb7) ?_
    exact GW.weak ih ⟨rfl, rfl, by simp only [sumI, hc], by rw [nI_1], trivial⟩
set_option maxRecDepth 100000 in
set_option maxHeartbeats 4000000 in
theorem c_sum_4 (sx : Nat × (Nat → Int32)) (K : Nat) (hK : K ≤ 8) (I : Mm) (J : Ml) : Mt sx MX3_sum [.ref 4, .int (nI K)] I J (na_v I J (sumI (I 4) K)) := by
  refine Mt.of2 _ rfl (by decide +kernel) (Nat.le_of_ble_eq_true rfl) ?_
  refine GW.run kX3_sum (fun pc => Nat.beq pc 4) 51 0 rfl ?_
  exact l_sum_4 sx K hK I J _ ⟨rfl, rfl, rfl⟩ K 0 (by omega)
set_option maxRecDepth 100000 in
set_option maxHeartbeats 4000000 in
theorem l_sum_5 (sx : Nat × (Nat → Int32)) (K : Nat) (hK : K ≤ 8) (I : Mm) (J : Ml) (Rt : Option Value → Mm → Ml → Prop) (hR : Rt (some (.int (sumI (I 5) K))) I J) : ∀ m n, n + m = K → GW sx (na_mi MX3_sum) Rt 4 [some (.ref 5), some (.int (nI K)), some (.int (sumI (I 5) n)), some (.int (nI n))] [] I J := by
  intro m
  induction m with
  | zero =>
    intro n hn
    obtain rfl : K = n := by omega
    have hz : nI K ≤ nI K := Int32.le_refl _
    refine GW.run kX3_sum (fun pc => Nat.beq pc 4) 51 4 rfl ?_
    refine And.intro (fun _ => ?_) (fun hh => absurd hz hh)
    exact ⟨trivial, hR⟩
  | succ m ih =>
    intro n hn
    have hz : ¬ nI K ≤ nI n := nI_ge (by omega) (by omega)
    have hz2 : ¬ Int32.ofNat 8 ≤ nI n := nI_ge (a := n) (b := 8) (by omega) (by omega)
    have hb7 : vp_in (nI n) 8 := vp_in_nI (by omega) (by omega)
    have hc := nI_clamp (n := n) (by omega)
    have ih := ih (n + 1) (by omega)
    refine GW.run kX3_sum (fun pc => Nat.beq pc 4) 51 4 rfl ?_
    refine And.intro (fun hh => absurd hh hz) (fun _ => ?_)
    refine And.intro (fun hh => absurd hh hz2) (fun _ => ?_)
    refine And.intro (hb7) ?_
    exact GW.weak ih ⟨rfl, rfl, by simp only [sumI, hc], by rw [nI_1], trivial⟩
set_option maxRecDepth 100000 in
set_option maxHeartbeats 4000000 in
theorem c_sum_5 (sx : Nat × (Nat → Int32)) (K : Nat) (hK : K ≤ 8) (I : Mm) (J : Ml) : Mt sx MX3_sum [.ref 5, .int (nI K)] I J (na_v I J (sumI (I 5) K)) := by
  refine Mt.of2 _ rfl (by decide +kernel) (Nat.le_of_ble_eq_true rfl) ?_
  refine GW.run kX3_sum (fun pc => Nat.beq pc 4) 51 0 rfl ?_
  exact l_sum_5 sx K hK I J _ ⟨rfl, rfl, rfl⟩ K 0 (by omega)
set_option maxRecDepth 100000 in
set_option maxHeartbeats 4000000 in
theorem l_sum_8 (sx : Nat × (Nat → Int32)) (K : Nat) (hK : K ≤ 8) (I : Mm) (J : Ml) (Rt : Option Value → Mm → Ml → Prop) (hR : Rt (some (.int (sumI (I 8) K))) I J) : ∀ m n, n + m = K → GW sx (na_mi MX3_sum) Rt 4 [some (.ref 8), some (.int (nI K)), some (.int (sumI (I 8) n)), some (.int (nI n))] [] I J := by
  intro m
  induction m with
  | zero =>
    intro n hn
    obtain rfl : K = n := by omega
    have hz : nI K ≤ nI K := Int32.le_refl _
    refine GW.run kX3_sum (fun pc => Nat.beq pc 4) 51 4 rfl ?_
    refine And.intro (fun _ => ?_) (fun hh => absurd hz hh)
    exact ⟨trivial, hR⟩
  | succ m ih =>
    intro n hn
    have hz : ¬ nI K ≤ nI n := nI_ge (by omega) (by omega)
    have hz2 : ¬ Int32.ofNat 8 ≤ nI n := nI_ge (a := n) (b := 8) (by omega) (by omega)
    have hb7 : vp_in (nI n) 8 := vp_in_nI (by omega) (by omega)
    have hc := nI_clamp (n := n) (by omega)
    have ih := ih (n + 1) (by omega)
    refine GW.run kX3_sum (fun pc => Nat.beq pc 4) 51 4 rfl ?_
    refine And.intro (fun hh => absurd hh hz) (fun _ => ?_)
    refine And.intro (fun hh => absurd hh hz2) (fun _ => ?_)
    refine And.intro (hb7) ?_
    exact GW.weak ih ⟨rfl, rfl, by simp only [sumI, hc], by rw [nI_1], trivial⟩
set_option maxRecDepth 100000 in
set_option maxHeartbeats 4000000 in
theorem c_sum_8 (sx : Nat × (Nat → Int32)) (K : Nat) (hK : K ≤ 8) (I : Mm) (J : Ml) : Mt sx MX3_sum [.ref 8, .int (nI K)] I J (na_v I J (sumI (I 8) K)) := by
  refine Mt.of2 _ rfl (by decide +kernel) (Nat.le_of_ble_eq_true rfl) ?_
  refine GW.run kX3_sum (fun pc => Nat.beq pc 4) 51 0 rfl ?_
  exact l_sum_8 sx K hK I J _ ⟨rfl, rfl, rfl⟩ K 0 (by omega)
set_option maxRecDepth 100000 in
set_option maxHeartbeats 4000000 in
theorem l_sum_22 (sx : Nat × (Nat → Int32)) (K : Nat) (hK : K ≤ 8) (I : Mm) (J : Ml) (Rt : Option Value → Mm → Ml → Prop) (hR : Rt (some (.int (sumI (I 22) K))) I J) : ∀ m n, n + m = K → GW sx (na_mi MX3_sum) Rt 4 [some (.ref 22), some (.int (nI K)), some (.int (sumI (I 22) n)), some (.int (nI n))] [] I J := by
  intro m
  induction m with
  | zero =>
    intro n hn
    obtain rfl : K = n := by omega
    have hz : nI K ≤ nI K := Int32.le_refl _
    refine GW.run kX3_sum (fun pc => Nat.beq pc 4) 51 4 rfl ?_
    refine And.intro (fun _ => ?_) (fun hh => absurd hz hh)
    exact ⟨trivial, hR⟩
  | succ m ih =>
    intro n hn
    have hz : ¬ nI K ≤ nI n := nI_ge (by omega) (by omega)
    have hz2 : ¬ Int32.ofNat 8 ≤ nI n := nI_ge (a := n) (b := 8) (by omega) (by omega)
    have hb7 : vp_in (nI n) 8 := vp_in_nI (by omega) (by omega)
    have hc := nI_clamp (n := n) (by omega)
    have ih := ih (n + 1) (by omega)
    refine GW.run kX3_sum (fun pc => Nat.beq pc 4) 51 4 rfl ?_
    refine And.intro (fun hh => absurd hh hz) (fun _ => ?_)
    refine And.intro (fun hh => absurd hh hz2) (fun _ => ?_)
    refine And.intro (hb7) ?_
    exact GW.weak ih ⟨rfl, rfl, by simp only [sumI, hc], by rw [nI_1], trivial⟩
set_option maxRecDepth 100000 in
set_option maxHeartbeats 4000000 in
theorem c_sum_22 (sx : Nat × (Nat → Int32)) (K : Nat) (hK : K ≤ 8) (I : Mm) (J : Ml) : Mt sx MX3_sum [.ref 22, .int (nI K)] I J (na_v I J (sumI (I 22) K)) := by
  refine Mt.of2 _ rfl (by decide +kernel) (Nat.le_of_ble_eq_true rfl) ?_
  refine GW.run kX3_sum (fun pc => Nat.beq pc 4) 51 0 rfl ?_
  exact l_sum_22 sx K hK I J _ ⟨rfl, rfl, rfl⟩ K 0 (by omega)
set_option maxRecDepth 100000 in
set_option maxHeartbeats 4000000 in
theorem l_sum_42 (sx : Nat × (Nat → Int32)) (K : Nat) (hK : K ≤ 7) (I : Mm) (J : Ml) (Rt : Option Value → Mm → Ml → Prop) (hR : Rt (some (.int (sumI (I 42) K))) I J) : ∀ m n, n + m = K → GW sx (na_mi MX3_sum) Rt 4 [some (.ref 42), some (.int (nI K)), some (.int (sumI (I 42) n)), some (.int (nI n))] [] I J := by
  intro m
  induction m with
  | zero =>
    intro n hn
    obtain rfl : K = n := by omega
    have hz : nI K ≤ nI K := Int32.le_refl _
    refine GW.run kX3_sum (fun pc => Nat.beq pc 4) 51 4 rfl ?_
    refine And.intro (fun _ => ?_) (fun hh => absurd hz hh)
    exact ⟨trivial, hR⟩
  | succ m ih =>
    intro n hn
    have hz : ¬ nI K ≤ nI n := nI_ge (by omega) (by omega)
    have hz2 : ¬ Int32.ofNat 7 ≤ nI n := nI_ge (a := n) (b := 7) (by omega) (by omega)
    have hb7 : vp_in (nI n) 7 := vp_in_nI (by omega) (by omega)
    have hc := nI_clamp (n := n) (by omega)
    have ih := ih (n + 1) (by omega)
    refine GW.run kX3_sum (fun pc => Nat.beq pc 4) 51 4 rfl ?_
    refine And.intro (fun hh => absurd hh hz) (fun _ => ?_)
    refine And.intro (fun hh => absurd hh hz2) (fun _ => ?_)
    refine And.intro (hb7) ?_
    exact GW.weak ih ⟨rfl, rfl, by simp only [sumI, hc], by rw [nI_1], trivial⟩
set_option maxRecDepth 100000 in
set_option maxHeartbeats 4000000 in
theorem c_sum_42 (sx : Nat × (Nat → Int32)) (K : Nat) (hK : K ≤ 7) (I : Mm) (J : Ml) : Mt sx MX3_sum [.ref 42, .int (nI K)] I J (na_v I J (sumI (I 42) K)) := by
  refine Mt.of2 _ rfl (by decide +kernel) (Nat.le_of_ble_eq_true rfl) ?_
  refine GW.run kX3_sum (fun pc => Nat.beq pc 4) 51 0 rfl ?_
  exact l_sum_42 sx K hK I J _ ⟨rfl, rfl, rfl⟩ K 0 (by omega)
def uK (a w : Nat) : Bool := a == w || (w == 0) || (a == 4 && w == 1) || (a == 5 && w == 2)
set_option maxRecDepth 100000 in
set_option maxHeartbeats 4000000 in
theorem c_sah (sx : Nat × (Nat → Int32)) (P : Nat) (hP8 : P ≤ 8) (I : Mm) (hP : I 1 7 = nI P) (J : Ml) : Mt sx MX3_startAhead [.ref 0] I J (fun r I' J' => (∃ M, pN 21 M I = I' ∧ Agr P M (gN 1 I)) ∧ J = J' ∧ r = some (.ref 21)) := by
  refine Mt.of2 _ rfl (by decide +kernel) (Nat.le_of_ble_eq_true rfl) ?_
  refine GW.run kX3_startAhead (fun _ => false) 38 0 rfl ?_
  refine Mt.conseq (c_bec_21_1 _ P hP8 I hP _) ?_
  rintro _ _ _ ⟨⟨_, rfl, h1⟩, rfl, rfl⟩
  exact ⟨⟨_, rfl, h1⟩, rfl, rfl⟩
