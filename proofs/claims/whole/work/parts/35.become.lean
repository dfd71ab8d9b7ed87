/-! BECOME -/
/-- M is as B is, in all that is told of a night of P people -/
def Agr (P : Nat) (M B : Mm) : Prop := (∀ j, 4 ≤ j → j < 8 → M 0 j = B 0 j) ∧ (∀ k j, 1 ≤ k → k < 5 → j < 8 → M k j = B k j) ∧ ∀ k j, 5 ≤ k → k < 10 → j < P → M k j = B k j
theorem pN_of {nb : Nat} {F I : Mm} (h : ∀ a, ¬ (nb ≤ a ∧ a ≤ nb + 9) → F a = I a) : pN nb (gN nb F) I = F := by
  funext a
  by_cases ha : nb ≤ a ∧ a ≤ nb + 9
  · rw [pN_in ha, gN_in (by omega), show nb + (a - nb) = a by omega]
  · rw [pN_out ha, h a ha]
def bcA (nb ob : Nat) (I : Mm) (w : Nat) : Mm := na_cpI I (ob + 1 + w) (nb + 1 + w) 0 0 8
def bcB (P nb ob : Nat) (I : Mm) (w : Nat) : Mm := na_cpI I (ob + 5 + w) (nb + 5 + w) 0 0 P
def bcS (nb ob : Nat) (I : Mm) : Mm := na_set (na_set (na_set (na_set I nb 4 (I ob 4)) nb 5 (I ob 5)) nb 6 (I ob 6)) nb 7 (I ob 7)
theorem z8 : (8 : Int32).toNatClampNeg = 8 := by decide
theorem z0 : (0 : Int32).toNatClampNeg = 0 := by decide
theorem bcP_21_1 (P : Nat) (I : Mm) (hP : I 1 7 = nI P) : ∀ w, w ≤ 5 → itN (bcB P 21 1) w (bcS 21 1 (itN (bcA 21 1) 4 I)) 21 7 = nI P := by
  intro w
  induction w with
  | zero =>
    intro _
    rw [← hP]
    rfl
  | succ w ih =>
    intro h
    rw [itN, bcB, na_cpI_off (by omega)]
    exact ih (by omega)
set_option maxRecDepth 100000 in
set_option maxHeartbeats 4000000 in
theorem l_bb21_1_5 (sx : Nat × (Nat → Int32)) (P : Nat) (hP8 : P ≤ 8) (I : Mm) (hP : I 1 7 = nI P) (J : Ml) (Rt : Option Value → Mm → Ml → Prop) (hR : Rt none (itN (bcB P 21 1) 5 (bcS 21 1 (itN (bcA 21 1) 4 I))) J) : GW sx (na_mi MX0_become) Rt 64 [some (.ref 21), some (.ref 1), some (.int 5)] [] (itN (bcB P 21 1) 5 (bcS 21 1 (itN (bcA 21 1) 4 I))) J := by
  have hc := nI_clamp (n := P) (by omega)
  have hcp : ¬ (0 : Int32) < 0 ∧ ¬ (0 : Int32) < 0 ∧ ¬ nI P < 0 ∧ (0 : Int32).toNatClampNeg + (nI P).toNatClampNeg ≤ 8 ∧ (0 : Int32).toNatClampNeg + (nI P).toNatClampNeg ≤ 8 := by
    rw [hc, z0]
    exact ⟨by decide, by decide, nI_pos (by omega), by omega, by omega⟩
  refine GW.run kX0_become (fun pc => Nat.beq pc 2 || Nat.beq pc 64) 82 35 rfl ?_
  refine And.intro (fun _ => ?_) (fun hh => absurd hh (by decide))
  exact hR
set_option maxRecDepth 100000 in
set_option maxHeartbeats 4000000 in
theorem l_bb21_1_4 (sx : Nat × (Nat → Int32)) (P : Nat) (hP8 : P ≤ 8) (I : Mm) (hP : I 1 7 = nI P) (J : Ml) (Rt : Option Value → Mm → Ml → Prop) (hR : Rt none (itN (bcB P 21 1) 5 (bcS 21 1 (itN (bcA 21 1) 4 I))) J) : GW sx (na_mi MX0_become) Rt 64 [some (.ref 21), some (.ref 1), some (.int 4)] [] (itN (bcB P 21 1) 4 (bcS 21 1 (itN (bcA 21 1) 4 I))) J := by
  have hc := nI_clamp (n := P) (by omega)
  have hcp : ¬ (0 : Int32) < 0 ∧ ¬ (0 : Int32) < 0 ∧ ¬ nI P < 0 ∧ (0 : Int32).toNatClampNeg + (nI P).toNatClampNeg ≤ 8 ∧ (0 : Int32).toNatClampNeg + (nI P).toNatClampNeg ≤ 8 := by
    rw [hc, z0]
    exact ⟨by decide, by decide, nI_pos (by omega), by omega, by omega⟩
  have hp7 : (itN (bcB P 21 1) 4 (bcS 21 1 (itN (bcA 21 1) 4 I))) 21 7 = nI P := bcP_21_1 P I hP 4 (by decide)
  have hcq := hcp
  rw [← hp7] at hcq
  refine GW.run kX0_become (fun pc => Nat.beq pc 2 || Nat.beq pc 64) 82 35 rfl ?_
  refine And.intro (fun hh => absurd hh (by decide)) (fun _ => ?_)
  refine Mt.conseq (c_rop _ _ (by decide) 4 (by decide) _ (by decide) _ _) ?_
  rintro _ _ _ ⟨rfl, rfl, rfl⟩
  refine Mt.conseq (c_rop _ _ (by decide) 4 (by decide) _ (by decide) _ _) ?_
  rintro _ _ _ ⟨rfl, rfl, rfl⟩
  refine And.intro (hcq) ?_
  refine GW.weak (GW.eqI ?_ (l_bb21_1_5 sx P hP8 I hP J Rt hR)) ⟨rfl, rfl, by decide, trivial⟩
  refine Eq.trans ?_ (show bcB P 21 1 (itN (bcB P 21 1) 4 (bcS 21 1 (itN (bcA 21 1) 4 I))) 4 = _ from rfl)
  rw [bcB, ← hc, ← hp7]
  rfl
set_option maxRecDepth 100000 in
set_option maxHeartbeats 4000000 in
theorem l_bb21_1_3 (sx : Nat × (Nat → Int32)) (P : Nat) (hP8 : P ≤ 8) (I : Mm) (hP : I 1 7 = nI P) (J : Ml) (Rt : Option Value → Mm → Ml → Prop) (hR : Rt none (itN (bcB P 21 1) 5 (bcS 21 1 (itN (bcA 21 1) 4 I))) J) : GW sx (na_mi MX0_become) Rt 64 [some (.ref 21), some (.ref 1), some (.int 3)] [] (itN (bcB P 21 1) 3 (bcS 21 1 (itN (bcA 21 1) 4 I))) J := by
  have hc := nI_clamp (n := P) (by omega)
  have hcp : ¬ (0 : Int32) < 0 ∧ ¬ (0 : Int32) < 0 ∧ ¬ nI P < 0 ∧ (0 : Int32).toNatClampNeg + (nI P).toNatClampNeg ≤ 8 ∧ (0 : Int32).toNatClampNeg + (nI P).toNatClampNeg ≤ 8 := by
    rw [hc, z0]
    exact ⟨by decide, by decide, nI_pos (by omega), by omega, by omega⟩
  have hp7 : (itN (bcB P 21 1) 3 (bcS 21 1 (itN (bcA 21 1) 4 I))) 21 7 = nI P := bcP_21_1 P I hP 3 (by decide)
  have hcq := hcp
  rw [← hp7] at hcq
  refine GW.run kX0_become (fun pc => Nat.beq pc 2 || Nat.beq pc 64) 82 35 rfl ?_
  refine And.intro (fun hh => absurd hh (by decide)) (fun _ => ?_)
  refine Mt.conseq (c_rop _ _ (by decide) 3 (by decide) _ (by decide) _ _) ?_
  rintro _ _ _ ⟨rfl, rfl, rfl⟩
  refine Mt.conseq (c_rop _ _ (by decide) 3 (by decide) _ (by decide) _ _) ?_
  rintro _ _ _ ⟨rfl, rfl, rfl⟩
  refine And.intro (hcq) ?_
  refine GW.weak (GW.eqI ?_ (l_bb21_1_4 sx P hP8 I hP J Rt hR)) ⟨rfl, rfl, by decide, trivial⟩
  refine Eq.trans ?_ (show bcB P 21 1 (itN (bcB P 21 1) 3 (bcS 21 1 (itN (bcA 21 1) 4 I))) 3 = _ from rfl)
  rw [bcB, ← hc, ← hp7]
  rfl
set_option maxRecDepth 100000 in
set_option maxHeartbeats 4000000 in
theorem l_bb21_1_2 (sx : Nat × (Nat → Int32)) (P : Nat) (hP8 : P ≤ 8) (I : Mm) (hP : I 1 7 = nI P) (J : Ml) (Rt : Option Value → Mm → Ml → Prop) (hR : Rt none (itN (bcB P 21 1) 5 (bcS 21 1 (itN (bcA 21 1) 4 I))) J) : GW sx (na_mi MX0_become) Rt 64 [some (.ref 21), some (.ref 1), some (.int 2)] [] (itN (bcB P 21 1) 2 (bcS 21 1 (itN (bcA 21 1) 4 I))) J := by
  have hc := nI_clamp (n := P) (by omega)
  have hcp : ¬ (0 : Int32) < 0 ∧ ¬ (0 : Int32) < 0 ∧ ¬ nI P < 0 ∧ (0 : Int32).toNatClampNeg + (nI P).toNatClampNeg ≤ 8 ∧ (0 : Int32).toNatClampNeg + (nI P).toNatClampNeg ≤ 8 := by
    rw [hc, z0]
    exact ⟨by decide, by decide, nI_pos (by omega), by omega, by omega⟩
  have hp7 : (itN (bcB P 21 1) 2 (bcS 21 1 (itN (bcA 21 1) 4 I))) 21 7 = nI P := bcP_21_1 P I hP 2 (by decide)
  have hcq := hcp
  rw [← hp7] at hcq
  refine GW.run kX0_become (fun pc => Nat.beq pc 2 || Nat.beq pc 64) 82 35 rfl ?_
  refine And.intro (fun hh => absurd hh (by decide)) (fun _ => ?_)
  refine Mt.conseq (c_rop _ _ (by decide) 2 (by decide) _ (by decide) _ _) ?_
  rintro _ _ _ ⟨rfl, rfl, rfl⟩
  refine Mt.conseq (c_rop _ _ (by decide) 2 (by decide) _ (by decide) _ _) ?_
  rintro _ _ _ ⟨rfl, rfl, rfl⟩
  refine And.intro (hcq) ?_
  refine GW.weak (GW.eqI ?_ (l_bb21_1_3 sx P hP8 I hP J Rt hR)) ⟨rfl, rfl, by decide, trivial⟩
  refine Eq.trans ?_ (show bcB P 21 1 (itN (bcB P 21 1) 2 (bcS 21 1 (itN (bcA 21 1) 4 I))) 2 = _ from rfl)
  rw [bcB, ← hc, ← hp7]
  rfl
set_option maxRecDepth 100000 in
set_option maxHeartbeats 4000000 in
theorem l_bb21_1_1 (sx : Nat × (Nat → Int32)) (P : Nat) (hP8 : P ≤ 8) (I : Mm) (hP : I 1 7 = nI P) (J : Ml) (Rt : Option Value → Mm → Ml → Prop) (hR : Rt none (itN (bcB P 21 1) 5 (bcS 21 1 (itN (bcA 21 1) 4 I))) J) : GW sx (na_mi MX0_become) Rt 64 [some (.ref 21), some (.ref 1), some (.int 1)] [] (itN (bcB P 21 1) 1 (bcS 21 1 (itN (bcA 21 1) 4 I))) J := by
  have hc := nI_clamp (n := P) (by omega)
  have hcp : ¬ (0 : Int32) < 0 ∧ ¬ (0 : Int32) < 0 ∧ ¬ nI P < 0 ∧ (0 : Int32).toNatClampNeg + (nI P).toNatClampNeg ≤ 8 ∧ (0 : Int32).toNatClampNeg + (nI P).toNatClampNeg ≤ 8 := by
    rw [hc, z0]
    exact ⟨by decide, by decide, nI_pos (by omega), by omega, by omega⟩
  have hp7 : (itN (bcB P 21 1) 1 (bcS 21 1 (itN (bcA 21 1) 4 I))) 21 7 = nI P := bcP_21_1 P I hP 1 (by decide)
  have hcq := hcp
  rw [← hp7] at hcq
  refine GW.run kX0_become (fun pc => Nat.beq pc 2 || Nat.beq pc 64) 82 35 rfl ?_
  refine And.intro (fun hh => absurd hh (by decide)) (fun _ => ?_)
  refine Mt.conseq (c_rop _ _ (by decide) 1 (by decide) _ (by decide) _ _) ?_
  rintro _ _ _ ⟨rfl, rfl, rfl⟩
  refine Mt.conseq (c_rop _ _ (by decide) 1 (by decide) _ (by decide) _ _) ?_
  rintro _ _ _ ⟨rfl, rfl, rfl⟩
  refine And.intro (hcq) ?_
  refine GW.weak (GW.eqI ?_ (l_bb21_1_2 sx P hP8 I hP J Rt hR)) ⟨rfl, rfl, by decide, trivial⟩
  refine Eq.trans ?_ (show bcB P 21 1 (itN (bcB P 21 1) 1 (bcS 21 1 (itN (bcA 21 1) 4 I))) 1 = _ from rfl)
  rw [bcB, ← hc, ← hp7]
  rfl
set_option maxRecDepth 100000 in
set_option maxHeartbeats 4000000 in
theorem l_bb21_1_0 (sx : Nat × (Nat → Int32)) (P : Nat) (hP8 : P ≤ 8) (I : Mm) (hP : I 1 7 = nI P) (J : Ml) (Rt : Option Value → Mm → Ml → Prop) (hR : Rt none (itN (bcB P 21 1) 5 (bcS 21 1 (itN (bcA 21 1) 4 I))) J) : GW sx (na_mi MX0_become) Rt 64 [some (.ref 21), some (.ref 1), some (.int 0)] [] (itN (bcB P 21 1) 0 (bcS 21 1 (itN (bcA 21 1) 4 I))) J := by
  have hc := nI_clamp (n := P) (by omega)
  have hcp : ¬ (0 : Int32) < 0 ∧ ¬ (0 : Int32) < 0 ∧ ¬ nI P < 0 ∧ (0 : Int32).toNatClampNeg + (nI P).toNatClampNeg ≤ 8 ∧ (0 : Int32).toNatClampNeg + (nI P).toNatClampNeg ≤ 8 := by
    rw [hc, z0]
    exact ⟨by decide, by decide, nI_pos (by omega), by omega, by omega⟩
  have hp7 : (itN (bcB P 21 1) 0 (bcS 21 1 (itN (bcA 21 1) 4 I))) 21 7 = nI P := bcP_21_1 P I hP 0 (by decide)
  have hcq := hcp
  rw [← hp7] at hcq
  refine GW.run kX0_become (fun pc => Nat.beq pc 2 || Nat.beq pc 64) 82 35 rfl ?_
  refine And.intro (fun hh => absurd hh (by decide)) (fun _ => ?_)
  refine Mt.conseq (c_rop _ _ (by decide) 0 (by decide) _ (by decide) _ _) ?_
  rintro _ _ _ ⟨rfl, rfl, rfl⟩
  refine Mt.conseq (c_rop _ _ (by decide) 0 (by decide) _ (by decide) _ _) ?_
  rintro _ _ _ ⟨rfl, rfl, rfl⟩
  refine And.intro (hcq) ?_
  refine GW.weak (GW.eqI ?_ (l_bb21_1_1 sx P hP8 I hP J Rt hR)) ⟨rfl, rfl, by decide, trivial⟩
  refine Eq.trans ?_ (show bcB P 21 1 (itN (bcB P 21 1) 0 (bcS 21 1 (itN (bcA 21 1) 4 I))) 0 = _ from rfl)
  rw [bcB, ← hc, ← hp7]
  rfl
set_option maxRecDepth 100000 in
set_option maxHeartbeats 4000000 in
theorem l_ba21_1_4 (sx : Nat × (Nat → Int32)) (P : Nat) (hP8 : P ≤ 8) (I : Mm) (hP : I 1 7 = nI P) (J : Ml) (Rt : Option Value → Mm → Ml → Prop) (hR : Rt none (itN (bcB P 21 1) 5 (bcS 21 1 (itN (bcA 21 1) 4 I))) J) : GW sx (na_mi MX0_become) Rt 2 [some (.ref 21), some (.ref 1), some (.int 4)] [] (itN (bcA 21 1) 4 I) J := by
  refine GW.run kX0_become (fun pc => Nat.beq pc 2 || Nat.beq pc 64) 82 2 rfl ?_
  refine And.intro (fun _ => ?_) (fun hh => absurd hh (by decide))
  refine GW.weak (GW.eqI ?_ (l_bb21_1_0 sx P hP8 I hP J Rt hR)) ⟨rfl, rfl, rfl, trivial⟩
  rfl
set_option maxRecDepth 100000 in
set_option maxHeartbeats 4000000 in
theorem l_ba21_1_3 (sx : Nat × (Nat → Int32)) (P : Nat) (hP8 : P ≤ 8) (I : Mm) (hP : I 1 7 = nI P) (J : Ml) (Rt : Option Value → Mm → Ml → Prop) (hR : Rt none (itN (bcB P 21 1) 5 (bcS 21 1 (itN (bcA 21 1) 4 I))) J) : GW sx (na_mi MX0_become) Rt 2 [some (.ref 21), some (.ref 1), some (.int 3)] [] (itN (bcA 21 1) 3 I) J := by
  refine GW.run kX0_become (fun pc => Nat.beq pc 2 || Nat.beq pc 64) 82 2 rfl ?_
  refine And.intro (fun hh => absurd hh (by decide)) (fun _ => ?_)
  refine Mt.conseq (c_ror _ _ (by decide) 3 (by decide) _ (by decide) _ _) ?_
  rintro _ _ _ ⟨rfl, rfl, rfl⟩
  refine Mt.conseq (c_ror _ _ (by decide) 3 (by decide) _ (by decide) _ _) ?_
  rintro _ _ _ ⟨rfl, rfl, rfl⟩
  refine And.intro (⟨by decide, by decide, by decide, by decide, by decide⟩) ?_
  refine GW.weak (GW.eqI ?_ (l_ba21_1_4 sx P hP8 I hP J Rt hR)) ⟨rfl, rfl, by decide, trivial⟩
  refine Eq.trans ?_ (show bcA 21 1 (itN (bcA 21 1) 3 I) 3 = _ from rfl)
  rw [bcA, ← z8]
  rfl
set_option maxRecDepth 100000 in
set_option maxHeartbeats 4000000 in
theorem l_ba21_1_2 (sx : Nat × (Nat → Int32)) (P : Nat) (hP8 : P ≤ 8) (I : Mm) (hP : I 1 7 = nI P) (J : Ml) (Rt : Option Value → Mm → Ml → Prop) (hR : Rt none (itN (bcB P 21 1) 5 (bcS 21 1 (itN (bcA 21 1) 4 I))) J) : GW sx (na_mi MX0_become) Rt 2 [some (.ref 21), some (.ref 1), some (.int 2)] [] (itN (bcA 21 1) 2 I) J := by
  refine GW.run kX0_become (fun pc => Nat.beq pc 2 || Nat.beq pc 64) 82 2 rfl ?_
  refine And.intro (fun hh => absurd hh (by decide)) (fun _ => ?_)
  refine Mt.conseq (c_ror _ _ (by decide) 2 (by decide) _ (by decide) _ _) ?_
  rintro _ _ _ ⟨rfl, rfl, rfl⟩
  refine Mt.conseq (c_ror _ _ (by decide) 2 (by decide) _ (by decide) _ _) ?_
  rintro _ _ _ ⟨rfl, rfl, rfl⟩
  refine And.intro (⟨by decide, by decide, by decide, by decide, by decide⟩) ?_
  refine GW.weak (GW.eqI ?_ (l_ba21_1_3 sx P hP8 I hP J Rt hR)) ⟨rfl, rfl, by decide, trivial⟩
  refine Eq.trans ?_ (show bcA 21 1 (itN (bcA 21 1) 2 I) 2 = _ from rfl)
  rw [bcA, ← z8]
  rfl
set_option maxRecDepth 100000 in
set_option maxHeartbeats 4000000 in
theorem l_ba21_1_1 (sx : Nat × (Nat → Int32)) (P : Nat) (hP8 : P ≤ 8) (I : Mm) (hP : I 1 7 = nI P) (J : Ml) (Rt : Option Value → Mm → Ml → Prop) (hR : Rt none (itN (bcB P 21 1) 5 (bcS 21 1 (itN (bcA 21 1) 4 I))) J) : GW sx (na_mi MX0_become) Rt 2 [some (.ref 21), some (.ref 1), some (.int 1)] [] (itN (bcA 21 1) 1 I) J := by
  refine GW.run kX0_become (fun pc => Nat.beq pc 2 || Nat.beq pc 64) 82 2 rfl ?_
  refine And.intro (fun hh => absurd hh (by decide)) (fun _ => ?_)
  refine Mt.conseq (c_ror _ _ (by decide) 1 (by decide) _ (by decide) _ _) ?_
  rintro _ _ _ ⟨rfl, rfl, rfl⟩
  refine Mt.conseq (c_ror _ _ (by decide) 1 (by decide) _ (by decide) _ _) ?_
  rintro _ _ _ ⟨rfl, rfl, rfl⟩
  refine And.intro (⟨by decide, by decide, by decide, by decide, by decide⟩) ?_
  refine GW.weak (GW.eqI ?_ (l_ba21_1_2 sx P hP8 I hP J Rt hR)) ⟨rfl, rfl, by decide, trivial⟩
  refine Eq.trans ?_ (show bcA 21 1 (itN (bcA 21 1) 1 I) 1 = _ from rfl)
  rw [bcA, ← z8]
  rfl
set_option maxRecDepth 100000 in
set_option maxHeartbeats 4000000 in
theorem l_ba21_1_0 (sx : Nat × (Nat → Int32)) (P : Nat) (hP8 : P ≤ 8) (I : Mm) (hP : I 1 7 = nI P) (J : Ml) (Rt : Option Value → Mm → Ml → Prop) (hR : Rt none (itN (bcB P 21 1) 5 (bcS 21 1 (itN (bcA 21 1) 4 I))) J) : GW sx (na_mi MX0_become) Rt 2 [some (.ref 21), some (.ref 1), some (.int 0)] [] (itN (bcA 21 1) 0 I) J := by
  refine GW.run kX0_become (fun pc => Nat.beq pc 2 || Nat.beq pc 64) 82 2 rfl ?_
  refine And.intro (fun hh => absurd hh (by decide)) (fun _ => ?_)
  refine Mt.conseq (c_ror _ _ (by decide) 0 (by decide) _ (by decide) _ _) ?_
  rintro _ _ _ ⟨rfl, rfl, rfl⟩
  refine Mt.conseq (c_ror _ _ (by decide) 0 (by decide) _ (by decide) _ _) ?_
  rintro _ _ _ ⟨rfl, rfl, rfl⟩
  refine And.intro (⟨by decide, by decide, by decide, by decide, by decide⟩) ?_
  refine GW.weak (GW.eqI ?_ (l_ba21_1_1 sx P hP8 I hP J Rt hR)) ⟨rfl, rfl, by decide, trivial⟩
  refine Eq.trans ?_ (show bcA 21 1 (itN (bcA 21 1) 0 I) 0 = _ from rfl)
  rw [bcA, ← z8]
  rfl
theorem bcF_21_1 (P : Nat) (I : Mm) : (pN 21 (gN 21 (itN (bcB P 21 1) 5 (bcS 21 1 (itN (bcA 21 1) 4 I)))) I = itN (bcB P 21 1) 5 (bcS 21 1 (itN (bcA 21 1) 4 I))) ∧ Agr P (gN 21 (itN (bcB P 21 1) 5 (bcS 21 1 (itN (bcA 21 1) 4 I)))) (gN 1 I) := by
  refine ⟨pN_of ?_, ?_, ?_, ?_⟩
  · intro a ha
    simp (discharger := omega) only [itN, bcA, bcB, bcS, na_cpI_off, na_set_off]
  · intro j h1 h2
    obtain rfl | rfl | rfl | rfl : j = 4 ∨ j = 5 ∨ j = 6 ∨ j = 7 := by omega
    all_goals rfl
  · intro q j h1 h2 h3
    obtain rfl | rfl | rfl | rfl : q = 1 ∨ q = 2 ∨ q = 3 ∨ q = 4 := by omega
    all_goals exact (if_pos (c := 0 ≤ j ∧ j < 0 + 8) ⟨Nat.zero_le _, by omega⟩).trans (congrArg (I _) (by show 0 + (j - 0) = j; omega))
  · intro q j h1 h2 h3
    obtain rfl | rfl | rfl | rfl | rfl : q = 5 ∨ q = 6 ∨ q = 7 ∨ q = 8 ∨ q = 9 := by omega
    all_goals exact (if_pos (c := 0 ≤ j ∧ j < 0 + P) ⟨Nat.zero_le _, by omega⟩).trans (congrArg (I _) (by show 0 + (j - 0) = j; omega))
set_option maxRecDepth 100000 in
set_option maxHeartbeats 4000000 in
theorem c_bec_21_1 (sx : Nat × (Nat → Int32)) (P : Nat) (hP8 : P ≤ 8) (I : Mm) (hP : I 1 7 = nI P) (J : Ml) : Mt sx MX0_become [.ref 21, .ref 1] I J (fun r I' J' => (∃ M, pN 21 M I = I' ∧ Agr P M (gN 1 I)) ∧ J = J' ∧ r = none) := by
  refine Mt.of2 _ rfl (by decide +kernel) (Nat.le_of_ble_eq_true rfl) ?_
  refine GW.run kX0_become (fun pc => Nat.beq pc 2 || Nat.beq pc 64) 82 0 rfl ?_
  exact l_ba21_1_0 sx P hP8 I hP J _ ⟨⟨_, (bcF_21_1 P I).1, (bcF_21_1 P I).2⟩, rfl, rfl⟩
theorem bcP_1_21 (P : Nat) (I : Mm) (hP : I 21 7 = nI P) : ∀ w, w ≤ 5 → itN (bcB P 1 21) w (bcS 1 21 (itN (bcA 1 21) 4 I)) 1 7 = nI P := by
  intro w
  induction w with
  | zero =>
    intro _
    rw [← hP]
    rfl
  | succ w ih =>
    intro h
    rw [itN, bcB, na_cpI_off (by omega)]
    exact ih (by omega)
set_option maxRecDepth 100000 in
set_option maxHeartbeats 4000000 in
theorem l_bb1_21_5 (sx : Nat × (Nat → Int32)) (P : Nat) (hP8 : P ≤ 8) (I : Mm) (hP : I 21 7 = nI P) (J : Ml) (Rt : Option Value → Mm → Ml → Prop) (hR : Rt none (itN (bcB P 1 21) 5 (bcS 1 21 (itN (bcA 1 21) 4 I))) J) : GW sx (na_mi MX0_become) Rt 64 [some (.ref 1), some (.ref 21), some (.int 5)] [] (itN (bcB P 1 21) 5 (bcS 1 21 (itN (bcA 1 21) 4 I))) J := by
  have hc := nI_clamp (n := P) (by omega)
  have hcp : ¬ (0 : Int32) < 0 ∧ ¬ (0 : Int32) < 0 ∧ ¬ nI P < 0 ∧ (0 : Int32).toNatClampNeg + (nI P).toNatClampNeg ≤ 8 ∧ (0 : Int32).toNatClampNeg + (nI P).toNatClampNeg ≤ 8 := by
    rw [hc, z0]
    exact ⟨by decide, by decide, nI_pos (by omega), by omega, by omega⟩
  refine GW.run kX0_become (fun pc => Nat.beq pc 2 || Nat.beq pc 64) 82 35 rfl ?_
  refine And.intro (fun _ => ?_) (fun hh => absurd hh (by decide))
  exact hR
set_option maxRecDepth 100000 in
set_option maxHeartbeats 4000000 in
theorem l_bb1_21_4 (sx : Nat × (Nat → Int32)) (P : Nat) (hP8 : P ≤ 8) (I : Mm) (hP : I 21 7 = nI P) (J : Ml) (Rt : Option Value → Mm → Ml → Prop) (hR : Rt none (itN (bcB P 1 21) 5 (bcS 1 21 (itN (bcA 1 21) 4 I))) J) : GW sx (na_mi MX0_become) Rt 64 [some (.ref 1), some (.ref 21), some (.int 4)] [] (itN (bcB P 1 21) 4 (bcS 1 21 (itN (bcA 1 21) 4 I))) J := by
  have hc := nI_clamp (n := P) (by omega)
  have hcp : ¬ (0 : Int32) < 0 ∧ ¬ (0 : Int32) < 0 ∧ ¬ nI P < 0 ∧ (0 : Int32).toNatClampNeg + (nI P).toNatClampNeg ≤ 8 ∧ (0 : Int32).toNatClampNeg + (nI P).toNatClampNeg ≤ 8 := by
    rw [hc, z0]
    exact ⟨by decide, by decide, nI_pos (by omega), by omega, by omega⟩
  have hp7 : (itN (bcB P 1 21) 4 (bcS 1 21 (itN (bcA 1 21) 4 I))) 1 7 = nI P := bcP_1_21 P I hP 4 (by decide)
  have hcq := hcp
  rw [← hp7] at hcq
  refine GW.run kX0_become (fun pc => Nat.beq pc 2 || Nat.beq pc 64) 82 35 rfl ?_
  refine And.intro (fun hh => absurd hh (by decide)) (fun _ => ?_)
  refine Mt.conseq (c_rop _ _ (by decide) 4 (by decide) _ (by decide) _ _) ?_
  rintro _ _ _ ⟨rfl, rfl, rfl⟩
  refine Mt.conseq (c_rop _ _ (by decide) 4 (by decide) _ (by decide) _ _) ?_
  rintro _ _ _ ⟨rfl, rfl, rfl⟩
  refine And.intro (hcq) ?_
  refine GW.weak (GW.eqI ?_ (l_bb1_21_5 sx P hP8 I hP J Rt hR)) ⟨rfl, rfl, by decide, trivial⟩
  refine Eq.trans ?_ (show bcB P 1 21 (itN (bcB P 1 21) 4 (bcS 1 21 (itN (bcA 1 21) 4 I))) 4 = _ from rfl)
  rw [bcB, ← hc, ← hp7]
  rfl
set_option maxRecDepth 100000 in
set_option maxHeartbeats 4000000 in
theorem l_bb1_21_3 (sx : Nat × (Nat → Int32)) (P : Nat) (hP8 : P ≤ 8) (I : Mm) (hP : I 21 7 = nI P) (J : Ml) (Rt : Option Value → Mm → Ml → Prop) (hR : Rt none (itN (bcB P 1 21) 5 (bcS 1 21 (itN (bcA 1 21) 4 I))) J) : GW sx (na_mi MX0_become) Rt 64 [some (.ref 1), some (.ref 21), some (.int 3)] [] (itN (bcB P 1 21) 3 (bcS 1 21 (itN (bcA 1 21) 4 I))) J := by
  have hc := nI_clamp (n := P) (by omega)
  have hcp : ¬ (0 : Int32) < 0 ∧ ¬ (0 : Int32) < 0 ∧ ¬ nI P < 0 ∧ (0 : Int32).toNatClampNeg + (nI P).toNatClampNeg ≤ 8 ∧ (0 : Int32).toNatClampNeg + (nI P).toNatClampNeg ≤ 8 := by
    rw [hc, z0]
    exact ⟨by decide, by decide, nI_pos (by omega), by omega, by omega⟩
  have hp7 : (itN (bcB P 1 21) 3 (bcS 1 21 (itN (bcA 1 21) 4 I))) 1 7 = nI P := bcP_1_21 P I hP 3 (by decide)
  have hcq := hcp
  rw [← hp7] at hcq
  refine GW.run kX0_become (fun pc => Nat.beq pc 2 || Nat.beq pc 64) 82 35 rfl ?_
  refine And.intro (fun hh => absurd hh (by decide)) (fun _ => ?_)
  refine Mt.conseq (c_rop _ _ (by decide) 3 (by decide) _ (by decide) _ _) ?_
  rintro _ _ _ ⟨rfl, rfl, rfl⟩
  refine Mt.conseq (c_rop _ _ (by decide) 3 (by decide) _ (by decide) _ _) ?_
  rintro _ _ _ ⟨rfl, rfl, rfl⟩
  refine And.intro (hcq) ?_
  refine GW.weak (GW.eqI ?_ (l_bb1_21_4 sx P hP8 I hP J Rt hR)) ⟨rfl, rfl, by decide, trivial⟩
  refine Eq.trans ?_ (show bcB P 1 21 (itN (bcB P 1 21) 3 (bcS 1 21 (itN (bcA 1 21) 4 I))) 3 = _ from rfl)
  rw [bcB, ← hc, ← hp7]
  rfl
set_option maxRecDepth 100000 in
set_option maxHeartbeats 4000000 in
theorem l_bb1_21_2 (sx : Nat × (Nat → Int32)) (P : Nat) (hP8 : P ≤ 8) (I : Mm) (hP : I 21 7 = nI P) (J : Ml) (Rt : Option Value → Mm → Ml → Prop) (hR : Rt none (itN (bcB P 1 21) 5 (bcS 1 21 (itN (bcA 1 21) 4 I))) J) : GW sx (na_mi MX0_become) Rt 64 [some (.ref 1), some (.ref 21), some (.int 2)] [] (itN (bcB P 1 21) 2 (bcS 1 21 (itN (bcA 1 21) 4 I))) J := by
  have hc := nI_clamp (n := P) (by omega)
  have hcp : ¬ (0 : Int32) < 0 ∧ ¬ (0 : Int32) < 0 ∧ ¬ nI P < 0 ∧ (0 : Int32).toNatClampNeg + (nI P).toNatClampNeg ≤ 8 ∧ (0 : Int32).toNatClampNeg + (nI P).toNatClampNeg ≤ 8 := by
    rw [hc, z0]
    exact ⟨by decide, by decide, nI_pos (by omega), by omega, by omega⟩
  have hp7 : (itN (bcB P 1 21) 2 (bcS 1 21 (itN (bcA 1 21) 4 I))) 1 7 = nI P := bcP_1_21 P I hP 2 (by decide)
  have hcq := hcp
  rw [← hp7] at hcq
  refine GW.run kX0_become (fun pc => Nat.beq pc 2 || Nat.beq pc 64) 82 35 rfl ?_
  refine And.intro (fun hh => absurd hh (by decide)) (fun _ => ?_)
  refine Mt.conseq (c_rop _ _ (by decide) 2 (by decide) _ (by decide) _ _) ?_
  rintro _ _ _ ⟨rfl, rfl, rfl⟩
  refine Mt.conseq (c_rop _ _ (by decide) 2 (by decide) _ (by decide) _ _) ?_
  rintro _ _ _ ⟨rfl, rfl, rfl⟩
  refine And.intro (hcq) ?_
  refine GW.weak (GW.eqI ?_ (l_bb1_21_3 sx P hP8 I hP J Rt hR)) ⟨rfl, rfl, by decide, trivial⟩
  refine Eq.trans ?_ (show bcB P 1 21 (itN (bcB P 1 21) 2 (bcS 1 21 (itN (bcA 1 21) 4 I))) 2 = _ from rfl)
  rw [bcB, ← hc, ← hp7]
  rfl
set_option maxRecDepth 100000 in
set_option maxHeartbeats 4000000 in
theorem l_bb1_21_1 (sx : Nat × (Nat → Int32)) (P : Nat) (hP8 : P ≤ 8) (I : Mm) (hP : I 21 7 = nI P) (J : Ml) (Rt : Option Value → Mm → Ml → Prop) (hR : Rt none (itN (bcB P 1 21) 5 (bcS 1 21 (itN (bcA 1 21) 4 I))) J) : GW sx (na_mi MX0_become) Rt 64 [some (.ref 1), some (.ref 21), some (.int 1)] [] (itN (bcB P 1 21) 1 (bcS 1 21 (itN (bcA 1 21) 4 I))) J := by
  have hc := nI_clamp (n := P) (by omega)
  have hcp : ¬ (0 : Int32) < 0 ∧ ¬ (0 : Int32) < 0 ∧ ¬ nI P < 0 ∧ (0 : Int32).toNatClampNeg + (nI P).toNatClampNeg ≤ 8 ∧ (0 : Int32).toNatClampNeg + (nI P).toNatClampNeg ≤ 8 := by
    rw [hc, z0]
    exact ⟨by decide, by decide, nI_pos (by omega), by omega, by omega⟩
  have hp7 : (itN (bcB P 1 21) 1 (bcS 1 21 (itN (bcA 1 21) 4 I))) 1 7 = nI P := bcP_1_21 P I hP 1 (by decide)
  have hcq := hcp
  rw [← hp7] at hcq
  refine GW.run kX0_become (fun pc => Nat.beq pc 2 || Nat.beq pc 64) 82 35 rfl ?_
  refine And.intro (fun hh => absurd hh (by decide)) (fun _ => ?_)
  refine Mt.conseq (c_rop _ _ (by decide) 1 (by decide) _ (by decide) _ _) ?_
  rintro _ _ _ ⟨rfl, rfl, rfl⟩
  refine Mt.conseq (c_rop _ _ (by decide) 1 (by decide) _ (by decide) _ _) ?_
  rintro _ _ _ ⟨rfl, rfl, rfl⟩
  refine And.intro (hcq) ?_
  refine GW.weak (GW.eqI ?_ (l_bb1_21_2 sx P hP8 I hP J Rt hR)) ⟨rfl, rfl, by decide, trivial⟩
  refine Eq.trans ?_ (show bcB P 1 21 (itN (bcB P 1 21) 1 (bcS 1 21 (itN (bcA 1 21) 4 I))) 1 = _ from rfl)
  rw [bcB, ← hc, ← hp7]
  rfl
set_option maxRecDepth 100000 in
set_option maxHeartbeats 4000000 in
theorem l_bb1_21_0 (sx : Nat × (Nat → Int32)) (P : Nat) (hP8 : P ≤ 8) (I : Mm) (hP : I 21 7 = nI P) (J : Ml) (Rt : Option Value → Mm → Ml → Prop) (hR : Rt none (itN (bcB P 1 21) 5 (bcS 1 21 (itN (bcA 1 21) 4 I))) J) : GW sx (na_mi MX0_become) Rt 64 [some (.ref 1), some (.ref 21), some (.int 0)] [] (itN (bcB P 1 21) 0 (bcS 1 21 (itN (bcA 1 21) 4 I))) J := by
  have hc := nI_clamp (n := P) (by omega)
  have hcp : ¬ (0 : Int32) < 0 ∧ ¬ (0 : Int32) < 0 ∧ ¬ nI P < 0 ∧ (0 : Int32).toNatClampNeg + (nI P).toNatClampNeg ≤ 8 ∧ (0 : Int32).toNatClampNeg + (nI P).toNatClampNeg ≤ 8 := by
    rw [hc, z0]
    exact ⟨by decide, by decide, nI_pos (by omega), by omega, by omega⟩
  have hp7 : (itN (bcB P 1 21) 0 (bcS 1 21 (itN (bcA 1 21) 4 I))) 1 7 = nI P := bcP_1_21 P I hP 0 (by decide)
  have hcq := hcp
  rw [← hp7] at hcq
  refine GW.run kX0_become (fun pc => Nat.beq pc 2 || Nat.beq pc 64) 82 35 rfl ?_
  refine And.intro (fun hh => absurd hh (by decide)) (fun _ => ?_)
  refine Mt.conseq (c_rop _ _ (by decide) 0 (by decide) _ (by decide) _ _) ?_
  rintro _ _ _ ⟨rfl, rfl, rfl⟩
  refine Mt.conseq (c_rop _ _ (by decide) 0 (by decide) _ (by decide) _ _) ?_
  rintro _ _ _ ⟨rfl, rfl, rfl⟩
  refine And.intro (hcq) ?_
  refine GW.weak (GW.eqI ?_ (l_bb1_21_1 sx P hP8 I hP J Rt hR)) ⟨rfl, rfl, by decide, trivial⟩
  refine Eq.trans ?_ (show bcB P 1 21 (itN (bcB P 1 21) 0 (bcS 1 21 (itN (bcA 1 21) 4 I))) 0 = _ from rfl)
  rw [bcB, ← hc, ← hp7]
  rfl
set_option maxRecDepth 100000 in
set_option maxHeartbeats 4000000 in
theorem l_ba1_21_4 (sx : Nat × (Nat → Int32)) (P : Nat) (hP8 : P ≤ 8) (I : Mm) (hP : I 21 7 = nI P) (J : Ml) (Rt : Option Value → Mm → Ml → Prop) (hR : Rt none (itN (bcB P 1 21) 5 (bcS 1 21 (itN (bcA 1 21) 4 I))) J) : GW sx (na_mi MX0_become) Rt 2 [some (.ref 1), some (.ref 21), some (.int 4)] [] (itN (bcA 1 21) 4 I) J := by
  refine GW.run kX0_become (fun pc => Nat.beq pc 2 || Nat.beq pc 64) 82 2 rfl ?_
  refine And.intro (fun _ => ?_) (fun hh => absurd hh (by decide))
  refine GW.weak (GW.eqI ?_ (l_bb1_21_0 sx P hP8 I hP J Rt hR)) ⟨rfl, rfl, rfl, trivial⟩
  rfl
set_option maxRecDepth 100000 in
set_option maxHeartbeats 4000000 in
theorem l_ba1_21_3 (sx : Nat × (Nat → Int32)) (P : Nat) (hP8 : P ≤ 8) (I : Mm) (hP : I 21 7 = nI P) (J : Ml) (Rt : Option Value → Mm → Ml → Prop) (hR : Rt none (itN (bcB P 1 21) 5 (bcS 1 21 (itN (bcA 1 21) 4 I))) J) : GW sx (na_mi MX0_become) Rt 2 [some (.ref 1), some (.ref 21), some (.int 3)] [] (itN (bcA 1 21) 3 I) J := by
  refine GW.run kX0_become (fun pc => Nat.beq pc 2 || Nat.beq pc 64) 82 2 rfl ?_
  refine And.intro (fun hh => absurd hh (by decide)) (fun _ => ?_)
  refine Mt.conseq (c_ror _ _ (by decide) 3 (by decide) _ (by decide) _ _) ?_
  rintro _ _ _ ⟨rfl, rfl, rfl⟩
  refine Mt.conseq (c_ror _ _ (by decide) 3 (by decide) _ (by decide) _ _) ?_
  rintro _ _ _ ⟨rfl, rfl, rfl⟩
  refine And.intro (⟨by decide, by decide, by decide, by decide, by decide⟩) ?_
  refine GW.weak (GW.eqI ?_ (l_ba1_21_4 sx P hP8 I hP J Rt hR)) ⟨rfl, rfl, by decide, trivial⟩
  refine Eq.trans ?_ (show bcA 1 21 (itN (bcA 1 21) 3 I) 3 = _ from rfl)
  rw [bcA, ← z8]
  rfl
set_option maxRecDepth 100000 in
set_option maxHeartbeats 4000000 in
theorem l_ba1_21_2 (sx : Nat × (Nat → Int32)) (P : Nat) (hP8 : P ≤ 8) (I : Mm) (hP : I 21 7 = nI P) (J : Ml) (Rt : Option Value → Mm → Ml → Prop) (hR : Rt none (itN (bcB P 1 21) 5 (bcS 1 21 (itN (bcA 1 21) 4 I))) J) : GW sx (na_mi MX0_become) Rt 2 [some (.ref 1), some (.ref 21), some (.int 2)] [] (itN (bcA 1 21) 2 I) J := by
  refine GW.run kX0_become (fun pc => Nat.beq pc 2 || Nat.beq pc 64) 82 2 rfl ?_
  refine And.intro (fun hh => absurd hh (by decide)) (fun _ => ?_)
  refine Mt.conseq (c_ror _ _ (by decide) 2 (by decide) _ (by decide) _ _) ?_
  rintro _ _ _ ⟨rfl, rfl, rfl⟩
  refine Mt.conseq (c_ror _ _ (by decide) 2 (by decide) _ (by decide) _ _) ?_
  rintro _ _ _ ⟨rfl, rfl, rfl⟩
  refine And.intro (⟨by decide, by decide, by decide, by decide, by decide⟩) ?_
  refine GW.weak (GW.eqI ?_ (l_ba1_21_3 sx P hP8 I hP J Rt hR)) ⟨rfl, rfl, by decide, trivial⟩
  refine Eq.trans ?_ (show bcA 1 21 (itN (bcA 1 21) 2 I) 2 = _ from rfl)
  rw [bcA, ← z8]
  rfl
set_option maxRecDepth 100000 in
set_option maxHeartbeats 4000000 in
theorem l_ba1_21_1 (sx : Nat × (Nat → Int32)) (P : Nat) (hP8 : P ≤ 8) (I : Mm) (hP : I 21 7 = nI P) (J : Ml) (Rt : Option Value → Mm → Ml → Prop) (hR : Rt none (itN (bcB P 1 21) 5 (bcS 1 21 (itN (bcA 1 21) 4 I))) J) : GW sx (na_mi MX0_become) Rt 2 [some (.ref 1), some (.ref 21), some (.int 1)] [] (itN (bcA 1 21) 1 I) J := by
  refine GW.run kX0_become (fun pc => Nat.beq pc 2 || Nat.beq pc 64) 82 2 rfl ?_
  refine And.intro (fun hh => absurd hh (by decide)) (fun _ => ?_)
  refine Mt.conseq (c_ror _ _ (by decide) 1 (by decide) _ (by decide) _ _) ?_
  rintro _ _ _ ⟨rfl, rfl, rfl⟩
  refine Mt.conseq (c_ror _ _ (by decide) 1 (by decide) _ (by decide) _ _) ?_
  rintro _ _ _ ⟨rfl, rfl, rfl⟩
  refine And.intro (⟨by decide, by decide, by decide, by decide, by decide⟩) ?_
  refine GW.weak (GW.eqI ?_ (l_ba1_21_2 sx P hP8 I hP J Rt hR)) ⟨rfl, rfl, by decide, trivial⟩
  refine Eq.trans ?_ (show bcA 1 21 (itN (bcA 1 21) 1 I) 1 = _ from rfl)
  rw [bcA, ← z8]
  rfl
set_option maxRecDepth 100000 in
set_option maxHeartbeats 4000000 in
theorem l_ba1_21_0 (sx : Nat × (Nat → Int32)) (P : Nat) (hP8 : P ≤ 8) (I : Mm) (hP : I 21 7 = nI P) (J : Ml) (Rt : Option Value → Mm → Ml → Prop) (hR : Rt none (itN (bcB P 1 21) 5 (bcS 1 21 (itN (bcA 1 21) 4 I))) J) : GW sx (na_mi MX0_become) Rt 2 [some (.ref 1), some (.ref 21), some (.int 0)] [] (itN (bcA 1 21) 0 I) J := by
  refine GW.run kX0_become (fun pc => Nat.beq pc 2 || Nat.beq pc 64) 82 2 rfl ?_
  refine And.intro (fun hh => absurd hh (by decide)) (fun _ => ?_)
  refine Mt.conseq (c_ror _ _ (by decide) 0 (by decide) _ (by decide) _ _) ?_
  rintro _ _ _ ⟨rfl, rfl, rfl⟩
  refine Mt.conseq (c_ror _ _ (by decide) 0 (by decide) _ (by decide) _ _) ?_
  rintro _ _ _ ⟨rfl, rfl, rfl⟩
  refine And.intro (⟨by decide, by decide, by decide, by decide, by decide⟩) ?_
  refine GW.weak (GW.eqI ?_ (l_ba1_21_1 sx P hP8 I hP J Rt hR)) ⟨rfl, rfl, by decide, trivial⟩
  refine Eq.trans ?_ (show bcA 1 21 (itN (bcA 1 21) 0 I) 0 = _ from rfl)
  rw [bcA, ← z8]
  rfl
theorem bcF_1_21 (P : Nat) (I : Mm) : (pN 1 (gN 1 (itN (bcB P 1 21) 5 (bcS 1 21 (itN (bcA 1 21) 4 I)))) I = itN (bcB P 1 21) 5 (bcS 1 21 (itN (bcA 1 21) 4 I))) ∧ Agr P (gN 1 (itN (bcB P 1 21) 5 (bcS 1 21 (itN (bcA 1 21) 4 I)))) (gN 21 I) := by
  refine ⟨pN_of ?_, ?_, ?_, ?_⟩
  · intro a ha
    simp (discharger := omega) only [itN, bcA, bcB, bcS, na_cpI_off, na_set_off]
  · intro j h1 h2
    obtain rfl | rfl | rfl | rfl : j = 4 ∨ j = 5 ∨ j = 6 ∨ j = 7 := by omega
    all_goals rfl
  · intro q j h1 h2 h3
    obtain rfl | rfl | rfl | rfl : q = 1 ∨ q = 2 ∨ q = 3 ∨ q = 4 := by omega
    all_goals exact (if_pos (c := 0 ≤ j ∧ j < 0 + 8) ⟨Nat.zero_le _, by omega⟩).trans (congrArg (I _) (by show 0 + (j - 0) = j; omega))
  · intro q j h1 h2 h3
    obtain rfl | rfl | rfl | rfl | rfl : q = 5 ∨ q = 6 ∨ q = 7 ∨ q = 8 ∨ q = 9 := by omega
    all_goals exact (if_pos (c := 0 ≤ j ∧ j < 0 + P) ⟨Nat.zero_le _, by omega⟩).trans (congrArg (I _) (by show 0 + (j - 0) = j; omega))
set_option maxRecDepth 100000 in
set_option maxHeartbeats 4000000 in
theorem c_bec_1_21 (sx : Nat × (Nat → Int32)) (P : Nat) (hP8 : P ≤ 8) (I : Mm) (hP : I 21 7 = nI P) (J : Ml) : Mt sx MX0_become [.ref 1, .ref 21] I J (fun r I' J' => (∃ M, pN 1 M I = I' ∧ Agr P M (gN 21 I)) ∧ J = J' ∧ r = none) := by
  refine Mt.of2 _ rfl (by decide +kernel) (Nat.le_of_ble_eq_true rfl) ?_
  refine GW.run kX0_become (fun pc => Nat.beq pc 2 || Nat.beq pc 64) 82 0 rfl ?_
  exact l_ba1_21_0 sx P hP8 I hP J _ ⟨⟨_, (bcF_1_21 P I).1, (bcF_1_21 P I).2⟩, rfl, rfl⟩
theorem bcP_11_1 (P : Nat) (I : Mm) (hP : I 1 7 = nI P) : ∀ w, w ≤ 5 → itN (bcB P 11 1) w (bcS 11 1 (itN (bcA 11 1) 4 I)) 11 7 = nI P := by
  intro w
  induction w with
  | zero =>
    intro _
    rw [← hP]
    rfl
  | succ w ih =>
    intro h
    rw [itN, bcB, na_cpI_off (by omega)]
    exact ih (by omega)
set_option maxRecDepth 100000 in
set_option maxHeartbeats 4000000 in
theorem l_bb11_1_5 (sx : Nat × (Nat → Int32)) (P : Nat) (hP8 : P ≤ 8) (I : Mm) (hP : I 1 7 = nI P) (J : Ml) (Rt : Option Value → Mm → Ml → Prop) (hR : Rt none (itN (bcB P 11 1) 5 (bcS 11 1 (itN (bcA 11 1) 4 I))) J) : GW sx (na_mi MX0_become) Rt 64 [some (.ref 11), some (.ref 1), some (.int 5)] [] (itN (bcB P 11 1) 5 (bcS 11 1 (itN (bcA 11 1) 4 I))) J := by
  have hc := nI_clamp (n := P) (by omega)
  have hcp : ¬ (0 : Int32) < 0 ∧ ¬ (0 : Int32) < 0 ∧ ¬ nI P < 0 ∧ (0 : Int32).toNatClampNeg + (nI P).toNatClampNeg ≤ 8 ∧ (0 : Int32).toNatClampNeg + (nI P).toNatClampNeg ≤ 8 := by
    rw [hc, z0]
    exact ⟨by decide, by decide, nI_pos (by omega), by omega, by omega⟩
  refine GW.run kX0_become (fun pc => Nat.beq pc 2 || Nat.beq pc 64) 82 35 rfl ?_
  refine And.intro (fun _ => ?_) (fun hh => absurd hh (by decide))
  exact hR
set_option maxRecDepth 100000 in
set_option maxHeartbeats 4000000 in
theorem l_bb11_1_4 (sx : Nat × (Nat → Int32)) (P : Nat) (hP8 : P ≤ 8) (I : Mm) (hP : I 1 7 = nI P) (J : Ml) (Rt : Option Value → Mm → Ml → Prop) (hR : Rt none (itN (bcB P 11 1) 5 (bcS 11 1 (itN (bcA 11 1) 4 I))) J) : GW sx (na_mi MX0_become) Rt 64 [some (.ref 11), some (.ref 1), some (.int 4)] [] (itN (bcB P 11 1) 4 (bcS 11 1 (itN (bcA 11 1) 4 I))) J := by
  have hc := nI_clamp (n := P) (by omega)
  have hcp : ¬ (0 : Int32) < 0 ∧ ¬ (0 : Int32) < 0 ∧ ¬ nI P < 0 ∧ (0 : Int32).toNatClampNeg + (nI P).toNatClampNeg ≤ 8 ∧ (0 : Int32).toNatClampNeg + (nI P).toNatClampNeg ≤ 8 := by
    rw [hc, z0]
    exact ⟨by decide, by decide, nI_pos (by omega), by omega, by omega⟩
  have hp7 : (itN (bcB P 11 1) 4 (bcS 11 1 (itN (bcA 11 1) 4 I))) 11 7 = nI P := bcP_11_1 P I hP 4 (by decide)
  have hcq := hcp
  rw [← hp7] at hcq
  refine GW.run kX0_become (fun pc => Nat.beq pc 2 || Nat.beq pc 64) 82 35 rfl ?_
  refine And.intro (fun hh => absurd hh (by decide)) (fun _ => ?_)
  refine Mt.conseq (c_rop _ _ (by decide) 4 (by decide) _ (by decide) _ _) ?_
  rintro _ _ _ ⟨rfl, rfl, rfl⟩
  refine Mt.conseq (c_rop _ _ (by decide) 4 (by decide) _ (by decide) _ _) ?_
  rintro _ _ _ ⟨rfl, rfl, rfl⟩
  refine And.intro (hcq) ?_
  refine GW.weak (GW.eqI ?_ (l_bb11_1_5 sx P hP8 I hP J Rt hR)) ⟨rfl, rfl, by decide, trivial⟩
  refine Eq.trans ?_ (show bcB P 11 1 (itN (bcB P 11 1) 4 (bcS 11 1 (itN (bcA 11 1) 4 I))) 4 = _ from rfl)
  rw [bcB, ← hc, ← hp7]
  rfl
set_option maxRecDepth 100000 in
set_option maxHeartbeats 4000000 in
theorem l_bb11_1_3 (sx : Nat × (Nat → Int32)) (P : Nat) (hP8 : P ≤ 8) (I : Mm) (hP : I 1 7 = nI P) (J : Ml) (Rt : Option Value → Mm → Ml → Prop) (hR : Rt none (itN (bcB P 11 1) 5 (bcS 11 1 (itN (bcA 11 1) 4 I))) J) : GW sx (na_mi MX0_become) Rt 64 [some (.ref 11), some (.ref 1), some (.int 3)] [] (itN (bcB P 11 1) 3 (bcS 11 1 (itN (bcA 11 1) 4 I))) J := by
  have hc := nI_clamp (n := P) (by omega)
  have hcp : ¬ (0 : Int32) < 0 ∧ ¬ (0 : Int32) < 0 ∧ ¬ nI P < 0 ∧ (0 : Int32).toNatClampNeg + (nI P).toNatClampNeg ≤ 8 ∧ (0 : Int32).toNatClampNeg + (nI P).toNatClampNeg ≤ 8 := by
    rw [hc, z0]
    exact ⟨by decide, by decide, nI_pos (by omega), by omega, by omega⟩
  have hp7 : (itN (bcB P 11 1) 3 (bcS 11 1 (itN (bcA 11 1) 4 I))) 11 7 = nI P := bcP_11_1 P I hP 3 (by decide)
  have hcq := hcp
  rw [← hp7] at hcq
  refine GW.run kX0_become (fun pc => Nat.beq pc 2 || Nat.beq pc 64) 82 35 rfl ?_
  refine And.intro (fun hh => absurd hh (by decide)) (fun _ => ?_)
  refine Mt.conseq (c_rop _ _ (by decide) 3 (by decide) _ (by decide) _ _) ?_
  rintro _ _ _ ⟨rfl, rfl, rfl⟩
  refine Mt.conseq (c_rop _ _ (by decide) 3 (by decide) _ (by decide) _ _) ?_
  rintro _ _ _ ⟨rfl, rfl, rfl⟩
  refine And.intro (hcq) ?_
  refine GW.weak (GW.eqI ?_ (l_bb11_1_4 sx P hP8 I hP J Rt hR)) ⟨rfl, rfl, by decide, trivial⟩
  refine Eq.trans ?_ (show bcB P 11 1 (itN (bcB P 11 1) 3 (bcS 11 1 (itN (bcA 11 1) 4 I))) 3 = _ from rfl)
  rw [bcB, ← hc, ← hp7]
  rfl
set_option maxRecDepth 100000 in
set_option maxHeartbeats 4000000 in
theorem l_bb11_1_2 (sx : Nat × (Nat → Int32)) (P : Nat) (hP8 : P ≤ 8) (I : Mm) (hP : I 1 7 = nI P) (J : Ml) (Rt : Option Value → Mm → Ml → Prop) (hR : Rt none (itN (bcB P 11 1) 5 (bcS 11 1 (itN (bcA 11 1) 4 I))) J) : GW sx (na_mi MX0_become) Rt 64 [some (.ref 11), some (.ref 1), some (.int 2)] [] (itN (bcB P 11 1) 2 (bcS 11 1 (itN (bcA 11 1) 4 I))) J := by
  have hc := nI_clamp (n := P) (by omega)
  have hcp : ¬ (0 : Int32) < 0 ∧ ¬ (0 : Int32) < 0 ∧ ¬ nI P < 0 ∧ (0 : Int32).toNatClampNeg + (nI P).toNatClampNeg ≤ 8 ∧ (0 : Int32).toNatClampNeg + (nI P).toNatClampNeg ≤ 8 := by
    rw [hc, z0]
    exact ⟨by decide, by decide, nI_pos (by omega), by omega, by omega⟩
  have hp7 : (itN (bcB P 11 1) 2 (bcS 11 1 (itN (bcA 11 1) 4 I))) 11 7 = nI P := bcP_11_1 P I hP 2 (by decide)
  have hcq := hcp
  rw [← hp7] at hcq
  refine GW.run kX0_become (fun pc => Nat.beq pc 2 || Nat.beq pc 64) 82 35 rfl ?_
  refine And.intro (fun hh => absurd hh (by decide)) (fun _ => ?_)
  refine Mt.conseq (c_rop _ _ (by decide) 2 (by decide) _ (by decide) _ _) ?_
  rintro _ _ _ ⟨rfl, rfl, rfl⟩
  refine Mt.conseq (c_rop _ _ (by decide) 2 (by decide) _ (by decide) _ _) ?_
  rintro _ _ _ ⟨rfl, rfl, rfl⟩
  refine And.intro (hcq) ?_
  refine GW.weak (GW.eqI ?_ (l_bb11_1_3 sx P hP8 I hP J Rt hR)) ⟨rfl, rfl, by decide, trivial⟩
  refine Eq.trans ?_ (show bcB P 11 1 (itN (bcB P 11 1) 2 (bcS 11 1 (itN (bcA 11 1) 4 I))) 2 = _ from rfl)
  rw [bcB, ← hc, ← hp7]
  rfl
set_option maxRecDepth 100000 in
set_option maxHeartbeats 4000000 in
theorem l_bb11_1_1 (sx : Nat × (Nat → Int32)) (P : Nat) (hP8 : P ≤ 8) (I : Mm) (hP : I 1 7 = nI P) (J : Ml) (Rt : Option Value → Mm → Ml → Prop) (hR : Rt none (itN (bcB P 11 1) 5 (bcS 11 1 (itN (bcA 11 1) 4 I))) J) : GW sx (na_mi MX0_become) Rt 64 [some (.ref 11), some (.ref 1), some (.int 1)] [] (itN (bcB P 11 1) 1 (bcS 11 1 (itN (bcA 11 1) 4 I))) J := by
  have hc := nI_clamp (n := P) (by omega)
  have hcp : ¬ (0 : Int32) < 0 ∧ ¬ (0 : Int32) < 0 ∧ ¬ nI P < 0 ∧ (0 : Int32).toNatClampNeg + (nI P).toNatClampNeg ≤ 8 ∧ (0 : Int32).toNatClampNeg + (nI P).toNatClampNeg ≤ 8 := by
    rw [hc, z0]
    exact ⟨by decide, by decide, nI_pos (by omega), by omega, by omega⟩
  have hp7 : (itN (bcB P 11 1) 1 (bcS 11 1 (itN (bcA 11 1) 4 I))) 11 7 = nI P := bcP_11_1 P I hP 1 (by decide)
  have hcq := hcp
  rw [← hp7] at hcq
  refine GW.run kX0_become (fun pc => Nat.beq pc 2 || Nat.beq pc 64) 82 35 rfl ?_
  refine And.intro (fun hh => absurd hh (by decide)) (fun _ => ?_)
  refine Mt.conseq (c_rop _ _ (by decide) 1 (by decide) _ (by decide) _ _) ?_
  rintro _ _ _ ⟨rfl, rfl, rfl⟩
  refine Mt.conseq (c_rop _ _ (by decide) 1 (by decide) _ (by decide) _ _) ?_
  rintro _ _ _ ⟨rfl, rfl, rfl⟩
  refine And.intro (hcq) ?_
  refine GW.weak (GW.eqI ?_ (l_bb11_1_2 sx P hP8 I hP J Rt hR)) ⟨rfl, rfl, by decide, trivial⟩
  refine Eq.trans ?_ (show bcB P 11 1 (itN (bcB P 11 1) 1 (bcS 11 1 (itN (bcA 11 1) 4 I))) 1 = _ from rfl)
  rw [bcB, ← hc, ← hp7]
  rfl
set_option maxRecDepth 100000 in
set_option maxHeartbeats 4000000 in
theorem l_bb11_1_0 (sx : Nat × (Nat → Int32)) (P : Nat) (hP8 : P ≤ 8) (I : Mm) (hP : I 1 7 = nI P) (J : Ml) (Rt : Option Value → Mm → Ml → Prop) (hR : Rt none (itN (bcB P 11 1) 5 (bcS 11 1 (itN (bcA 11 1) 4 I))) J) : GW sx (na_mi MX0_become) Rt 64 [some (.ref 11), some (.ref 1), some (.int 0)] [] (itN (bcB P 11 1) 0 (bcS 11 1 (itN (bcA 11 1) 4 I))) J := by
  have hc := nI_clamp (n := P) (by omega)
  have hcp : ¬ (0 : Int32) < 0 ∧ ¬ (0 : Int32) < 0 ∧ ¬ nI P < 0 ∧ (0 : Int32).toNatClampNeg + (nI P).toNatClampNeg ≤ 8 ∧ (0 : Int32).toNatClampNeg + (nI P).toNatClampNeg ≤ 8 := by
    rw [hc, z0]
    exact ⟨by decide, by decide, nI_pos (by omega), by omega, by omega⟩
  have hp7 : (itN (bcB P 11 1) 0 (bcS 11 1 (itN (bcA 11 1) 4 I))) 11 7 = nI P := bcP_11_1 P I hP 0 (by decide)
  have hcq := hcp
  rw [← hp7] at hcq
  refine GW.run kX0_become (fun pc => Nat.beq pc 2 || Nat.beq pc 64) 82 35 rfl ?_
  refine And.intro (fun hh => absurd hh (by decide)) (fun _ => ?_)
  refine Mt.conseq (c_rop _ _ (by decide) 0 (by decide) _ (by decide) _ _) ?_
  rintro _ _ _ ⟨rfl, rfl, rfl⟩
  refine Mt.conseq (c_rop _ _ (by decide) 0 (by decide) _ (by decide) _ _) ?_
  rintro _ _ _ ⟨rfl, rfl, rfl⟩
  refine And.intro (hcq) ?_
  refine GW.weak (GW.eqI ?_ (l_bb11_1_1 sx P hP8 I hP J Rt hR)) ⟨rfl, rfl, by decide, trivial⟩
  refine Eq.trans ?_ (show bcB P 11 1 (itN (bcB P 11 1) 0 (bcS 11 1 (itN (bcA 11 1) 4 I))) 0 = _ from rfl)
  rw [bcB, ← hc, ← hp7]
  rfl
set_option maxRecDepth 100000 in
set_option maxHeartbeats 4000000 in
theorem l_ba11_1_4 (sx : Nat × (Nat → Int32)) (P : Nat) (hP8 : P ≤ 8) (I : Mm) (hP : I 1 7 = nI P) (J : Ml) (Rt : Option Value → Mm → Ml → Prop) (hR : Rt none (itN (bcB P 11 1) 5 (bcS 11 1 (itN (bcA 11 1) 4 I))) J) : GW sx (na_mi MX0_become) Rt 2 [some (.ref 11), some (.ref 1), some (.int 4)] [] (itN (bcA 11 1) 4 I) J := by
  refine GW.run kX0_become (fun pc => Nat.beq pc 2 || Nat.beq pc 64) 82 2 rfl ?_
  refine And.intro (fun _ => ?_) (fun hh => absurd hh (by decide))
  refine GW.weak (GW.eqI ?_ (l_bb11_1_0 sx P hP8 I hP J Rt hR)) ⟨rfl, rfl, rfl, trivial⟩
  rfl
set_option maxRecDepth 100000 in
set_option maxHeartbeats 4000000 in
theorem l_ba11_1_3 (sx : Nat × (Nat → Int32)) (P : Nat) (hP8 : P ≤ 8) (I : Mm) (hP : I 1 7 = nI P) (J : Ml) (Rt : Option Value → Mm → Ml → Prop) (hR : Rt none (itN (bcB P 11 1) 5 (bcS 11 1 (itN (bcA 11 1) 4 I))) J) : GW sx (na_mi MX0_become) Rt 2 [some (.ref 11), some (.ref 1), some (.int 3)] [] (itN (bcA 11 1) 3 I) J := by
  refine GW.run kX0_become (fun pc => Nat.beq pc 2 || Nat.beq pc 64) 82 2 rfl ?_
  refine And.intro (fun hh => absurd hh (by decide)) (fun _ => ?_)
  refine Mt.conseq (c_ror _ _ (by decide) 3 (by decide) _ (by decide) _ _) ?_
  rintro _ _ _ ⟨rfl, rfl, rfl⟩
  refine Mt.conseq (c_ror _ _ (by decide) 3 (by decide) _ (by decide) _ _) ?_
  rintro _ _ _ ⟨rfl, rfl, rfl⟩
  refine And.intro (⟨by decide, by decide, by decide, by decide, by decide⟩) ?_
  refine GW.weak (GW.eqI ?_ (l_ba11_1_4 sx P hP8 I hP J Rt hR)) ⟨rfl, rfl, by decide, trivial⟩
  refine Eq.trans ?_ (show bcA 11 1 (itN (bcA 11 1) 3 I) 3 = _ from rfl)
  rw [bcA, ← z8]
  rfl
set_option maxRecDepth 100000 in
set_option maxHeartbeats 4000000 in
theorem l_ba11_1_2 (sx : Nat × (Nat → Int32)) (P : Nat) (hP8 : P ≤ 8) (I : Mm) (hP : I 1 7 = nI P) (J : Ml) (Rt : Option Value → Mm → Ml → Prop) (hR : Rt none (itN (bcB P 11 1) 5 (bcS 11 1 (itN (bcA 11 1) 4 I))) J) : GW sx (na_mi MX0_become) Rt 2 [some (.ref 11), some (.ref 1), some (.int 2)] [] (itN (bcA 11 1) 2 I) J := by
  refine GW.run kX0_become (fun pc => Nat.beq pc 2 || Nat.beq pc 64) 82 2 rfl ?_
  refine And.intro (fun hh => absurd hh (by decide)) (fun _ => ?_)
  refine Mt.conseq (c_ror _ _ (by decide) 2 (by decide) _ (by decide) _ _) ?_
  rintro _ _ _ ⟨rfl, rfl, rfl⟩
  refine Mt.conseq (c_ror _ _ (by decide) 2 (by decide) _ (by decide) _ _) ?_
  rintro _ _ _ ⟨rfl, rfl, rfl⟩
  refine And.intro (⟨by decide, by decide, by decide, by decide, by decide⟩) ?_
  refine GW.weak (GW.eqI ?_ (l_ba11_1_3 sx P hP8 I hP J Rt hR)) ⟨rfl, rfl, by decide, trivial⟩
  refine Eq.trans ?_ (show bcA 11 1 (itN (bcA 11 1) 2 I) 2 = _ from rfl)
  rw [bcA, ← z8]
  rfl
set_option maxRecDepth 100000 in
set_option maxHeartbeats 4000000 in
theorem l_ba11_1_1 (sx : Nat × (Nat → Int32)) (P : Nat) (hP8 : P ≤ 8) (I : Mm) (hP : I 1 7 = nI P) (J : Ml) (Rt : Option Value → Mm → Ml → Prop) (hR : Rt none (itN (bcB P 11 1) 5 (bcS 11 1 (itN (bcA 11 1) 4 I))) J) : GW sx (na_mi MX0_become) Rt 2 [some (.ref 11), some (.ref 1), some (.int 1)] [] (itN (bcA 11 1) 1 I) J := by
  refine GW.run kX0_become (fun pc => Nat.beq pc 2 || Nat.beq pc 64) 82 2 rfl ?_
  refine And.intro (fun hh => absurd hh (by decide)) (fun _ => ?_)
  refine Mt.conseq (c_ror _ _ (by decide) 1 (by decide) _ (by decide) _ _) ?_
  rintro _ _ _ ⟨rfl, rfl, rfl⟩
  refine Mt.conseq (c_ror _ _ (by decide) 1 (by decide) _ (by decide) _ _) ?_
  rintro _ _ _ ⟨rfl, rfl, rfl⟩
  refine And.intro (⟨by decide, by decide, by decide, by decide, by decide⟩) ?_
  refine GW.weak (GW.eqI ?_ (l_ba11_1_2 sx P hP8 I hP J Rt hR)) ⟨rfl, rfl, by decide, trivial⟩
  refine Eq.trans ?_ (show bcA 11 1 (itN (bcA 11 1) 1 I) 1 = _ from rfl)
  rw [bcA, ← z8]
  rfl
set_option maxRecDepth 100000 in
set_option maxHeartbeats 4000000 in
theorem l_ba11_1_0 (sx : Nat × (Nat → Int32)) (P : Nat) (hP8 : P ≤ 8) (I : Mm) (hP : I 1 7 = nI P) (J : Ml) (Rt : Option Value → Mm → Ml → Prop) (hR : Rt none (itN (bcB P 11 1) 5 (bcS 11 1 (itN (bcA 11 1) 4 I))) J) : GW sx (na_mi MX0_become) Rt 2 [some (.ref 11), some (.ref 1), some (.int 0)] [] (itN (bcA 11 1) 0 I) J := by
  refine GW.run kX0_become (fun pc => Nat.beq pc 2 || Nat.beq pc 64) 82 2 rfl ?_
  refine And.intro (fun hh => absurd hh (by decide)) (fun _ => ?_)
  refine Mt.conseq (c_ror _ _ (by decide) 0 (by decide) _ (by decide) _ _) ?_
  rintro _ _ _ ⟨rfl, rfl, rfl⟩
  refine Mt.conseq (c_ror _ _ (by decide) 0 (by decide) _ (by decide) _ _) ?_
  rintro _ _ _ ⟨rfl, rfl, rfl⟩
  refine And.intro (⟨by decide, by decide, by decide, by decide, by decide⟩) ?_
  refine GW.weak (GW.eqI ?_ (l_ba11_1_1 sx P hP8 I hP J Rt hR)) ⟨rfl, rfl, by decide, trivial⟩
  refine Eq.trans ?_ (show bcA 11 1 (itN (bcA 11 1) 0 I) 0 = _ from rfl)
  rw [bcA, ← z8]
  rfl
theorem bcF_11_1 (P : Nat) (I : Mm) : (pN 11 (gN 11 (itN (bcB P 11 1) 5 (bcS 11 1 (itN (bcA 11 1) 4 I)))) I = itN (bcB P 11 1) 5 (bcS 11 1 (itN (bcA 11 1) 4 I))) ∧ Agr P (gN 11 (itN (bcB P 11 1) 5 (bcS 11 1 (itN (bcA 11 1) 4 I)))) (gN 1 I) := by
  refine ⟨pN_of ?_, ?_, ?_, ?_⟩
  · intro a ha
    simp (discharger := omega) only [itN, bcA, bcB, bcS, na_cpI_off, na_set_off]
  · intro j h1 h2
    obtain rfl | rfl | rfl | rfl : j = 4 ∨ j = 5 ∨ j = 6 ∨ j = 7 := by omega
    all_goals rfl
  · intro q j h1 h2 h3
    obtain rfl | rfl | rfl | rfl : q = 1 ∨ q = 2 ∨ q = 3 ∨ q = 4 := by omega
    all_goals exact (if_pos (c := 0 ≤ j ∧ j < 0 + 8) ⟨Nat.zero_le _, by omega⟩).trans (congrArg (I _) (by show 0 + (j - 0) = j; omega))
  · intro q j h1 h2 h3
    obtain rfl | rfl | rfl | rfl | rfl : q = 5 ∨ q = 6 ∨ q = 7 ∨ q = 8 ∨ q = 9 := by omega
    all_goals exact (if_pos (c := 0 ≤ j ∧ j < 0 + P) ⟨Nat.zero_le _, by omega⟩).trans (congrArg (I _) (by show 0 + (j - 0) = j; omega))
set_option maxRecDepth 100000 in
set_option maxHeartbeats 4000000 in
theorem c_bec_11_1 (sx : Nat × (Nat → Int32)) (P : Nat) (hP8 : P ≤ 8) (I : Mm) (hP : I 1 7 = nI P) (J : Ml) : Mt sx MX0_become [.ref 11, .ref 1] I J (fun r I' J' => (∃ M, pN 11 M I = I' ∧ Agr P M (gN 1 I)) ∧ J = J' ∧ r = none) := by
  refine Mt.of2 _ rfl (by decide +kernel) (Nat.le_of_ble_eq_true rfl) ?_
  refine GW.run kX0_become (fun pc => Nat.beq pc 2 || Nat.beq pc 64) 82 0 rfl ?_
  exact l_ba11_1_0 sx P hP8 I hP J _ ⟨⟨_, (bcF_11_1 P I).1, (bcF_11_1 P I).2⟩, rfl, rfl⟩
theorem bcP_1_11 (P : Nat) (I : Mm) (hP : I 11 7 = nI P) : ∀ w, w ≤ 5 → itN (bcB P 1 11) w (bcS 1 11 (itN (bcA 1 11) 4 I)) 1 7 = nI P := by
  intro w
  induction w with
  | zero =>
    intro _
    rw [← hP]
    rfl
  | succ w ih =>
    intro h
    rw [itN, bcB, na_cpI_off (by omega)]
    exact ih (by omega)
set_option maxRecDepth 100000 in
set_option maxHeartbeats 4000000 in
theorem l_bb1_11_5 (sx : Nat × (Nat → Int32)) (P : Nat) (hP8 : P ≤ 8) (I : Mm) (hP : I 11 7 = nI P) (J : Ml) (Rt : Option Value → Mm → Ml → Prop) (hR : Rt none (itN (bcB P 1 11) 5 (bcS 1 11 (itN (bcA 1 11) 4 I))) J) : GW sx (na_mi MX0_become) Rt 64 [some (.ref 1), some (.ref 11), some (.int 5)] [] (itN (bcB P 1 11) 5 (bcS 1 11 (itN (bcA 1 11) 4 I))) J := by
  have hc := nI_clamp (n := P) (by omega)
  have hcp : ¬ (0 : Int32) < 0 ∧ ¬ (0 : Int32) < 0 ∧ ¬ nI P < 0 ∧ (0 : Int32).toNatClampNeg + (nI P).toNatClampNeg ≤ 8 ∧ (0 : Int32).toNatClampNeg + (nI P).toNatClampNeg ≤ 8 := by
    rw [hc, z0]
    exact ⟨by decide, by decide, nI_pos (by omega), by omega, by omega⟩
  refine GW.run kX0_become (fun pc => Nat.beq pc 2 || Nat.beq pc 64) 82 35 rfl ?_
  refine And.intro (fun _ => ?_) (fun hh => absurd hh (by decide))
  exact hR
set_option maxRecDepth 100000 in
set_option maxHeartbeats 4000000 in
theorem l_bb1_11_4 (sx : Nat × (Nat → Int32)) (P : Nat) (hP8 : P ≤ 8) (I : Mm) (hP : I 11 7 = nI P) (J : Ml) (Rt : Option Value → Mm → Ml → Prop) (hR : Rt none (itN (bcB P 1 11) 5 (bcS 1 11 (itN (bcA 1 11) 4 I))) J) : GW sx (na_mi MX0_become) Rt 64 [some (.ref 1), some (.ref 11), some (.int 4)] [] (itN (bcB P 1 11) 4 (bcS 1 11 (itN (bcA 1 11) 4 I))) J := by
  have hc := nI_clamp (n := P) (by omega)
  have hcp : ¬ (0 : Int32) < 0 ∧ ¬ (0 : Int32) < 0 ∧ ¬ nI P < 0 ∧ (0 : Int32).toNatClampNeg + (nI P).toNatClampNeg ≤ 8 ∧ (0 : Int32).toNatClampNeg + (nI P).toNatClampNeg ≤ 8 := by
    rw [hc, z0]
    exact ⟨by decide, by decide, nI_pos (by omega), by omega, by omega⟩
  have hp7 : (itN (bcB P 1 11) 4 (bcS 1 11 (itN (bcA 1 11) 4 I))) 1 7 = nI P := bcP_1_11 P I hP 4 (by decide)
  have hcq := hcp
  rw [← hp7] at hcq
  refine GW.run kX0_become (fun pc => Nat.beq pc 2 || Nat.beq pc 64) 82 35 rfl ?_
  refine And.intro (fun hh => absurd hh (by decide)) (fun _ => ?_)
  refine Mt.conseq (c_rop _ _ (by decide) 4 (by decide) _ (by decide) _ _) ?_
  rintro _ _ _ ⟨rfl, rfl, rfl⟩
  refine Mt.conseq (c_rop _ _ (by decide) 4 (by decide) _ (by decide) _ _) ?_
  rintro _ _ _ ⟨rfl, rfl, rfl⟩
  refine And.intro (hcq) ?_
  refine GW.weak (GW.eqI ?_ (l_bb1_11_5 sx P hP8 I hP J Rt hR)) ⟨rfl, rfl, by decide, trivial⟩
  refine Eq.trans ?_ (show bcB P 1 11 (itN (bcB P 1 11) 4 (bcS 1 11 (itN (bcA 1 11) 4 I))) 4 = _ from rfl)
  rw [bcB, ← hc, ← hp7]
  rfl
set_option maxRecDepth 100000 in
set_option maxHeartbeats 4000000 in
theorem l_bb1_11_3 (sx : Nat × (Nat → Int32)) (P : Nat) (hP8 : P ≤ 8) (I : Mm) (hP : I 11 7 = nI P) (J : Ml) (Rt : Option Value → Mm → Ml → Prop) (hR : Rt none (itN (bcB P 1 11) 5 (bcS 1 11 (itN (bcA 1 11) 4 I))) J) : GW sx (na_mi MX0_become) Rt 64 [some (.ref 1), some (.ref 11), some (.int 3)] [] (itN (bcB P 1 11) 3 (bcS 1 11 (itN (bcA 1 11) 4 I))) J := by
  have hc := nI_clamp (n := P) (by omega)
  have hcp : ¬ (0 : Int32) < 0 ∧ ¬ (0 : Int32) < 0 ∧ ¬ nI P < 0 ∧ (0 : Int32).toNatClampNeg + (nI P).toNatClampNeg ≤ 8 ∧ (0 : Int32).toNatClampNeg + (nI P).toNatClampNeg ≤ 8 := by
    rw [hc, z0]
    exact ⟨by decide, by decide, nI_pos (by omega), by omega, by omega⟩
  have hp7 : (itN (bcB P 1 11) 3 (bcS 1 11 (itN (bcA 1 11) 4 I))) 1 7 = nI P := bcP_1_11 P I hP 3 (by decide)
  have hcq := hcp
  rw [← hp7] at hcq
  refine GW.run kX0_become (fun pc => Nat.beq pc 2 || Nat.beq pc 64) 82 35 rfl ?_
  refine And.intro (fun hh => absurd hh (by decide)) (fun _ => ?_)
  refine Mt.conseq (c_rop _ _ (by decide) 3 (by decide) _ (by decide) _ _) ?_
  rintro _ _ _ ⟨rfl, rfl, rfl⟩
  refine Mt.conseq (c_rop _ _ (by decide) 3 (by decide) _ (by decide) _ _) ?_
  rintro _ _ _ ⟨rfl, rfl, rfl⟩
  refine And.intro (hcq) ?_
  refine GW.weak (GW.eqI ?_ (l_bb1_11_4 sx P hP8 I hP J Rt hR)) ⟨rfl, rfl, by decide, trivial⟩
  refine Eq.trans ?_ (show bcB P 1 11 (itN (bcB P 1 11) 3 (bcS 1 11 (itN (bcA 1 11) 4 I))) 3 = _ from rfl)
  rw [bcB, ← hc, ← hp7]
  rfl
set_option maxRecDepth 100000 in
set_option maxHeartbeats 4000000 in
theorem l_bb1_11_2 (sx : Nat × (Nat → Int32)) (P : Nat) (hP8 : P ≤ 8) (I : Mm) (hP : I 11 7 = nI P) (J : Ml) (Rt : Option Value → Mm → Ml → Prop) (hR : Rt none (itN (bcB P 1 11) 5 (bcS 1 11 (itN (bcA 1 11) 4 I))) J) : GW sx (na_mi MX0_become) Rt 64 [some (.ref 1), some (.ref 11), some (.int 2)] [] (itN (bcB P 1 11) 2 (bcS 1 11 (itN (bcA 1 11) 4 I))) J := by
  have hc := nI_clamp (n := P) (by omega)
  have hcp : ¬ (0 : Int32) < 0 ∧ ¬ (0 : Int32) < 0 ∧ ¬ nI P < 0 ∧ (0 : Int32).toNatClampNeg + (nI P).toNatClampNeg ≤ 8 ∧ (0 : Int32).toNatClampNeg + (nI P).toNatClampNeg ≤ 8 := by
    rw [hc, z0]
    exact ⟨by decide, by decide, nI_pos (by omega), by omega, by omega⟩
  have hp7 : (itN (bcB P 1 11) 2 (bcS 1 11 (itN (bcA 1 11) 4 I))) 1 7 = nI P := bcP_1_11 P I hP 2 (by decide)
  have hcq := hcp
  rw [← hp7] at hcq
  refine GW.run kX0_become (fun pc => Nat.beq pc 2 || Nat.beq pc 64) 82 35 rfl ?_
  refine And.intro (fun hh => absurd hh (by decide)) (fun _ => ?_)
  refine Mt.conseq (c_rop _ _ (by decide) 2 (by decide) _ (by decide) _ _) ?_
  rintro _ _ _ ⟨rfl, rfl, rfl⟩
  refine Mt.conseq (c_rop _ _ (by decide) 2 (by decide) _ (by decide) _ _) ?_
  rintro _ _ _ ⟨rfl, rfl, rfl⟩
  refine And.intro (hcq) ?_
  refine GW.weak (GW.eqI ?_ (l_bb1_11_3 sx P hP8 I hP J Rt hR)) ⟨rfl, rfl, by decide, trivial⟩
  refine Eq.trans ?_ (show bcB P 1 11 (itN (bcB P 1 11) 2 (bcS 1 11 (itN (bcA 1 11) 4 I))) 2 = _ from rfl)
  rw [bcB, ← hc, ← hp7]
  rfl
set_option maxRecDepth 100000 in
set_option maxHeartbeats 4000000 in
theorem l_bb1_11_1 (sx : Nat × (Nat → Int32)) (P : Nat) (hP8 : P ≤ 8) (I : Mm) (hP : I 11 7 = nI P) (J : Ml) (Rt : Option Value → Mm → Ml → Prop) (hR : Rt none (itN (bcB P 1 11) 5 (bcS 1 11 (itN (bcA 1 11) 4 I))) J) : GW sx (na_mi MX0_become) Rt 64 [some (.ref 1), some (.ref 11), some (.int 1)] [] (itN (bcB P 1 11) 1 (bcS 1 11 (itN (bcA 1 11) 4 I))) J := by
  have hc := nI_clamp (n := P) (by omega)
  have hcp : ¬ (0 : Int32) < 0 ∧ ¬ (0 : Int32) < 0 ∧ ¬ nI P < 0 ∧ (0 : Int32).toNatClampNeg + (nI P).toNatClampNeg ≤ 8 ∧ (0 : Int32).toNatClampNeg + (nI P).toNatClampNeg ≤ 8 := by
    rw [hc, z0]
    exact ⟨by decide, by decide, nI_pos (by omega), by omega, by omega⟩
  have hp7 : (itN (bcB P 1 11) 1 (bcS 1 11 (itN (bcA 1 11) 4 I))) 1 7 = nI P := bcP_1_11 P I hP 1 (by decide)
  have hcq := hcp
  rw [← hp7] at hcq
  refine GW.run kX0_become (fun pc => Nat.beq pc 2 || Nat.beq pc 64) 82 35 rfl ?_
  refine And.intro (fun hh => absurd hh (by decide)) (fun _ => ?_)
  refine Mt.conseq (c_rop _ _ (by decide) 1 (by decide) _ (by decide) _ _) ?_
  rintro _ _ _ ⟨rfl, rfl, rfl⟩
  refine Mt.conseq (c_rop _ _ (by decide) 1 (by decide) _ (by decide) _ _) ?_
  rintro _ _ _ ⟨rfl, rfl, rfl⟩
  refine And.intro (hcq) ?_
  refine GW.weak (GW.eqI ?_ (l_bb1_11_2 sx P hP8 I hP J Rt hR)) ⟨rfl, rfl, by decide, trivial⟩
  refine Eq.trans ?_ (show bcB P 1 11 (itN (bcB P 1 11) 1 (bcS 1 11 (itN (bcA 1 11) 4 I))) 1 = _ from rfl)
  rw [bcB, ← hc, ← hp7]
  rfl
set_option maxRecDepth 100000 in
set_option maxHeartbeats 4000000 in
theorem l_bb1_11_0 (sx : Nat × (Nat → Int32)) (P : Nat) (hP8 : P ≤ 8) (I : Mm) (hP : I 11 7 = nI P) (J : Ml) (Rt : Option Value → Mm → Ml → Prop) (hR : Rt none (itN (bcB P 1 11) 5 (bcS 1 11 (itN (bcA 1 11) 4 I))) J) : GW sx (na_mi MX0_become) Rt 64 [some (.ref 1), some (.ref 11), some (.int 0)] [] (itN (bcB P 1 11) 0 (bcS 1 11 (itN (bcA 1 11) 4 I))) J := by
  have hc := nI_clamp (n := P) (by omega)
  have hcp : ¬ (0 : Int32) < 0 ∧ ¬ (0 : Int32) < 0 ∧ ¬ nI P < 0 ∧ (0 : Int32).toNatClampNeg + (nI P).toNatClampNeg ≤ 8 ∧ (0 : Int32).toNatClampNeg + (nI P).toNatClampNeg ≤ 8 := by
    rw [hc, z0]
    exact ⟨by decide, by decide, nI_pos (by omega), by omega, by omega⟩
  have hp7 : (itN (bcB P 1 11) 0 (bcS 1 11 (itN (bcA 1 11) 4 I))) 1 7 = nI P := bcP_1_11 P I hP 0 (by decide)
  have hcq := hcp
  rw [← hp7] at hcq
  refine GW.run kX0_become (fun pc => Nat.beq pc 2 || Nat.beq pc 64) 82 35 rfl ?_
  refine And.intro (fun hh => absurd hh (by decide)) (fun _ => ?_)
  refine Mt.conseq (c_rop _ _ (by decide) 0 (by decide) _ (by decide) _ _) ?_
  rintro _ _ _ ⟨rfl, rfl, rfl⟩
  refine Mt.conseq (c_rop _ _ (by decide) 0 (by decide) _ (by decide) _ _) ?_
  rintro _ _ _ ⟨rfl, rfl, rfl⟩
  refine And.intro (hcq) ?_
  refine GW.weak (GW.eqI ?_ (l_bb1_11_1 sx P hP8 I hP J Rt hR)) ⟨rfl, rfl, by decide, trivial⟩
  refine Eq.trans ?_ (show bcB P 1 11 (itN (bcB P 1 11) 0 (bcS 1 11 (itN (bcA 1 11) 4 I))) 0 = _ from rfl)
  rw [bcB, ← hc, ← hp7]
  rfl
set_option maxRecDepth 100000 in
set_option maxHeartbeats 4000000 in
theorem l_ba1_11_4 (sx : Nat × (Nat → Int32)) (P : Nat) (hP8 : P ≤ 8) (I : Mm) (hP : I 11 7 = nI P) (J : Ml) (Rt : Option Value → Mm → Ml → Prop) (hR : Rt none (itN (bcB P 1 11) 5 (bcS 1 11 (itN (bcA 1 11) 4 I))) J) : GW sx (na_mi MX0_become) Rt 2 [some (.ref 1), some (.ref 11), some (.int 4)] [] (itN (bcA 1 11) 4 I) J := by
  refine GW.run kX0_become (fun pc => Nat.beq pc 2 || Nat.beq pc 64) 82 2 rfl ?_
  refine And.intro (fun _ => ?_) (fun hh => absurd hh (by decide))
  refine GW.weak (GW.eqI ?_ (l_bb1_11_0 sx P hP8 I hP J Rt hR)) ⟨rfl, rfl, rfl, trivial⟩
  rfl
set_option maxRecDepth 100000 in
set_option maxHeartbeats 4000000 in
theorem l_ba1_11_3 (sx : Nat × (Nat → Int32)) (P : Nat) (hP8 : P ≤ 8) (I : Mm) (hP : I 11 7 = nI P) (J : Ml) (Rt : Option Value → Mm → Ml → Prop) (hR : Rt none (itN (bcB P 1 11) 5 (bcS 1 11 (itN (bcA 1 11) 4 I))) J) : GW sx (na_mi MX0_become) Rt 2 [some (.ref 1), some (.ref 11), some (.int 3)] [] (itN (bcA 1 11) 3 I) J := by
  refine GW.run kX0_become (fun pc => Nat.beq pc 2 || Nat.beq pc 64) 82 2 rfl ?_
  refine And.intro (fun hh => absurd hh (by decide)) (fun _ => ?_)
  refine Mt.conseq (c_ror _ _ (by decide) 3 (by decide) _ (by decide) _ _) ?_
  rintro _ _ _ ⟨rfl, rfl, rfl⟩
  refine Mt.conseq (c_ror _ _ (by decide) 3 (by decide) _ (by decide) _ _) ?_
  rintro _ _ _ ⟨rfl, rfl, rfl⟩
  refine And.intro (⟨by decide, by decide, by decide, by decide, by decide⟩) ?_
  refine GW.weak (GW.eqI ?_ (l_ba1_11_4 sx P hP8 I hP J Rt hR)) ⟨rfl, rfl, by decide, trivial⟩
  refine Eq.trans ?_ (show bcA 1 11 (itN (bcA 1 11) 3 I) 3 = _ from rfl)
  rw [bcA, ← z8]
  rfl
set_option maxRecDepth 100000 in
set_option maxHeartbeats 4000000 in
theorem l_ba1_11_2 (sx : Nat × (Nat → Int32)) (P : Nat) (hP8 : P ≤ 8) (I : Mm) (hP : I 11 7 = nI P) (J : Ml) (Rt : Option Value → Mm → Ml → Prop) (hR : Rt none (itN (bcB P 1 11) 5 (bcS 1 11 (itN (bcA 1 11) 4 I))) J) : GW sx (na_mi MX0_become) Rt 2 [some (.ref 1), some (.ref 11), some (.int 2)] [] (itN (bcA 1 11) 2 I) J := by
  refine GW.run kX0_become (fun pc => Nat.beq pc 2 || Nat.beq pc 64) 82 2 rfl ?_
  refine And.intro (fun hh => absurd hh (by decide)) (fun _ => ?_)
  refine Mt.conseq (c_ror _ _ (by decide) 2 (by decide) _ (by decide) _ _) ?_
  rintro _ _ _ ⟨rfl, rfl, rfl⟩
  refine Mt.conseq (c_ror _ _ (by decide) 2 (by decide) _ (by decide) _ _) ?_
  rintro _ _ _ ⟨rfl, rfl, rfl⟩
  refine And.intro (⟨by decide, by decide, by decide, by decide, by decide⟩) ?_
  refine GW.weak (GW.eqI ?_ (l_ba1_11_3 sx P hP8 I hP J Rt hR)) ⟨rfl, rfl, by decide, trivial⟩
  refine Eq.trans ?_ (show bcA 1 11 (itN (bcA 1 11) 2 I) 2 = _ from rfl)
  rw [bcA, ← z8]
  rfl
set_option maxRecDepth 100000 in
set_option maxHeartbeats 4000000 in
theorem l_ba1_11_1 (sx : Nat × (Nat → Int32)) (P : Nat) (hP8 : P ≤ 8) (I : Mm) (hP : I 11 7 = nI P) (J : Ml) (Rt : Option Value → Mm → Ml → Prop) (hR : Rt none (itN (bcB P 1 11) 5 (bcS 1 11 (itN (bcA 1 11) 4 I))) J) : GW sx (na_mi MX0_become) Rt 2 [some (.ref 1), some (.ref 11), some (.int 1)] [] (itN (bcA 1 11) 1 I) J := by
  refine GW.run kX0_become (fun pc => Nat.beq pc 2 || Nat.beq pc 64) 82 2 rfl ?_
  refine And.intro (fun hh => absurd hh (by decide)) (fun _ => ?_)
  refine Mt.conseq (c_ror _ _ (by decide) 1 (by decide) _ (by decide) _ _) ?_
  rintro _ _ _ ⟨rfl, rfl, rfl⟩
  refine Mt.conseq (c_ror _ _ (by decide) 1 (by decide) _ (by decide) _ _) ?_
  rintro _ _ _ ⟨rfl, rfl, rfl⟩
  refine And.intro (⟨by decide, by decide, by decide, by decide, by decide⟩) ?_
  refine GW.weak (GW.eqI ?_ (l_ba1_11_2 sx P hP8 I hP J Rt hR)) ⟨rfl, rfl, by decide, trivial⟩
  refine Eq.trans ?_ (show bcA 1 11 (itN (bcA 1 11) 1 I) 1 = _ from rfl)
  rw [bcA, ← z8]
  rfl
set_option maxRecDepth 100000 in
set_option maxHeartbeats 4000000 in
theorem l_ba1_11_0 (sx : Nat × (Nat → Int32)) (P : Nat) (hP8 : P ≤ 8) (I : Mm) (hP : I 11 7 = nI P) (J : Ml) (Rt : Option Value → Mm → Ml → Prop) (hR : Rt none (itN (bcB P 1 11) 5 (bcS 1 11 (itN (bcA 1 11) 4 I))) J) : GW sx (na_mi MX0_become) Rt 2 [some (.ref 1), some (.ref 11), some (.int 0)] [] (itN (bcA 1 11) 0 I) J := by
  refine GW.run kX0_become (fun pc => Nat.beq pc 2 || Nat.beq pc 64) 82 2 rfl ?_
  refine And.intro (fun hh => absurd hh (by decide)) (fun _ => ?_)
  refine Mt.conseq (c_ror _ _ (by decide) 0 (by decide) _ (by decide) _ _) ?_
  rintro _ _ _ ⟨rfl, rfl, rfl⟩
  refine Mt.conseq (c_ror _ _ (by decide) 0 (by decide) _ (by decide) _ _) ?_
  rintro _ _ _ ⟨rfl, rfl, rfl⟩
  refine And.intro (⟨by decide, by decide, by decide, by decide, by decide⟩) ?_
  refine GW.weak (GW.eqI ?_ (l_ba1_11_1 sx P hP8 I hP J Rt hR)) ⟨rfl, rfl, by decide, trivial⟩
  refine Eq.trans ?_ (show bcA 1 11 (itN (bcA 1 11) 0 I) 0 = _ from rfl)
  rw [bcA, ← z8]
  rfl
theorem bcF_1_11 (P : Nat) (I : Mm) : (pN 1 (gN 1 (itN (bcB P 1 11) 5 (bcS 1 11 (itN (bcA 1 11) 4 I)))) I = itN (bcB P 1 11) 5 (bcS 1 11 (itN (bcA 1 11) 4 I))) ∧ Agr P (gN 1 (itN (bcB P 1 11) 5 (bcS 1 11 (itN (bcA 1 11) 4 I)))) (gN 11 I) := by
  refine ⟨pN_of ?_, ?_, ?_, ?_⟩
  · intro a ha
    simp (discharger := omega) only [itN, bcA, bcB, bcS, na_cpI_off, na_set_off]
  · intro j h1 h2
    obtain rfl | rfl | rfl | rfl : j = 4 ∨ j = 5 ∨ j = 6 ∨ j = 7 := by omega
    all_goals rfl
  · intro q j h1 h2 h3
    obtain rfl | rfl | rfl | rfl : q = 1 ∨ q = 2 ∨ q = 3 ∨ q = 4 := by omega
    all_goals exact (if_pos (c := 0 ≤ j ∧ j < 0 + 8) ⟨Nat.zero_le _, by omega⟩).trans (congrArg (I _) (by show 0 + (j - 0) = j; omega))
  · intro q j h1 h2 h3
    obtain rfl | rfl | rfl | rfl | rfl : q = 5 ∨ q = 6 ∨ q = 7 ∨ q = 8 ∨ q = 9 := by omega
    all_goals exact (if_pos (c := 0 ≤ j ∧ j < 0 + P) ⟨Nat.zero_le _, by omega⟩).trans (congrArg (I _) (by show 0 + (j - 0) = j; omega))
set_option maxRecDepth 100000 in
set_option maxHeartbeats 4000000 in
theorem c_bec_1_11 (sx : Nat × (Nat → Int32)) (P : Nat) (hP8 : P ≤ 8) (I : Mm) (hP : I 11 7 = nI P) (J : Ml) : Mt sx MX0_become [.ref 1, .ref 11] I J (fun r I' J' => (∃ M, pN 1 M I = I' ∧ Agr P M (gN 11 I)) ∧ J = J' ∧ r = none) := by
  refine Mt.of2 _ rfl (by decide +kernel) (Nat.le_of_ble_eq_true rfl) ?_
  refine GW.run kX0_become (fun pc => Nat.beq pc 2 || Nat.beq pc 64) 82 0 rfl ?_
  exact l_ba1_11_0 sx P hP8 I hP J _ ⟨⟨_, (bcF_1_11 P I).1, (bcF_1_11 P I).2⟩, rfl, rfl⟩
