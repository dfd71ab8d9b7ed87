theorem pN_cp {nb k pl : Nat} {N I : Mm} {a b c : Nat} (hk : k < 10) (hp : pl = nb + k) : na_cpI (pN nb N I) pl pl a b c = pN nb (na_cpI N k k a b c) I := by
  subst hp
  funext x
  by_cases h : nb ≤ x ∧ x ≤ nb + 9
  · rw [pN_in h]
    unfold na_cpI
    by_cases hx : x = nb + k
    · subst hx
      rw [if_pos rfl, if_pos (by omega), pN_in (by omega)]
      simp
    · rw [if_neg hx, if_neg (by omega), pN_in h]
  · rw [pN_out h]
    unfold na_cpI
    rw [if_neg (by omega), pN_out h]
theorem pNc_1_5 {N I : Mm} {a b c : Nat} : na_cpI (pN 1 N I) 6 6 a b c = pN 1 (na_cpI N 5 5 a b c) I := pN_cp (by decide) rfl
theorem pNc_1_6 {N I : Mm} {a b c : Nat} : na_cpI (pN 1 N I) 7 7 a b c = pN 1 (na_cpI N 6 6 a b c) I := pN_cp (by decide) rfl
theorem pNc_1_7 {N I : Mm} {a b c : Nat} : na_cpI (pN 1 N I) 8 8 a b c = pN 1 (na_cpI N 7 7 a b c) I := pN_cp (by decide) rfl
theorem pNc_1_8 {N I : Mm} {a b c : Nat} : na_cpI (pN 1 N I) 9 9 a b c = pN 1 (na_cpI N 8 8 a b c) I := pN_cp (by decide) rfl
theorem pNc_1_9 {N I : Mm} {a b c : Nat} : na_cpI (pN 1 N I) 10 10 a b c = pN 1 (na_cpI N 9 9 a b c) I := pN_cp (by decide) rfl
theorem pNc_21_5 {N I : Mm} {a b c : Nat} : na_cpI (pN 21 N I) 26 26 a b c = pN 21 (na_cpI N 5 5 a b c) I := pN_cp (by decide) rfl
theorem pNc_21_6 {N I : Mm} {a b c : Nat} : na_cpI (pN 21 N I) 27 27 a b c = pN 21 (na_cpI N 6 6 a b c) I := pN_cp (by decide) rfl
theorem pNc_21_7 {N I : Mm} {a b c : Nat} : na_cpI (pN 21 N I) 28 28 a b c = pN 21 (na_cpI N 7 7 a b c) I := pN_cp (by decide) rfl
theorem pNc_21_8 {N I : Mm} {a b c : Nat} : na_cpI (pN 21 N I) 29 29 a b c = pN 21 (na_cpI N 8 8 a b c) I := pN_cp (by decide) rfl
theorem pNc_21_9 {N I : Mm} {a b c : Nat} : na_cpI (pN 21 N I) 30 30 a b c = pN 21 (na_cpI N 9 9 a b c) I := pN_cp (by decide) rfl
def rmN (N : Mm) (P p : Nat) : Mm := na_set (na_cpI (na_cpI (na_cpI (na_cpI (na_cpI N 5 5 (p + 1) p (P - p - 1)) 6 6 (p + 1) p (P - p - 1)) 7 7 (p + 1) p (P - p - 1)) 8 8 (p + 1) p (P - p - 1)) 9 9 (p + 1) p (P - p - 1)) 0 7 (nI (P - 1))
/-- what is moved of row w -/
def rmR (P p : Nat) (N : Mm) (w : Nat) : Mm := na_cpI N (5 + w) (5 + w) (p + 1) p (P - p - 1)
theorem rmR_0 (P p : Nat) (N : Mm) (w : Nat) : rmR P p N w 0 = N 0 := by
  unfold rmR
  rw [na_cpI_off (by omega)]
set_option maxRecDepth 100000 in
set_option maxHeartbeats 4000000 in
theorem l_rm5 (sx : Nat × (Nat → Int32)) (nb : Nat) (hnb : nb = 1 ∨ nb = 21) (N : Mm) (P p : Nat) (hP8 : P ≤ 8) (hp : p < P) (I : Mm) (J : Ml) (Rt : Option Value → Mm → Ml → Prop) (hR : Rt none (pN nb (na_set (itN (rmR P p) 5 N) 0 7 (N 0 7 - 1)) I) J) : GW sx (na_mi MX0_remove) Rt 11 [some (.ref nb), some (.int (nI p)), some (.int (nI (P - p - 1))), some (.int 5), none] [] (pN nb (itN (rmR P p) 5 N) I) J := by
  have e1 : nI p + 1 = nI (p + 1) := nI_1 p
  have hcp : ¬ nI p + 1 < 0 ∧ ¬ nI p < 0 ∧ ¬ nI (P - p - 1) < 0 ∧ (nI p + 1).toNatClampNeg + (nI (P - p - 1)).toNatClampNeg ≤ 8 ∧ (nI p).toNatClampNeg + (nI (P - p - 1)).toNatClampNeg ≤ 8 := by
    rw [e1, nI_clamp (n := p + 1) (by omega), nI_clamp (n := p) (by omega), nI_clamp (n := P - p - 1) (by omega)]
    exact ⟨nI_pos (by omega), nI_pos (by omega), nI_pos (by omega), by omega, by omega⟩
  have hc1 := nI_clamp (n := p + 1) (by omega)
  have hc2 := nI_clamp (n := p) (by omega)
  have hc3 := nI_clamp (n := P - p - 1) (by omega)
  have hnb2 := hnb
  rcases hnb with rfl | rfl
  all_goals
    refine GW.run kX0_remove (fun pc => Nat.beq pc 11) 63 9 rfl ?_
    refine And.intro (fun _ => ?_) (fun hh => absurd hh (by decide))
    refine Eq.mp (congrArg (fun X => Rt none X J) ?_) hR
    simp only [pNg_1_0, pNs_1_0, pNg_1_1, pNs_1_1, pNg_1_2, pNs_1_2, pNg_1_3, pNs_1_3, pNg_1_4, pNs_1_4, pNg_1_5, pNs_1_5, pNg_1_6, pNs_1_6, pNg_1_7, pNs_1_7, pNg_1_8, pNs_1_8, pNg_1_9, pNs_1_9, pNg_21_0, pNs_21_0, pNg_21_1, pNs_21_1, pNg_21_2, pNs_21_2, pNg_21_3, pNs_21_3, pNg_21_4, pNs_21_4, pNg_21_5, pNs_21_5, pNg_21_6, pNs_21_6, pNg_21_7, pNs_21_7, pNg_21_8, pNs_21_8, pNg_21_9, pNs_21_9, na_h1, na_h2, na_h0, List.tail_cons]
    simp only [itN, rmR_0]
set_option maxRecDepth 100000 in
set_option maxHeartbeats 4000000 in
theorem l_rm4 (sx : Nat × (Nat → Int32)) (nb : Nat) (hnb : nb = 1 ∨ nb = 21) (N : Mm) (P p : Nat) (hP8 : P ≤ 8) (hp : p < P) (I : Mm) (J : Ml) (Rt : Option Value → Mm → Ml → Prop) (hR : Rt none (pN nb (na_set (itN (rmR P p) 5 N) 0 7 (N 0 7 - 1)) I) J) : GW sx (na_mi MX0_remove) Rt 11 [some (.ref nb), some (.int (nI p)), some (.int (nI (P - p - 1))), some (.int 4), none] [] (pN nb (itN (rmR P p) 4 N) I) J := by
  have e1 : nI p + 1 = nI (p + 1) := nI_1 p
  have hcp : ¬ nI p + 1 < 0 ∧ ¬ nI p < 0 ∧ ¬ nI (P - p - 1) < 0 ∧ (nI p + 1).toNatClampNeg + (nI (P - p - 1)).toNatClampNeg ≤ 8 ∧ (nI p).toNatClampNeg + (nI (P - p - 1)).toNatClampNeg ≤ 8 := by
    rw [e1, nI_clamp (n := p + 1) (by omega), nI_clamp (n := p) (by omega), nI_clamp (n := P - p - 1) (by omega)]
    exact ⟨nI_pos (by omega), nI_pos (by omega), nI_pos (by omega), by omega, by omega⟩
  have hc1 := nI_clamp (n := p + 1) (by omega)
  have hc2 := nI_clamp (n := p) (by omega)
  have hc3 := nI_clamp (n := P - p - 1) (by omega)
  have hnb2 := hnb
  rcases hnb with rfl | rfl
  all_goals
    refine GW.run kX0_remove (fun pc => Nat.beq pc 11) 63 9 rfl ?_
    refine And.intro (fun hh => absurd hh (by decide)) (fun _ => ?_)
    refine Mt.conseq (c_rop _ _ (by first | exact Or.inl rfl | exact Or.inr (Or.inr rfl)) 4 (by decide) _ (by decide) _ _) ?_
    rintro _ _ _ ⟨rfl, rfl, rfl⟩
    refine And.intro (hcp) ?_
    refine GW.weak (GW.eqI ?_ (l_rm5 sx _ hnb2 N P p hP8 hp I J Rt hR)) ⟨rfl, rfl, rfl, by decide, trivial⟩
    simp only [Nat.reduceAdd, Nat.add_zero, pNc_1_5, pNc_1_6, pNc_1_7, pNc_1_8, pNc_1_9, pNc_21_5, pNc_21_6, pNc_21_7, pNc_21_8, pNc_21_9, pNg_1_0, pNs_1_0, pNg_1_1, pNs_1_1, pNg_1_2, pNs_1_2, pNg_1_3, pNs_1_3, pNg_1_4, pNs_1_4, pNg_1_5, pNs_1_5, pNg_1_6, pNs_1_6, pNg_1_7, pNs_1_7, pNg_1_8, pNs_1_8, pNg_1_9, pNs_1_9, pNg_21_0, pNs_21_0, pNg_21_1, pNs_21_1, pNg_21_2, pNs_21_2, pNg_21_3, pNs_21_3, pNg_21_4, pNs_21_4, pNg_21_5, pNs_21_5, pNg_21_6, pNs_21_6, pNg_21_7, pNs_21_7, pNg_21_8, pNs_21_8, pNg_21_9, pNs_21_9, na_h1, na_h2, na_h0, List.tail_cons, e1, hc1, hc2, hc3, itN, rmR]
set_option maxRecDepth 100000 in
set_option maxHeartbeats 4000000 in
theorem l_rm3 (sx : Nat × (Nat → Int32)) (nb : Nat) (hnb : nb = 1 ∨ nb = 21) (N : Mm) (P p : Nat) (hP8 : P ≤ 8) (hp : p < P) (I : Mm) (J : Ml) (Rt : Option Value → Mm → Ml → Prop) (hR : Rt none (pN nb (na_set (itN (rmR P p) 5 N) 0 7 (N 0 7 - 1)) I) J) : GW sx (na_mi MX0_remove) Rt 11 [some (.ref nb), some (.int (nI p)), some (.int (nI (P - p - 1))), some (.int 3), none] [] (pN nb (itN (rmR P p) 3 N) I) J := by
  have e1 : nI p + 1 = nI (p + 1) := nI_1 p
  have hcp : ¬ nI p + 1 < 0 ∧ ¬ nI p < 0 ∧ ¬ nI (P - p - 1) < 0 ∧ (nI p + 1).toNatClampNeg + (nI (P - p - 1)).toNatClampNeg ≤ 8 ∧ (nI p).toNatClampNeg + (nI (P - p - 1)).toNatClampNeg ≤ 8 := by
    rw [e1, nI_clamp (n := p + 1) (by omega), nI_clamp (n := p) (by omega), nI_clamp (n := P - p - 1) (by omega)]
    exact ⟨nI_pos (by omega), nI_pos (by omega), nI_pos (by omega), by omega, by omega⟩
  have hc1 := nI_clamp (n := p + 1) (by omega)
  have hc2 := nI_clamp (n := p) (by omega)
  have hc3 := nI_clamp (n := P - p - 1) (by omega)
  have hnb2 := hnb
  rcases hnb with rfl | rfl
  all_goals
    refine GW.run kX0_remove (fun pc => Nat.beq pc 11) 63 9 rfl ?_
    refine And.intro (fun hh => absurd hh (by decide)) (fun _ => ?_)
    refine Mt.conseq (c_rop _ _ (by first | exact Or.inl rfl | exact Or.inr (Or.inr rfl)) 3 (by decide) _ (by decide) _ _) ?_
    rintro _ _ _ ⟨rfl, rfl, rfl⟩
    refine And.intro (hcp) ?_
    refine GW.weak (GW.eqI ?_ (l_rm4 sx _ hnb2 N P p hP8 hp I J Rt hR)) ⟨rfl, rfl, rfl, by decide, trivial⟩
    simp only [Nat.reduceAdd, Nat.add_zero, pNc_1_5, pNc_1_6, pNc_1_7, pNc_1_8, pNc_1_9, pNc_21_5, pNc_21_6, pNc_21_7, pNc_21_8, pNc_21_9, pNg_1_0, pNs_1_0, pNg_1_1, pNs_1_1, pNg_1_2, pNs_1_2, pNg_1_3, pNs_1_3, pNg_1_4, pNs_1_4, pNg_1_5, pNs_1_5, pNg_1_6, pNs_1_6, pNg_1_7, pNs_1_7, pNg_1_8, pNs_1_8, pNg_1_9, pNs_1_9, pNg_21_0, pNs_21_0, pNg_21_1, pNs_21_1, pNg_21_2, pNs_21_2, pNg_21_3, pNs_21_3, pNg_21_4, pNs_21_4, pNg_21_5, pNs_21_5, pNg_21_6, pNs_21_6, pNg_21_7, pNs_21_7, pNg_21_8, pNs_21_8, pNg_21_9, pNs_21_9, na_h1, na_h2, na_h0, List.tail_cons, e1, hc1, hc2, hc3, itN, rmR]
set_option maxRecDepth 100000 in
set_option maxHeartbeats 4000000 in
theorem l_rm2 (sx : Nat × (Nat → Int32)) (nb : Nat) (hnb : nb = 1 ∨ nb = 21) (N : Mm) (P p : Nat) (hP8 : P ≤ 8) (hp : p < P) (I : Mm) (J : Ml) (Rt : Option Value → Mm → Ml → Prop) (hR : Rt none (pN nb (na_set (itN (rmR P p) 5 N) 0 7 (N 0 7 - 1)) I) J) : GW sx (na_mi MX0_remove) Rt 11 [some (.ref nb), some (.int (nI p)), some (.int (nI (P - p - 1))), some (.int 2), none] [] (pN nb (itN (rmR P p) 2 N) I) J := by
  have e1 : nI p + 1 = nI (p + 1) := nI_1 p
  have hcp : ¬ nI p + 1 < 0 ∧ ¬ nI p < 0 ∧ ¬ nI (P - p - 1) < 0 ∧ (nI p + 1).toNatClampNeg + (nI (P - p - 1)).toNatClampNeg ≤ 8 ∧ (nI p).toNatClampNeg + (nI (P - p - 1)).toNatClampNeg ≤ 8 := by
    rw [e1, nI_clamp (n := p + 1) (by omega), nI_clamp (n := p) (by omega), nI_clamp (n := P - p - 1) (by omega)]
    exact ⟨nI_pos (by omega), nI_pos (by omega), nI_pos (by omega), by omega, by omega⟩
  have hc1 := nI_clamp (n := p + 1) (by omega)
  have hc2 := nI_clamp (n := p) (by omega)
  have hc3 := nI_clamp (n := P - p - 1) (by omega)
  have hnb2 := hnb
  rcases hnb with rfl | rfl
  all_goals
    refine GW.run kX0_remove (fun pc => Nat.beq pc 11) 63 9 rfl ?_
    refine And.intro (fun hh => absurd hh (by decide)) (fun _ => ?_)
    refine Mt.conseq (c_rop _ _ (by first | exact Or.inl rfl | exact Or.inr (Or.inr rfl)) 2 (by decide) _ (by decide) _ _) ?_
    rintro _ _ _ ⟨rfl, rfl, rfl⟩
    refine And.intro (hcp) ?_
    refine GW.weak (GW.eqI ?_ (l_rm3 sx _ hnb2 N P p hP8 hp I J Rt hR)) ⟨rfl, rfl, rfl, by decide, trivial⟩
    simp only [Nat.reduceAdd, Nat.add_zero, pNc_1_5, pNc_1_6, pNc_1_7, pNc_1_8, pNc_1_9, pNc_21_5, pNc_21_6, pNc_21_7, pNc_21_8, pNc_21_9, pNg_1_0, pNs_1_0, pNg_1_1, pNs_1_1, pNg_1_2, pNs_1_2, pNg_1_3, pNs_1_3, pNg_1_4, pNs_1_4, pNg_1_5, pNs_1_5, pNg_1_6, pNs_1_6, pNg_1_7, pNs_1_7, pNg_1_8, pNs_1_8, pNg_1_9, pNs_1_9, pNg_21_0, pNs_21_0, pNg_21_1, pNs_21_1, pNg_21_2, pNs_21_2, pNg_21_3, pNs_21_3, pNg_21_4, pNs_21_4, pNg_21_5, pNs_21_5, pNg_21_6, pNs_21_6, pNg_21_7, pNs_21_7, pNg_21_8, pNs_21_8, pNg_21_9, pNs_21_9, na_h1, na_h2, na_h0, List.tail_cons, e1, hc1, hc2, hc3, itN, rmR]
set_option maxRecDepth 100000 in
set_option maxHeartbeats 4000000 in
theorem l_rm1 (sx : Nat × (Nat → Int32)) (nb : Nat) (hnb : nb = 1 ∨ nb = 21) (N : Mm) (P p : Nat) (hP8 : P ≤ 8) (hp : p < P) (I : Mm) (J : Ml) (Rt : Option Value → Mm → Ml → Prop) (hR : Rt none (pN nb (na_set (itN (rmR P p) 5 N) 0 7 (N 0 7 - 1)) I) J) : GW sx (na_mi MX0_remove) Rt 11 [some (.ref nb), some (.int (nI p)), some (.int (nI (P - p - 1))), some (.int 1), none] [] (pN nb (itN (rmR P p) 1 N) I) J := by
  have e1 : nI p + 1 = nI (p + 1) := nI_1 p
  have hcp : ¬ nI p + 1 < 0 ∧ ¬ nI p < 0 ∧ ¬ nI (P - p - 1) < 0 ∧ (nI p + 1).toNatClampNeg + (nI (P - p - 1)).toNatClampNeg ≤ 8 ∧ (nI p).toNatClampNeg + (nI (P - p - 1)).toNatClampNeg ≤ 8 := by
    rw [e1, nI_clamp (n := p + 1) (by omega), nI_clamp (n := p) (by omega), nI_clamp (n := P - p - 1) (by omega)]
    exact ⟨nI_pos (by omega), nI_pos (by omega), nI_pos (by omega), by omega, by omega⟩
  have hc1 := nI_clamp (n := p + 1) (by omega)
  have hc2 := nI_clamp (n := p) (by omega)
  have hc3 := nI_clamp (n := P - p - 1) (by omega)
  have hnb2 := hnb
  rcases hnb with rfl | rfl
  all_goals
    refine GW.run kX0_remove (fun pc => Nat.beq pc 11) 63 9 rfl ?_
    refine And.intro (fun hh => absurd hh (by decide)) (fun _ => ?_)
    refine Mt.conseq (c_rop _ _ (by first | exact Or.inl rfl | exact Or.inr (Or.inr rfl)) 1 (by decide) _ (by decide) _ _) ?_
    rintro _ _ _ ⟨rfl, rfl, rfl⟩
    refine And.intro (hcp) ?_
    refine GW.weak (GW.eqI ?_ (l_rm2 sx _ hnb2 N P p hP8 hp I J Rt hR)) ⟨rfl, rfl, rfl, by decide, trivial⟩
    simp only [Nat.reduceAdd, Nat.add_zero, pNc_1_5, pNc_1_6, pNc_1_7, pNc_1_8, pNc_1_9, pNc_21_5, pNc_21_6, pNc_21_7, pNc_21_8, pNc_21_9, pNg_1_0, pNs_1_0, pNg_1_1, pNs_1_1, pNg_1_2, pNs_1_2, pNg_1_3, pNs_1_3, pNg_1_4, pNs_1_4, pNg_1_5, pNs_1_5, pNg_1_6, pNs_1_6, pNg_1_7, pNs_1_7, pNg_1_8, pNs_1_8, pNg_1_9, pNs_1_9, pNg_21_0, pNs_21_0, pNg_21_1, pNs_21_1, pNg_21_2, pNs_21_2, pNg_21_3, pNs_21_3, pNg_21_4, pNs_21_4, pNg_21_5, pNs_21_5, pNg_21_6, pNs_21_6, pNg_21_7, pNs_21_7, pNg_21_8, pNs_21_8, pNg_21_9, pNs_21_9, na_h1, na_h2, na_h0, List.tail_cons, e1, hc1, hc2, hc3, itN, rmR]
set_option maxRecDepth 100000 in
set_option maxHeartbeats 4000000 in
theorem l_rm0 (sx : Nat × (Nat → Int32)) (nb : Nat) (hnb : nb = 1 ∨ nb = 21) (N : Mm) (P p : Nat) (hP8 : P ≤ 8) (hp : p < P) (I : Mm) (J : Ml) (Rt : Option Value → Mm → Ml → Prop) (hR : Rt none (pN nb (na_set (itN (rmR P p) 5 N) 0 7 (N 0 7 - 1)) I) J) : GW sx (na_mi MX0_remove) Rt 11 [some (.ref nb), some (.int (nI p)), some (.int (nI (P - p - 1))), some (.int 0), none] [] (pN nb (itN (rmR P p) 0 N) I) J := by
  have e1 : nI p + 1 = nI (p + 1) := nI_1 p
  have hcp : ¬ nI p + 1 < 0 ∧ ¬ nI p < 0 ∧ ¬ nI (P - p - 1) < 0 ∧ (nI p + 1).toNatClampNeg + (nI (P - p - 1)).toNatClampNeg ≤ 8 ∧ (nI p).toNatClampNeg + (nI (P - p - 1)).toNatClampNeg ≤ 8 := by
    rw [e1, nI_clamp (n := p + 1) (by omega), nI_clamp (n := p) (by omega), nI_clamp (n := P - p - 1) (by omega)]
    exact ⟨nI_pos (by omega), nI_pos (by omega), nI_pos (by omega), by omega, by omega⟩
  have hc1 := nI_clamp (n := p + 1) (by omega)
  have hc2 := nI_clamp (n := p) (by omega)
  have hc3 := nI_clamp (n := P - p - 1) (by omega)
  have hnb2 := hnb
  rcases hnb with rfl | rfl
  all_goals
    refine GW.run kX0_remove (fun pc => Nat.beq pc 11) 63 9 rfl ?_
    refine And.intro (fun hh => absurd hh (by decide)) (fun _ => ?_)
    refine Mt.conseq (c_rop _ _ (by first | exact Or.inl rfl | exact Or.inr (Or.inr rfl)) 0 (by decide) _ (by decide) _ _) ?_
    rintro _ _ _ ⟨rfl, rfl, rfl⟩
    refine And.intro (hcp) ?_
    refine GW.weak (GW.eqI ?_ (l_rm1 sx _ hnb2 N P p hP8 hp I J Rt hR)) ⟨rfl, rfl, rfl, by decide, trivial⟩
    simp only [Nat.reduceAdd, Nat.add_zero, pNc_1_5, pNc_1_6, pNc_1_7, pNc_1_8, pNc_1_9, pNc_21_5, pNc_21_6, pNc_21_7, pNc_21_8, pNc_21_9, pNg_1_0, pNs_1_0, pNg_1_1, pNs_1_1, pNg_1_2, pNs_1_2, pNg_1_3, pNs_1_3, pNg_1_4, pNs_1_4, pNg_1_5, pNs_1_5, pNg_1_6, pNs_1_6, pNg_1_7, pNs_1_7, pNg_1_8, pNs_1_8, pNg_1_9, pNs_1_9, pNg_21_0, pNs_21_0, pNg_21_1, pNs_21_1, pNg_21_2, pNs_21_2, pNg_21_3, pNs_21_3, pNg_21_4, pNs_21_4, pNg_21_5, pNs_21_5, pNg_21_6, pNs_21_6, pNg_21_7, pNs_21_7, pNg_21_8, pNs_21_8, pNg_21_9, pNs_21_9, na_h1, na_h2, na_h0, List.tail_cons, e1, hc1, hc2, hc3, itN, rmR]
def rmN2 (N : Mm) (P p : Nat) : Mm := na_set (itN (rmR P p) 5 N) 0 7 (N 0 7 - 1)
set_option maxRecDepth 100000 in
set_option maxHeartbeats 4000000 in
theorem c_rm (sx : Nat × (Nat → Int32)) (nb : Nat) (hnb : nb = 1 ∨ nb = 21) (N : Mm) (P : Nat) (hP : N 0 7 = nI P) (hP8 : P ≤ 8) (p : Nat) (hp : p < P) (I : Mm) (J : Ml) : Mt sx MX0_remove [.ref nb, .int (nI p)] (pN nb N I) J (fun r I' J' => pN nb (rmN2 N P p) I = I' ∧ J = J' ∧ r = none) := by
  refine Mt.of2 _ rfl (by decide +kernel) (Nat.le_of_ble_eq_true rfl) ?_
  have hnb2 := hnb
  rcases hnb with rfl | rfl
  all_goals
    have e2 : N 0 7 - nI p - 1 = nI (P - p - 1) := by
      rw [hP]
      have h1 : nI P = nI (P - p - 1) + 1 + nI p := by rw [nI_1, nI_add]; congr 1; omega
      rw [h1]
      apply Int32.toBitVec_inj.mp
      simp only [Int32.toBitVec_sub, Int32.toBitVec_add]
      generalize (nI (P - p - 1)).toBitVec = x
      generalize (nI p).toBitVec = y
      generalize (1 : Int32).toBitVec = z
      rw [BitVec.add_sub_cancel, BitVec.add_sub_cancel]
    refine GW.run kX0_remove (fun pc => Nat.beq pc 11) 63 0 rfl ?_
    exact GW.weak (l_rm0 sx _ hnb2 N P p hP8 hp I J _ ⟨rfl, rfl, rfl⟩) ⟨rfl, rfl, by simp only [pNg_1_0, pNs_1_0, pNg_1_1, pNs_1_1, pNg_1_2, pNs_1_2, pNg_1_3, pNs_1_3, pNg_1_4, pNs_1_4, pNg_1_5, pNs_1_5, pNg_1_6, pNs_1_6, pNg_1_7, pNs_1_7, pNg_1_8, pNs_1_8, pNg_1_9, pNs_1_9, pNg_21_0, pNs_21_0, pNg_21_1, pNs_21_1, pNg_21_2, pNs_21_2, pNg_21_3, pNs_21_3, pNg_21_4, pNs_21_4, pNg_21_5, pNs_21_5, pNg_21_6, pNs_21_6, pNg_21_7, pNs_21_7, pNg_21_8, pNs_21_8, pNg_21_9, pNs_21_9, na_h1, na_h2, na_h0, List.tail_cons]; rw [e2], rfl, trivial⟩
