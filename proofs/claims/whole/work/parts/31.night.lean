/-! A NIGHT: its cells by their places from nb on: 0 the object (4 openDoors, 5 cold, 6 hour, 7 people), 1 airs, 2 frosts, 3 fires, 4 tights, 5 kinds, 6 places, 7 needs, 8 stays, 9 stifled -/
def gN (nb : Nat) (I : Mm) : Mm := fun k => bif Nat.ble k 9 then I (nb + k) else fun _ => 0
theorem gN_in {nb : Nat} {I : Mm} {k : Nat} (h : k ≤ 9) : gN nb I k = I (nb + k) := by
  unfold gN
  rw [Nat.ble_eq_true_of_le h]
  rfl
def pN (nb : Nat) (N I : Mm) : Mm := fun k => bif Nat.ble nb k && Nat.ble k (nb + 9) then N (k - nb) else I k
theorem pN_in {nb : Nat} {N I : Mm} {k : Nat} (h : nb ≤ k ∧ k ≤ nb + 9) : pN nb N I k = N (k - nb) := by
  unfold pN
  rw [Nat.ble_eq_true_of_le h.1, Nat.ble_eq_true_of_le h.2]
  rfl
theorem pN_out {nb : Nat} {N I : Mm} {k : Nat} (h : ¬ (nb ≤ k ∧ k ≤ nb + 9)) : pN nb N I k = I k := by
  unfold pN
  cases h1 : Nat.ble nb k with
  | false => rfl
  | true =>
    cases h2 : Nat.ble k (nb + 9) with
    | false => rfl
    | true => exact absurd ⟨Nat.le_of_ble_eq_true h1, Nat.le_of_ble_eq_true h2⟩ h
theorem pN_gN (nb : Nat) (I : Mm) : pN nb (gN nb I) I = I := by
  funext k
  by_cases h : nb ≤ k ∧ k ≤ nb + 9
  · rw [pN_in h, gN_in (by omega), show nb + (k - nb) = k by omega]
  · rw [pN_out h]
theorem pN_set {nb k pl : Nat} {N I : Mm} {j : Nat} {v : Int32} (hk : k < 10) (hp : pl = nb + k) : na_set (pN nb N I) pl j v = pN nb (na_set N k j v) I := by
  subst hp
  funext a
  by_cases h : nb ≤ a ∧ a ≤ nb + 9
  · rw [pN_in h]
    unfold na_set
    by_cases ha : a = nb + k
    · subst ha
      rw [if_pos rfl, if_pos (by omega), pN_in (by omega)]
      simp
    · rw [if_neg ha, if_neg (by omega), pN_in h]
  · rw [pN_out h]
    unfold na_set
    rw [if_neg (by omega), pN_out h]
theorem pN_pN {nb : Nat} {N M I : Mm} : pN nb N (pN nb M I) = pN nb N I := by
  funext a
  by_cases h : nb ≤ a ∧ a ≤ nb + 9
  · rw [pN_in h, pN_in h]
  · rw [pN_out h, pN_out h, pN_out h]
/-- two nights lie apart -/
theorem pN_swap {N M I : Mm} : pN 21 N (pN 1 M I) = pN 1 M (pN 21 N I) := by
  funext a
  by_cases h : 21 ≤ a ∧ a ≤ 21 + 9
  · rw [pN_in h, pN_out (by omega), pN_in h]
  · rw [pN_out h]
    by_cases h2 : 1 ≤ a ∧ a ≤ 1 + 9
    · rw [pN_in h2, pN_in h2]
    · rw [pN_out h2, pN_out h2, pN_out h]
theorem pNg_1_0 {N I : Mm} : pN 1 N I 1 = N 0 := rfl
theorem pNs_1_0 {N I : Mm} {j : Nat} {v : Int32} : na_set (pN 1 N I) 1 j v = pN 1 (na_set N 0 j v) I := pN_set (by decide) rfl
theorem pNg_1_1 {N I : Mm} : pN 1 N I 2 = N 1 := rfl
theorem pNs_1_1 {N I : Mm} {j : Nat} {v : Int32} : na_set (pN 1 N I) 2 j v = pN 1 (na_set N 1 j v) I := pN_set (by decide) rfl
theorem pNg_1_2 {N I : Mm} : pN 1 N I 3 = N 2 := rfl
theorem pNs_1_2 {N I : Mm} {j : Nat} {v : Int32} : na_set (pN 1 N I) 3 j v = pN 1 (na_set N 2 j v) I := pN_set (by decide) rfl
theorem pNg_1_3 {N I : Mm} : pN 1 N I 4 = N 3 := rfl
theorem pNs_1_3 {N I : Mm} {j : Nat} {v : Int32} : na_set (pN 1 N I) 4 j v = pN 1 (na_set N 3 j v) I := pN_set (by decide) rfl
theorem pNg_1_4 {N I : Mm} : pN 1 N I 5 = N 4 := rfl
theorem pNs_1_4 {N I : Mm} {j : Nat} {v : Int32} : na_set (pN 1 N I) 5 j v = pN 1 (na_set N 4 j v) I := pN_set (by decide) rfl
theorem pNg_1_5 {N I : Mm} : pN 1 N I 6 = N 5 := rfl
theorem pNs_1_5 {N I : Mm} {j : Nat} {v : Int32} : na_set (pN 1 N I) 6 j v = pN 1 (na_set N 5 j v) I := pN_set (by decide) rfl
theorem pNg_1_6 {N I : Mm} : pN 1 N I 7 = N 6 := rfl
theorem pNs_1_6 {N I : Mm} {j : Nat} {v : Int32} : na_set (pN 1 N I) 7 j v = pN 1 (na_set N 6 j v) I := pN_set (by decide) rfl
theorem pNg_1_7 {N I : Mm} : pN 1 N I 8 = N 7 := rfl
theorem pNs_1_7 {N I : Mm} {j : Nat} {v : Int32} : na_set (pN 1 N I) 8 j v = pN 1 (na_set N 7 j v) I := pN_set (by decide) rfl
theorem pNg_1_8 {N I : Mm} : pN 1 N I 9 = N 8 := rfl
theorem pNs_1_8 {N I : Mm} {j : Nat} {v : Int32} : na_set (pN 1 N I) 9 j v = pN 1 (na_set N 8 j v) I := pN_set (by decide) rfl
theorem pNg_1_9 {N I : Mm} : pN 1 N I 10 = N 9 := rfl
theorem pNs_1_9 {N I : Mm} {j : Nat} {v : Int32} : na_set (pN 1 N I) 10 j v = pN 1 (na_set N 9 j v) I := pN_set (by decide) rfl
theorem pNg_21_0 {N I : Mm} : pN 21 N I 21 = N 0 := rfl
theorem pNs_21_0 {N I : Mm} {j : Nat} {v : Int32} : na_set (pN 21 N I) 21 j v = pN 21 (na_set N 0 j v) I := pN_set (by decide) rfl
theorem pNg_21_1 {N I : Mm} : pN 21 N I 22 = N 1 := rfl
theorem pNs_21_1 {N I : Mm} {j : Nat} {v : Int32} : na_set (pN 21 N I) 22 j v = pN 21 (na_set N 1 j v) I := pN_set (by decide) rfl
theorem pNg_21_2 {N I : Mm} : pN 21 N I 23 = N 2 := rfl
theorem pNs_21_2 {N I : Mm} {j : Nat} {v : Int32} : na_set (pN 21 N I) 23 j v = pN 21 (na_set N 2 j v) I := pN_set (by decide) rfl
theorem pNg_21_3 {N I : Mm} : pN 21 N I 24 = N 3 := rfl
theorem pNs_21_3 {N I : Mm} {j : Nat} {v : Int32} : na_set (pN 21 N I) 24 j v = pN 21 (na_set N 3 j v) I := pN_set (by decide) rfl
theorem pNg_21_4 {N I : Mm} : pN 21 N I 25 = N 4 := rfl
theorem pNs_21_4 {N I : Mm} {j : Nat} {v : Int32} : na_set (pN 21 N I) 25 j v = pN 21 (na_set N 4 j v) I := pN_set (by decide) rfl
theorem pNg_21_5 {N I : Mm} : pN 21 N I 26 = N 5 := rfl
theorem pNs_21_5 {N I : Mm} {j : Nat} {v : Int32} : na_set (pN 21 N I) 26 j v = pN 21 (na_set N 5 j v) I := pN_set (by decide) rfl
theorem pNg_21_6 {N I : Mm} : pN 21 N I 27 = N 6 := rfl
theorem pNs_21_6 {N I : Mm} {j : Nat} {v : Int32} : na_set (pN 21 N I) 27 j v = pN 21 (na_set N 6 j v) I := pN_set (by decide) rfl
theorem pNg_21_7 {N I : Mm} : pN 21 N I 28 = N 7 := rfl
theorem pNs_21_7 {N I : Mm} {j : Nat} {v : Int32} : na_set (pN 21 N I) 28 j v = pN 21 (na_set N 7 j v) I := pN_set (by decide) rfl
theorem pNg_21_8 {N I : Mm} : pN 21 N I 29 = N 8 := rfl
theorem pNs_21_8 {N I : Mm} {j : Nat} {v : Int32} : na_set (pN 21 N I) 29 j v = pN 21 (na_set N 8 j v) I := pN_set (by decide) rfl
theorem pNg_21_9 {N I : Mm} : pN 21 N I 30 = N 9 := rfl
theorem pNs_21_9 {N I : Mm} {j : Nat} {v : Int32} : na_set (pN 21 N I) 30 j v = pN 21 (na_set N 9 j v) I := pN_set (by decide) rfl
theorem na_set_ne {I : Mm} {k j a b : Nat} {v : Int32} (h : b ≠ j) : na_set I k j v a b = I a b := by
  unfold na_set
  split
  · rename_i h2
    subst h2
    simp [upd, h]
  · rfl
theorem GW.eqI {sx : Nat × (Nat → Int32)} {q : MI} {Rt : Option Value → Mm → Ml → Prop} {pc : Nat} {ls : Lo} {st : List Value} {I I2 : Mm} {J : Ml} (h : I2 = I) (g : GW sx q Rt pc ls st I J) : GW sx q Rt pc ls st I2 J := h ▸ g
theorem GW.eqIJ {sx : Nat × (Nat → Int32)} {q : MI} {Rt : Option Value → Mm → Ml → Prop} {pc : Nat} {ls : Lo} {st : List Value} {I I2 : Mm} {J J2 : Ml} (h : I2 = I) (h2 : J2 = J) (g : GW sx q Rt pc ls st I J) : GW sx q Rt pc ls st I2 J2 := h ▸ h2 ▸ g
theorem GW.eqL {sx : Nat × (Nat → Int32)} {q : MI} {Rt : Option Value → Mm → Ml → Prop} {pc : Nat} {ls ls2 : Lo} {st : List Value} {I I2 : Mm} {J J2 : Ml} (hl : ls2 = ls) (h : I2 = I) (h2 : J2 = J) (g : GW sx q Rt pc ls st I J) : GW sx q Rt pc ls2 st I2 J2 := hl ▸ h ▸ h2 ▸ g
def itN (f : Mm → Nat → Mm) : Nat → Mm → Mm
  | 0, N => N
  | n + 1, N => f (itN f n N) n
def frzR (N : Mm) (r : Nat) : Mm := na_set (na_set N 1 r (N 1 r - N 1 r * (9 - N 4 r) / 20)) 2 r (jmin 9999 (N 2 r + N 1 r * (9 - N 4 r) / 20))
def brnR (N : Mm) (r : Nat) : Mm := na_set (na_set N 2 r (N 2 r - jmin (N 3 r) (N 2 r))) 1 r (jmin 9999 (N 1 r + jmin (N 3 r) (N 2 r)))
def mixR (N : Mm) (d : Nat) : Mm := if hasP (N 0 4) (nI d) then na_set (na_set N 1 d (N 1 d - (N 1 d - N 1 (d + 1)) / 4)) 1 (d + 1) (N 1 (d + 1) + (N 1 d - N 1 (d + 1)) / 4) else N
set_option maxRecDepth 100000 in
set_option maxHeartbeats 4000000 in
theorem l_freeze (sx : Nat × (Nat → Int32)) (nb : Nat) (hnb : nb = 1 ∨ nb = 21) (N : Mm) (I : Mm) (J : Ml) (Rt : Option Value → Mm → Ml → Prop) (hR : Rt none (pN nb (itN frzR 8 N) I) J) : ∀ m n, n + m = 8 → GW sx (na_mi MX0_freeze) Rt 2 [some (.ref nb), some (.int (nI n)), none] [] (pN nb (itN frzR n N) I) J := by
  intro m
  induction m with
  | zero =>
    intro n hn
    obtain rfl : n = 8 := by omega
    have hz : (8 : Int32) ≤ nI 8 := by decide
    rcases hnb with rfl | rfl
    all_goals
      refine GW.run kX0_freeze (fun pc => Nat.beq pc 2) 72 2 rfl ?_
      refine And.intro (fun _ => ?_) (fun hh => absurd hz hh)
      exact hR
  | succ m ih =>
    intro n hn
    have hz : ¬ (8 : Int32) ≤ nI n := nI_ge (a := n) (b := 8) (by omega) (by omega)
    have hb : vp_in (nI n) 8 := vp_in_nI (by omega) (by omega)
    have hc := nI_clamp (n := n) (by omega)
    have ih := ih (n + 1) (by omega)
    rcases hnb with rfl | rfl
    all_goals
      refine GW.run kX0_freeze (fun pc => Nat.beq pc 2) 72 2 rfl ?_
      refine And.intro (fun hh => absurd hh hz) (fun _ => ?_)
      refine And.intro (hb) ?_
      refine And.intro (hb) ?_
      refine And.intro (by decide) ?_
      refine And.intro (hb) ?_
      refine And.intro (hb) ?_
      refine And.intro (hb) ?_
      refine And.intro (hb) ?_
      refine GW.weak (GW.eqI ?_ ih) ⟨rfl, by rw [nI_1], trivial⟩
      simp only [pNg_1_0, pNs_1_0, pNg_1_1, pNs_1_1, pNg_1_2, pNs_1_2, pNg_1_3, pNs_1_3, pNg_1_4, pNs_1_4, pNg_1_5, pNs_1_5, pNg_1_6, pNs_1_6, pNg_1_7, pNs_1_7, pNg_1_8, pNs_1_8, pNg_1_9, pNs_1_9, pNg_21_0, pNs_21_0, pNg_21_1, pNs_21_1, pNg_21_2, pNs_21_2, pNg_21_3, pNs_21_3, pNg_21_4, pNs_21_4, pNg_21_5, pNs_21_5, pNg_21_6, pNs_21_6, pNg_21_7, pNs_21_7, pNg_21_8, pNs_21_8, pNg_21_9, pNs_21_9, na_h1, na_h2, na_h0, List.tail_cons, itN, frzR, hc]
      rfl
set_option maxRecDepth 100000 in
set_option maxHeartbeats 4000000 in
theorem c_freeze (sx : Nat × (Nat → Int32)) (nb : Nat) (hnb : nb = 1 ∨ nb = 21) (N I : Mm) (J : Ml) : Mt sx MX0_freeze [.ref nb] (pN nb N I) J (fun r I' J' => pN nb (itN frzR 8 N) I = I' ∧ J = J' ∧ r = none) := by
  refine Mt.of2 _ rfl (by decide +kernel) (Nat.le_of_ble_eq_true rfl) ?_
  have hnb2 := hnb
  rcases hnb with rfl | rfl
  all_goals
    refine GW.run kX0_freeze (fun pc => Nat.beq pc 2) 72 0 rfl ?_
    exact l_freeze sx _ hnb2 N I J _ ⟨rfl, rfl, rfl⟩ 8 0 rfl
set_option maxRecDepth 100000 in
set_option maxHeartbeats 4000000 in
theorem l_burn (sx : Nat × (Nat → Int32)) (nb : Nat) (hnb : nb = 1 ∨ nb = 21) (N : Mm) (I : Mm) (J : Ml) (Rt : Option Value → Mm → Ml → Prop) (hR : Rt none (pN nb (itN brnR 8 N) I) J) : ∀ m n, n + m = 8 → GW sx (na_mi MX0_burn) Rt 2 [some (.ref nb), some (.int (nI n)), none] [] (pN nb (itN brnR n N) I) J := by
  intro m
  induction m with
  | zero =>
    intro n hn
    obtain rfl : n = 8 := by omega
    have hz : (8 : Int32) ≤ nI 8 := by decide
    rcases hnb with rfl | rfl
    all_goals
      refine GW.run kX0_burn (fun pc => Nat.beq pc 2) 68 2 rfl ?_
      refine And.intro (fun _ => ?_) (fun hh => absurd hz hh)
      exact hR
  | succ m ih =>
    intro n hn
    have hz : ¬ (8 : Int32) ≤ nI n := nI_ge (a := n) (b := 8) (by omega) (by omega)
    have hb : vp_in (nI n) 8 := vp_in_nI (by omega) (by omega)
    have hc := nI_clamp (n := n) (by omega)
    have ih := ih (n + 1) (by omega)
    rcases hnb with rfl | rfl
    all_goals
      refine GW.run kX0_burn (fun pc => Nat.beq pc 2) 68 2 rfl ?_
      refine And.intro (fun hh => absurd hh hz) (fun _ => ?_)
      refine And.intro (hb) ?_
      refine And.intro (hb) ?_
      refine And.intro (hb) ?_
      refine And.intro (hb) ?_
      refine And.intro (hb) ?_
      refine And.intro (hb) ?_
      refine GW.weak (GW.eqI ?_ ih) ⟨rfl, by rw [nI_1], trivial⟩
      simp only [pNg_1_0, pNs_1_0, pNg_1_1, pNs_1_1, pNg_1_2, pNs_1_2, pNg_1_3, pNs_1_3, pNg_1_4, pNs_1_4, pNg_1_5, pNs_1_5, pNg_1_6, pNs_1_6, pNg_1_7, pNs_1_7, pNg_1_8, pNs_1_8, pNg_1_9, pNs_1_9, pNg_21_0, pNs_21_0, pNg_21_1, pNs_21_1, pNg_21_2, pNs_21_2, pNg_21_3, pNs_21_3, pNg_21_4, pNs_21_4, pNg_21_5, pNs_21_5, pNg_21_6, pNs_21_6, pNg_21_7, pNs_21_7, pNg_21_8, pNs_21_8, pNg_21_9, pNs_21_9, na_h1, na_h2, na_h0, List.tail_cons, itN, brnR, hc]
      rfl
set_option maxRecDepth 100000 in
set_option maxHeartbeats 4000000 in
theorem c_burn (sx : Nat × (Nat → Int32)) (nb : Nat) (hnb : nb = 1 ∨ nb = 21) (N I : Mm) (J : Ml) : Mt sx MX0_burn [.ref nb] (pN nb N I) J (fun r I' J' => pN nb (itN brnR 8 N) I = I' ∧ J = J' ∧ r = none) := by
  refine Mt.of2 _ rfl (by decide +kernel) (Nat.le_of_ble_eq_true rfl) ?_
  have hnb2 := hnb
  rcases hnb with rfl | rfl
  all_goals
    refine GW.run kX0_burn (fun pc => Nat.beq pc 2) 68 0 rfl ?_
    exact l_burn sx _ hnb2 N I J _ ⟨rfl, rfl, rfl⟩ 8 0 rfl
set_option maxRecDepth 100000 in
set_option maxHeartbeats 4000000 in
theorem l_mix (sx : Nat × (Nat → Int32)) (nb : Nat) (hnb : nb = 1 ∨ nb = 21) (N : Mm) (I : Mm) (J : Ml) (Rt : Option Value → Mm → Ml → Prop) (hR : Rt none (pN nb (itN mixR 7 N) I) J) : ∀ m n, n + m = 7 → GW sx (na_mi MX0_mix) Rt 2 [some (.ref nb), some (.int (nI n)), none] [] (pN nb (itN mixR n N) I) J := by
  intro m
  induction m with
  | zero =>
    intro n hn
    obtain rfl : n = 7 := by omega
    have hz : (7 : Int32) ≤ nI 7 := by decide
    rcases hnb with rfl | rfl
    all_goals
      refine GW.run kX0_mix (fun pc => Nat.beq pc 2) 75 2 rfl ?_
      refine And.intro (fun _ => ?_) (fun hh => absurd hz hh)
      exact hR
  | succ m ih =>
    intro n hn
    have hz : ¬ (7 : Int32) ≤ nI n := nI_ge (a := n) (b := 7) (by omega) (by omega)
    have hb : vp_in (nI n) 8 := vp_in_nI (by omega) (by omega)
    have hc := nI_clamp (n := n) (by omega)
    have ih := ih (n + 1) (by omega)
    have hc2 := nI_clamp (n := n + 1) (by omega)
    have hb2 : vp_in (nI n + 1) 8 := by rw [nI_1]; exact vp_in_nI (by omega) (by omega)
    rcases hnb with rfl | rfl
    all_goals
      refine GW.run kX0_mix (fun pc => Nat.beq pc 2) 75 2 rfl ?_
      refine And.intro (fun hh => absurd hh hz) (fun _ => ?_)
      refine Mt.conseq (c_has _ _ _ _ _) ?_
      rintro _ _ _ ⟨rfl, rfl, ⟨h1, rfl⟩ | ⟨h1, rfl⟩⟩
      · -- pc 13 call X3_has true
        refine And.intro (fun hh => absurd hh (by decide)) (fun _ => ?_)
        refine And.intro (hb) ?_
        refine And.intro (hb2) ?_
        refine And.intro (by decide) ?_
        refine And.intro (hb) ?_
        refine And.intro (hb) ?_
        refine And.intro (hb2) ?_
        refine And.intro (hb2) ?_
        refine GW.weak (GW.eqI ?_ ih) ⟨rfl, by rw [nI_1], trivial⟩
        rw [itN, mixR, if_pos (show hasP (itN mixR n N 0 4) (nI n) from h1)]
        simp only [pNg_1_0, pNs_1_0, pNg_1_1, pNs_1_1, pNg_1_2, pNs_1_2, pNg_1_3, pNs_1_3, pNg_1_4, pNs_1_4, pNg_1_5, pNs_1_5, pNg_1_6, pNs_1_6, pNg_1_7, pNs_1_7, pNg_1_8, pNs_1_8, pNg_1_9, pNs_1_9, pNg_21_0, pNs_21_0, pNg_21_1, pNs_21_1, pNg_21_2, pNs_21_2, pNg_21_3, pNs_21_3, pNg_21_4, pNs_21_4, pNg_21_5, pNs_21_5, pNg_21_6, pNs_21_6, pNg_21_7, pNs_21_7, pNg_21_8, pNs_21_8, pNg_21_9, pNs_21_9, na_h1, na_h2, na_h0, List.tail_cons, hc, nI_1, hc2]
        rw [na_set_ne (by omega : n + 1 ≠ n)]
      · -- pc 13 call X3_has false
        refine And.intro (fun _ => ?_) (fun hh => absurd hh (by decide))
        refine GW.weak (GW.eqI ?_ ih) ⟨rfl, by rw [nI_1], trivial⟩
        rw [itN, mixR, if_neg (show ¬ hasP (itN mixR n N 0 4) (nI n) from h1)]
set_option maxRecDepth 100000 in
set_option maxHeartbeats 4000000 in
theorem c_mix (sx : Nat × (Nat → Int32)) (nb : Nat) (hnb : nb = 1 ∨ nb = 21) (N I : Mm) (J : Ml) : Mt sx MX0_mix [.ref nb] (pN nb N I) J (fun r I' J' => pN nb (itN mixR 7 N) I = I' ∧ J = J' ∧ r = none) := by
  refine Mt.of2 _ rfl (by decide +kernel) (Nat.le_of_ble_eq_true rfl) ?_
  have hnb2 := hnb
  rcases hnb with rfl | rfl
  all_goals
    refine GW.run kX0_mix (fun pc => Nat.beq pc 2) 75 0 rfl ?_
    exact l_mix sx _ hnb2 N I J _ ⟨rfl, rfl, rfl⟩ 7 0 rfl
