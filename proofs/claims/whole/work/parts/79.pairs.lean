/-! PAIRS: owed, status, count, swept, sweeps -/
/-- the first room with the most frost, of 0 to n -/
def owF (v : Nat → Int32) : Nat → Nat
  | 0 => 0
  | n + 1 => if v (owF v n) < v (n + 1) then n + 1 else owF v n
theorem owF_le (v : Nat → Int32) : ∀ n, owF v n ≤ n
  | 0 => Nat.le_refl _
  | n + 1 => by
    rw [owF]
    have := owF_le v n
    split <;> omega
theorem owF_c {v w : Nat → Int32} (h : ∀ j, j < 8 → v j = w j) : ∀ n, n < 8 → owF v n = owF w n
  | 0, _ => rfl
  | n + 1, hn => by
    have := owF_le w n
    rw [owF, owF, owF_c h n (by omega), h _ (by omega), h _ (by omega)]
set_option maxRecDepth 100000 in
set_option maxHeartbeats 4000000 in
theorem l_owC (sx : Nat × (Nat → Int32)) (I : Mm) (J : Ml) (Rt : Option Value → Mm → Ml → Prop) (hR : Rt (some (.int (nI (owF (I 3) 7)))) I J) : ∀ m n , n + m = 7 → GW sx (na_mi MX3_owed) Rt 4 [some (.ref 0), some (.int (nI (owF (I 3) n))), some (.int (nI (n + 1)))] [] I J := by
  intro m
  induction m with
  | zero =>
    intro n  hn 
    obtain rfl : n = 7 := by omega
    have hz : (8 : Int32) ≤ nI (7 + 1) := by decide
    refine GW.run kX3_owed (fun pc => Nat.beq pc 4) 54 4 rfl ?_
    refine And.intro (fun _ => ?_) (fun hh => absurd hz hh)
    exact ⟨trivial, hR⟩
  | succ m ih =>
    intro n  hn 
    have hz : ¬ (8 : Int32) ≤ nI (n + 1) := nI_ge (a := n + 1) (b := 8) (by omega) (by omega)
    have hb1 : vp_in (nI (n + 1)) 8 := vp_in_nI (by omega) (by omega)
    have hle := owF_le (I 3) n
    have hb2 : vp_in (nI (owF (I 3) n)) 8 := vp_in_nI (by omega) (by omega)
    have hc1 := nI_clamp (n := n + 1) (by omega)
    have hc2 := nI_clamp (n := owF (I 3) n) (by omega)
    have ih := ih (n + 1) (by omega)
    refine GW.run kX3_owed (fun pc => Nat.beq pc 4) 54 4 rfl ?_
    refine And.intro (fun hh => absurd hh hz) (fun _ => ?_)
    refine And.intro (hb1) ?_
    refine And.intro (hb2) ?_
    refine And.intro (fun h1 => ?_) (fun h1 => ?_)
    · -- pc 28 .if_icmp .le 5: yes
      have q := h1
      rw [hc1, hc2] at q
      exact GW.weak ih ⟨rfl, by rw [owF, if_neg (Int32.not_lt.mpr q)], by rw [nI_1], trivial⟩
    · -- pc 28 .if_icmp .le 5: no
      have q := h1
      rw [hc1, hc2] at q
      exact GW.weak ih ⟨rfl, by rw [owF, if_pos (Int32.not_le.mp q)], by rw [nI_1], trivial⟩
set_option maxRecDepth 100000 in
set_option maxHeartbeats 4000000 in
theorem l_owM (sx : Nat × (Nat → Int32)) (f : Nat → Int32) (I : Mm) (J : Ml) (Rt : Option Value → Mm → Ml → Prop) (hR : Rt (some (.int (nI (owF (fun r => f (4 + 4 * r + 1)) 7)))) (sR f I) J) : ∀ m n , n + m = 7 → GW sx (na_mi MX4_owed) Rt 4 [some (.ref 43), some (.int (nI (owF (fun r => f (4 + 4 * r + 1)) n))), some (.int (nI (n + 1)))] [] (sR f I) J := by
  intro m
  induction m with
  | zero =>
    intro n  hn 
    obtain rfl : n = 7 := by omega
    have hz : (8 : Int32) ≤ nI (7 + 1) := by decide
    refine GW.run kX4_owed (fun pc => Nat.beq pc 4) 54 4 rfl ?_
    refine And.intro (fun _ => ?_) (fun hh => absurd hz hh)
    exact ⟨trivial, hR⟩
  | succ m ih =>
    intro n  hn 
    have hz : ¬ (8 : Int32) ≤ nI (n + 1) := nI_ge (a := n + 1) (b := 8) (by omega) (by omega)
    have hb1 : vp_in (nI (n + 1)) 8 := vp_in_nI (by omega) (by omega)
    have hle := owF_le (fun r => f (4 + 4 * r + 1)) n
    have hb2 : vp_in (nI (owF (fun r => f (4 + 4 * r + 1)) n)) 8 := vp_in_nI (by omega) (by omega)
    have hc1 := nI_clamp (n := n + 1) (by omega)
    have hc2 := nI_clamp (n := owF (fun r => f (4 + 4 * r + 1)) n) (by omega)
    have ih := ih (n + 1) (by omega)
    refine GW.run kX4_owed (fun pc => Nat.beq pc 4) 54 4 rfl ?_
    refine And.intro (fun hh => absurd hh hz) (fun _ => ?_)
    refine Mt.conseq (m_there _ (n + 1) 1 (by omega) (by decide) _ (by decide) _ _ _) ?_
    rintro _ _ _ ⟨rfl, rfl, rfl⟩
    refine Mt.conseq (m_there _ (owF (fun r => f (4 + 4 * r + 1)) n) 1 (by omega) (by decide) _ (by decide) _ _ _) ?_
    rintro _ _ _ ⟨rfl, rfl, rfl⟩
    refine And.intro (fun h3 => ?_) (fun h3 => ?_)
    · -- pc 22 .if_icmp .le 7: yes
      have q := h3
      exact GW.weak ih ⟨rfl, by rw [owF, if_neg (Int32.not_lt.mpr q)], by rw [nI_1], trivial⟩
    · -- pc 22 .if_icmp .le 7: no
      have q := h3
      exact GW.weak ih ⟨rfl, by rw [owF, if_pos (Int32.not_le.mp q)], by rw [nI_1], trivial⟩
set_option maxRecDepth 100000 in
set_option maxHeartbeats 4000000 in
theorem pr_owed (sx : Nat × (Nat → Int32)) : PrI sx MX3_owed MX4_owed [] := by
  intro I J hS
  obtain ⟨P, hN, ha, hP8, hP1, hP3, hpl⟩ := hS.nt
  have e73 : I 44 3 = I 1 7 := hP3.trans hP1.symm
  refine Mt.of2 _ rfl (by decide +kernel) (Nat.le_of_ble_eq_true rfl) ?_
  refine GW.run kX3_owed (fun pc => Nat.beq pc 4) 54 0 rfl ?_
  refine GW.weak (l_owC sx I J _ ?_ 7 0 rfl) ⟨rfl, rfl, rfl, trivial⟩
  refine ⟨_, rfl, ?_⟩
  refine Mt.of2 _ rfl (by decide +kernel) (Nat.le_of_ble_eq_true rfl) ?_
  refine GW.run kX4_owed (fun pc => Nat.beq pc 4) 54 0 rfl ?_
  refine GW.weak (GW.eqI (sR_self I).symm (l_owM sx (I 44) I J _ ?_ 7 0 rfl)) ⟨rfl, rfl, rfl, trivial⟩
  exact ⟨congrArg (fun x => some (Value.int (nI x))) (owF_c (fun j hj => ha.2.1 2 j (by decide) (by decide) hj) 7 (by decide)), by rw [sR_self]; exact hS⟩
set_option maxRecDepth 100000 in
set_option maxHeartbeats 4000000 in
theorem l_stM (sx : Nat × (Nat → Int32)) (w : Int32) (I : Mm) (J : Ml) (Rt : Option Value → Mm → Ml → Prop) (hR : GW sx (na_mi MX4_status) Rt 42 [some (.ref 43), some (.int w), some (.int (sumI (I 45) 7)), none] [] I J) : ∀ m n , n + m = 7 → GW sx (na_mi MX4_status) Rt 21 [some (.ref 43), some (.int w), some (.int (sumI (I 45) n)), some (.int (nI n))] [] I J := by
  intro m
  induction m with
  | zero =>
    intro n  hn 
    obtain rfl : n = 7 := by omega
    have hz : (7 : Int32) ≤ nI 7 := by decide
    refine GW.run kX4_status (fun pc => Nat.beq pc 21 || Nat.beq pc 42) 68 13 rfl ?_
    refine And.intro (fun _ => ?_) (fun hh => absurd hz hh)
    exact GW.weak hR ⟨rfl, rfl, rfl, trivial⟩
  | succ m ih =>
    intro n  hn 
    have hz : ¬ (7 : Int32) ≤ nI n := nI_ge (a := n) (b := 7) (by omega) (by omega)
    have hb7 : vp_in (nI n) 7 := vp_in_nI (by omega) (by omega)
    have hc := nI_clamp (n := n) (by omega)
    have ih := ih (n + 1) (by omega)
    refine GW.run kX4_status (fun pc => Nat.beq pc 21 || Nat.beq pc 42) 68 13 rfl ?_
    refine And.intro (fun hh => absurd hh hz) (fun _ => ?_)
    refine And.intro (hb7) ?_
    exact GW.weak ih ⟨rfl, rfl, by rw [sumI, hc], by rw [nI_1], trivial⟩
set_option maxRecDepth 100000 in
set_option maxHeartbeats 4000000 in
theorem pr_statusm (sx : Nat × (Nat → Int32)) : PrI sx MX3_status MX4_status [.int (-1)] := by
  intro I J hS
  refine Mt.of2 _ rfl (by decide +kernel) (Nat.le_of_ble_eq_true rfl) ?_
  refine GW.run kX3_status (fun _ => false) 52 0 rfl ?_
  refine Mt.conseq (c_outside _ _ _ _ _ _) ?_
  rintro _ _ _ ⟨rfl, rfl, ⟨h1, rfl⟩ | ⟨h1, rfl⟩⟩
  · -- pc 4 call X3_outside true
    exact absurd h1 (by decide)
  · -- pc 4 call X3_outside false
    refine And.intro (fun _ => ?_) (fun hh => absurd hh (by decide))
    refine And.intro (fun hh => absurd hh (by decide)) (fun _ => ?_)
    refine Mt.conseq (c_sum_42 _ 7 (by decide) _ _) ?_
    rintro _ _ _ ⟨rfl, rfl, rfl⟩
    refine ⟨trivial, _, rfl, ?_⟩
    refine Mt.of2 _ rfl (by decide +kernel) (Nat.le_of_ble_eq_true rfl) ?_
    refine GW.run kX4_status (fun pc => Nat.beq pc 21) 68 0 rfl ?_
    refine Mt.conseq (m_in _ _ _ _ _ _) ?_
    rintro _ _ _ ⟨rfl, rfl, ⟨g1, rfl⟩ | ⟨g1, rfl⟩⟩
    · -- pc 4 call X4_in true
      refine And.intro (fun _ => ?_) (fun hh => absurd hh (by decide))
      refine GW.weak (l_stM sx _ I J _ ?_ 7 0 rfl) ⟨rfl, rfl, rfl, rfl, trivial⟩
      refine GW.run kX4_status (fun _ => false) 68 25 rfl ?_
      refine And.intro (fun hh => absurd hh (by decide)) (fun _ => ?_)
      exact ⟨trivial, congrArg (fun x => some (Value.int x)) (sumI_k 7 fun j hj => (hS.2.2.2.2 j hj).symm), hS⟩
    · -- pc 4 call X4_in false
      exact (nout_nin h1 g1).elim
set_option maxRecDepth 100000 in
set_option maxHeartbeats 4000000 in
theorem pr_statusk (sx : Nat × (Nat → Int32)) (k : Nat) (hk : k < 7) : PrI sx MX3_status MX4_status [.int (nI k)] := by
  intro I J hS
  have hk0 : 0 ≤ nI k := nI_pos' (by omega)
  have e6 : (6 : Int32).toInt = 6 := by decide
  have em : (-1 : Int32).toInt = -1 := by decide
  have hko : ¬ outP (nI k) (-1) 6 := by
    rintro (q | q)
    · rw [lt_i, nI_toInt (by omega), em] at q; omega
    · rw [lt_i, nI_toInt (by omega), e6] at q; omega
  have hkm : ¬ nI k = -1 := fun q => by
    have := congrArg Int32.toInt q
    rw [nI_toInt (by omega), em] at this
    omega
  have hbk : vp_in (nI k) 7 := vp_in_nI (by omega) (by omega)
  have hck := nI_clamp (n := k) (by omega)
  refine Mt.of2 _ rfl (by decide +kernel) (Nat.le_of_ble_eq_true rfl) ?_
  refine GW.run kX3_status (fun _ => false) 52 0 rfl ?_
  refine Mt.conseq (c_outside _ _ _ _ _ _) ?_
  rintro _ _ _ ⟨rfl, rfl, ⟨h1, rfl⟩ | ⟨h1, rfl⟩⟩
  · -- pc 4 call X3_outside true
    exact absurd h1 hko
  · -- pc 4 call X3_outside false
    refine And.intro (fun _ => ?_) (fun hh => absurd hh (by decide))
    refine And.intro (fun h2 => ?_) (fun h2 => ?_)
    · -- pc 19 .if_icmp .ne 15: yes
      refine And.intro (hbk) ?_
      refine ⟨trivial, _, rfl, ?_⟩
      refine Mt.of2 _ rfl (by decide +kernel) (Nat.le_of_ble_eq_true rfl) ?_
      refine GW.run kX4_status (fun pc => Nat.beq pc 21) 68 0 rfl ?_
      refine Mt.conseq (m_in _ _ _ _ _ _) ?_
      rintro _ _ _ ⟨rfl, rfl, ⟨g1, rfl⟩ | ⟨g1, rfl⟩⟩
      · -- pc 4 call X4_in true
        refine And.intro (fun _ => ?_) (fun hh => absurd hh (by decide))
        refine GW.weak (l_stM sx _ I J _ ?_ 7 0 rfl) ⟨rfl, rfl, rfl, rfl, trivial⟩
        refine GW.run kX4_status (fun _ => false) 68 25 rfl ?_
        refine And.intro (fun _ => ?_) (fun hh => absurd hk0 hh)
        refine And.intro (fun _ => ?_) (fun hh => absurd hk0 hh)
        refine And.intro (hbk) ?_
        refine ⟨trivial, ?_, hS⟩
        rw [hck]
        exact congrArg (fun x => some (Value.int x)) (hS.2.2.2.2 k hk).symm
      · -- pc 4 call X4_in false
        exact (nout_nin h1 g1).elim
    · -- pc 19 .if_icmp .ne 15: no
      exact absurd h2 hkm
set_option maxRecDepth 100000 in
set_option maxHeartbeats 4000000 in
theorem pr_statusx (sx : Nat × (Nat → Int32)) (w : Int32) (hw : outP w (-1) 6) : PrI sx MX3_status MX4_status [.int w] := by
  intro I J hS
  refine Mt.of2 _ rfl (by decide +kernel) (Nat.le_of_ble_eq_true rfl) ?_
  refine GW.run kX3_status (fun _ => false) 52 0 rfl ?_
  refine Mt.conseq (c_outside _ _ _ _ _ _) ?_
  rintro _ _ _ ⟨rfl, rfl, ⟨h1, rfl⟩ | ⟨h1, rfl⟩⟩
  · -- pc 4 call X3_outside true
    refine And.intro (fun hh => absurd hh (by decide)) (fun _ => ?_)
    refine Mt.conseq (c_fnd0 _ _ _) ?_
    rintro _ _ _ ⟨rfl, rfl, rfl⟩
    refine ⟨trivial, _, rfl, ?_⟩
    refine Mt.of2 _ rfl (by decide +kernel) (Nat.le_of_ble_eq_true rfl) ?_
    refine GW.run kX4_status (fun pc => Nat.beq pc 21) 68 0 rfl ?_
    refine Mt.conseq (m_in _ _ _ _ _ _) ?_
    rintro _ _ _ ⟨rfl, rfl, ⟨g1, rfl⟩ | ⟨g1, rfl⟩⟩
    · -- pc 4 call X4_in true
      exact (out_in h1 g1).elim
    · -- pc 4 call X4_in false
      refine And.intro (fun hh => absurd hh (by decide)) (fun _ => ?_)
      refine Mt.conseq (m_fnd0 _ _ _) ?_
      rintro _ _ _ ⟨rfl, rfl, rfl⟩
      exact ⟨trivial, rfl, hS.found (by decide)⟩
  · -- pc 4 call X3_outside false
    exact absurd hw h1
theorem pr_status (sx : Nat × (Nat → Int32)) (w : Int32) : PrI sx MX3_status MX4_status [.int w] := by
  by_cases h : outP w (-1) 6
  · exact pr_statusx sx w h
  · obtain ⟨h1, h2⟩ := nout_rg (a := -1) (b := 6) (by decide) (by decide) h
    by_cases hm : w.toInt = -1
    · obtain rfl : w = -1 := Int32.toInt_inj.mp (by rw [hm]; decide)
      exact pr_statusm sx
    · obtain ⟨k, hk, rfl⟩ := nI_rg (b := 6) (by decide) (x := w) ⟨by omega, h2⟩
      exact pr_statusk sx k (by omega)
def ndM (f : Nat → Int32) : Nat → Int32
  | 0 => 0
  | n + 1 => ndM f n + f (36 + 5 * n + 2)
theorem ndM_c {P : Nat} {f : Nat → Int32} {N : Mm} (h : Agr P (vN f) N) : ∀ n, n ≤ P → ndM f n = sumI (N 7) n
  | 0, _ => rfl
  | n + 1, hn => by
    rw [ndM, sumI, ndM_c h n (by omega)]
    congr 1
    exact h.2.2 7 n (by decide) (by decide) (by omega)
set_option maxRecDepth 100000 in
set_option maxHeartbeats 4000000 in
theorem l_ctM (sx : Nat × (Nat → Int32)) (w : Int32) (f : Nat → Int32) (P : Nat) (hP : f 3 = nI P) (hP8 : P ≤ 8) (I : Mm) (J : Ml) (Rt : Option Value → Mm → Ml → Prop) (hR : GW sx (na_mi MX4_count) Rt 45 [some (.ref 43), some (.int w), some (.int (ndM f P)), none] [] (sR f I) J) : ∀ m n , n + m = P → GW sx (na_mi MX4_count) Rt 20 [some (.ref 43), some (.int w), some (.int (ndM f n)), some (.int (nI n))] [] (sR f I) J := by
  intro m
  induction m with
  | zero =>
    intro n  hn 
    obtain rfl : P = n := by omega
    have hz : f 3 ≤ nI P := by rw [hP]; exact Int32.le_refl _
    refine GW.run kX4_count (fun pc => Nat.beq pc 20 || Nat.beq pc 45) 80 13 rfl ?_
    refine And.intro (by unfold vp_in; decide) ?_
    refine And.intro (fun _ => ?_) (fun hh => absurd hz hh)
    exact GW.weak hR ⟨rfl, rfl, rfl, trivial⟩
  | succ m ih =>
    intro n  hn 
    have hz : ¬ f 3 ≤ nI n := by rw [hP]; exact nI_ge (by omega) (by omega)
    have ih := ih (n + 1) (by omega)
    refine GW.run kX4_count (fun pc => Nat.beq pc 20 || Nat.beq pc 45) 80 13 rfl ?_
    refine And.intro (by unfold vp_in; decide) ?_
    refine And.intro (fun hh => absurd hh hz) (fun _ => ?_)
    refine Mt.conseq (m_its _ n 2 (by omega) (by decide) _ (by decide) _ _ _) ?_
    rintro _ _ _ ⟨rfl, rfl, rfl⟩
    exact GW.weak ih ⟨rfl, rfl, rfl, by rw [nI_1], trivial⟩
set_option maxRecDepth 100000 in
set_option maxHeartbeats 4000000 in
theorem pr_count0 (sx : Nat × (Nat → Int32)) : PrI sx MX3_count MX4_count [.int 0] := by
  intro I J hS
  obtain ⟨P, hN, ha, hP8, hP1, hP3, hpl⟩ := hS.nt
  have e73 : I 44 3 = I 1 7 := hP3.trans hP1.symm
  refine Mt.of2 _ rfl (by decide +kernel) (Nat.le_of_ble_eq_true rfl) ?_
  refine GW.run kX3_count (fun _ => false) 58 0 rfl ?_
  refine And.intro (fun h1 => ?_) (And.intro (fun h1 => ?_) (And.intro (fun h1 => ?_) (And.intro (fun h1 => ?_) (And.intro (fun h1 => ?_) (trivial)))))
  · -- pc 1 switch None
    exact absurd h1 (by decide)
  · -- pc 1 switch 0
    refine ⟨trivial, _, rfl, ?_⟩
    refine Mt.of2 _ rfl (by decide +kernel) (Nat.le_of_ble_eq_true rfl) ?_
    refine GW.run kX4_count (fun pc => Nat.beq pc 20) 80 0 rfl ?_
    refine Mt.conseq (m_in _ _ _ _ _ _) ?_
    rintro _ _ _ ⟨rfl, rfl, ⟨g1, rfl⟩ | ⟨g1, rfl⟩⟩
    · -- pc 3 call X4_in true
      refine And.intro (fun _ => ?_) (fun hh => absurd hh (by decide))
      refine GW.weak (GW.eqI (sR_self I).symm (l_ctM sx _ (I 44) P hP3 hP8 I J _ ?_ P 0 (by omega))) ⟨rfl, rfl, rfl, rfl, trivial⟩
      refine GW.run kX4_count (fun _ => false) 80 28 rfl ?_
      refine And.intro (fun hh => absurd hh (by decide)) (fun _ => ?_)
      refine And.intro (by unfold vp_in; decide) ?_
      exact ⟨trivial, congrArg (fun x => some (Value.int x)) e73, by rw [sR_self]; exact hS⟩
    · -- pc 3 call X4_in false
      refine And.intro (fun hh => absurd hh (by decide)) (fun _ => ?_)
      refine Mt.conseq (m_fnd0 _ _ _) ?_
      rintro _ _ _ ⟨rfl, rfl, rfl⟩
      exact absurd (by decide) g1
  · -- pc 1 switch 1
    exact absurd h1 (by decide)
  · -- pc 1 switch 2
    exact absurd h1 (by decide)
  · -- pc 1 switch 3
    exact absurd h1 (by decide)
set_option maxRecDepth 100000 in
set_option maxHeartbeats 4000000 in
theorem pr_count1 (sx : Nat × (Nat → Int32)) : PrI sx MX3_count MX4_count [.int 1] := by
  intro I J hS
  obtain ⟨P, hN, ha, hP8, hP1, hP3, hpl⟩ := hS.nt
  have e73 : I 44 3 = I 1 7 := hP3.trans hP1.symm
  refine Mt.of2 _ rfl (by decide +kernel) (Nat.le_of_ble_eq_true rfl) ?_
  refine GW.run kX3_count (fun _ => false) 58 0 rfl ?_
  refine And.intro (fun h1 => ?_) (And.intro (fun h1 => ?_) (And.intro (fun h1 => ?_) (And.intro (fun h1 => ?_) (And.intro (fun h1 => ?_) (trivial)))))
  · -- pc 1 switch None
    exact absurd h1 (by decide)
  · -- pc 1 switch 0
    exact absurd h1 (by decide)
  · -- pc 1 switch 1
    refine ⟨trivial, _, rfl, ?_⟩
    refine Mt.of2 _ rfl (by decide +kernel) (Nat.le_of_ble_eq_true rfl) ?_
    refine GW.run kX4_count (fun pc => Nat.beq pc 20) 80 0 rfl ?_
    refine Mt.conseq (m_in _ _ _ _ _ _) ?_
    rintro _ _ _ ⟨rfl, rfl, ⟨g1, rfl⟩ | ⟨g1, rfl⟩⟩
    · -- pc 3 call X4_in true
      refine And.intro (fun _ => ?_) (fun hh => absurd hh (by decide))
      refine GW.weak (GW.eqI (sR_self I).symm (l_ctM sx _ (I 44) P hP3 hP8 I J _ ?_ P 0 (by omega))) ⟨rfl, rfl, rfl, rfl, trivial⟩
      refine GW.run kX4_count (fun _ => false) 80 28 rfl ?_
      refine And.intro (fun _ => ?_) (fun hh => absurd hh (by decide))
      refine And.intro (fun hh => absurd hh (by decide)) (fun _ => ?_)
      obtain ⟨L, t1, t2, t3, t4⟩ := hS.2.2.1
      exact ⟨trivial, congrArg (fun x => some (Value.int x)) (t3.trans t2.symm), by rw [sR_self]; exact hS⟩
    · -- pc 3 call X4_in false
      refine And.intro (fun hh => absurd hh (by decide)) (fun _ => ?_)
      refine Mt.conseq (m_fnd0 _ _ _) ?_
      rintro _ _ _ ⟨rfl, rfl, rfl⟩
      exact absurd (by decide) g1
  · -- pc 1 switch 2
    exact absurd h1 (by decide)
  · -- pc 1 switch 3
    exact absurd h1 (by decide)
set_option maxRecDepth 100000 in
set_option maxHeartbeats 4000000 in
theorem pr_count2 (sx : Nat × (Nat → Int32)) : PrI sx MX3_count MX4_count [.int 2] := by
  intro I J hS
  obtain ⟨P, hN, ha, hP8, hP1, hP3, hpl⟩ := hS.nt
  have e73 : I 44 3 = I 1 7 := hP3.trans hP1.symm
  refine Mt.of2 _ rfl (by decide +kernel) (Nat.le_of_ble_eq_true rfl) ?_
  refine GW.run kX3_count (fun _ => false) 58 0 rfl ?_
  refine And.intro (fun h1 => ?_) (And.intro (fun h1 => ?_) (And.intro (fun h1 => ?_) (And.intro (fun h1 => ?_) (And.intro (fun h1 => ?_) (trivial)))))
  · -- pc 1 switch None
    exact absurd h1 (by decide)
  · -- pc 1 switch 0
    exact absurd h1 (by decide)
  · -- pc 1 switch 1
    exact absurd h1 (by decide)
  · -- pc 1 switch 2
    refine Mt.conseq ((by have h := c_sum_8 sx P hP8 I J; rw [← hP1] at h; exact h)) ?_
    rintro _ _ _ ⟨rfl, rfl, rfl⟩
    refine ⟨trivial, _, rfl, ?_⟩
    refine Mt.of2 _ rfl (by decide +kernel) (Nat.le_of_ble_eq_true rfl) ?_
    refine GW.run kX4_count (fun pc => Nat.beq pc 20) 80 0 rfl ?_
    refine Mt.conseq (m_in _ _ _ _ _ _) ?_
    rintro _ _ _ ⟨rfl, rfl, ⟨g1, rfl⟩ | ⟨g1, rfl⟩⟩
    · -- pc 3 call X4_in true
      refine And.intro (fun _ => ?_) (fun hh => absurd hh (by decide))
      refine GW.weak (GW.eqI (sR_self I).symm (l_ctM sx _ (I 44) P hP3 hP8 I J _ ?_ P 0 (by omega))) ⟨rfl, rfl, rfl, rfl, trivial⟩
      refine GW.run kX4_count (fun _ => false) 80 28 rfl ?_
      refine And.intro (fun _ => ?_) (fun hh => absurd hh (by decide))
      refine And.intro (fun _ => ?_) (fun hh => absurd hh (by decide))
      refine And.intro (fun hh => absurd hh (by decide)) (fun _ => ?_)
      exact ⟨trivial, congrArg (fun x => some (Value.int x)) (ndM_c ha P (Nat.le_refl _)), by rw [sR_self]; exact hS⟩
    · -- pc 3 call X4_in false
      refine And.intro (fun hh => absurd hh (by decide)) (fun _ => ?_)
      refine Mt.conseq (m_fnd0 _ _ _) ?_
      rintro _ _ _ ⟨rfl, rfl, rfl⟩
      exact absurd (by decide) g1
  · -- pc 1 switch 3
    exact absurd h1 (by decide)
set_option maxRecDepth 100000 in
set_option maxHeartbeats 4000000 in
theorem pr_count3 (sx : Nat × (Nat → Int32)) : PrI sx MX3_count MX4_count [.int 3] := by
  intro I J hS
  obtain ⟨P, hN, ha, hP8, hP1, hP3, hpl⟩ := hS.nt
  have e73 : I 44 3 = I 1 7 := hP3.trans hP1.symm
  refine Mt.of2 _ rfl (by decide +kernel) (Nat.le_of_ble_eq_true rfl) ?_
  refine GW.run kX3_count (fun _ => false) 58 0 rfl ?_
  refine And.intro (fun h1 => ?_) (And.intro (fun h1 => ?_) (And.intro (fun h1 => ?_) (And.intro (fun h1 => ?_) (And.intro (fun h1 => ?_) (trivial)))))
  · -- pc 1 switch None
    exact absurd h1 (by decide)
  · -- pc 1 switch 0
    exact absurd h1 (by decide)
  · -- pc 1 switch 1
    exact absurd h1 (by decide)
  · -- pc 1 switch 2
    exact absurd h1 (by decide)
  · -- pc 1 switch 3
    refine Mt.conseq (c_sum_5 _ 8 (by decide) _ _) ?_
    rintro _ _ _ ⟨rfl, rfl, rfl⟩
    refine ⟨trivial, _, rfl, ?_⟩
    refine Mt.of2 _ rfl (by decide +kernel) (Nat.le_of_ble_eq_true rfl) ?_
    refine GW.run kX4_count (fun pc => Nat.beq pc 20) 80 0 rfl ?_
    refine Mt.conseq (m_in _ _ _ _ _ _) ?_
    rintro _ _ _ ⟨rfl, rfl, ⟨g1, rfl⟩ | ⟨g1, rfl⟩⟩
    · -- pc 3 call X4_in true
      refine And.intro (fun _ => ?_) (fun hh => absurd hh (by decide))
      refine GW.weak (GW.eqI (sR_self I).symm (l_ctM sx _ (I 44) P hP3 hP8 I J _ ?_ P 0 (by omega))) ⟨rfl, rfl, rfl, rfl, trivial⟩
      refine GW.run kX4_count (fun _ => false) 80 28 rfl ?_
      refine And.intro (fun _ => ?_) (fun hh => absurd hh (by decide))
      refine And.intro (fun _ => ?_) (fun hh => absurd hh (by decide))
      refine And.intro (fun _ => ?_) (fun hh => absurd hh (by decide))
      refine Mt.conseq (m_su _ _ 3 (by decide) _ rfl _ _) ?_
      rintro _ _ _ ⟨rfl, rfl, rfl⟩
      exact ⟨trivial, congrArg (fun x => some (Value.int x)) (sum_eq ha (w := 3) (by decide) 8 (by decide)), by rw [sR_self]; exact hS⟩
    · -- pc 3 call X4_in false
      refine And.intro (fun hh => absurd hh (by decide)) (fun _ => ?_)
      refine Mt.conseq (m_fnd0 _ _ _) ?_
      rintro _ _ _ ⟨rfl, rfl, rfl⟩
      exact absurd (by decide) g1
set_option maxRecDepth 100000 in
set_option maxHeartbeats 4000000 in
theorem pr_countx (sx : Nat × (Nat → Int32)) (w : Int32) (hw : outP w 0 3) : PrI sx MX3_count MX4_count [.int w] := by
  intro I J hS
  have hx : True ∧ ∀ j : Int, 0 ≤ j → j ≤ 3 → w.toInt = j → False := ⟨trivial, fun j h1 h2 e => by
    have e3 : (3 : Int32).toInt = 3 := by decide
    rcases hw with q | q
    · rw [lt_i, i0] at q; omega
    · rw [lt_i, e3] at q; omega⟩
  refine Mt.of2 _ rfl (by decide +kernel) (Nat.le_of_ble_eq_true rfl) ?_
  refine GW.run kX3_count (fun _ => false) 58 0 rfl ?_
  refine And.intro (fun h1 => ?_) (And.intro (fun h1 => ?_) (And.intro (fun h1 => ?_) (And.intro (fun h1 => ?_) (And.intro (fun h1 => ?_) (trivial)))))
  · -- pc 1 switch None
    refine Mt.conseq (c_fnd0 _ _ _) ?_
    rintro _ _ _ ⟨rfl, rfl, rfl⟩
    refine ⟨trivial, _, rfl, ?_⟩
    refine Mt.of2 _ rfl (by decide +kernel) (Nat.le_of_ble_eq_true rfl) ?_
    refine GW.run kX4_count (fun pc => Nat.beq pc 20) 80 0 rfl ?_
    refine Mt.conseq (m_in _ _ _ _ _ _) ?_
    rintro _ _ _ ⟨rfl, rfl, ⟨g1, rfl⟩ | ⟨g1, rfl⟩⟩
    · -- pc 3 call X4_in true
      refine And.intro (fun _ => ?_) (fun hh => absurd hh (by decide))
      exact (out_in hw g1).elim
    · -- pc 3 call X4_in false
      refine And.intro (fun hh => absurd hh (by decide)) (fun _ => ?_)
      refine Mt.conseq (m_fnd0 _ _ _) ?_
      rintro _ _ _ ⟨rfl, rfl, rfl⟩
      exact ⟨trivial, rfl, hS.found (by decide)⟩
  · -- pc 1 switch 0
    exact (hx.2 0 (by omega) (by omega) h1).elim
  · -- pc 1 switch 1
    exact (hx.2 1 (by omega) (by omega) h1).elim
  · -- pc 1 switch 2
    exact (hx.2 2 (by omega) (by omega) h1).elim
  · -- pc 1 switch 3
    exact (hx.2 3 (by omega) (by omega) h1).elim
theorem pr_count (sx : Nat × (Nat → Int32)) (w : Int32) : PrI sx MX3_count MX4_count [.int w] := by
  by_cases h : outP w 0 3
  · exact pr_countx sx w h
  · obtain ⟨n, hn, rfl⟩ := nout_nI (b := 3) (by decide) h
    obtain rfl | rfl | rfl | rfl : n = 0 ∨ n = 1 ∨ n = 2 ∨ n = 3 := by omega
    · exact pr_count0 sx
    · exact pr_count1 sx
    · exact pr_count2 sx
    · exact pr_count3 sx
