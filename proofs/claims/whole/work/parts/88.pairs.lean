/-! PAIRS: copy -/
abbrev strP (a n L : Int32) : Prop := 0 ≤ a ∧ 0 ≤ n ∧ n ≤ L ∧ a ≤ L - n
theorem str_nat {a n x : Int32} {L : Nat} (hx : x = nI L) (hL : L ≤ 40) (h : strP a n x) : ∃ A K, a = nI A ∧ n = nI K ∧ A + K ≤ L := by
  obtain ⟨h1, h2, h3, h4⟩ := h
  obtain ⟨A, hA, rfl⟩ := nI_of (x := a) (Int32.not_lt.mpr h1)
  obtain ⟨K, hK, rfl⟩ := nI_of (x := n) (Int32.not_lt.mpr h2)
  rw [hx, nI_leI hK (by omega)] at h3
  rw [hx, pk_sub h3, nI_leI hA (by omega)] at h4
  exact ⟨A, K, rfl, rfl, by omega⟩
/-- a stretch of one sheet into another: class and reference -/
theorem Sim.copied {I : Mm} {J : Ml} (h : Sim I J) {s t A B K Ls Lt : Nat} (hs : s < 4) (ht : t < 4) (hLs : I (34 + 2 * s) 2 = nI Ls) (hLt : I (34 + 2 * t) 2 = nI Lt) (hs4 : Ls ≤ 40) (ht4 : Lt ≤ 40) (hA : A + K ≤ Ls) (hB : B + K ≤ Lt) {u : Nat → Int64} (hu : ∀ j, j < K → u j = J 50 (40 * s + A + j)) {w : Ml} (hw : ∀ a, a ≠ 51 → w a = na_cpL J (35 + 2 * s) (35 + 2 * t) A B K a) : Sim I (wJ w 50 (40 * t + B) K u) := by
  obtain ⟨-, -, n, hn, e1, -, e3⟩ := h.2.2.2.1 s hs
  obtain ⟨-, -, n', hn', e1', -, e3'⟩ := h.2.2.2.1 t ht
  have c1 : n = Ls := (nI_eq (by omega) (by omega)).mp (e1.symm.trans hLs)
  have c2 : n' = Lt := (nI_eq (by omega) (by omega)).mp (e1'.symm.trans hLt)
  have cp : ∀ b, na_cpL J (35 + 2 * s) (35 + 2 * t) A B K b = if b = 35 + 2 * t then va_cpy (J (35 + 2 * s)) (J (35 + 2 * t)) A B K else J b := fun b => rfl
  refine h.sheetJ (s := t) (fun x hx hne j hj => ⟨?_, ?_⟩) (fun m hm e2 j hj => ?_)
  · rw [wJ_off (by omega), hw _ (by omega), cp, if_neg (by omega)]
  · rw [wJ_on, if_neg (by omega), hw 50 (by decide), cp, if_neg (by omega)]
  · have c3 : m = Lt := (nI_eq (by omega) (by omega)).mp (e2.symm.trans hLt)
    have z0 : w 50 = J 50 := by rw [hw 50 (by decide), cp, if_neg (by omega)]
    have z1 : w (35 + 2 * t) j = va_cpy (J (35 + 2 * s)) (J (35 + 2 * t)) A B K j := by rw [hw _ (by omega), cp, if_pos rfl]
    rw [wJ_off (by omega), z1, wJ_on, z0, va_cpy]
    by_cases q : B ≤ j ∧ j < B + K
    · rw [if_pos q, if_pos (by omega), hu _ (by omega), e3 _ (by omega)]
      congr 1
      omega
    · rw [if_neg q, if_neg (by omega)]
      exact e3' j (by omega)
set_option maxRecDepth 100000 in
set_option maxHeartbeats 4000000 in
theorem c_str0 (sx : Nat × (Nat → Int32)) (a n : Int32) (I : Mm) (J : Ml) : Mt sx MX1_hasStretch [.ref 34, .int a, .int n] I J (na_b I J (strP a n (I 34 2))) := by
  refine Mt.of2 _ rfl (by decide +kernel) (Nat.le_of_ble_eq_true rfl) ?_
  refine GW.run kX1_hasStretch (fun _ => false) 48 0 rfl ?_
  refine And.intro (fun h1 => ?_) (fun h1 => ?_)
  · -- pc 1 .ifCond .lt 29: yes
    exact ⟨na_nl_b0, rfl, rfl, Or.inr ⟨fun z => absurd h1 (Int32.not_lt.mpr z.1), rfl⟩⟩
  · -- pc 1 .ifCond .lt 29: no
    refine And.intro (fun h2 => ?_) (fun h2 => ?_)
    · -- pc 5 .ifCond .lt 25: yes
      exact ⟨na_nl_b0, rfl, rfl, Or.inr ⟨fun z => absurd h2 (Int32.not_lt.mpr z.2.1), rfl⟩⟩
    · -- pc 5 .ifCond .lt 25: no
      refine And.intro (fun h3 => ?_) (fun h3 => ?_)
      · -- pc 13 .if_icmp .gt 17: yes
        exact ⟨na_nl_b0, rfl, rfl, Or.inr ⟨fun z => absurd h3 (Int32.not_lt.mpr z.2.2.1), rfl⟩⟩
      · -- pc 13 .if_icmp .gt 17: no
        refine And.intro (fun h4 => ?_) (fun h4 => ?_)
        · -- pc 23 .if_icmp .gt 7: yes
          exact ⟨na_nl_b0, rfl, rfl, Or.inr ⟨fun z => absurd h4 (Int32.not_lt.mpr z.2.2.2), rfl⟩⟩
        · -- pc 23 .if_icmp .gt 7: no
          exact ⟨na_nl_b1, rfl, rfl, Or.inl ⟨⟨Int32.not_lt.mp h1, Int32.not_lt.mp h2, Int32.not_lt.mp h3, Int32.not_lt.mp h4⟩, rfl⟩⟩
set_option maxRecDepth 100000 in
set_option maxHeartbeats 4000000 in
theorem m_part0 (sx : Nat × (Nat → Int32)) (a n : Int32) (I : Mm) (J : Ml) : Mt sx MX4_isPart [.ref 43, .int 0, .int a, .int n] I J (na_b I J (strP a n (I 49 0))) := by
  refine Mt.of2 _ rfl (by decide +kernel) (Nat.le_of_ble_eq_true rfl) ?_
  refine GW.run kX4_isPart (fun _ => false) 52 0 rfl ?_
  refine And.intro (fun h1 => ?_) (fun h1 => ?_)
  · -- pc 1 .ifCond .lt 33: yes
    exact ⟨na_nl_b0, rfl, rfl, Or.inr ⟨fun z => absurd h1 (Int32.not_lt.mpr z.1), rfl⟩⟩
  · -- pc 1 .ifCond .lt 33: no
    refine And.intro (fun h2 => ?_) (fun h2 => ?_)
    · -- pc 5 .ifCond .lt 29: yes
      exact ⟨na_nl_b0, rfl, rfl, Or.inr ⟨fun z => absurd h2 (Int32.not_lt.mpr z.2.1), rfl⟩⟩
    · -- pc 5 .ifCond .lt 29: no
      refine And.intro (by unfold vp_in; decide) ?_
      refine And.intro (fun h3 => ?_) (fun h3 => ?_)
      · -- pc 15 .if_icmp .gt 19: yes
        exact ⟨na_nl_b0, rfl, rfl, Or.inr ⟨fun z => absurd h3 (Int32.not_lt.mpr z.2.2.1), rfl⟩⟩
      · -- pc 15 .if_icmp .gt 19: no
        refine And.intro (by unfold vp_in; decide) ?_
        refine And.intro (fun h4 => ?_) (fun h4 => ?_)
        · -- pc 27 .if_icmp .gt 7: yes
          exact ⟨na_nl_b0, rfl, rfl, Or.inr ⟨fun z => absurd h4 (Int32.not_lt.mpr z.2.2.2), rfl⟩⟩
        · -- pc 27 .if_icmp .gt 7: no
          exact ⟨na_nl_b1, rfl, rfl, Or.inl ⟨⟨Int32.not_lt.mp h1, Int32.not_lt.mp h2, Int32.not_lt.mp h3, Int32.not_lt.mp h4⟩, rfl⟩⟩
set_option maxRecDepth 100000 in
set_option maxHeartbeats 4000000 in
theorem c_str1 (sx : Nat × (Nat → Int32)) (a n : Int32) (I : Mm) (J : Ml) : Mt sx MX1_hasStretch [.ref 36, .int a, .int n] I J (na_b I J (strP a n (I 36 2))) := by
  refine Mt.of2 _ rfl (by decide +kernel) (Nat.le_of_ble_eq_true rfl) ?_
  refine GW.run kX1_hasStretch (fun _ => false) 48 0 rfl ?_
  refine And.intro (fun h1 => ?_) (fun h1 => ?_)
  · -- pc 1 .ifCond .lt 29: yes
    exact ⟨na_nl_b0, rfl, rfl, Or.inr ⟨fun z => absurd h1 (Int32.not_lt.mpr z.1), rfl⟩⟩
  · -- pc 1 .ifCond .lt 29: no
    refine And.intro (fun h2 => ?_) (fun h2 => ?_)
    · -- pc 5 .ifCond .lt 25: yes
      exact ⟨na_nl_b0, rfl, rfl, Or.inr ⟨fun z => absurd h2 (Int32.not_lt.mpr z.2.1), rfl⟩⟩
    · -- pc 5 .ifCond .lt 25: no
      refine And.intro (fun h3 => ?_) (fun h3 => ?_)
      · -- pc 13 .if_icmp .gt 17: yes
        exact ⟨na_nl_b0, rfl, rfl, Or.inr ⟨fun z => absurd h3 (Int32.not_lt.mpr z.2.2.1), rfl⟩⟩
      · -- pc 13 .if_icmp .gt 17: no
        refine And.intro (fun h4 => ?_) (fun h4 => ?_)
        · -- pc 23 .if_icmp .gt 7: yes
          exact ⟨na_nl_b0, rfl, rfl, Or.inr ⟨fun z => absurd h4 (Int32.not_lt.mpr z.2.2.2), rfl⟩⟩
        · -- pc 23 .if_icmp .gt 7: no
          exact ⟨na_nl_b1, rfl, rfl, Or.inl ⟨⟨Int32.not_lt.mp h1, Int32.not_lt.mp h2, Int32.not_lt.mp h3, Int32.not_lt.mp h4⟩, rfl⟩⟩
set_option maxRecDepth 100000 in
set_option maxHeartbeats 4000000 in
theorem m_part1 (sx : Nat × (Nat → Int32)) (a n : Int32) (I : Mm) (J : Ml) : Mt sx MX4_isPart [.ref 43, .int 1, .int a, .int n] I J (na_b I J (strP a n (I 49 1))) := by
  refine Mt.of2 _ rfl (by decide +kernel) (Nat.le_of_ble_eq_true rfl) ?_
  refine GW.run kX4_isPart (fun _ => false) 52 0 rfl ?_
  refine And.intro (fun h1 => ?_) (fun h1 => ?_)
  · -- pc 1 .ifCond .lt 33: yes
    exact ⟨na_nl_b0, rfl, rfl, Or.inr ⟨fun z => absurd h1 (Int32.not_lt.mpr z.1), rfl⟩⟩
  · -- pc 1 .ifCond .lt 33: no
    refine And.intro (fun h2 => ?_) (fun h2 => ?_)
    · -- pc 5 .ifCond .lt 29: yes
      exact ⟨na_nl_b0, rfl, rfl, Or.inr ⟨fun z => absurd h2 (Int32.not_lt.mpr z.2.1), rfl⟩⟩
    · -- pc 5 .ifCond .lt 29: no
      refine And.intro (by unfold vp_in; decide) ?_
      refine And.intro (fun h3 => ?_) (fun h3 => ?_)
      · -- pc 15 .if_icmp .gt 19: yes
        exact ⟨na_nl_b0, rfl, rfl, Or.inr ⟨fun z => absurd h3 (Int32.not_lt.mpr z.2.2.1), rfl⟩⟩
      · -- pc 15 .if_icmp .gt 19: no
        refine And.intro (by unfold vp_in; decide) ?_
        refine And.intro (fun h4 => ?_) (fun h4 => ?_)
        · -- pc 27 .if_icmp .gt 7: yes
          exact ⟨na_nl_b0, rfl, rfl, Or.inr ⟨fun z => absurd h4 (Int32.not_lt.mpr z.2.2.2), rfl⟩⟩
        · -- pc 27 .if_icmp .gt 7: no
          exact ⟨na_nl_b1, rfl, rfl, Or.inl ⟨⟨Int32.not_lt.mp h1, Int32.not_lt.mp h2, Int32.not_lt.mp h3, Int32.not_lt.mp h4⟩, rfl⟩⟩
set_option maxRecDepth 100000 in
set_option maxHeartbeats 4000000 in
theorem c_str2 (sx : Nat × (Nat → Int32)) (a n : Int32) (I : Mm) (J : Ml) : Mt sx MX1_hasStretch [.ref 38, .int a, .int n] I J (na_b I J (strP a n (I 38 2))) := by
  refine Mt.of2 _ rfl (by decide +kernel) (Nat.le_of_ble_eq_true rfl) ?_
  refine GW.run kX1_hasStretch (fun _ => false) 48 0 rfl ?_
  refine And.intro (fun h1 => ?_) (fun h1 => ?_)
  · -- pc 1 .ifCond .lt 29: yes
    exact ⟨na_nl_b0, rfl, rfl, Or.inr ⟨fun z => absurd h1 (Int32.not_lt.mpr z.1), rfl⟩⟩
  · -- pc 1 .ifCond .lt 29: no
    refine And.intro (fun h2 => ?_) (fun h2 => ?_)
    · -- pc 5 .ifCond .lt 25: yes
      exact ⟨na_nl_b0, rfl, rfl, Or.inr ⟨fun z => absurd h2 (Int32.not_lt.mpr z.2.1), rfl⟩⟩
    · -- pc 5 .ifCond .lt 25: no
      refine And.intro (fun h3 => ?_) (fun h3 => ?_)
      · -- pc 13 .if_icmp .gt 17: yes
        exact ⟨na_nl_b0, rfl, rfl, Or.inr ⟨fun z => absurd h3 (Int32.not_lt.mpr z.2.2.1), rfl⟩⟩
      · -- pc 13 .if_icmp .gt 17: no
        refine And.intro (fun h4 => ?_) (fun h4 => ?_)
        · -- pc 23 .if_icmp .gt 7: yes
          exact ⟨na_nl_b0, rfl, rfl, Or.inr ⟨fun z => absurd h4 (Int32.not_lt.mpr z.2.2.2), rfl⟩⟩
        · -- pc 23 .if_icmp .gt 7: no
          exact ⟨na_nl_b1, rfl, rfl, Or.inl ⟨⟨Int32.not_lt.mp h1, Int32.not_lt.mp h2, Int32.not_lt.mp h3, Int32.not_lt.mp h4⟩, rfl⟩⟩
set_option maxRecDepth 100000 in
set_option maxHeartbeats 4000000 in
theorem m_part2 (sx : Nat × (Nat → Int32)) (a n : Int32) (I : Mm) (J : Ml) : Mt sx MX4_isPart [.ref 43, .int 2, .int a, .int n] I J (na_b I J (strP a n (I 49 2))) := by
  refine Mt.of2 _ rfl (by decide +kernel) (Nat.le_of_ble_eq_true rfl) ?_
  refine GW.run kX4_isPart (fun _ => false) 52 0 rfl ?_
  refine And.intro (fun h1 => ?_) (fun h1 => ?_)
  · -- pc 1 .ifCond .lt 33: yes
    exact ⟨na_nl_b0, rfl, rfl, Or.inr ⟨fun z => absurd h1 (Int32.not_lt.mpr z.1), rfl⟩⟩
  · -- pc 1 .ifCond .lt 33: no
    refine And.intro (fun h2 => ?_) (fun h2 => ?_)
    · -- pc 5 .ifCond .lt 29: yes
      exact ⟨na_nl_b0, rfl, rfl, Or.inr ⟨fun z => absurd h2 (Int32.not_lt.mpr z.2.1), rfl⟩⟩
    · -- pc 5 .ifCond .lt 29: no
      refine And.intro (by unfold vp_in; decide) ?_
      refine And.intro (fun h3 => ?_) (fun h3 => ?_)
      · -- pc 15 .if_icmp .gt 19: yes
        exact ⟨na_nl_b0, rfl, rfl, Or.inr ⟨fun z => absurd h3 (Int32.not_lt.mpr z.2.2.1), rfl⟩⟩
      · -- pc 15 .if_icmp .gt 19: no
        refine And.intro (by unfold vp_in; decide) ?_
        refine And.intro (fun h4 => ?_) (fun h4 => ?_)
        · -- pc 27 .if_icmp .gt 7: yes
          exact ⟨na_nl_b0, rfl, rfl, Or.inr ⟨fun z => absurd h4 (Int32.not_lt.mpr z.2.2.2), rfl⟩⟩
        · -- pc 27 .if_icmp .gt 7: no
          exact ⟨na_nl_b1, rfl, rfl, Or.inl ⟨⟨Int32.not_lt.mp h1, Int32.not_lt.mp h2, Int32.not_lt.mp h3, Int32.not_lt.mp h4⟩, rfl⟩⟩
set_option maxRecDepth 100000 in
set_option maxHeartbeats 4000000 in
theorem c_str3 (sx : Nat × (Nat → Int32)) (a n : Int32) (I : Mm) (J : Ml) : Mt sx MX1_hasStretch [.ref 40, .int a, .int n] I J (na_b I J (strP a n (I 40 2))) := by
  refine Mt.of2 _ rfl (by decide +kernel) (Nat.le_of_ble_eq_true rfl) ?_
  refine GW.run kX1_hasStretch (fun _ => false) 48 0 rfl ?_
  refine And.intro (fun h1 => ?_) (fun h1 => ?_)
  · -- pc 1 .ifCond .lt 29: yes
    exact ⟨na_nl_b0, rfl, rfl, Or.inr ⟨fun z => absurd h1 (Int32.not_lt.mpr z.1), rfl⟩⟩
  · -- pc 1 .ifCond .lt 29: no
    refine And.intro (fun h2 => ?_) (fun h2 => ?_)
    · -- pc 5 .ifCond .lt 25: yes
      exact ⟨na_nl_b0, rfl, rfl, Or.inr ⟨fun z => absurd h2 (Int32.not_lt.mpr z.2.1), rfl⟩⟩
    · -- pc 5 .ifCond .lt 25: no
      refine And.intro (fun h3 => ?_) (fun h3 => ?_)
      · -- pc 13 .if_icmp .gt 17: yes
        exact ⟨na_nl_b0, rfl, rfl, Or.inr ⟨fun z => absurd h3 (Int32.not_lt.mpr z.2.2.1), rfl⟩⟩
      · -- pc 13 .if_icmp .gt 17: no
        refine And.intro (fun h4 => ?_) (fun h4 => ?_)
        · -- pc 23 .if_icmp .gt 7: yes
          exact ⟨na_nl_b0, rfl, rfl, Or.inr ⟨fun z => absurd h4 (Int32.not_lt.mpr z.2.2.2), rfl⟩⟩
        · -- pc 23 .if_icmp .gt 7: no
          exact ⟨na_nl_b1, rfl, rfl, Or.inl ⟨⟨Int32.not_lt.mp h1, Int32.not_lt.mp h2, Int32.not_lt.mp h3, Int32.not_lt.mp h4⟩, rfl⟩⟩
set_option maxRecDepth 100000 in
set_option maxHeartbeats 4000000 in
theorem m_part3 (sx : Nat × (Nat → Int32)) (a n : Int32) (I : Mm) (J : Ml) : Mt sx MX4_isPart [.ref 43, .int 3, .int a, .int n] I J (na_b I J (strP a n (I 49 3))) := by
  refine Mt.of2 _ rfl (by decide +kernel) (Nat.le_of_ble_eq_true rfl) ?_
  refine GW.run kX4_isPart (fun _ => false) 52 0 rfl ?_
  refine And.intro (fun h1 => ?_) (fun h1 => ?_)
  · -- pc 1 .ifCond .lt 33: yes
    exact ⟨na_nl_b0, rfl, rfl, Or.inr ⟨fun z => absurd h1 (Int32.not_lt.mpr z.1), rfl⟩⟩
  · -- pc 1 .ifCond .lt 33: no
    refine And.intro (fun h2 => ?_) (fun h2 => ?_)
    · -- pc 5 .ifCond .lt 29: yes
      exact ⟨na_nl_b0, rfl, rfl, Or.inr ⟨fun z => absurd h2 (Int32.not_lt.mpr z.2.1), rfl⟩⟩
    · -- pc 5 .ifCond .lt 29: no
      refine And.intro (by unfold vp_in; decide) ?_
      refine And.intro (fun h3 => ?_) (fun h3 => ?_)
      · -- pc 15 .if_icmp .gt 19: yes
        exact ⟨na_nl_b0, rfl, rfl, Or.inr ⟨fun z => absurd h3 (Int32.not_lt.mpr z.2.2.1), rfl⟩⟩
      · -- pc 15 .if_icmp .gt 19: no
        refine And.intro (by unfold vp_in; decide) ?_
        refine And.intro (fun h4 => ?_) (fun h4 => ?_)
        · -- pc 27 .if_icmp .gt 7: yes
          exact ⟨na_nl_b0, rfl, rfl, Or.inr ⟨fun z => absurd h4 (Int32.not_lt.mpr z.2.2.2), rfl⟩⟩
        · -- pc 27 .if_icmp .gt 7: no
          exact ⟨na_nl_b1, rfl, rfl, Or.inl ⟨⟨Int32.not_lt.mp h1, Int32.not_lt.mp h2, Int32.not_lt.mp h3, Int32.not_lt.mp h4⟩, rfl⟩⟩
set_option maxRecDepth 100000 in
set_option maxHeartbeats 4000000 in
theorem l_cp1_0 (sx : Nat × (Nat → Int32)) (A K : Nat) (hA : A + K ≤ 40) (b5 : Int32) (t : Int32) (I : Mm) (J : Ml) (Rt : Option Value → Mm → Ml → Prop) (hR : GW sx (na_mi MX4_copy) Rt 136 [some (.ref 43), some (.int 0), some (.int (nI A)), some (.int t), some (.int b5), some (.int (nI K)), none] [] I (wJ J 51 0 K (fun j => J 50 (0 + A + j)))) : ∀ m n , n + m = K → GW sx (na_mi MX4_copy) Rt 102 [some (.ref 43), some (.int 0), some (.int (nI A)), some (.int t), some (.int b5), some (.int (nI K)), some (.int (nI n))] [] I (wJ J 51 0 n (fun j => J 50 (0 + A + j))) := by
  intro m
  induction m with
  | zero =>
    intro n  hn 
    obtain rfl : K = n := by omega
    have hz : nI K ≤ nI K := Int32.le_refl _
    refine GW.run kX4_copy (fun pc => Nat.beq pc 102 || Nat.beq pc 136) 127 55 rfl ?_
    refine And.intro (fun _ => ?_) (fun hh => absurd hz hh)
    exact GW.weak hR ⟨rfl, rfl, rfl, rfl, rfl, rfl, trivial⟩
  | succ m ih =>
    intro n  hn 
    have hz : ¬ nI K ≤ nI n := nI_ge (by omega) (by omega)
    have ih := ih (n + 1) (by omega)
    have hb : vp_in (nI n) 40 := vp_in_nI (by omega) (by omega)
    have hc := nI_clamp (n := n) (by omega)
    have hix : (40 : Int32) * 0 + nI A + nI n = nI (0 + A + n) := by rw [show (40 : Int32) * 0 = nI 0 by decide, nI_add, nI_add]
    have hbx : vp_in ((40 : Int32) * 0 + nI A + nI n) 160 := by rw [hix]; exact vp_in_nI (by omega) (by omega)
    have hcx : ((40 : Int32) * 0 + nI A + nI n).toNatClampNeg = 0 + A + n := by rw [hix, nI_clamp (by omega)]
    refine GW.run kX4_copy (fun pc => Nat.beq pc 102 || Nat.beq pc 136) 127 55 rfl ?_
    refine And.intro (fun hh => absurd hh hz) (fun _ => ?_)
    refine And.intro (hbx) ?_
    refine And.intro (hb) ?_
    refine GW.weak (GW.eqIJ rfl ?_ ih) ⟨rfl, rfl, rfl, rfl, rfl, rfl, by rw [nI_1], trivial⟩
    rw [hc, hcx]
    exact wJ_s0 J 51 n _ (by rw [wJ_off (by decide)])
set_option maxRecDepth 100000 in
set_option maxHeartbeats 4000000 in
theorem l_cp2_0 (sx : Nat × (Nat → Int32)) (B K : Nat) (hB : B + K ≤ 40) (u : Nat → Int64) (I : Mm) (J : Ml) (hu : ∀ j, j < K → J 51 j = u j) (Rt : Option Value → Mm → Ml → Prop) (hR : Rt (some (.int (nI K))) I (wJ J 50 (0 + B) K u)) : ∀ m n , n + m = K → GW sx (na_mi MX4_copy) Rt 139 [some (.ref 43), none, none, some (.int 0), some (.int (nI B)), some (.int (nI K)), some (.int (nI n))] [] I (wJ J 50 (0 + B) n u) := by
  intro m
  induction m with
  | zero =>
    intro n  hn 
    obtain rfl : K = n := by omega
    have hz : nI K ≤ nI K := Int32.le_refl _
    refine GW.run kX4_copy (fun pc => Nat.beq pc 139) 127 76 rfl ?_
    refine And.intro (fun _ => ?_) (fun hh => absurd hz hh)
    exact ⟨trivial, hR⟩
  | succ m ih =>
    intro n  hn 
    have hz : ¬ nI K ≤ nI n := nI_ge (by omega) (by omega)
    have ih := ih (n + 1) (by omega)
    have hb : vp_in (nI n) 40 := vp_in_nI (by omega) (by omega)
    have hc := nI_clamp (n := n) (by omega)
    have hix : (40 : Int32) * 0 + nI B + nI n = nI (0 + B + n) := by rw [show (40 : Int32) * 0 = nI 0 by decide, nI_add, nI_add]
    have hbx : vp_in ((40 : Int32) * 0 + nI B + nI n) 160 := by rw [hix]; exact vp_in_nI (by omega) (by omega)
    have hcx : ((40 : Int32) * 0 + nI B + nI n).toNatClampNeg = 0 + B + n := by rw [hix, nI_clamp (by omega)]
    refine GW.run kX4_copy (fun pc => Nat.beq pc 139) 127 76 rfl ?_
    refine And.intro (fun hh => absurd hh hz) (fun _ => ?_)
    refine And.intro (hb) ?_
    refine And.intro (hbx) ?_
    refine GW.weak (GW.eqIJ rfl ?_ ih) ⟨rfl, rfl, rfl, rfl, by rw [nI_1], trivial⟩
    rw [hc, hcx]
    exact wJ_s J 50 (0 + B) n _ (by rw [wJ_off (by decide), hu n (by omega)])
set_option maxRecDepth 100000 in
set_option maxHeartbeats 4000000 in
theorem l_cp1_1 (sx : Nat × (Nat → Int32)) (A K : Nat) (hA : A + K ≤ 40) (b5 : Int32) (t : Int32) (I : Mm) (J : Ml) (Rt : Option Value → Mm → Ml → Prop) (hR : GW sx (na_mi MX4_copy) Rt 136 [some (.ref 43), some (.int 1), some (.int (nI A)), some (.int t), some (.int b5), some (.int (nI K)), none] [] I (wJ J 51 0 K (fun j => J 50 (40 + A + j)))) : ∀ m n , n + m = K → GW sx (na_mi MX4_copy) Rt 102 [some (.ref 43), some (.int 1), some (.int (nI A)), some (.int t), some (.int b5), some (.int (nI K)), some (.int (nI n))] [] I (wJ J 51 0 n (fun j => J 50 (40 + A + j))) := by
  intro m
  induction m with
  | zero =>
    intro n  hn 
    obtain rfl : K = n := by omega
    have hz : nI K ≤ nI K := Int32.le_refl _
    refine GW.run kX4_copy (fun pc => Nat.beq pc 102 || Nat.beq pc 136) 127 55 rfl ?_
    refine And.intro (fun _ => ?_) (fun hh => absurd hz hh)
    exact GW.weak hR ⟨rfl, rfl, rfl, rfl, rfl, rfl, trivial⟩
  | succ m ih =>
    intro n  hn 
    have hz : ¬ nI K ≤ nI n := nI_ge (by omega) (by omega)
    have ih := ih (n + 1) (by omega)
    have hb : vp_in (nI n) 40 := vp_in_nI (by omega) (by omega)
    have hc := nI_clamp (n := n) (by omega)
    have hix : (40 : Int32) * 1 + nI A + nI n = nI (40 + A + n) := by rw [show (40 : Int32) * 1 = nI 40 by decide, nI_add, nI_add]
    have hbx : vp_in ((40 : Int32) * 1 + nI A + nI n) 160 := by rw [hix]; exact vp_in_nI (by omega) (by omega)
    have hcx : ((40 : Int32) * 1 + nI A + nI n).toNatClampNeg = 40 + A + n := by rw [hix, nI_clamp (by omega)]
    refine GW.run kX4_copy (fun pc => Nat.beq pc 102 || Nat.beq pc 136) 127 55 rfl ?_
    refine And.intro (fun hh => absurd hh hz) (fun _ => ?_)
    refine And.intro (hbx) ?_
    refine And.intro (hb) ?_
    refine GW.weak (GW.eqIJ rfl ?_ ih) ⟨rfl, rfl, rfl, rfl, rfl, rfl, by rw [nI_1], trivial⟩
    rw [hc, hcx]
    exact wJ_s0 J 51 n _ (by rw [wJ_off (by decide)])
set_option maxRecDepth 100000 in
set_option maxHeartbeats 4000000 in
theorem l_cp2_1 (sx : Nat × (Nat → Int32)) (B K : Nat) (hB : B + K ≤ 40) (u : Nat → Int64) (I : Mm) (J : Ml) (hu : ∀ j, j < K → J 51 j = u j) (Rt : Option Value → Mm → Ml → Prop) (hR : Rt (some (.int (nI K))) I (wJ J 50 (40 + B) K u)) : ∀ m n , n + m = K → GW sx (na_mi MX4_copy) Rt 139 [some (.ref 43), none, none, some (.int 1), some (.int (nI B)), some (.int (nI K)), some (.int (nI n))] [] I (wJ J 50 (40 + B) n u) := by
  intro m
  induction m with
  | zero =>
    intro n  hn 
    obtain rfl : K = n := by omega
    have hz : nI K ≤ nI K := Int32.le_refl _
    refine GW.run kX4_copy (fun pc => Nat.beq pc 139) 127 76 rfl ?_
    refine And.intro (fun _ => ?_) (fun hh => absurd hz hh)
    exact ⟨trivial, hR⟩
  | succ m ih =>
    intro n  hn 
    have hz : ¬ nI K ≤ nI n := nI_ge (by omega) (by omega)
    have ih := ih (n + 1) (by omega)
    have hb : vp_in (nI n) 40 := vp_in_nI (by omega) (by omega)
    have hc := nI_clamp (n := n) (by omega)
    have hix : (40 : Int32) * 1 + nI B + nI n = nI (40 + B + n) := by rw [show (40 : Int32) * 1 = nI 40 by decide, nI_add, nI_add]
    have hbx : vp_in ((40 : Int32) * 1 + nI B + nI n) 160 := by rw [hix]; exact vp_in_nI (by omega) (by omega)
    have hcx : ((40 : Int32) * 1 + nI B + nI n).toNatClampNeg = 40 + B + n := by rw [hix, nI_clamp (by omega)]
    refine GW.run kX4_copy (fun pc => Nat.beq pc 139) 127 76 rfl ?_
    refine And.intro (fun hh => absurd hh hz) (fun _ => ?_)
    refine And.intro (hb) ?_
    refine And.intro (hbx) ?_
    refine GW.weak (GW.eqIJ rfl ?_ ih) ⟨rfl, rfl, rfl, rfl, by rw [nI_1], trivial⟩
    rw [hc, hcx]
    exact wJ_s J 50 (40 + B) n _ (by rw [wJ_off (by decide), hu n (by omega)])
set_option maxRecDepth 100000 in
set_option maxHeartbeats 4000000 in
theorem l_cp1_2 (sx : Nat × (Nat → Int32)) (A K : Nat) (hA : A + K ≤ 40) (b5 : Int32) (t : Int32) (I : Mm) (J : Ml) (Rt : Option Value → Mm → Ml → Prop) (hR : GW sx (na_mi MX4_copy) Rt 136 [some (.ref 43), some (.int 2), some (.int (nI A)), some (.int t), some (.int b5), some (.int (nI K)), none] [] I (wJ J 51 0 K (fun j => J 50 (80 + A + j)))) : ∀ m n , n + m = K → GW sx (na_mi MX4_copy) Rt 102 [some (.ref 43), some (.int 2), some (.int (nI A)), some (.int t), some (.int b5), some (.int (nI K)), some (.int (nI n))] [] I (wJ J 51 0 n (fun j => J 50 (80 + A + j))) := by
  intro m
  induction m with
  | zero =>
    intro n  hn 
    obtain rfl : K = n := by omega
    have hz : nI K ≤ nI K := Int32.le_refl _
    refine GW.run kX4_copy (fun pc => Nat.beq pc 102 || Nat.beq pc 136) 127 55 rfl ?_
    refine And.intro (fun _ => ?_) (fun hh => absurd hz hh)
    exact GW.weak hR ⟨rfl, rfl, rfl, rfl, rfl, rfl, trivial⟩
  | succ m ih =>
    intro n  hn 
    have hz : ¬ nI K ≤ nI n := nI_ge (by omega) (by omega)
    have ih := ih (n + 1) (by omega)
    have hb : vp_in (nI n) 40 := vp_in_nI (by omega) (by omega)
    have hc := nI_clamp (n := n) (by omega)
    have hix : (40 : Int32) * 2 + nI A + nI n = nI (80 + A + n) := by rw [show (40 : Int32) * 2 = nI 80 by decide, nI_add, nI_add]
    have hbx : vp_in ((40 : Int32) * 2 + nI A + nI n) 160 := by rw [hix]; exact vp_in_nI (by omega) (by omega)
    have hcx : ((40 : Int32) * 2 + nI A + nI n).toNatClampNeg = 80 + A + n := by rw [hix, nI_clamp (by omega)]
    refine GW.run kX4_copy (fun pc => Nat.beq pc 102 || Nat.beq pc 136) 127 55 rfl ?_
    refine And.intro (fun hh => absurd hh hz) (fun _ => ?_)
    refine And.intro (hbx) ?_
    refine And.intro (hb) ?_
    refine GW.weak (GW.eqIJ rfl ?_ ih) ⟨rfl, rfl, rfl, rfl, rfl, rfl, by rw [nI_1], trivial⟩
    rw [hc, hcx]
    exact wJ_s0 J 51 n _ (by rw [wJ_off (by decide)])
set_option maxRecDepth 100000 in
set_option maxHeartbeats 4000000 in
theorem l_cp2_2 (sx : Nat × (Nat → Int32)) (B K : Nat) (hB : B + K ≤ 40) (u : Nat → Int64) (I : Mm) (J : Ml) (hu : ∀ j, j < K → J 51 j = u j) (Rt : Option Value → Mm → Ml → Prop) (hR : Rt (some (.int (nI K))) I (wJ J 50 (80 + B) K u)) : ∀ m n , n + m = K → GW sx (na_mi MX4_copy) Rt 139 [some (.ref 43), none, none, some (.int 2), some (.int (nI B)), some (.int (nI K)), some (.int (nI n))] [] I (wJ J 50 (80 + B) n u) := by
  intro m
  induction m with
  | zero =>
    intro n  hn 
    obtain rfl : K = n := by omega
    have hz : nI K ≤ nI K := Int32.le_refl _
    refine GW.run kX4_copy (fun pc => Nat.beq pc 139) 127 76 rfl ?_
    refine And.intro (fun _ => ?_) (fun hh => absurd hz hh)
    exact ⟨trivial, hR⟩
  | succ m ih =>
    intro n  hn 
    have hz : ¬ nI K ≤ nI n := nI_ge (by omega) (by omega)
    have ih := ih (n + 1) (by omega)
    have hb : vp_in (nI n) 40 := vp_in_nI (by omega) (by omega)
    have hc := nI_clamp (n := n) (by omega)
    have hix : (40 : Int32) * 2 + nI B + nI n = nI (80 + B + n) := by rw [show (40 : Int32) * 2 = nI 80 by decide, nI_add, nI_add]
    have hbx : vp_in ((40 : Int32) * 2 + nI B + nI n) 160 := by rw [hix]; exact vp_in_nI (by omega) (by omega)
    have hcx : ((40 : Int32) * 2 + nI B + nI n).toNatClampNeg = 80 + B + n := by rw [hix, nI_clamp (by omega)]
    refine GW.run kX4_copy (fun pc => Nat.beq pc 139) 127 76 rfl ?_
    refine And.intro (fun hh => absurd hh hz) (fun _ => ?_)
    refine And.intro (hb) ?_
    refine And.intro (hbx) ?_
    refine GW.weak (GW.eqIJ rfl ?_ ih) ⟨rfl, rfl, rfl, rfl, by rw [nI_1], trivial⟩
    rw [hc, hcx]
    exact wJ_s J 50 (80 + B) n _ (by rw [wJ_off (by decide), hu n (by omega)])
set_option maxRecDepth 100000 in
set_option maxHeartbeats 4000000 in
theorem l_cp1_3 (sx : Nat × (Nat → Int32)) (A K : Nat) (hA : A + K ≤ 40) (b5 : Int32) (t : Int32) (I : Mm) (J : Ml) (Rt : Option Value → Mm → Ml → Prop) (hR : GW sx (na_mi MX4_copy) Rt 136 [some (.ref 43), some (.int 3), some (.int (nI A)), some (.int t), some (.int b5), some (.int (nI K)), none] [] I (wJ J 51 0 K (fun j => J 50 (120 + A + j)))) : ∀ m n , n + m = K → GW sx (na_mi MX4_copy) Rt 102 [some (.ref 43), some (.int 3), some (.int (nI A)), some (.int t), some (.int b5), some (.int (nI K)), some (.int (nI n))] [] I (wJ J 51 0 n (fun j => J 50 (120 + A + j))) := by
  intro m
  induction m with
  | zero =>
    intro n  hn 
    obtain rfl : K = n := by omega
    have hz : nI K ≤ nI K := Int32.le_refl _
    refine GW.run kX4_copy (fun pc => Nat.beq pc 102 || Nat.beq pc 136) 127 55 rfl ?_
    refine And.intro (fun _ => ?_) (fun hh => absurd hz hh)
    exact GW.weak hR ⟨rfl, rfl, rfl, rfl, rfl, rfl, trivial⟩
  | succ m ih =>
    intro n  hn 
    have hz : ¬ nI K ≤ nI n := nI_ge (by omega) (by omega)
    have ih := ih (n + 1) (by omega)
    have hb : vp_in (nI n) 40 := vp_in_nI (by omega) (by omega)
    have hc := nI_clamp (n := n) (by omega)
    have hix : (40 : Int32) * 3 + nI A + nI n = nI (120 + A + n) := by rw [show (40 : Int32) * 3 = nI 120 by decide, nI_add, nI_add]
    have hbx : vp_in ((40 : Int32) * 3 + nI A + nI n) 160 := by rw [hix]; exact vp_in_nI (by omega) (by omega)
    have hcx : ((40 : Int32) * 3 + nI A + nI n).toNatClampNeg = 120 + A + n := by rw [hix, nI_clamp (by omega)]
    refine GW.run kX4_copy (fun pc => Nat.beq pc 102 || Nat.beq pc 136) 127 55 rfl ?_
    refine And.intro (fun hh => absurd hh hz) (fun _ => ?_)
    refine And.intro (hbx) ?_
    refine And.intro (hb) ?_
    refine GW.weak (GW.eqIJ rfl ?_ ih) ⟨rfl, rfl, rfl, rfl, rfl, rfl, by rw [nI_1], trivial⟩
    rw [hc, hcx]
    exact wJ_s0 J 51 n _ (by rw [wJ_off (by decide)])
set_option maxRecDepth 100000 in
set_option maxHeartbeats 4000000 in
theorem l_cp2_3 (sx : Nat × (Nat → Int32)) (B K : Nat) (hB : B + K ≤ 40) (u : Nat → Int64) (I : Mm) (J : Ml) (hu : ∀ j, j < K → J 51 j = u j) (Rt : Option Value → Mm → Ml → Prop) (hR : Rt (some (.int (nI K))) I (wJ J 50 (120 + B) K u)) : ∀ m n , n + m = K → GW sx (na_mi MX4_copy) Rt 139 [some (.ref 43), none, none, some (.int 3), some (.int (nI B)), some (.int (nI K)), some (.int (nI n))] [] I (wJ J 50 (120 + B) n u) := by
  intro m
  induction m with
  | zero =>
    intro n  hn 
    obtain rfl : K = n := by omega
    have hz : nI K ≤ nI K := Int32.le_refl _
    refine GW.run kX4_copy (fun pc => Nat.beq pc 139) 127 76 rfl ?_
    refine And.intro (fun _ => ?_) (fun hh => absurd hz hh)
    exact ⟨trivial, hR⟩
  | succ m ih =>
    intro n  hn 
    have hz : ¬ nI K ≤ nI n := nI_ge (by omega) (by omega)
    have ih := ih (n + 1) (by omega)
    have hb : vp_in (nI n) 40 := vp_in_nI (by omega) (by omega)
    have hc := nI_clamp (n := n) (by omega)
    have hix : (40 : Int32) * 3 + nI B + nI n = nI (120 + B + n) := by rw [show (40 : Int32) * 3 = nI 120 by decide, nI_add, nI_add]
    have hbx : vp_in ((40 : Int32) * 3 + nI B + nI n) 160 := by rw [hix]; exact vp_in_nI (by omega) (by omega)
    have hcx : ((40 : Int32) * 3 + nI B + nI n).toNatClampNeg = 120 + B + n := by rw [hix, nI_clamp (by omega)]
    refine GW.run kX4_copy (fun pc => Nat.beq pc 139) 127 76 rfl ?_
    refine And.intro (fun hh => absurd hh hz) (fun _ => ?_)
    refine And.intro (hb) ?_
    refine And.intro (hbx) ?_
    refine GW.weak (GW.eqIJ rfl ?_ ih) ⟨rfl, rfl, rfl, rfl, by rw [nI_1], trivial⟩
    rw [hc, hcx]
    exact wJ_s J 50 (120 + B) n _ (by rw [wJ_off (by decide), hu n (by omega)])
set_option maxRecDepth 100000 in
set_option maxHeartbeats 4000000 in
theorem pr_copy0_0 (sx : Nat × (Nat → Int32)) (fr to nn : Int32) : PrI sx MX3_copy MX4_copy [.int 0, .int fr, .int 0, .int to, .int nn] := by
  intro I J hS
  obtain ⟨s1, s2, n, s3, s4, s5, s6⟩ := hS.2.2.2.1 0 (by decide)
  obtain ⟨t1, t2, m, t3, t4, t5, t6⟩ := hS.2.2.2.1 0 (by decide)
  have s45 : I 34 2 = I 49 0 := s4.trans s5.symm
  have t45 : I 34 2 = I 49 0 := t4.trans t5.symm
  refine Mt.of2 _ rfl (by decide +kernel) (Nat.le_of_ble_eq_true rfl) ?_
  refine GW.run kX3_copy (fun _ => false) 93 0 rfl ?_
  refine Mt.conseq (c_noSheet _ _ _ _) ?_
  rintro _ _ _ ⟨rfl, rfl, ⟨h1, rfl⟩ | ⟨h1, rfl⟩⟩
  · -- pc 1 call X3_noSheet true
    exact absurd h1 (by decide)
  · -- pc 1 call X3_noSheet false
    refine And.intro (fun hh => absurd hh (by decide)) (fun _ => ?_)
    refine Mt.conseq (c_noSheet _ _ _ _) ?_
    rintro _ _ _ ⟨rfl, rfl, ⟨h2, rfl⟩ | ⟨h2, rfl⟩⟩
    · -- pc 8 call X3_noSheet true
      exact absurd h2 (by decide)
    · -- pc 8 call X3_noSheet false
      refine And.intro (fun _ => ?_) (fun hh => absurd hh (by decide))
      refine And.intro (by unfold vp_in; decide) ?_
      refine And.intro (by unfold vp_in; decide) ?_
      refine Mt.conseq (c_miss0 _ _ _) ?_
      rintro _ _ _ ⟨rfl, rfl, ⟨h3, rfl⟩ | ⟨h3, rfl⟩⟩
      · -- pc 39 call X1_isMissing true
        refine And.intro (fun _ => ?_) (fun hh => absurd hh (by decide))
        refine Mt.conseq (c_fnd5 _ _ _) ?_
        rintro _ _ _ ⟨rfl, rfl, rfl⟩
        refine ⟨trivial, _, rfl, ?_⟩
        refine Mt.of2 _ rfl (by decide +kernel) (Nat.le_of_ble_eq_true rfl) ?_
        refine GW.run kX4_copy (fun pc => Nat.beq pc 102) 127 0 rfl ?_
        refine Mt.conseq (m_isSheet _ _ _ _) ?_
        rintro _ _ _ ⟨rfl, rfl, ⟨g1, rfl⟩ | ⟨g1, rfl⟩⟩
        · -- pc 1 call X4_isSheet true
          refine And.intro (fun hh => absurd hh (by decide)) (fun _ => ?_)
          refine Mt.conseq (m_isSheet _ _ _ _) ?_
          rintro _ _ _ ⟨rfl, rfl, ⟨g2, rfl⟩ | ⟨g2, rfl⟩⟩
          · -- pc 8 call X4_isSheet true
            refine And.intro (fun _ => ?_) (fun hh => absurd hh (by decide))
            refine And.intro (by unfold vp_in; decide) ?_
            refine And.intro (fun g3 => ?_) (fun g3 => ?_)
            · -- pc 27 .ifCond .eq 12: yes
              refine Mt.conseq (m_fnd5 _ _ _) ?_
              rintro _ _ _ ⟨rfl, rfl, rfl⟩
              exact ⟨trivial, rfl, hS.found (by decide)⟩
            · -- pc 27 .ifCond .eq 12: no
              exact absurd (show I 48 0 = 0 from s1.symm.trans h3) g3
          · -- pc 8 call X4_isSheet false
            exact absurd (by decide) g2
        · -- pc 1 call X4_isSheet false
          exact absurd (by decide) g1
      · -- pc 39 call X1_isMissing false
        refine And.intro (fun hh => absurd hh (by decide)) (fun _ => ?_)
        refine Mt.conseq (c_miss0 _ _ _) ?_
        rintro _ _ _ ⟨rfl, rfl, ⟨h5, rfl⟩ | ⟨h5, rfl⟩⟩
        · -- pc 47 call X1_isMissing true
          refine And.intro (fun hh => absurd hh (by decide)) (fun _ => ?_)
          refine Mt.conseq (c_fnd5 _ _ _) ?_
          rintro _ _ _ ⟨rfl, rfl, rfl⟩
          refine ⟨trivial, _, rfl, ?_⟩
          refine Mt.of2 _ rfl (by decide +kernel) (Nat.le_of_ble_eq_true rfl) ?_
          refine GW.run kX4_copy (fun pc => Nat.beq pc 102) 127 0 rfl ?_
          refine Mt.conseq (m_isSheet _ _ _ _) ?_
          rintro _ _ _ ⟨rfl, rfl, ⟨g1, rfl⟩ | ⟨g1, rfl⟩⟩
          · -- pc 1 call X4_isSheet true
            refine And.intro (fun hh => absurd hh (by decide)) (fun _ => ?_)
            refine Mt.conseq (m_isSheet _ _ _ _) ?_
            rintro _ _ _ ⟨rfl, rfl, ⟨g2, rfl⟩ | ⟨g2, rfl⟩⟩
            · -- pc 8 call X4_isSheet true
              refine And.intro (fun _ => ?_) (fun hh => absurd hh (by decide))
              refine And.intro (by unfold vp_in; decide) ?_
              refine And.intro (fun g3 => ?_) (fun g3 => ?_)
              · -- pc 27 .ifCond .eq 12: yes
                exact absurd (show I 34 1 = 0 from s1.trans g3) h3
              · -- pc 27 .ifCond .eq 12: no
                refine And.intro (by unfold vp_in; decide) ?_
                refine And.intro (fun g4 => ?_) (fun g4 => ?_)
                · -- pc 36 .ifCond .ne 11: yes
                  exact absurd (show I 48 0 = 0 from t1.symm.trans h5) g4
                · -- pc 36 .ifCond .ne 11: no
                  refine Mt.conseq (m_fnd5 _ _ _) ?_
                  rintro _ _ _ ⟨rfl, rfl, rfl⟩
                  exact ⟨trivial, rfl, hS.found (by decide)⟩
            · -- pc 8 call X4_isSheet false
              exact absurd (by decide) g2
          · -- pc 1 call X4_isSheet false
            exact absurd (by decide) g1
        · -- pc 47 call X1_isMissing false
          refine And.intro (fun _ => ?_) (fun hh => absurd hh (by decide))
          refine And.intro (fun h7 => ?_) (fun h7 => ?_)
          · -- pc 70 .if_icmp .eq 10: yes
            refine Mt.conseq (c_str0 _ _ _ _ _) ?_
            rintro _ _ _ ⟨rfl, rfl, ⟨h8, rfl⟩ | ⟨h8, rfl⟩⟩
            · -- pc 85 call X1_hasStretch true
              refine And.intro (fun hh => absurd hh (by decide)) (fun _ => ?_)
              refine Mt.conseq (c_str0 _ _ _ _ _) ?_
              rintro _ _ _ ⟨rfl, rfl, ⟨h9, rfl⟩ | ⟨h9, rfl⟩⟩
              · -- pc 97 call X1_hasStretch true
                obtain ⟨A, K, rfl, rfl, hA⟩ := str_nat s4 s3 h8
                obtain ⟨B, K2, rfl, eK, hB⟩ := str_nat t4 t3 h9
                obtain rfl : K2 = K := by
                  have z1 : K ≤ 40 := by omega
                  have z2 : K2 ≤ 40 := by omega
                  exact ((nI_eq (by omega) (by omega)).mp eK).symm
                have hcA := nI_clamp (n := A) (by omega)
                have hcB := nI_clamp (n := B) (by omega)
                have hcK := nI_clamp (n := K2) (by omega)
                have hcp : ¬ nI A < 0 ∧ ¬ nI B < 0 ∧ ¬ nI K2 < 0 ∧ (nI A).toNatClampNeg + (nI K2).toNatClampNeg ≤ 40 ∧ (nI B).toNatClampNeg + (nI K2).toNatClampNeg ≤ 40 := ⟨nI_pos (by omega), nI_pos (by omega), nI_pos (by omega), by rw [hcA, hcK]; omega, by rw [hcB, hcK]; omega⟩
                refine And.intro (fun _ => ?_) (fun hh => absurd hh (by decide))
                refine And.intro (hcp) ?_
                refine ⟨trivial, _, rfl, ?_⟩
                refine Mt.of2 _ rfl (by decide +kernel) (Nat.le_of_ble_eq_true rfl) ?_
                refine GW.run kX4_copy (fun pc => Nat.beq pc 102) 127 0 rfl ?_
                refine Mt.conseq (m_isSheet _ _ _ _) ?_
                rintro _ _ _ ⟨rfl, rfl, ⟨g1, rfl⟩ | ⟨g1, rfl⟩⟩
                · -- pc 1 call X4_isSheet true
                  refine And.intro (fun hh => absurd hh (by decide)) (fun _ => ?_)
                  refine Mt.conseq (m_isSheet _ _ _ _) ?_
                  rintro _ _ _ ⟨rfl, rfl, ⟨g2, rfl⟩ | ⟨g2, rfl⟩⟩
                  · -- pc 8 call X4_isSheet true
                    refine And.intro (fun _ => ?_) (fun hh => absurd hh (by decide))
                    refine And.intro (by unfold vp_in; decide) ?_
                    refine And.intro (fun g3 => ?_) (fun g3 => ?_)
                    · -- pc 27 .ifCond .eq 12: yes
                      exact absurd (show I 34 1 = 0 from s1.trans g3) h3
                    · -- pc 27 .ifCond .eq 12: no
                      refine And.intro (by unfold vp_in; decide) ?_
                      refine And.intro (fun g4 => ?_) (fun g4 => ?_)
                      · -- pc 36 .ifCond .ne 11: yes
                        refine And.intro (by unfold vp_in; decide) ?_
                        refine And.intro (by unfold vp_in; decide) ?_
                        refine And.intro (fun g5 => ?_) (fun g5 => ?_)
                        · -- pc 59 .if_icmp .eq 10: yes
                          refine Mt.conseq (m_part0 _ _ _ _ _) ?_
                          rintro _ _ _ ⟨rfl, rfl, ⟨g6, rfl⟩ | ⟨g6, rfl⟩⟩
                          · -- pc 74 call X4_isPart true
                            refine And.intro (fun hh => absurd hh (by decide)) (fun _ => ?_)
                            refine Mt.conseq (m_part0 _ _ _ _ _) ?_
                            rintro _ _ _ ⟨rfl, rfl, ⟨g7, rfl⟩ | ⟨g7, rfl⟩⟩
                            · -- pc 86 call X4_isPart true
                              refine And.intro (fun _ => ?_) (fun hh => absurd hh (by decide))
                              refine GW.weak (GW.eqIJ rfl (wJ_0 (na_cpL J 35 35 (nI A).toNatClampNeg (nI B).toNatClampNeg (nI K2).toNatClampNeg) 51 0 (fun j => (na_cpL J 35 35 (nI A).toNatClampNeg (nI B).toNatClampNeg (nI K2).toNatClampNeg) 50 (0 + A + j))).symm (l_cp1_0 sx A K2 (by omega) (nI B) 0 I (na_cpL J 35 35 (nI A).toNatClampNeg (nI B).toNatClampNeg (nI K2).toNatClampNeg) _ ?_ K2 0 (by omega))) ⟨rfl, rfl, rfl, rfl, rfl, rfl, rfl, trivial⟩
                              refine GW.run kX4_copy (fun pc => Nat.beq pc 139) 127 74 rfl ?_
                              refine GW.weak (GW.eqIJ rfl (wJ_0 (wJ (na_cpL J 35 35 (nI A).toNatClampNeg (nI B).toNatClampNeg (nI K2).toNatClampNeg) 51 0 K2 (fun j => (na_cpL J 35 35 (nI A).toNatClampNeg (nI B).toNatClampNeg (nI K2).toNatClampNeg) 50 (0 + A + j))) 50 (0 + B) (fun j => (na_cpL J 35 35 (nI A).toNatClampNeg (nI B).toNatClampNeg (nI K2).toNatClampNeg) 50 (0 + A + j))).symm (l_cp2_0 sx B K2 (by omega) (fun j => (na_cpL J 35 35 (nI A).toNatClampNeg (nI B).toNatClampNeg (nI K2).toNatClampNeg) 50 (0 + A + j)) I (wJ (na_cpL J 35 35 (nI A).toNatClampNeg (nI B).toNatClampNeg (nI K2).toNatClampNeg) 51 0 K2 (fun j => (na_cpL J 35 35 (nI A).toNatClampNeg (nI B).toNatClampNeg (nI K2).toNatClampNeg) 50 (0 + A + j))) (fun j hj => by rw [wJ_on, if_pos (by omega)]; rfl) _ ?_ K2 0 (by omega))) ⟨rfl, rfl, rfl, rfl, rfl, trivial⟩
                              refine ⟨rfl, ?_⟩
                              exact hS.copied (s := 0) (t := 0) (A := A) (B := B) (K := K2) (by decide) (by decide) s4 t4 s3 t3 hA hB (u := (fun j => (na_cpL J 35 35 (nI A).toNatClampNeg (nI B).toNatClampNeg (nI K2).toNatClampNeg) 50 (0 + A + j))) (fun j hj => rfl) (fun a ha => by rw [wJ_off ha, hcA, hcB, hcK])
                            · -- pc 86 call X4_isPart false
                              exact absurd (show strP _ _ (I 49 0) by rw [← t45]; exact h9) g7
                          · -- pc 74 call X4_isPart false
                            exact absurd (show strP _ _ (I 49 0) by rw [← s45]; exact h8) g6
                        · -- pc 59 .if_icmp .eq 10: no
                          exact absurd (show I 48 0 = I 48 0 from s1.symm.trans ((show I 34 1 = I 34 1 from h7).trans t1)) g5
                      · -- pc 36 .ifCond .ne 11: no
                        exact absurd (show I 34 1 = 0 from t1.trans g4) h5
                  · -- pc 8 call X4_isSheet false
                    exact absurd (by decide) g2
                · -- pc 1 call X4_isSheet false
                  exact absurd (by decide) g1
              · -- pc 97 call X1_hasStretch false
                refine And.intro (fun hh => absurd hh (by decide)) (fun _ => ?_)
                refine Mt.conseq (c_fnd0 _ _ _) ?_
                rintro _ _ _ ⟨rfl, rfl, rfl⟩
                refine ⟨trivial, _, rfl, ?_⟩
                refine Mt.of2 _ rfl (by decide +kernel) (Nat.le_of_ble_eq_true rfl) ?_
                refine GW.run kX4_copy (fun pc => Nat.beq pc 102) 127 0 rfl ?_
                refine Mt.conseq (m_isSheet _ _ _ _) ?_
                rintro _ _ _ ⟨rfl, rfl, ⟨g1, rfl⟩ | ⟨g1, rfl⟩⟩
                · -- pc 1 call X4_isSheet true
                  refine And.intro (fun hh => absurd hh (by decide)) (fun _ => ?_)
                  refine Mt.conseq (m_isSheet _ _ _ _) ?_
                  rintro _ _ _ ⟨rfl, rfl, ⟨g2, rfl⟩ | ⟨g2, rfl⟩⟩
                  · -- pc 8 call X4_isSheet true
                    refine And.intro (fun _ => ?_) (fun hh => absurd hh (by decide))
                    refine And.intro (by unfold vp_in; decide) ?_
                    refine And.intro (fun g3 => ?_) (fun g3 => ?_)
                    · -- pc 27 .ifCond .eq 12: yes
                      exact absurd (show I 34 1 = 0 from s1.trans g3) h3
                    · -- pc 27 .ifCond .eq 12: no
                      refine And.intro (by unfold vp_in; decide) ?_
                      refine And.intro (fun g4 => ?_) (fun g4 => ?_)
                      · -- pc 36 .ifCond .ne 11: yes
                        refine And.intro (by unfold vp_in; decide) ?_
                        refine And.intro (by unfold vp_in; decide) ?_
                        refine And.intro (fun g5 => ?_) (fun g5 => ?_)
                        · -- pc 59 .if_icmp .eq 10: yes
                          refine Mt.conseq (m_part0 _ _ _ _ _) ?_
                          rintro _ _ _ ⟨rfl, rfl, ⟨g6, rfl⟩ | ⟨g6, rfl⟩⟩
                          · -- pc 74 call X4_isPart true
                            refine And.intro (fun hh => absurd hh (by decide)) (fun _ => ?_)
                            refine Mt.conseq (m_part0 _ _ _ _ _) ?_
                            rintro _ _ _ ⟨rfl, rfl, ⟨g7, rfl⟩ | ⟨g7, rfl⟩⟩
                            · -- pc 86 call X4_isPart true
                              exact absurd (show strP _ _ (I 34 2) by rw [t45]; exact g7) h9
                            · -- pc 86 call X4_isPart false
                              refine And.intro (fun hh => absurd hh (by decide)) (fun _ => ?_)
                              refine Mt.conseq (m_fnd0 _ _ _) ?_
                              rintro _ _ _ ⟨rfl, rfl, rfl⟩
                              exact ⟨trivial, rfl, hS.found (by decide)⟩
                          · -- pc 74 call X4_isPart false
                            exact absurd (show strP _ _ (I 49 0) by rw [← s45]; exact h8) g6
                        · -- pc 59 .if_icmp .eq 10: no
                          exact absurd (show I 48 0 = I 48 0 from s1.symm.trans ((show I 34 1 = I 34 1 from h7).trans t1)) g5
                      · -- pc 36 .ifCond .ne 11: no
                        exact absurd (show I 34 1 = 0 from t1.trans g4) h5
                  · -- pc 8 call X4_isSheet false
                    exact absurd (by decide) g2
                · -- pc 1 call X4_isSheet false
                  exact absurd (by decide) g1
            · -- pc 85 call X1_hasStretch false
              refine And.intro (fun _ => ?_) (fun hh => absurd hh (by decide))
              refine Mt.conseq (c_fnd0 _ _ _) ?_
              rintro _ _ _ ⟨rfl, rfl, rfl⟩
              refine ⟨trivial, _, rfl, ?_⟩
              refine Mt.of2 _ rfl (by decide +kernel) (Nat.le_of_ble_eq_true rfl) ?_
              refine GW.run kX4_copy (fun pc => Nat.beq pc 102) 127 0 rfl ?_
              refine Mt.conseq (m_isSheet _ _ _ _) ?_
              rintro _ _ _ ⟨rfl, rfl, ⟨g1, rfl⟩ | ⟨g1, rfl⟩⟩
              · -- pc 1 call X4_isSheet true
                refine And.intro (fun hh => absurd hh (by decide)) (fun _ => ?_)
                refine Mt.conseq (m_isSheet _ _ _ _) ?_
                rintro _ _ _ ⟨rfl, rfl, ⟨g2, rfl⟩ | ⟨g2, rfl⟩⟩
                · -- pc 8 call X4_isSheet true
                  refine And.intro (fun _ => ?_) (fun hh => absurd hh (by decide))
                  refine And.intro (by unfold vp_in; decide) ?_
                  refine And.intro (fun g3 => ?_) (fun g3 => ?_)
                  · -- pc 27 .ifCond .eq 12: yes
                    exact absurd (show I 34 1 = 0 from s1.trans g3) h3
                  · -- pc 27 .ifCond .eq 12: no
                    refine And.intro (by unfold vp_in; decide) ?_
                    refine And.intro (fun g4 => ?_) (fun g4 => ?_)
                    · -- pc 36 .ifCond .ne 11: yes
                      refine And.intro (by unfold vp_in; decide) ?_
                      refine And.intro (by unfold vp_in; decide) ?_
                      refine And.intro (fun g5 => ?_) (fun g5 => ?_)
                      · -- pc 59 .if_icmp .eq 10: yes
                        refine Mt.conseq (m_part0 _ _ _ _ _) ?_
                        rintro _ _ _ ⟨rfl, rfl, ⟨g6, rfl⟩ | ⟨g6, rfl⟩⟩
                        · -- pc 74 call X4_isPart true
                          exact absurd (show strP _ _ (I 34 2) by rw [s45]; exact g6) h8
                        · -- pc 74 call X4_isPart false
                          refine And.intro (fun _ => ?_) (fun hh => absurd hh (by decide))
                          refine Mt.conseq (m_fnd0 _ _ _) ?_
                          rintro _ _ _ ⟨rfl, rfl, rfl⟩
                          exact ⟨trivial, rfl, hS.found (by decide)⟩
                      · -- pc 59 .if_icmp .eq 10: no
                        exact absurd (show I 48 0 = I 48 0 from s1.symm.trans ((show I 34 1 = I 34 1 from h7).trans t1)) g5
                    · -- pc 36 .ifCond .ne 11: no
                      exact absurd (show I 34 1 = 0 from t1.trans g4) h5
                · -- pc 8 call X4_isSheet false
                  exact absurd (by decide) g2
              · -- pc 1 call X4_isSheet false
                exact absurd (by decide) g1
          · -- pc 70 .if_icmp .eq 10: no
            refine Mt.conseq (c_fnd2 _ _ _) ?_
            rintro _ _ _ ⟨rfl, rfl, rfl⟩
            refine ⟨trivial, _, rfl, ?_⟩
            refine Mt.of2 _ rfl (by decide +kernel) (Nat.le_of_ble_eq_true rfl) ?_
            refine GW.run kX4_copy (fun pc => Nat.beq pc 102) 127 0 rfl ?_
            refine Mt.conseq (m_isSheet _ _ _ _) ?_
            rintro _ _ _ ⟨rfl, rfl, ⟨g1, rfl⟩ | ⟨g1, rfl⟩⟩
            · -- pc 1 call X4_isSheet true
              refine And.intro (fun hh => absurd hh (by decide)) (fun _ => ?_)
              refine Mt.conseq (m_isSheet _ _ _ _) ?_
              rintro _ _ _ ⟨rfl, rfl, ⟨g2, rfl⟩ | ⟨g2, rfl⟩⟩
              · -- pc 8 call X4_isSheet true
                refine And.intro (fun _ => ?_) (fun hh => absurd hh (by decide))
                refine And.intro (by unfold vp_in; decide) ?_
                refine And.intro (fun g3 => ?_) (fun g3 => ?_)
                · -- pc 27 .ifCond .eq 12: yes
                  exact absurd (show I 34 1 = 0 from s1.trans g3) h3
                · -- pc 27 .ifCond .eq 12: no
                  refine And.intro (by unfold vp_in; decide) ?_
                  refine And.intro (fun g4 => ?_) (fun g4 => ?_)
                  · -- pc 36 .ifCond .ne 11: yes
                    refine And.intro (by unfold vp_in; decide) ?_
                    refine And.intro (by unfold vp_in; decide) ?_
                    refine And.intro (fun g5 => ?_) (fun g5 => ?_)
                    · -- pc 59 .if_icmp .eq 10: yes
                      exact absurd (show I 34 1 = I 34 1 from s1.trans ((show I 48 0 = I 48 0 from g5).trans t1.symm)) h7
                    · -- pc 59 .if_icmp .eq 10: no
                      refine Mt.conseq (m_fnd2 _ _ _) ?_
                      rintro _ _ _ ⟨rfl, rfl, rfl⟩
                      exact ⟨trivial, rfl, hS.found (by decide)⟩
                  · -- pc 36 .ifCond .ne 11: no
                    exact absurd (show I 34 1 = 0 from t1.trans g4) h5
              · -- pc 8 call X4_isSheet false
                exact absurd (by decide) g2
            · -- pc 1 call X4_isSheet false
              exact absurd (by decide) g1
set_option maxRecDepth 100000 in
set_option maxHeartbeats 4000000 in
theorem pr_copy0_1 (sx : Nat × (Nat → Int32)) (fr to nn : Int32) : PrI sx MX3_copy MX4_copy [.int 0, .int fr, .int 1, .int to, .int nn] := by
  intro I J hS
  obtain ⟨s1, s2, n, s3, s4, s5, s6⟩ := hS.2.2.2.1 0 (by decide)
  obtain ⟨t1, t2, m, t3, t4, t5, t6⟩ := hS.2.2.2.1 1 (by decide)
  have s45 : I 34 2 = I 49 0 := s4.trans s5.symm
  have t45 : I 36 2 = I 49 1 := t4.trans t5.symm
  refine Mt.of2 _ rfl (by decide +kernel) (Nat.le_of_ble_eq_true rfl) ?_
  refine GW.run kX3_copy (fun _ => false) 93 0 rfl ?_
  refine Mt.conseq (c_noSheet _ _ _ _) ?_
  rintro _ _ _ ⟨rfl, rfl, ⟨h1, rfl⟩ | ⟨h1, rfl⟩⟩
  · -- pc 1 call X3_noSheet true
    exact absurd h1 (by decide)
  · -- pc 1 call X3_noSheet false
    refine And.intro (fun hh => absurd hh (by decide)) (fun _ => ?_)
    refine Mt.conseq (c_noSheet _ _ _ _) ?_
    rintro _ _ _ ⟨rfl, rfl, ⟨h2, rfl⟩ | ⟨h2, rfl⟩⟩
    · -- pc 8 call X3_noSheet true
      exact absurd h2 (by decide)
    · -- pc 8 call X3_noSheet false
      refine And.intro (fun _ => ?_) (fun hh => absurd hh (by decide))
      refine And.intro (by unfold vp_in; decide) ?_
      refine And.intro (by unfold vp_in; decide) ?_
      refine Mt.conseq (c_miss0 _ _ _) ?_
      rintro _ _ _ ⟨rfl, rfl, ⟨h3, rfl⟩ | ⟨h3, rfl⟩⟩
      · -- pc 39 call X1_isMissing true
        refine And.intro (fun _ => ?_) (fun hh => absurd hh (by decide))
        refine Mt.conseq (c_fnd5 _ _ _) ?_
        rintro _ _ _ ⟨rfl, rfl, rfl⟩
        refine ⟨trivial, _, rfl, ?_⟩
        refine Mt.of2 _ rfl (by decide +kernel) (Nat.le_of_ble_eq_true rfl) ?_
        refine GW.run kX4_copy (fun pc => Nat.beq pc 102) 127 0 rfl ?_
        refine Mt.conseq (m_isSheet _ _ _ _) ?_
        rintro _ _ _ ⟨rfl, rfl, ⟨g1, rfl⟩ | ⟨g1, rfl⟩⟩
        · -- pc 1 call X4_isSheet true
          refine And.intro (fun hh => absurd hh (by decide)) (fun _ => ?_)
          refine Mt.conseq (m_isSheet _ _ _ _) ?_
          rintro _ _ _ ⟨rfl, rfl, ⟨g2, rfl⟩ | ⟨g2, rfl⟩⟩
          · -- pc 8 call X4_isSheet true
            refine And.intro (fun _ => ?_) (fun hh => absurd hh (by decide))
            refine And.intro (by unfold vp_in; decide) ?_
            refine And.intro (fun g3 => ?_) (fun g3 => ?_)
            · -- pc 27 .ifCond .eq 12: yes
              refine Mt.conseq (m_fnd5 _ _ _) ?_
              rintro _ _ _ ⟨rfl, rfl, rfl⟩
              exact ⟨trivial, rfl, hS.found (by decide)⟩
            · -- pc 27 .ifCond .eq 12: no
              exact absurd (show I 48 0 = 0 from s1.symm.trans h3) g3
          · -- pc 8 call X4_isSheet false
            exact absurd (by decide) g2
        · -- pc 1 call X4_isSheet false
          exact absurd (by decide) g1
      · -- pc 39 call X1_isMissing false
        refine And.intro (fun hh => absurd hh (by decide)) (fun _ => ?_)
        refine Mt.conseq (c_miss1 _ _ _) ?_
        rintro _ _ _ ⟨rfl, rfl, ⟨h5, rfl⟩ | ⟨h5, rfl⟩⟩
        · -- pc 47 call X1_isMissing true
          refine And.intro (fun hh => absurd hh (by decide)) (fun _ => ?_)
          refine Mt.conseq (c_fnd5 _ _ _) ?_
          rintro _ _ _ ⟨rfl, rfl, rfl⟩
          refine ⟨trivial, _, rfl, ?_⟩
          refine Mt.of2 _ rfl (by decide +kernel) (Nat.le_of_ble_eq_true rfl) ?_
          refine GW.run kX4_copy (fun pc => Nat.beq pc 102) 127 0 rfl ?_
          refine Mt.conseq (m_isSheet _ _ _ _) ?_
          rintro _ _ _ ⟨rfl, rfl, ⟨g1, rfl⟩ | ⟨g1, rfl⟩⟩
          · -- pc 1 call X4_isSheet true
            refine And.intro (fun hh => absurd hh (by decide)) (fun _ => ?_)
            refine Mt.conseq (m_isSheet _ _ _ _) ?_
            rintro _ _ _ ⟨rfl, rfl, ⟨g2, rfl⟩ | ⟨g2, rfl⟩⟩
            · -- pc 8 call X4_isSheet true
              refine And.intro (fun _ => ?_) (fun hh => absurd hh (by decide))
              refine And.intro (by unfold vp_in; decide) ?_
              refine And.intro (fun g3 => ?_) (fun g3 => ?_)
              · -- pc 27 .ifCond .eq 12: yes
                exact absurd (show I 34 1 = 0 from s1.trans g3) h3
              · -- pc 27 .ifCond .eq 12: no
                refine And.intro (by unfold vp_in; decide) ?_
                refine And.intro (fun g4 => ?_) (fun g4 => ?_)
                · -- pc 36 .ifCond .ne 11: yes
                  exact absurd (show I 48 1 = 0 from t1.symm.trans h5) g4
                · -- pc 36 .ifCond .ne 11: no
                  refine Mt.conseq (m_fnd5 _ _ _) ?_
                  rintro _ _ _ ⟨rfl, rfl, rfl⟩
                  exact ⟨trivial, rfl, hS.found (by decide)⟩
            · -- pc 8 call X4_isSheet false
              exact absurd (by decide) g2
          · -- pc 1 call X4_isSheet false
            exact absurd (by decide) g1
        · -- pc 47 call X1_isMissing false
          refine And.intro (fun _ => ?_) (fun hh => absurd hh (by decide))
          refine And.intro (fun h7 => ?_) (fun h7 => ?_)
          · -- pc 70 .if_icmp .eq 10: yes
            refine Mt.conseq (c_str0 _ _ _ _ _) ?_
            rintro _ _ _ ⟨rfl, rfl, ⟨h8, rfl⟩ | ⟨h8, rfl⟩⟩
            · -- pc 85 call X1_hasStretch true
              refine And.intro (fun hh => absurd hh (by decide)) (fun _ => ?_)
              refine Mt.conseq (c_str1 _ _ _ _ _) ?_
              rintro _ _ _ ⟨rfl, rfl, ⟨h9, rfl⟩ | ⟨h9, rfl⟩⟩
              · -- pc 97 call X1_hasStretch true
                obtain ⟨A, K, rfl, rfl, hA⟩ := str_nat s4 s3 h8
                obtain ⟨B, K2, rfl, eK, hB⟩ := str_nat t4 t3 h9
                obtain rfl : K2 = K := by
                  have z1 : K ≤ 40 := by omega
                  have z2 : K2 ≤ 40 := by omega
                  exact ((nI_eq (by omega) (by omega)).mp eK).symm
                have hcA := nI_clamp (n := A) (by omega)
                have hcB := nI_clamp (n := B) (by omega)
                have hcK := nI_clamp (n := K2) (by omega)
                have hcp : ¬ nI A < 0 ∧ ¬ nI B < 0 ∧ ¬ nI K2 < 0 ∧ (nI A).toNatClampNeg + (nI K2).toNatClampNeg ≤ 40 ∧ (nI B).toNatClampNeg + (nI K2).toNatClampNeg ≤ 40 := ⟨nI_pos (by omega), nI_pos (by omega), nI_pos (by omega), by rw [hcA, hcK]; omega, by rw [hcB, hcK]; omega⟩
                refine And.intro (fun _ => ?_) (fun hh => absurd hh (by decide))
                refine And.intro (hcp) ?_
                refine ⟨trivial, _, rfl, ?_⟩
                refine Mt.of2 _ rfl (by decide +kernel) (Nat.le_of_ble_eq_true rfl) ?_
                refine GW.run kX4_copy (fun pc => Nat.beq pc 102) 127 0 rfl ?_
                refine Mt.conseq (m_isSheet _ _ _ _) ?_
                rintro _ _ _ ⟨rfl, rfl, ⟨g1, rfl⟩ | ⟨g1, rfl⟩⟩
                · -- pc 1 call X4_isSheet true
                  refine And.intro (fun hh => absurd hh (by decide)) (fun _ => ?_)
                  refine Mt.conseq (m_isSheet _ _ _ _) ?_
                  rintro _ _ _ ⟨rfl, rfl, ⟨g2, rfl⟩ | ⟨g2, rfl⟩⟩
                  · -- pc 8 call X4_isSheet true
                    refine And.intro (fun _ => ?_) (fun hh => absurd hh (by decide))
                    refine And.intro (by unfold vp_in; decide) ?_
                    refine And.intro (fun g3 => ?_) (fun g3 => ?_)
                    · -- pc 27 .ifCond .eq 12: yes
                      exact absurd (show I 34 1 = 0 from s1.trans g3) h3
                    · -- pc 27 .ifCond .eq 12: no
                      refine And.intro (by unfold vp_in; decide) ?_
                      refine And.intro (fun g4 => ?_) (fun g4 => ?_)
                      · -- pc 36 .ifCond .ne 11: yes
                        refine And.intro (by unfold vp_in; decide) ?_
                        refine And.intro (by unfold vp_in; decide) ?_
                        refine And.intro (fun g5 => ?_) (fun g5 => ?_)
                        · -- pc 59 .if_icmp .eq 10: yes
                          refine Mt.conseq (m_part0 _ _ _ _ _) ?_
                          rintro _ _ _ ⟨rfl, rfl, ⟨g6, rfl⟩ | ⟨g6, rfl⟩⟩
                          · -- pc 74 call X4_isPart true
                            refine And.intro (fun hh => absurd hh (by decide)) (fun _ => ?_)
                            refine Mt.conseq (m_part1 _ _ _ _ _) ?_
                            rintro _ _ _ ⟨rfl, rfl, ⟨g7, rfl⟩ | ⟨g7, rfl⟩⟩
                            · -- pc 86 call X4_isPart true
                              refine And.intro (fun _ => ?_) (fun hh => absurd hh (by decide))
                              refine GW.weak (GW.eqIJ rfl (wJ_0 (na_cpL J 35 37 (nI A).toNatClampNeg (nI B).toNatClampNeg (nI K2).toNatClampNeg) 51 0 (fun j => (na_cpL J 35 37 (nI A).toNatClampNeg (nI B).toNatClampNeg (nI K2).toNatClampNeg) 50 (0 + A + j))).symm (l_cp1_0 sx A K2 (by omega) (nI B) 1 I (na_cpL J 35 37 (nI A).toNatClampNeg (nI B).toNatClampNeg (nI K2).toNatClampNeg) _ ?_ K2 0 (by omega))) ⟨rfl, rfl, rfl, rfl, rfl, rfl, rfl, trivial⟩
                              refine GW.run kX4_copy (fun pc => Nat.beq pc 139) 127 74 rfl ?_
                              refine GW.weak (GW.eqIJ rfl (wJ_0 (wJ (na_cpL J 35 37 (nI A).toNatClampNeg (nI B).toNatClampNeg (nI K2).toNatClampNeg) 51 0 K2 (fun j => (na_cpL J 35 37 (nI A).toNatClampNeg (nI B).toNatClampNeg (nI K2).toNatClampNeg) 50 (0 + A + j))) 50 (40 + B) (fun j => (na_cpL J 35 37 (nI A).toNatClampNeg (nI B).toNatClampNeg (nI K2).toNatClampNeg) 50 (0 + A + j))).symm (l_cp2_1 sx B K2 (by omega) (fun j => (na_cpL J 35 37 (nI A).toNatClampNeg (nI B).toNatClampNeg (nI K2).toNatClampNeg) 50 (0 + A + j)) I (wJ (na_cpL J 35 37 (nI A).toNatClampNeg (nI B).toNatClampNeg (nI K2).toNatClampNeg) 51 0 K2 (fun j => (na_cpL J 35 37 (nI A).toNatClampNeg (nI B).toNatClampNeg (nI K2).toNatClampNeg) 50 (0 + A + j))) (fun j hj => by rw [wJ_on, if_pos (by omega)]; rfl) _ ?_ K2 0 (by omega))) ⟨rfl, rfl, rfl, rfl, rfl, trivial⟩
                              refine ⟨rfl, ?_⟩
                              exact hS.copied (s := 0) (t := 1) (A := A) (B := B) (K := K2) (by decide) (by decide) s4 t4 s3 t3 hA hB (u := (fun j => (na_cpL J 35 37 (nI A).toNatClampNeg (nI B).toNatClampNeg (nI K2).toNatClampNeg) 50 (0 + A + j))) (fun j hj => rfl) (fun a ha => by rw [wJ_off ha, hcA, hcB, hcK])
                            · -- pc 86 call X4_isPart false
                              exact absurd (show strP _ _ (I 49 1) by rw [← t45]; exact h9) g7
                          · -- pc 74 call X4_isPart false
                            exact absurd (show strP _ _ (I 49 0) by rw [← s45]; exact h8) g6
                        · -- pc 59 .if_icmp .eq 10: no
                          exact absurd (show I 48 0 = I 48 1 from s1.symm.trans ((show I 34 1 = I 36 1 from h7).trans t1)) g5
                      · -- pc 36 .ifCond .ne 11: no
                        exact absurd (show I 36 1 = 0 from t1.trans g4) h5
                  · -- pc 8 call X4_isSheet false
                    exact absurd (by decide) g2
                · -- pc 1 call X4_isSheet false
                  exact absurd (by decide) g1
              · -- pc 97 call X1_hasStretch false
                refine And.intro (fun hh => absurd hh (by decide)) (fun _ => ?_)
                refine Mt.conseq (c_fnd0 _ _ _) ?_
                rintro _ _ _ ⟨rfl, rfl, rfl⟩
                refine ⟨trivial, _, rfl, ?_⟩
                refine Mt.of2 _ rfl (by decide +kernel) (Nat.le_of_ble_eq_true rfl) ?_
                refine GW.run kX4_copy (fun pc => Nat.beq pc 102) 127 0 rfl ?_
                refine Mt.conseq (m_isSheet _ _ _ _) ?_
                rintro _ _ _ ⟨rfl, rfl, ⟨g1, rfl⟩ | ⟨g1, rfl⟩⟩
                · -- pc 1 call X4_isSheet true
                  refine And.intro (fun hh => absurd hh (by decide)) (fun _ => ?_)
                  refine Mt.conseq (m_isSheet _ _ _ _) ?_
                  rintro _ _ _ ⟨rfl, rfl, ⟨g2, rfl⟩ | ⟨g2, rfl⟩⟩
                  · -- pc 8 call X4_isSheet true
                    refine And.intro (fun _ => ?_) (fun hh => absurd hh (by decide))
                    refine And.intro (by unfold vp_in; decide) ?_
                    refine And.intro (fun g3 => ?_) (fun g3 => ?_)
                    · -- pc 27 .ifCond .eq 12: yes
                      exact absurd (show I 34 1 = 0 from s1.trans g3) h3
                    · -- pc 27 .ifCond .eq 12: no
                      refine And.intro (by unfold vp_in; decide) ?_
                      refine And.intro (fun g4 => ?_) (fun g4 => ?_)
                      · -- pc 36 .ifCond .ne 11: yes
                        refine And.intro (by unfold vp_in; decide) ?_
                        refine And.intro (by unfold vp_in; decide) ?_
                        refine And.intro (fun g5 => ?_) (fun g5 => ?_)
                        · -- pc 59 .if_icmp .eq 10: yes
                          refine Mt.conseq (m_part0 _ _ _ _ _) ?_
                          rintro _ _ _ ⟨rfl, rfl, ⟨g6, rfl⟩ | ⟨g6, rfl⟩⟩
                          · -- pc 74 call X4_isPart true
                            refine And.intro (fun hh => absurd hh (by decide)) (fun _ => ?_)
                            refine Mt.conseq (m_part1 _ _ _ _ _) ?_
                            rintro _ _ _ ⟨rfl, rfl, ⟨g7, rfl⟩ | ⟨g7, rfl⟩⟩
                            · -- pc 86 call X4_isPart true
                              exact absurd (show strP _ _ (I 36 2) by rw [t45]; exact g7) h9
                            · -- pc 86 call X4_isPart false
                              refine And.intro (fun hh => absurd hh (by decide)) (fun _ => ?_)
                              refine Mt.conseq (m_fnd0 _ _ _) ?_
                              rintro _ _ _ ⟨rfl, rfl, rfl⟩
                              exact ⟨trivial, rfl, hS.found (by decide)⟩
                          · -- pc 74 call X4_isPart false
                            exact absurd (show strP _ _ (I 49 0) by rw [← s45]; exact h8) g6
                        · -- pc 59 .if_icmp .eq 10: no
                          exact absurd (show I 48 0 = I 48 1 from s1.symm.trans ((show I 34 1 = I 36 1 from h7).trans t1)) g5
                      · -- pc 36 .ifCond .ne 11: no
                        exact absurd (show I 36 1 = 0 from t1.trans g4) h5
                  · -- pc 8 call X4_isSheet false
                    exact absurd (by decide) g2
                · -- pc 1 call X4_isSheet false
                  exact absurd (by decide) g1
            · -- pc 85 call X1_hasStretch false
              refine And.intro (fun _ => ?_) (fun hh => absurd hh (by decide))
              refine Mt.conseq (c_fnd0 _ _ _) ?_
              rintro _ _ _ ⟨rfl, rfl, rfl⟩
              refine ⟨trivial, _, rfl, ?_⟩
              refine Mt.of2 _ rfl (by decide +kernel) (Nat.le_of_ble_eq_true rfl) ?_
              refine GW.run kX4_copy (fun pc => Nat.beq pc 102) 127 0 rfl ?_
              refine Mt.conseq (m_isSheet _ _ _ _) ?_
              rintro _ _ _ ⟨rfl, rfl, ⟨g1, rfl⟩ | ⟨g1, rfl⟩⟩
              · -- pc 1 call X4_isSheet true
                refine And.intro (fun hh => absurd hh (by decide)) (fun _ => ?_)
                refine Mt.conseq (m_isSheet _ _ _ _) ?_
                rintro _ _ _ ⟨rfl, rfl, ⟨g2, rfl⟩ | ⟨g2, rfl⟩⟩
                · -- pc 8 call X4_isSheet true
                  refine And.intro (fun _ => ?_) (fun hh => absurd hh (by decide))
                  refine And.intro (by unfold vp_in; decide) ?_
                  refine And.intro (fun g3 => ?_) (fun g3 => ?_)
                  · -- pc 27 .ifCond .eq 12: yes
                    exact absurd (show I 34 1 = 0 from s1.trans g3) h3
                  · -- pc 27 .ifCond .eq 12: no
                    refine And.intro (by unfold vp_in; decide) ?_
                    refine And.intro (fun g4 => ?_) (fun g4 => ?_)
                    · -- pc 36 .ifCond .ne 11: yes
                      refine And.intro (by unfold vp_in; decide) ?_
                      refine And.intro (by unfold vp_in; decide) ?_
                      refine And.intro (fun g5 => ?_) (fun g5 => ?_)
                      · -- pc 59 .if_icmp .eq 10: yes
                        refine Mt.conseq (m_part0 _ _ _ _ _) ?_
                        rintro _ _ _ ⟨rfl, rfl, ⟨g6, rfl⟩ | ⟨g6, rfl⟩⟩
                        · -- pc 74 call X4_isPart true
                          exact absurd (show strP _ _ (I 34 2) by rw [s45]; exact g6) h8
                        · -- pc 74 call X4_isPart false
                          refine And.intro (fun _ => ?_) (fun hh => absurd hh (by decide))
                          refine Mt.conseq (m_fnd0 _ _ _) ?_
                          rintro _ _ _ ⟨rfl, rfl, rfl⟩
                          exact ⟨trivial, rfl, hS.found (by decide)⟩
                      · -- pc 59 .if_icmp .eq 10: no
                        exact absurd (show I 48 0 = I 48 1 from s1.symm.trans ((show I 34 1 = I 36 1 from h7).trans t1)) g5
                    · -- pc 36 .ifCond .ne 11: no
                      exact absurd (show I 36 1 = 0 from t1.trans g4) h5
                · -- pc 8 call X4_isSheet false
                  exact absurd (by decide) g2
              · -- pc 1 call X4_isSheet false
                exact absurd (by decide) g1
          · -- pc 70 .if_icmp .eq 10: no
            refine Mt.conseq (c_fnd2 _ _ _) ?_
            rintro _ _ _ ⟨rfl, rfl, rfl⟩
            refine ⟨trivial, _, rfl, ?_⟩
            refine Mt.of2 _ rfl (by decide +kernel) (Nat.le_of_ble_eq_true rfl) ?_
            refine GW.run kX4_copy (fun pc => Nat.beq pc 102) 127 0 rfl ?_
            refine Mt.conseq (m_isSheet _ _ _ _) ?_
            rintro _ _ _ ⟨rfl, rfl, ⟨g1, rfl⟩ | ⟨g1, rfl⟩⟩
            · -- pc 1 call X4_isSheet true
              refine And.intro (fun hh => absurd hh (by decide)) (fun _ => ?_)
              refine Mt.conseq (m_isSheet _ _ _ _) ?_
              rintro _ _ _ ⟨rfl, rfl, ⟨g2, rfl⟩ | ⟨g2, rfl⟩⟩
              · -- pc 8 call X4_isSheet true
                refine And.intro (fun _ => ?_) (fun hh => absurd hh (by decide))
                refine And.intro (by unfold vp_in; decide) ?_
                refine And.intro (fun g3 => ?_) (fun g3 => ?_)
                · -- pc 27 .ifCond .eq 12: yes
                  exact absurd (show I 34 1 = 0 from s1.trans g3) h3
                · -- pc 27 .ifCond .eq 12: no
                  refine And.intro (by unfold vp_in; decide) ?_
                  refine And.intro (fun g4 => ?_) (fun g4 => ?_)
                  · -- pc 36 .ifCond .ne 11: yes
                    refine And.intro (by unfold vp_in; decide) ?_
                    refine And.intro (by unfold vp_in; decide) ?_
                    refine And.intro (fun g5 => ?_) (fun g5 => ?_)
                    · -- pc 59 .if_icmp .eq 10: yes
                      exact absurd (show I 34 1 = I 36 1 from s1.trans ((show I 48 0 = I 48 1 from g5).trans t1.symm)) h7
                    · -- pc 59 .if_icmp .eq 10: no
                      refine Mt.conseq (m_fnd2 _ _ _) ?_
                      rintro _ _ _ ⟨rfl, rfl, rfl⟩
                      exact ⟨trivial, rfl, hS.found (by decide)⟩
                  · -- pc 36 .ifCond .ne 11: no
                    exact absurd (show I 36 1 = 0 from t1.trans g4) h5
              · -- pc 8 call X4_isSheet false
                exact absurd (by decide) g2
            · -- pc 1 call X4_isSheet false
              exact absurd (by decide) g1
set_option maxRecDepth 100000 in
set_option maxHeartbeats 4000000 in
theorem pr_copy0_2 (sx : Nat × (Nat → Int32)) (fr to nn : Int32) : PrI sx MX3_copy MX4_copy [.int 0, .int fr, .int 2, .int to, .int nn] := by
  intro I J hS
  obtain ⟨s1, s2, n, s3, s4, s5, s6⟩ := hS.2.2.2.1 0 (by decide)
  obtain ⟨t1, t2, m, t3, t4, t5, t6⟩ := hS.2.2.2.1 2 (by decide)
  have s45 : I 34 2 = I 49 0 := s4.trans s5.symm
  have t45 : I 38 2 = I 49 2 := t4.trans t5.symm
  refine Mt.of2 _ rfl (by decide +kernel) (Nat.le_of_ble_eq_true rfl) ?_
  refine GW.run kX3_copy (fun _ => false) 93 0 rfl ?_
  refine Mt.conseq (c_noSheet _ _ _ _) ?_
  rintro _ _ _ ⟨rfl, rfl, ⟨h1, rfl⟩ | ⟨h1, rfl⟩⟩
  · -- pc 1 call X3_noSheet true
    exact absurd h1 (by decide)
  · -- pc 1 call X3_noSheet false
    refine And.intro (fun hh => absurd hh (by decide)) (fun _ => ?_)
    refine Mt.conseq (c_noSheet _ _ _ _) ?_
    rintro _ _ _ ⟨rfl, rfl, ⟨h2, rfl⟩ | ⟨h2, rfl⟩⟩
    · -- pc 8 call X3_noSheet true
      exact absurd h2 (by decide)
    · -- pc 8 call X3_noSheet false
      refine And.intro (fun _ => ?_) (fun hh => absurd hh (by decide))
      refine And.intro (by unfold vp_in; decide) ?_
      refine And.intro (by unfold vp_in; decide) ?_
      refine Mt.conseq (c_miss0 _ _ _) ?_
      rintro _ _ _ ⟨rfl, rfl, ⟨h3, rfl⟩ | ⟨h3, rfl⟩⟩
      · -- pc 39 call X1_isMissing true
        refine And.intro (fun _ => ?_) (fun hh => absurd hh (by decide))
        refine Mt.conseq (c_fnd5 _ _ _) ?_
        rintro _ _ _ ⟨rfl, rfl, rfl⟩
        refine ⟨trivial, _, rfl, ?_⟩
        refine Mt.of2 _ rfl (by decide +kernel) (Nat.le_of_ble_eq_true rfl) ?_
        refine GW.run kX4_copy (fun pc => Nat.beq pc 102) 127 0 rfl ?_
        refine Mt.conseq (m_isSheet _ _ _ _) ?_
        rintro _ _ _ ⟨rfl, rfl, ⟨g1, rfl⟩ | ⟨g1, rfl⟩⟩
        · -- pc 1 call X4_isSheet true
          refine And.intro (fun hh => absurd hh (by decide)) (fun _ => ?_)
          refine Mt.conseq (m_isSheet _ _ _ _) ?_
          rintro _ _ _ ⟨rfl, rfl, ⟨g2, rfl⟩ | ⟨g2, rfl⟩⟩
          · -- pc 8 call X4_isSheet true
            refine And.intro (fun _ => ?_) (fun hh => absurd hh (by decide))
            refine And.intro (by unfold vp_in; decide) ?_
            refine And.intro (fun g3 => ?_) (fun g3 => ?_)
            · -- pc 27 .ifCond .eq 12: yes
              refine Mt.conseq (m_fnd5 _ _ _) ?_
              rintro _ _ _ ⟨rfl, rfl, rfl⟩
              exact ⟨trivial, rfl, hS.found (by decide)⟩
            · -- pc 27 .ifCond .eq 12: no
              exact absurd (show I 48 0 = 0 from s1.symm.trans h3) g3
          · -- pc 8 call X4_isSheet false
            exact absurd (by decide) g2
        · -- pc 1 call X4_isSheet false
          exact absurd (by decide) g1
      · -- pc 39 call X1_isMissing false
        refine And.intro (fun hh => absurd hh (by decide)) (fun _ => ?_)
        refine Mt.conseq (c_miss2 _ _ _) ?_
        rintro _ _ _ ⟨rfl, rfl, ⟨h5, rfl⟩ | ⟨h5, rfl⟩⟩
        · -- pc 47 call X1_isMissing true
          refine And.intro (fun hh => absurd hh (by decide)) (fun _ => ?_)
          refine Mt.conseq (c_fnd5 _ _ _) ?_
          rintro _ _ _ ⟨rfl, rfl, rfl⟩
          refine ⟨trivial, _, rfl, ?_⟩
          refine Mt.of2 _ rfl (by decide +kernel) (Nat.le_of_ble_eq_true rfl) ?_
          refine GW.run kX4_copy (fun pc => Nat.beq pc 102) 127 0 rfl ?_
          refine Mt.conseq (m_isSheet _ _ _ _) ?_
          rintro _ _ _ ⟨rfl, rfl, ⟨g1, rfl⟩ | ⟨g1, rfl⟩⟩
          · -- pc 1 call X4_isSheet true
            refine And.intro (fun hh => absurd hh (by decide)) (fun _ => ?_)
            refine Mt.conseq (m_isSheet _ _ _ _) ?_
            rintro _ _ _ ⟨rfl, rfl, ⟨g2, rfl⟩ | ⟨g2, rfl⟩⟩
            · -- pc 8 call X4_isSheet true
              refine And.intro (fun _ => ?_) (fun hh => absurd hh (by decide))
              refine And.intro (by unfold vp_in; decide) ?_
              refine And.intro (fun g3 => ?_) (fun g3 => ?_)
              · -- pc 27 .ifCond .eq 12: yes
                exact absurd (show I 34 1 = 0 from s1.trans g3) h3
              · -- pc 27 .ifCond .eq 12: no
                refine And.intro (by unfold vp_in; decide) ?_
                refine And.intro (fun g4 => ?_) (fun g4 => ?_)
                · -- pc 36 .ifCond .ne 11: yes
                  exact absurd (show I 48 2 = 0 from t1.symm.trans h5) g4
                · -- pc 36 .ifCond .ne 11: no
                  refine Mt.conseq (m_fnd5 _ _ _) ?_
                  rintro _ _ _ ⟨rfl, rfl, rfl⟩
                  exact ⟨trivial, rfl, hS.found (by decide)⟩
            · -- pc 8 call X4_isSheet false
              exact absurd (by decide) g2
          · -- pc 1 call X4_isSheet false
            exact absurd (by decide) g1
        · -- pc 47 call X1_isMissing false
          refine And.intro (fun _ => ?_) (fun hh => absurd hh (by decide))
          refine And.intro (fun h7 => ?_) (fun h7 => ?_)
          · -- pc 70 .if_icmp .eq 10: yes
            refine Mt.conseq (c_str0 _ _ _ _ _) ?_
            rintro _ _ _ ⟨rfl, rfl, ⟨h8, rfl⟩ | ⟨h8, rfl⟩⟩
            · -- pc 85 call X1_hasStretch true
              refine And.intro (fun hh => absurd hh (by decide)) (fun _ => ?_)
              refine Mt.conseq (c_str2 _ _ _ _ _) ?_
              rintro _ _ _ ⟨rfl, rfl, ⟨h9, rfl⟩ | ⟨h9, rfl⟩⟩
              · -- pc 97 call X1_hasStretch true
                obtain ⟨A, K, rfl, rfl, hA⟩ := str_nat s4 s3 h8
                obtain ⟨B, K2, rfl, eK, hB⟩ := str_nat t4 t3 h9
                obtain rfl : K2 = K := by
                  have z1 : K ≤ 40 := by omega
                  have z2 : K2 ≤ 40 := by omega
                  exact ((nI_eq (by omega) (by omega)).mp eK).symm
                have hcA := nI_clamp (n := A) (by omega)
                have hcB := nI_clamp (n := B) (by omega)
                have hcK := nI_clamp (n := K2) (by omega)
                have hcp : ¬ nI A < 0 ∧ ¬ nI B < 0 ∧ ¬ nI K2 < 0 ∧ (nI A).toNatClampNeg + (nI K2).toNatClampNeg ≤ 40 ∧ (nI B).toNatClampNeg + (nI K2).toNatClampNeg ≤ 40 := ⟨nI_pos (by omega), nI_pos (by omega), nI_pos (by omega), by rw [hcA, hcK]; omega, by rw [hcB, hcK]; omega⟩
                refine And.intro (fun _ => ?_) (fun hh => absurd hh (by decide))
                refine And.intro (hcp) ?_
                refine ⟨trivial, _, rfl, ?_⟩
                refine Mt.of2 _ rfl (by decide +kernel) (Nat.le_of_ble_eq_true rfl) ?_
                refine GW.run kX4_copy (fun pc => Nat.beq pc 102) 127 0 rfl ?_
                refine Mt.conseq (m_isSheet _ _ _ _) ?_
                rintro _ _ _ ⟨rfl, rfl, ⟨g1, rfl⟩ | ⟨g1, rfl⟩⟩
                · -- pc 1 call X4_isSheet true
                  refine And.intro (fun hh => absurd hh (by decide)) (fun _ => ?_)
                  refine Mt.conseq (m_isSheet _ _ _ _) ?_
                  rintro _ _ _ ⟨rfl, rfl, ⟨g2, rfl⟩ | ⟨g2, rfl⟩⟩
                  · -- pc 8 call X4_isSheet true
                    refine And.intro (fun _ => ?_) (fun hh => absurd hh (by decide))
                    refine And.intro (by unfold vp_in; decide) ?_
                    refine And.intro (fun g3 => ?_) (fun g3 => ?_)
                    · -- pc 27 .ifCond .eq 12: yes
                      exact absurd (show I 34 1 = 0 from s1.trans g3) h3
                    · -- pc 27 .ifCond .eq 12: no
                      refine And.intro (by unfold vp_in; decide) ?_
                      refine And.intro (fun g4 => ?_) (fun g4 => ?_)
                      · -- pc 36 .ifCond .ne 11: yes
                        refine And.intro (by unfold vp_in; decide) ?_
                        refine And.intro (by unfold vp_in; decide) ?_
                        refine And.intro (fun g5 => ?_) (fun g5 => ?_)
                        · -- pc 59 .if_icmp .eq 10: yes
                          refine Mt.conseq (m_part0 _ _ _ _ _) ?_
                          rintro _ _ _ ⟨rfl, rfl, ⟨g6, rfl⟩ | ⟨g6, rfl⟩⟩
                          · -- pc 74 call X4_isPart true
                            refine And.intro (fun hh => absurd hh (by decide)) (fun _ => ?_)
                            refine Mt.conseq (m_part2 _ _ _ _ _) ?_
                            rintro _ _ _ ⟨rfl, rfl, ⟨g7, rfl⟩ | ⟨g7, rfl⟩⟩
                            · -- pc 86 call X4_isPart true
                              refine And.intro (fun _ => ?_) (fun hh => absurd hh (by decide))
                              refine GW.weak (GW.eqIJ rfl (wJ_0 (na_cpL J 35 39 (nI A).toNatClampNeg (nI B).toNatClampNeg (nI K2).toNatClampNeg) 51 0 (fun j => (na_cpL J 35 39 (nI A).toNatClampNeg (nI B).toNatClampNeg (nI K2).toNatClampNeg) 50 (0 + A + j))).symm (l_cp1_0 sx A K2 (by omega) (nI B) 2 I (na_cpL J 35 39 (nI A).toNatClampNeg (nI B).toNatClampNeg (nI K2).toNatClampNeg) _ ?_ K2 0 (by omega))) ⟨rfl, rfl, rfl, rfl, rfl, rfl, rfl, trivial⟩
                              refine GW.run kX4_copy (fun pc => Nat.beq pc 139) 127 74 rfl ?_
                              refine GW.weak (GW.eqIJ rfl (wJ_0 (wJ (na_cpL J 35 39 (nI A).toNatClampNeg (nI B).toNatClampNeg (nI K2).toNatClampNeg) 51 0 K2 (fun j => (na_cpL J 35 39 (nI A).toNatClampNeg (nI B).toNatClampNeg (nI K2).toNatClampNeg) 50 (0 + A + j))) 50 (80 + B) (fun j => (na_cpL J 35 39 (nI A).toNatClampNeg (nI B).toNatClampNeg (nI K2).toNatClampNeg) 50 (0 + A + j))).symm (l_cp2_2 sx B K2 (by omega) (fun j => (na_cpL J 35 39 (nI A).toNatClampNeg (nI B).toNatClampNeg (nI K2).toNatClampNeg) 50 (0 + A + j)) I (wJ (na_cpL J 35 39 (nI A).toNatClampNeg (nI B).toNatClampNeg (nI K2).toNatClampNeg) 51 0 K2 (fun j => (na_cpL J 35 39 (nI A).toNatClampNeg (nI B).toNatClampNeg (nI K2).toNatClampNeg) 50 (0 + A + j))) (fun j hj => by rw [wJ_on, if_pos (by omega)]; rfl) _ ?_ K2 0 (by omega))) ⟨rfl, rfl, rfl, rfl, rfl, trivial⟩
                              refine ⟨rfl, ?_⟩
                              exact hS.copied (s := 0) (t := 2) (A := A) (B := B) (K := K2) (by decide) (by decide) s4 t4 s3 t3 hA hB (u := (fun j => (na_cpL J 35 39 (nI A).toNatClampNeg (nI B).toNatClampNeg (nI K2).toNatClampNeg) 50 (0 + A + j))) (fun j hj => rfl) (fun a ha => by rw [wJ_off ha, hcA, hcB, hcK])
                            · -- pc 86 call X4_isPart false
                              exact absurd (show strP _ _ (I 49 2) by rw [← t45]; exact h9) g7
                          · -- pc 74 call X4_isPart false
                            exact absurd (show strP _ _ (I 49 0) by rw [← s45]; exact h8) g6
                        · -- pc 59 .if_icmp .eq 10: no
                          exact absurd (show I 48 0 = I 48 2 from s1.symm.trans ((show I 34 1 = I 38 1 from h7).trans t1)) g5
                      · -- pc 36 .ifCond .ne 11: no
                        exact absurd (show I 38 1 = 0 from t1.trans g4) h5
                  · -- pc 8 call X4_isSheet false
                    exact absurd (by decide) g2
                · -- pc 1 call X4_isSheet false
                  exact absurd (by decide) g1
              · -- pc 97 call X1_hasStretch false
                refine And.intro (fun hh => absurd hh (by decide)) (fun _ => ?_)
                refine Mt.conseq (c_fnd0 _ _ _) ?_
                rintro _ _ _ ⟨rfl, rfl, rfl⟩
                refine ⟨trivial, _, rfl, ?_⟩
                refine Mt.of2 _ rfl (by decide +kernel) (Nat.le_of_ble_eq_true rfl) ?_
                refine GW.run kX4_copy (fun pc => Nat.beq pc 102) 127 0 rfl ?_
                refine Mt.conseq (m_isSheet _ _ _ _) ?_
                rintro _ _ _ ⟨rfl, rfl, ⟨g1, rfl⟩ | ⟨g1, rfl⟩⟩
                · -- pc 1 call X4_isSheet true
                  refine And.intro (fun hh => absurd hh (by decide)) (fun _ => ?_)
                  refine Mt.conseq (m_isSheet _ _ _ _) ?_
                  rintro _ _ _ ⟨rfl, rfl, ⟨g2, rfl⟩ | ⟨g2, rfl⟩⟩
                  · -- pc 8 call X4_isSheet true
                    refine And.intro (fun _ => ?_) (fun hh => absurd hh (by decide))
                    refine And.intro (by unfold vp_in; decide) ?_
                    refine And.intro (fun g3 => ?_) (fun g3 => ?_)
                    · -- pc 27 .ifCond .eq 12: yes
                      exact absurd (show I 34 1 = 0 from s1.trans g3) h3
                    · -- pc 27 .ifCond .eq 12: no
                      refine And.intro (by unfold vp_in; decide) ?_
                      refine And.intro (fun g4 => ?_) (fun g4 => ?_)
                      · -- pc 36 .ifCond .ne 11: yes
                        refine And.intro (by unfold vp_in; decide) ?_
                        refine And.intro (by unfold vp_in; decide) ?_
                        refine And.intro (fun g5 => ?_) (fun g5 => ?_)
                        · -- pc 59 .if_icmp .eq 10: yes
                          refine Mt.conseq (m_part0 _ _ _ _ _) ?_
                          rintro _ _ _ ⟨rfl, rfl, ⟨g6, rfl⟩ | ⟨g6, rfl⟩⟩
                          · -- pc 74 call X4_isPart true
                            refine And.intro (fun hh => absurd hh (by decide)) (fun _ => ?_)
                            refine Mt.conseq (m_part2 _ _ _ _ _) ?_
                            rintro _ _ _ ⟨rfl, rfl, ⟨g7, rfl⟩ | ⟨g7, rfl⟩⟩
                            · -- pc 86 call X4_isPart true
                              exact absurd (show strP _ _ (I 38 2) by rw [t45]; exact g7) h9
                            · -- pc 86 call X4_isPart false
                              refine And.intro (fun hh => absurd hh (by decide)) (fun _ => ?_)
                              refine Mt.conseq (m_fnd0 _ _ _) ?_
                              rintro _ _ _ ⟨rfl, rfl, rfl⟩
                              exact ⟨trivial, rfl, hS.found (by decide)⟩
                          · -- pc 74 call X4_isPart false
                            exact absurd (show strP _ _ (I 49 0) by rw [← s45]; exact h8) g6
                        · -- pc 59 .if_icmp .eq 10: no
                          exact absurd (show I 48 0 = I 48 2 from s1.symm.trans ((show I 34 1 = I 38 1 from h7).trans t1)) g5
                      · -- pc 36 .ifCond .ne 11: no
                        exact absurd (show I 38 1 = 0 from t1.trans g4) h5
                  · -- pc 8 call X4_isSheet false
                    exact absurd (by decide) g2
                · -- pc 1 call X4_isSheet false
                  exact absurd (by decide) g1
            · -- pc 85 call X1_hasStretch false
              refine And.intro (fun _ => ?_) (fun hh => absurd hh (by decide))
              refine Mt.conseq (c_fnd0 _ _ _) ?_
              rintro _ _ _ ⟨rfl, rfl, rfl⟩
              refine ⟨trivial, _, rfl, ?_⟩
              refine Mt.of2 _ rfl (by decide +kernel) (Nat.le_of_ble_eq_true rfl) ?_
              refine GW.run kX4_copy (fun pc => Nat.beq pc 102) 127 0 rfl ?_
              refine Mt.conseq (m_isSheet _ _ _ _) ?_
              rintro _ _ _ ⟨rfl, rfl, ⟨g1, rfl⟩ | ⟨g1, rfl⟩⟩
              · -- pc 1 call X4_isSheet true
                refine And.intro (fun hh => absurd hh (by decide)) (fun _ => ?_)
                refine Mt.conseq (m_isSheet _ _ _ _) ?_
                rintro _ _ _ ⟨rfl, rfl, ⟨g2, rfl⟩ | ⟨g2, rfl⟩⟩
                · -- pc 8 call X4_isSheet true
                  refine And.intro (fun _ => ?_) (fun hh => absurd hh (by decide))
                  refine And.intro (by unfold vp_in; decide) ?_
                  refine And.intro (fun g3 => ?_) (fun g3 => ?_)
                  · -- pc 27 .ifCond .eq 12: yes
                    exact absurd (show I 34 1 = 0 from s1.trans g3) h3
                  · -- pc 27 .ifCond .eq 12: no
                    refine And.intro (by unfold vp_in; decide) ?_
                    refine And.intro (fun g4 => ?_) (fun g4 => ?_)
                    · -- pc 36 .ifCond .ne 11: yes
                      refine And.intro (by unfold vp_in; decide) ?_
                      refine And.intro (by unfold vp_in; decide) ?_
                      refine And.intro (fun g5 => ?_) (fun g5 => ?_)
                      · -- pc 59 .if_icmp .eq 10: yes
                        refine Mt.conseq (m_part0 _ _ _ _ _) ?_
                        rintro _ _ _ ⟨rfl, rfl, ⟨g6, rfl⟩ | ⟨g6, rfl⟩⟩
                        · -- pc 74 call X4_isPart true
                          exact absurd (show strP _ _ (I 34 2) by rw [s45]; exact g6) h8
                        · -- pc 74 call X4_isPart false
                          refine And.intro (fun _ => ?_) (fun hh => absurd hh (by decide))
                          refine Mt.conseq (m_fnd0 _ _ _) ?_
                          rintro _ _ _ ⟨rfl, rfl, rfl⟩
                          exact ⟨trivial, rfl, hS.found (by decide)⟩
                      · -- pc 59 .if_icmp .eq 10: no
                        exact absurd (show I 48 0 = I 48 2 from s1.symm.trans ((show I 34 1 = I 38 1 from h7).trans t1)) g5
                    · -- pc 36 .ifCond .ne 11: no
                      exact absurd (show I 38 1 = 0 from t1.trans g4) h5
                · -- pc 8 call X4_isSheet false
                  exact absurd (by decide) g2
              · -- pc 1 call X4_isSheet false
                exact absurd (by decide) g1
          · -- pc 70 .if_icmp .eq 10: no
            refine Mt.conseq (c_fnd2 _ _ _) ?_
            rintro _ _ _ ⟨rfl, rfl, rfl⟩
            refine ⟨trivial, _, rfl, ?_⟩
            refine Mt.of2 _ rfl (by decide +kernel) (Nat.le_of_ble_eq_true rfl) ?_
            refine GW.run kX4_copy (fun pc => Nat.beq pc 102) 127 0 rfl ?_
            refine Mt.conseq (m_isSheet _ _ _ _) ?_
            rintro _ _ _ ⟨rfl, rfl, ⟨g1, rfl⟩ | ⟨g1, rfl⟩⟩
            · -- pc 1 call X4_isSheet true
              refine And.intro (fun hh => absurd hh (by decide)) (fun _ => ?_)
              refine Mt.conseq (m_isSheet _ _ _ _) ?_
              rintro _ _ _ ⟨rfl, rfl, ⟨g2, rfl⟩ | ⟨g2, rfl⟩⟩
              · -- pc 8 call X4_isSheet true
                refine And.intro (fun _ => ?_) (fun hh => absurd hh (by decide))
                refine And.intro (by unfold vp_in; decide) ?_
                refine And.intro (fun g3 => ?_) (fun g3 => ?_)
                · -- pc 27 .ifCond .eq 12: yes
                  exact absurd (show I 34 1 = 0 from s1.trans g3) h3
                · -- pc 27 .ifCond .eq 12: no
                  refine And.intro (by unfold vp_in; decide) ?_
                  refine And.intro (fun g4 => ?_) (fun g4 => ?_)
                  · -- pc 36 .ifCond .ne 11: yes
                    refine And.intro (by unfold vp_in; decide) ?_
                    refine And.intro (by unfold vp_in; decide) ?_
                    refine And.intro (fun g5 => ?_) (fun g5 => ?_)
                    · -- pc 59 .if_icmp .eq 10: yes
                      exact absurd (show I 34 1 = I 38 1 from s1.trans ((show I 48 0 = I 48 2 from g5).trans t1.symm)) h7
                    · -- pc 59 .if_icmp .eq 10: no
                      refine Mt.conseq (m_fnd2 _ _ _) ?_
                      rintro _ _ _ ⟨rfl, rfl, rfl⟩
                      exact ⟨trivial, rfl, hS.found (by decide)⟩
                  · -- pc 36 .ifCond .ne 11: no
                    exact absurd (show I 38 1 = 0 from t1.trans g4) h5
              · -- pc 8 call X4_isSheet false
                exact absurd (by decide) g2
            · -- pc 1 call X4_isSheet false
              exact absurd (by decide) g1
set_option maxRecDepth 100000 in
set_option maxHeartbeats 4000000 in
theorem pr_copy0_3 (sx : Nat × (Nat → Int32)) (fr to nn : Int32) : PrI sx MX3_copy MX4_copy [.int 0, .int fr, .int 3, .int to, .int nn] := by
  intro I J hS
  obtain ⟨s1, s2, n, s3, s4, s5, s6⟩ := hS.2.2.2.1 0 (by decide)
  obtain ⟨t1, t2, m, t3, t4, t5, t6⟩ := hS.2.2.2.1 3 (by decide)
  have s45 : I 34 2 = I 49 0 := s4.trans s5.symm
  have t45 : I 40 2 = I 49 3 := t4.trans t5.symm
  refine Mt.of2 _ rfl (by decide +kernel) (Nat.le_of_ble_eq_true rfl) ?_
  refine GW.run kX3_copy (fun _ => false) 93 0 rfl ?_
  refine Mt.conseq (c_noSheet _ _ _ _) ?_
  rintro _ _ _ ⟨rfl, rfl, ⟨h1, rfl⟩ | ⟨h1, rfl⟩⟩
  · -- pc 1 call X3_noSheet true
    exact absurd h1 (by decide)
  · -- pc 1 call X3_noSheet false
    refine And.intro (fun hh => absurd hh (by decide)) (fun _ => ?_)
    refine Mt.conseq (c_noSheet _ _ _ _) ?_
    rintro _ _ _ ⟨rfl, rfl, ⟨h2, rfl⟩ | ⟨h2, rfl⟩⟩
    · -- pc 8 call X3_noSheet true
      exact absurd h2 (by decide)
    · -- pc 8 call X3_noSheet false
      refine And.intro (fun _ => ?_) (fun hh => absurd hh (by decide))
      refine And.intro (by unfold vp_in; decide) ?_
      refine And.intro (by unfold vp_in; decide) ?_
      refine Mt.conseq (c_miss0 _ _ _) ?_
      rintro _ _ _ ⟨rfl, rfl, ⟨h3, rfl⟩ | ⟨h3, rfl⟩⟩
      · -- pc 39 call X1_isMissing true
        refine And.intro (fun _ => ?_) (fun hh => absurd hh (by decide))
        refine Mt.conseq (c_fnd5 _ _ _) ?_
        rintro _ _ _ ⟨rfl, rfl, rfl⟩
        refine ⟨trivial, _, rfl, ?_⟩
        refine Mt.of2 _ rfl (by decide +kernel) (Nat.le_of_ble_eq_true rfl) ?_
        refine GW.run kX4_copy (fun pc => Nat.beq pc 102) 127 0 rfl ?_
        refine Mt.conseq (m_isSheet _ _ _ _) ?_
        rintro _ _ _ ⟨rfl, rfl, ⟨g1, rfl⟩ | ⟨g1, rfl⟩⟩
        · -- pc 1 call X4_isSheet true
          refine And.intro (fun hh => absurd hh (by decide)) (fun _ => ?_)
          refine Mt.conseq (m_isSheet _ _ _ _) ?_
          rintro _ _ _ ⟨rfl, rfl, ⟨g2, rfl⟩ | ⟨g2, rfl⟩⟩
          · -- pc 8 call X4_isSheet true
            refine And.intro (fun _ => ?_) (fun hh => absurd hh (by decide))
            refine And.intro (by unfold vp_in; decide) ?_
            refine And.intro (fun g3 => ?_) (fun g3 => ?_)
            · -- pc 27 .ifCond .eq 12: yes
              refine Mt.conseq (m_fnd5 _ _ _) ?_
              rintro _ _ _ ⟨rfl, rfl, rfl⟩
              exact ⟨trivial, rfl, hS.found (by decide)⟩
            · -- pc 27 .ifCond .eq 12: no
              exact absurd (show I 48 0 = 0 from s1.symm.trans h3) g3
          · -- pc 8 call X4_isSheet false
            exact absurd (by decide) g2
        · -- pc 1 call X4_isSheet false
          exact absurd (by decide) g1
      · -- pc 39 call X1_isMissing false
        refine And.intro (fun hh => absurd hh (by decide)) (fun _ => ?_)
        refine Mt.conseq (c_miss3 _ _ _) ?_
        rintro _ _ _ ⟨rfl, rfl, ⟨h5, rfl⟩ | ⟨h5, rfl⟩⟩
        · -- pc 47 call X1_isMissing true
          refine And.intro (fun hh => absurd hh (by decide)) (fun _ => ?_)
          refine Mt.conseq (c_fnd5 _ _ _) ?_
          rintro _ _ _ ⟨rfl, rfl, rfl⟩
          refine ⟨trivial, _, rfl, ?_⟩
          refine Mt.of2 _ rfl (by decide +kernel) (Nat.le_of_ble_eq_true rfl) ?_
          refine GW.run kX4_copy (fun pc => Nat.beq pc 102) 127 0 rfl ?_
          refine Mt.conseq (m_isSheet _ _ _ _) ?_
          rintro _ _ _ ⟨rfl, rfl, ⟨g1, rfl⟩ | ⟨g1, rfl⟩⟩
          · -- pc 1 call X4_isSheet true
            refine And.intro (fun hh => absurd hh (by decide)) (fun _ => ?_)
            refine Mt.conseq (m_isSheet _ _ _ _) ?_
            rintro _ _ _ ⟨rfl, rfl, ⟨g2, rfl⟩ | ⟨g2, rfl⟩⟩
            · -- pc 8 call X4_isSheet true
              refine And.intro (fun _ => ?_) (fun hh => absurd hh (by decide))
              refine And.intro (by unfold vp_in; decide) ?_
              refine And.intro (fun g3 => ?_) (fun g3 => ?_)
              · -- pc 27 .ifCond .eq 12: yes
                exact absurd (show I 34 1 = 0 from s1.trans g3) h3
              · -- pc 27 .ifCond .eq 12: no
                refine And.intro (by unfold vp_in; decide) ?_
                refine And.intro (fun g4 => ?_) (fun g4 => ?_)
                · -- pc 36 .ifCond .ne 11: yes
                  exact absurd (show I 48 3 = 0 from t1.symm.trans h5) g4
                · -- pc 36 .ifCond .ne 11: no
                  refine Mt.conseq (m_fnd5 _ _ _) ?_
                  rintro _ _ _ ⟨rfl, rfl, rfl⟩
                  exact ⟨trivial, rfl, hS.found (by decide)⟩
            · -- pc 8 call X4_isSheet false
              exact absurd (by decide) g2
          · -- pc 1 call X4_isSheet false
            exact absurd (by decide) g1
        · -- pc 47 call X1_isMissing false
          refine And.intro (fun _ => ?_) (fun hh => absurd hh (by decide))
          refine And.intro (fun h7 => ?_) (fun h7 => ?_)
          · -- pc 70 .if_icmp .eq 10: yes
            refine Mt.conseq (c_str0 _ _ _ _ _) ?_
            rintro _ _ _ ⟨rfl, rfl, ⟨h8, rfl⟩ | ⟨h8, rfl⟩⟩
            · -- pc 85 call X1_hasStretch true
              refine And.intro (fun hh => absurd hh (by decide)) (fun _ => ?_)
              refine Mt.conseq (c_str3 _ _ _ _ _) ?_
              rintro _ _ _ ⟨rfl, rfl, ⟨h9, rfl⟩ | ⟨h9, rfl⟩⟩
              · -- pc 97 call X1_hasStretch true
                obtain ⟨A, K, rfl, rfl, hA⟩ := str_nat s4 s3 h8
                obtain ⟨B, K2, rfl, eK, hB⟩ := str_nat t4 t3 h9
                obtain rfl : K2 = K := by
                  have z1 : K ≤ 40 := by omega
                  have z2 : K2 ≤ 40 := by omega
                  exact ((nI_eq (by omega) (by omega)).mp eK).symm
                have hcA := nI_clamp (n := A) (by omega)
                have hcB := nI_clamp (n := B) (by omega)
                have hcK := nI_clamp (n := K2) (by omega)
                have hcp : ¬ nI A < 0 ∧ ¬ nI B < 0 ∧ ¬ nI K2 < 0 ∧ (nI A).toNatClampNeg + (nI K2).toNatClampNeg ≤ 40 ∧ (nI B).toNatClampNeg + (nI K2).toNatClampNeg ≤ 40 := ⟨nI_pos (by omega), nI_pos (by omega), nI_pos (by omega), by rw [hcA, hcK]; omega, by rw [hcB, hcK]; omega⟩
                refine And.intro (fun _ => ?_) (fun hh => absurd hh (by decide))
                refine And.intro (hcp) ?_
                refine ⟨trivial, _, rfl, ?_⟩
                refine Mt.of2 _ rfl (by decide +kernel) (Nat.le_of_ble_eq_true rfl) ?_
                refine GW.run kX4_copy (fun pc => Nat.beq pc 102) 127 0 rfl ?_
                refine Mt.conseq (m_isSheet _ _ _ _) ?_
                rintro _ _ _ ⟨rfl, rfl, ⟨g1, rfl⟩ | ⟨g1, rfl⟩⟩
                · -- pc 1 call X4_isSheet true
                  refine And.intro (fun hh => absurd hh (by decide)) (fun _ => ?_)
                  refine Mt.conseq (m_isSheet _ _ _ _) ?_
                  rintro _ _ _ ⟨rfl, rfl, ⟨g2, rfl⟩ | ⟨g2, rfl⟩⟩
                  · -- pc 8 call X4_isSheet true
                    refine And.intro (fun _ => ?_) (fun hh => absurd hh (by decide))
                    refine And.intro (by unfold vp_in; decide) ?_
                    refine And.intro (fun g3 => ?_) (fun g3 => ?_)
                    · -- pc 27 .ifCond .eq 12: yes
                      exact absurd (show I 34 1 = 0 from s1.trans g3) h3
                    · -- pc 27 .ifCond .eq 12: no
                      refine And.intro (by unfold vp_in; decide) ?_
                      refine And.intro (fun g4 => ?_) (fun g4 => ?_)
                      · -- pc 36 .ifCond .ne 11: yes
                        refine And.intro (by unfold vp_in; decide) ?_
                        refine And.intro (by unfold vp_in; decide) ?_
                        refine And.intro (fun g5 => ?_) (fun g5 => ?_)
                        · -- pc 59 .if_icmp .eq 10: yes
                          refine Mt.conseq (m_part0 _ _ _ _ _) ?_
                          rintro _ _ _ ⟨rfl, rfl, ⟨g6, rfl⟩ | ⟨g6, rfl⟩⟩
                          · -- pc 74 call X4_isPart true
                            refine And.intro (fun hh => absurd hh (by decide)) (fun _ => ?_)
                            refine Mt.conseq (m_part3 _ _ _ _ _) ?_
                            rintro _ _ _ ⟨rfl, rfl, ⟨g7, rfl⟩ | ⟨g7, rfl⟩⟩
                            · -- pc 86 call X4_isPart true
                              refine And.intro (fun _ => ?_) (fun hh => absurd hh (by decide))
                              refine GW.weak (GW.eqIJ rfl (wJ_0 (na_cpL J 35 41 (nI A).toNatClampNeg (nI B).toNatClampNeg (nI K2).toNatClampNeg) 51 0 (fun j => (na_cpL J 35 41 (nI A).toNatClampNeg (nI B).toNatClampNeg (nI K2).toNatClampNeg) 50 (0 + A + j))).symm (l_cp1_0 sx A K2 (by omega) (nI B) 3 I (na_cpL J 35 41 (nI A).toNatClampNeg (nI B).toNatClampNeg (nI K2).toNatClampNeg) _ ?_ K2 0 (by omega))) ⟨rfl, rfl, rfl, rfl, rfl, rfl, rfl, trivial⟩
                              refine GW.run kX4_copy (fun pc => Nat.beq pc 139) 127 74 rfl ?_
                              refine GW.weak (GW.eqIJ rfl (wJ_0 (wJ (na_cpL J 35 41 (nI A).toNatClampNeg (nI B).toNatClampNeg (nI K2).toNatClampNeg) 51 0 K2 (fun j => (na_cpL J 35 41 (nI A).toNatClampNeg (nI B).toNatClampNeg (nI K2).toNatClampNeg) 50 (0 + A + j))) 50 (120 + B) (fun j => (na_cpL J 35 41 (nI A).toNatClampNeg (nI B).toNatClampNeg (nI K2).toNatClampNeg) 50 (0 + A + j))).symm (l_cp2_3 sx B K2 (by omega) (fun j => (na_cpL J 35 41 (nI A).toNatClampNeg (nI B).toNatClampNeg (nI K2).toNatClampNeg) 50 (0 + A + j)) I (wJ (na_cpL J 35 41 (nI A).toNatClampNeg (nI B).toNatClampNeg (nI K2).toNatClampNeg) 51 0 K2 (fun j => (na_cpL J 35 41 (nI A).toNatClampNeg (nI B).toNatClampNeg (nI K2).toNatClampNeg) 50 (0 + A + j))) (fun j hj => by rw [wJ_on, if_pos (by omega)]; rfl) _ ?_ K2 0 (by omega))) ⟨rfl, rfl, rfl, rfl, rfl, trivial⟩
                              refine ⟨rfl, ?_⟩
                              exact hS.copied (s := 0) (t := 3) (A := A) (B := B) (K := K2) (by decide) (by decide) s4 t4 s3 t3 hA hB (u := (fun j => (na_cpL J 35 41 (nI A).toNatClampNeg (nI B).toNatClampNeg (nI K2).toNatClampNeg) 50 (0 + A + j))) (fun j hj => rfl) (fun a ha => by rw [wJ_off ha, hcA, hcB, hcK])
                            · -- pc 86 call X4_isPart false
                              exact absurd (show strP _ _ (I 49 3) by rw [← t45]; exact h9) g7
                          · -- pc 74 call X4_isPart false
                            exact absurd (show strP _ _ (I 49 0) by rw [← s45]; exact h8) g6
                        · -- pc 59 .if_icmp .eq 10: no
                          exact absurd (show I 48 0 = I 48 3 from s1.symm.trans ((show I 34 1 = I 40 1 from h7).trans t1)) g5
                      · -- pc 36 .ifCond .ne 11: no
                        exact absurd (show I 40 1 = 0 from t1.trans g4) h5
                  · -- pc 8 call X4_isSheet false
                    exact absurd (by decide) g2
                · -- pc 1 call X4_isSheet false
                  exact absurd (by decide) g1
              · -- pc 97 call X1_hasStretch false
                refine And.intro (fun hh => absurd hh (by decide)) (fun _ => ?_)
                refine Mt.conseq (c_fnd0 _ _ _) ?_
                rintro _ _ _ ⟨rfl, rfl, rfl⟩
                refine ⟨trivial, _, rfl, ?_⟩
                refine Mt.of2 _ rfl (by decide +kernel) (Nat.le_of_ble_eq_true rfl) ?_
                refine GW.run kX4_copy (fun pc => Nat.beq pc 102) 127 0 rfl ?_
                refine Mt.conseq (m_isSheet _ _ _ _) ?_
                rintro _ _ _ ⟨rfl, rfl, ⟨g1, rfl⟩ | ⟨g1, rfl⟩⟩
                · -- pc 1 call X4_isSheet true
                  refine And.intro (fun hh => absurd hh (by decide)) (fun _ => ?_)
                  refine Mt.conseq (m_isSheet _ _ _ _) ?_
                  rintro _ _ _ ⟨rfl, rfl, ⟨g2, rfl⟩ | ⟨g2, rfl⟩⟩
                  · -- pc 8 call X4_isSheet true
                    refine And.intro (fun _ => ?_) (fun hh => absurd hh (by decide))
                    refine And.intro (by unfold vp_in; decide) ?_
                    refine And.intro (fun g3 => ?_) (fun g3 => ?_)
                    · -- pc 27 .ifCond .eq 12: yes
                      exact absurd (show I 34 1 = 0 from s1.trans g3) h3
                    · -- pc 27 .ifCond .eq 12: no
                      refine And.intro (by unfold vp_in; decide) ?_
                      refine And.intro (fun g4 => ?_) (fun g4 => ?_)
                      · -- pc 36 .ifCond .ne 11: yes
                        refine And.intro (by unfold vp_in; decide) ?_
                        refine And.intro (by unfold vp_in; decide) ?_
                        refine And.intro (fun g5 => ?_) (fun g5 => ?_)
                        · -- pc 59 .if_icmp .eq 10: yes
                          refine Mt.conseq (m_part0 _ _ _ _ _) ?_
                          rintro _ _ _ ⟨rfl, rfl, ⟨g6, rfl⟩ | ⟨g6, rfl⟩⟩
                          · -- pc 74 call X4_isPart true
                            refine And.intro (fun hh => absurd hh (by decide)) (fun _ => ?_)
                            refine Mt.conseq (m_part3 _ _ _ _ _) ?_
                            rintro _ _ _ ⟨rfl, rfl, ⟨g7, rfl⟩ | ⟨g7, rfl⟩⟩
                            · -- pc 86 call X4_isPart true
                              exact absurd (show strP _ _ (I 40 2) by rw [t45]; exact g7) h9
                            · -- pc 86 call X4_isPart false
                              refine And.intro (fun hh => absurd hh (by decide)) (fun _ => ?_)
                              refine Mt.conseq (m_fnd0 _ _ _) ?_
                              rintro _ _ _ ⟨rfl, rfl, rfl⟩
                              exact ⟨trivial, rfl, hS.found (by decide)⟩
                          · -- pc 74 call X4_isPart false
                            exact absurd (show strP _ _ (I 49 0) by rw [← s45]; exact h8) g6
                        · -- pc 59 .if_icmp .eq 10: no
                          exact absurd (show I 48 0 = I 48 3 from s1.symm.trans ((show I 34 1 = I 40 1 from h7).trans t1)) g5
                      · -- pc 36 .ifCond .ne 11: no
                        exact absurd (show I 40 1 = 0 from t1.trans g4) h5
                  · -- pc 8 call X4_isSheet false
                    exact absurd (by decide) g2
                · -- pc 1 call X4_isSheet false
                  exact absurd (by decide) g1
            · -- pc 85 call X1_hasStretch false
              refine And.intro (fun _ => ?_) (fun hh => absurd hh (by decide))
              refine Mt.conseq (c_fnd0 _ _ _) ?_
              rintro _ _ _ ⟨rfl, rfl, rfl⟩
              refine ⟨trivial, _, rfl, ?_⟩
              refine Mt.of2 _ rfl (by decide +kernel) (Nat.le_of_ble_eq_true rfl) ?_
              refine GW.run kX4_copy (fun pc => Nat.beq pc 102) 127 0 rfl ?_
              refine Mt.conseq (m_isSheet _ _ _ _) ?_
              rintro _ _ _ ⟨rfl, rfl, ⟨g1, rfl⟩ | ⟨g1, rfl⟩⟩
              · -- pc 1 call X4_isSheet true
                refine And.intro (fun hh => absurd hh (by decide)) (fun _ => ?_)
                refine Mt.conseq (m_isSheet _ _ _ _) ?_
                rintro _ _ _ ⟨rfl, rfl, ⟨g2, rfl⟩ | ⟨g2, rfl⟩⟩
                · -- pc 8 call X4_isSheet true
                  refine And.intro (fun _ => ?_) (fun hh => absurd hh (by decide))
                  refine And.intro (by unfold vp_in; decide) ?_
                  refine And.intro (fun g3 => ?_) (fun g3 => ?_)
                  · -- pc 27 .ifCond .eq 12: yes
                    exact absurd (show I 34 1 = 0 from s1.trans g3) h3
                  · -- pc 27 .ifCond .eq 12: no
                    refine And.intro (by unfold vp_in; decide) ?_
                    refine And.intro (fun g4 => ?_) (fun g4 => ?_)
                    · -- pc 36 .ifCond .ne 11: yes
                      refine And.intro (by unfold vp_in; decide) ?_
                      refine And.intro (by unfold vp_in; decide) ?_
                      refine And.intro (fun g5 => ?_) (fun g5 => ?_)
                      · -- pc 59 .if_icmp .eq 10: yes
                        refine Mt.conseq (m_part0 _ _ _ _ _) ?_
                        rintro _ _ _ ⟨rfl, rfl, ⟨g6, rfl⟩ | ⟨g6, rfl⟩⟩
                        · -- pc 74 call X4_isPart true
                          exact absurd (show strP _ _ (I 34 2) by rw [s45]; exact g6) h8
                        · -- pc 74 call X4_isPart false
                          refine And.intro (fun _ => ?_) (fun hh => absurd hh (by decide))
                          refine Mt.conseq (m_fnd0 _ _ _) ?_
                          rintro _ _ _ ⟨rfl, rfl, rfl⟩
                          exact ⟨trivial, rfl, hS.found (by decide)⟩
                      · -- pc 59 .if_icmp .eq 10: no
                        exact absurd (show I 48 0 = I 48 3 from s1.symm.trans ((show I 34 1 = I 40 1 from h7).trans t1)) g5
                    · -- pc 36 .ifCond .ne 11: no
                      exact absurd (show I 40 1 = 0 from t1.trans g4) h5
                · -- pc 8 call X4_isSheet false
                  exact absurd (by decide) g2
              · -- pc 1 call X4_isSheet false
                exact absurd (by decide) g1
          · -- pc 70 .if_icmp .eq 10: no
            refine Mt.conseq (c_fnd2 _ _ _) ?_
            rintro _ _ _ ⟨rfl, rfl, rfl⟩
            refine ⟨trivial, _, rfl, ?_⟩
            refine Mt.of2 _ rfl (by decide +kernel) (Nat.le_of_ble_eq_true rfl) ?_
            refine GW.run kX4_copy (fun pc => Nat.beq pc 102) 127 0 rfl ?_
            refine Mt.conseq (m_isSheet _ _ _ _) ?_
            rintro _ _ _ ⟨rfl, rfl, ⟨g1, rfl⟩ | ⟨g1, rfl⟩⟩
            · -- pc 1 call X4_isSheet true
              refine And.intro (fun hh => absurd hh (by decide)) (fun _ => ?_)
              refine Mt.conseq (m_isSheet _ _ _ _) ?_
              rintro _ _ _ ⟨rfl, rfl, ⟨g2, rfl⟩ | ⟨g2, rfl⟩⟩
              · -- pc 8 call X4_isSheet true
                refine And.intro (fun _ => ?_) (fun hh => absurd hh (by decide))
                refine And.intro (by unfold vp_in; decide) ?_
                refine And.intro (fun g3 => ?_) (fun g3 => ?_)
                · -- pc 27 .ifCond .eq 12: yes
                  exact absurd (show I 34 1 = 0 from s1.trans g3) h3
                · -- pc 27 .ifCond .eq 12: no
                  refine And.intro (by unfold vp_in; decide) ?_
                  refine And.intro (fun g4 => ?_) (fun g4 => ?_)
                  · -- pc 36 .ifCond .ne 11: yes
                    refine And.intro (by unfold vp_in; decide) ?_
                    refine And.intro (by unfold vp_in; decide) ?_
                    refine And.intro (fun g5 => ?_) (fun g5 => ?_)
                    · -- pc 59 .if_icmp .eq 10: yes
                      exact absurd (show I 34 1 = I 40 1 from s1.trans ((show I 48 0 = I 48 3 from g5).trans t1.symm)) h7
                    · -- pc 59 .if_icmp .eq 10: no
                      refine Mt.conseq (m_fnd2 _ _ _) ?_
                      rintro _ _ _ ⟨rfl, rfl, rfl⟩
                      exact ⟨trivial, rfl, hS.found (by decide)⟩
                  · -- pc 36 .ifCond .ne 11: no
                    exact absurd (show I 40 1 = 0 from t1.trans g4) h5
              · -- pc 8 call X4_isSheet false
                exact absurd (by decide) g2
            · -- pc 1 call X4_isSheet false
              exact absurd (by decide) g1
set_option maxRecDepth 100000 in
set_option maxHeartbeats 4000000 in
theorem pr_copy1_0 (sx : Nat × (Nat → Int32)) (fr to nn : Int32) : PrI sx MX3_copy MX4_copy [.int 1, .int fr, .int 0, .int to, .int nn] := by
  intro I J hS
  obtain ⟨s1, s2, n, s3, s4, s5, s6⟩ := hS.2.2.2.1 1 (by decide)
  obtain ⟨t1, t2, m, t3, t4, t5, t6⟩ := hS.2.2.2.1 0 (by decide)
  have s45 : I 36 2 = I 49 1 := s4.trans s5.symm
  have t45 : I 34 2 = I 49 0 := t4.trans t5.symm
  refine Mt.of2 _ rfl (by decide +kernel) (Nat.le_of_ble_eq_true rfl) ?_
  refine GW.run kX3_copy (fun _ => false) 93 0 rfl ?_
  refine Mt.conseq (c_noSheet _ _ _ _) ?_
  rintro _ _ _ ⟨rfl, rfl, ⟨h1, rfl⟩ | ⟨h1, rfl⟩⟩
  · -- pc 1 call X3_noSheet true
    exact absurd h1 (by decide)
  · -- pc 1 call X3_noSheet false
    refine And.intro (fun hh => absurd hh (by decide)) (fun _ => ?_)
    refine Mt.conseq (c_noSheet _ _ _ _) ?_
    rintro _ _ _ ⟨rfl, rfl, ⟨h2, rfl⟩ | ⟨h2, rfl⟩⟩
    · -- pc 8 call X3_noSheet true
      exact absurd h2 (by decide)
    · -- pc 8 call X3_noSheet false
      refine And.intro (fun _ => ?_) (fun hh => absurd hh (by decide))
      refine And.intro (by unfold vp_in; decide) ?_
      refine And.intro (by unfold vp_in; decide) ?_
      refine Mt.conseq (c_miss1 _ _ _) ?_
      rintro _ _ _ ⟨rfl, rfl, ⟨h3, rfl⟩ | ⟨h3, rfl⟩⟩
      · -- pc 39 call X1_isMissing true
        refine And.intro (fun _ => ?_) (fun hh => absurd hh (by decide))
        refine Mt.conseq (c_fnd5 _ _ _) ?_
        rintro _ _ _ ⟨rfl, rfl, rfl⟩
        refine ⟨trivial, _, rfl, ?_⟩
        refine Mt.of2 _ rfl (by decide +kernel) (Nat.le_of_ble_eq_true rfl) ?_
        refine GW.run kX4_copy (fun pc => Nat.beq pc 102) 127 0 rfl ?_
        refine Mt.conseq (m_isSheet _ _ _ _) ?_
        rintro _ _ _ ⟨rfl, rfl, ⟨g1, rfl⟩ | ⟨g1, rfl⟩⟩
        · -- pc 1 call X4_isSheet true
          refine And.intro (fun hh => absurd hh (by decide)) (fun _ => ?_)
          refine Mt.conseq (m_isSheet _ _ _ _) ?_
          rintro _ _ _ ⟨rfl, rfl, ⟨g2, rfl⟩ | ⟨g2, rfl⟩⟩
          · -- pc 8 call X4_isSheet true
            refine And.intro (fun _ => ?_) (fun hh => absurd hh (by decide))
            refine And.intro (by unfold vp_in; decide) ?_
            refine And.intro (fun g3 => ?_) (fun g3 => ?_)
            · -- pc 27 .ifCond .eq 12: yes
              refine Mt.conseq (m_fnd5 _ _ _) ?_
              rintro _ _ _ ⟨rfl, rfl, rfl⟩
              exact ⟨trivial, rfl, hS.found (by decide)⟩
            · -- pc 27 .ifCond .eq 12: no
              exact absurd (show I 48 1 = 0 from s1.symm.trans h3) g3
          · -- pc 8 call X4_isSheet false
            exact absurd (by decide) g2
        · -- pc 1 call X4_isSheet false
          exact absurd (by decide) g1
      · -- pc 39 call X1_isMissing false
        refine And.intro (fun hh => absurd hh (by decide)) (fun _ => ?_)
        refine Mt.conseq (c_miss0 _ _ _) ?_
        rintro _ _ _ ⟨rfl, rfl, ⟨h5, rfl⟩ | ⟨h5, rfl⟩⟩
        · -- pc 47 call X1_isMissing true
          refine And.intro (fun hh => absurd hh (by decide)) (fun _ => ?_)
          refine Mt.conseq (c_fnd5 _ _ _) ?_
          rintro _ _ _ ⟨rfl, rfl, rfl⟩
          refine ⟨trivial, _, rfl, ?_⟩
          refine Mt.of2 _ rfl (by decide +kernel) (Nat.le_of_ble_eq_true rfl) ?_
          refine GW.run kX4_copy (fun pc => Nat.beq pc 102) 127 0 rfl ?_
          refine Mt.conseq (m_isSheet _ _ _ _) ?_
          rintro _ _ _ ⟨rfl, rfl, ⟨g1, rfl⟩ | ⟨g1, rfl⟩⟩
          · -- pc 1 call X4_isSheet true
            refine And.intro (fun hh => absurd hh (by decide)) (fun _ => ?_)
            refine Mt.conseq (m_isSheet _ _ _ _) ?_
            rintro _ _ _ ⟨rfl, rfl, ⟨g2, rfl⟩ | ⟨g2, rfl⟩⟩
            · -- pc 8 call X4_isSheet true
              refine And.intro (fun _ => ?_) (fun hh => absurd hh (by decide))
              refine And.intro (by unfold vp_in; decide) ?_
              refine And.intro (fun g3 => ?_) (fun g3 => ?_)
              · -- pc 27 .ifCond .eq 12: yes
                exact absurd (show I 36 1 = 0 from s1.trans g3) h3
              · -- pc 27 .ifCond .eq 12: no
                refine And.intro (by unfold vp_in; decide) ?_
                refine And.intro (fun g4 => ?_) (fun g4 => ?_)
                · -- pc 36 .ifCond .ne 11: yes
                  exact absurd (show I 48 0 = 0 from t1.symm.trans h5) g4
                · -- pc 36 .ifCond .ne 11: no
                  refine Mt.conseq (m_fnd5 _ _ _) ?_
                  rintro _ _ _ ⟨rfl, rfl, rfl⟩
                  exact ⟨trivial, rfl, hS.found (by decide)⟩
            · -- pc 8 call X4_isSheet false
              exact absurd (by decide) g2
          · -- pc 1 call X4_isSheet false
            exact absurd (by decide) g1
        · -- pc 47 call X1_isMissing false
          refine And.intro (fun _ => ?_) (fun hh => absurd hh (by decide))
          refine And.intro (fun h7 => ?_) (fun h7 => ?_)
          · -- pc 70 .if_icmp .eq 10: yes
            refine Mt.conseq (c_str1 _ _ _ _ _) ?_
            rintro _ _ _ ⟨rfl, rfl, ⟨h8, rfl⟩ | ⟨h8, rfl⟩⟩
            · -- pc 85 call X1_hasStretch true
              refine And.intro (fun hh => absurd hh (by decide)) (fun _ => ?_)
              refine Mt.conseq (c_str0 _ _ _ _ _) ?_
              rintro _ _ _ ⟨rfl, rfl, ⟨h9, rfl⟩ | ⟨h9, rfl⟩⟩
              · -- pc 97 call X1_hasStretch true
                obtain ⟨A, K, rfl, rfl, hA⟩ := str_nat s4 s3 h8
                obtain ⟨B, K2, rfl, eK, hB⟩ := str_nat t4 t3 h9
                obtain rfl : K2 = K := by
                  have z1 : K ≤ 40 := by omega
                  have z2 : K2 ≤ 40 := by omega
                  exact ((nI_eq (by omega) (by omega)).mp eK).symm
                have hcA := nI_clamp (n := A) (by omega)
                have hcB := nI_clamp (n := B) (by omega)
                have hcK := nI_clamp (n := K2) (by omega)
                have hcp : ¬ nI A < 0 ∧ ¬ nI B < 0 ∧ ¬ nI K2 < 0 ∧ (nI A).toNatClampNeg + (nI K2).toNatClampNeg ≤ 40 ∧ (nI B).toNatClampNeg + (nI K2).toNatClampNeg ≤ 40 := ⟨nI_pos (by omega), nI_pos (by omega), nI_pos (by omega), by rw [hcA, hcK]; omega, by rw [hcB, hcK]; omega⟩
                refine And.intro (fun _ => ?_) (fun hh => absurd hh (by decide))
                refine And.intro (hcp) ?_
                refine ⟨trivial, _, rfl, ?_⟩
                refine Mt.of2 _ rfl (by decide +kernel) (Nat.le_of_ble_eq_true rfl) ?_
                refine GW.run kX4_copy (fun pc => Nat.beq pc 102) 127 0 rfl ?_
                refine Mt.conseq (m_isSheet _ _ _ _) ?_
                rintro _ _ _ ⟨rfl, rfl, ⟨g1, rfl⟩ | ⟨g1, rfl⟩⟩
                · -- pc 1 call X4_isSheet true
                  refine And.intro (fun hh => absurd hh (by decide)) (fun _ => ?_)
                  refine Mt.conseq (m_isSheet _ _ _ _) ?_
                  rintro _ _ _ ⟨rfl, rfl, ⟨g2, rfl⟩ | ⟨g2, rfl⟩⟩
                  · -- pc 8 call X4_isSheet true
                    refine And.intro (fun _ => ?_) (fun hh => absurd hh (by decide))
                    refine And.intro (by unfold vp_in; decide) ?_
                    refine And.intro (fun g3 => ?_) (fun g3 => ?_)
                    · -- pc 27 .ifCond .eq 12: yes
                      exact absurd (show I 36 1 = 0 from s1.trans g3) h3
                    · -- pc 27 .ifCond .eq 12: no
                      refine And.intro (by unfold vp_in; decide) ?_
                      refine And.intro (fun g4 => ?_) (fun g4 => ?_)
                      · -- pc 36 .ifCond .ne 11: yes
                        refine And.intro (by unfold vp_in; decide) ?_
                        refine And.intro (by unfold vp_in; decide) ?_
                        refine And.intro (fun g5 => ?_) (fun g5 => ?_)
                        · -- pc 59 .if_icmp .eq 10: yes
                          refine Mt.conseq (m_part1 _ _ _ _ _) ?_
                          rintro _ _ _ ⟨rfl, rfl, ⟨g6, rfl⟩ | ⟨g6, rfl⟩⟩
                          · -- pc 74 call X4_isPart true
                            refine And.intro (fun hh => absurd hh (by decide)) (fun _ => ?_)
                            refine Mt.conseq (m_part0 _ _ _ _ _) ?_
                            rintro _ _ _ ⟨rfl, rfl, ⟨g7, rfl⟩ | ⟨g7, rfl⟩⟩
                            · -- pc 86 call X4_isPart true
                              refine And.intro (fun _ => ?_) (fun hh => absurd hh (by decide))
                              refine GW.weak (GW.eqIJ rfl (wJ_0 (na_cpL J 37 35 (nI A).toNatClampNeg (nI B).toNatClampNeg (nI K2).toNatClampNeg) 51 0 (fun j => (na_cpL J 37 35 (nI A).toNatClampNeg (nI B).toNatClampNeg (nI K2).toNatClampNeg) 50 (40 + A + j))).symm (l_cp1_1 sx A K2 (by omega) (nI B) 0 I (na_cpL J 37 35 (nI A).toNatClampNeg (nI B).toNatClampNeg (nI K2).toNatClampNeg) _ ?_ K2 0 (by omega))) ⟨rfl, rfl, rfl, rfl, rfl, rfl, rfl, trivial⟩
                              refine GW.run kX4_copy (fun pc => Nat.beq pc 139) 127 74 rfl ?_
                              refine GW.weak (GW.eqIJ rfl (wJ_0 (wJ (na_cpL J 37 35 (nI A).toNatClampNeg (nI B).toNatClampNeg (nI K2).toNatClampNeg) 51 0 K2 (fun j => (na_cpL J 37 35 (nI A).toNatClampNeg (nI B).toNatClampNeg (nI K2).toNatClampNeg) 50 (40 + A + j))) 50 (0 + B) (fun j => (na_cpL J 37 35 (nI A).toNatClampNeg (nI B).toNatClampNeg (nI K2).toNatClampNeg) 50 (40 + A + j))).symm (l_cp2_0 sx B K2 (by omega) (fun j => (na_cpL J 37 35 (nI A).toNatClampNeg (nI B).toNatClampNeg (nI K2).toNatClampNeg) 50 (40 + A + j)) I (wJ (na_cpL J 37 35 (nI A).toNatClampNeg (nI B).toNatClampNeg (nI K2).toNatClampNeg) 51 0 K2 (fun j => (na_cpL J 37 35 (nI A).toNatClampNeg (nI B).toNatClampNeg (nI K2).toNatClampNeg) 50 (40 + A + j))) (fun j hj => by rw [wJ_on, if_pos (by omega)]; rfl) _ ?_ K2 0 (by omega))) ⟨rfl, rfl, rfl, rfl, rfl, trivial⟩
                              refine ⟨rfl, ?_⟩
                              exact hS.copied (s := 1) (t := 0) (A := A) (B := B) (K := K2) (by decide) (by decide) s4 t4 s3 t3 hA hB (u := (fun j => (na_cpL J 37 35 (nI A).toNatClampNeg (nI B).toNatClampNeg (nI K2).toNatClampNeg) 50 (40 + A + j))) (fun j hj => rfl) (fun a ha => by rw [wJ_off ha, hcA, hcB, hcK])
                            · -- pc 86 call X4_isPart false
                              exact absurd (show strP _ _ (I 49 0) by rw [← t45]; exact h9) g7
                          · -- pc 74 call X4_isPart false
                            exact absurd (show strP _ _ (I 49 1) by rw [← s45]; exact h8) g6
                        · -- pc 59 .if_icmp .eq 10: no
                          exact absurd (show I 48 1 = I 48 0 from s1.symm.trans ((show I 36 1 = I 34 1 from h7).trans t1)) g5
                      · -- pc 36 .ifCond .ne 11: no
                        exact absurd (show I 34 1 = 0 from t1.trans g4) h5
                  · -- pc 8 call X4_isSheet false
                    exact absurd (by decide) g2
                · -- pc 1 call X4_isSheet false
                  exact absurd (by decide) g1
              · -- pc 97 call X1_hasStretch false
                refine And.intro (fun hh => absurd hh (by decide)) (fun _ => ?_)
                refine Mt.conseq (c_fnd0 _ _ _) ?_
                rintro _ _ _ ⟨rfl, rfl, rfl⟩
                refine ⟨trivial, _, rfl, ?_⟩
                refine Mt.of2 _ rfl (by decide +kernel) (Nat.le_of_ble_eq_true rfl) ?_
                refine GW.run kX4_copy (fun pc => Nat.beq pc 102) 127 0 rfl ?_
                refine Mt.conseq (m_isSheet _ _ _ _) ?_
                rintro _ _ _ ⟨rfl, rfl, ⟨g1, rfl⟩ | ⟨g1, rfl⟩⟩
                · -- pc 1 call X4_isSheet true
                  refine And.intro (fun hh => absurd hh (by decide)) (fun _ => ?_)
                  refine Mt.conseq (m_isSheet _ _ _ _) ?_
                  rintro _ _ _ ⟨rfl, rfl, ⟨g2, rfl⟩ | ⟨g2, rfl⟩⟩
                  · -- pc 8 call X4_isSheet true
                    refine And.intro (fun _ => ?_) (fun hh => absurd hh (by decide))
                    refine And.intro (by unfold vp_in; decide) ?_
                    refine And.intro (fun g3 => ?_) (fun g3 => ?_)
                    · -- pc 27 .ifCond .eq 12: yes
                      exact absurd (show I 36 1 = 0 from s1.trans g3) h3
                    · -- pc 27 .ifCond .eq 12: no
                      refine And.intro (by unfold vp_in; decide) ?_
                      refine And.intro (fun g4 => ?_) (fun g4 => ?_)
                      · -- pc 36 .ifCond .ne 11: yes
                        refine And.intro (by unfold vp_in; decide) ?_
                        refine And.intro (by unfold vp_in; decide) ?_
                        refine And.intro (fun g5 => ?_) (fun g5 => ?_)
                        · -- pc 59 .if_icmp .eq 10: yes
                          refine Mt.conseq (m_part1 _ _ _ _ _) ?_
                          rintro _ _ _ ⟨rfl, rfl, ⟨g6, rfl⟩ | ⟨g6, rfl⟩⟩
                          · -- pc 74 call X4_isPart true
                            refine And.intro (fun hh => absurd hh (by decide)) (fun _ => ?_)
                            refine Mt.conseq (m_part0 _ _ _ _ _) ?_
                            rintro _ _ _ ⟨rfl, rfl, ⟨g7, rfl⟩ | ⟨g7, rfl⟩⟩
                            · -- pc 86 call X4_isPart true
                              exact absurd (show strP _ _ (I 34 2) by rw [t45]; exact g7) h9
                            · -- pc 86 call X4_isPart false
                              refine And.intro (fun hh => absurd hh (by decide)) (fun _ => ?_)
                              refine Mt.conseq (m_fnd0 _ _ _) ?_
                              rintro _ _ _ ⟨rfl, rfl, rfl⟩
                              exact ⟨trivial, rfl, hS.found (by decide)⟩
                          · -- pc 74 call X4_isPart false
                            exact absurd (show strP _ _ (I 49 1) by rw [← s45]; exact h8) g6
                        · -- pc 59 .if_icmp .eq 10: no
                          exact absurd (show I 48 1 = I 48 0 from s1.symm.trans ((show I 36 1 = I 34 1 from h7).trans t1)) g5
                      · -- pc 36 .ifCond .ne 11: no
                        exact absurd (show I 34 1 = 0 from t1.trans g4) h5
                  · -- pc 8 call X4_isSheet false
                    exact absurd (by decide) g2
                · -- pc 1 call X4_isSheet false
                  exact absurd (by decide) g1
            · -- pc 85 call X1_hasStretch false
              refine And.intro (fun _ => ?_) (fun hh => absurd hh (by decide))
              refine Mt.conseq (c_fnd0 _ _ _) ?_
              rintro _ _ _ ⟨rfl, rfl, rfl⟩
              refine ⟨trivial, _, rfl, ?_⟩
              refine Mt.of2 _ rfl (by decide +kernel) (Nat.le_of_ble_eq_true rfl) ?_
              refine GW.run kX4_copy (fun pc => Nat.beq pc 102) 127 0 rfl ?_
              refine Mt.conseq (m_isSheet _ _ _ _) ?_
              rintro _ _ _ ⟨rfl, rfl, ⟨g1, rfl⟩ | ⟨g1, rfl⟩⟩
              · -- pc 1 call X4_isSheet true
                refine And.intro (fun hh => absurd hh (by decide)) (fun _ => ?_)
                refine Mt.conseq (m_isSheet _ _ _ _) ?_
                rintro _ _ _ ⟨rfl, rfl, ⟨g2, rfl⟩ | ⟨g2, rfl⟩⟩
                · -- pc 8 call X4_isSheet true
                  refine And.intro (fun _ => ?_) (fun hh => absurd hh (by decide))
                  refine And.intro (by unfold vp_in; decide) ?_
                  refine And.intro (fun g3 => ?_) (fun g3 => ?_)
                  · -- pc 27 .ifCond .eq 12: yes
                    exact absurd (show I 36 1 = 0 from s1.trans g3) h3
                  · -- pc 27 .ifCond .eq 12: no
                    refine And.intro (by unfold vp_in; decide) ?_
                    refine And.intro (fun g4 => ?_) (fun g4 => ?_)
                    · -- pc 36 .ifCond .ne 11: yes
                      refine And.intro (by unfold vp_in; decide) ?_
                      refine And.intro (by unfold vp_in; decide) ?_
                      refine And.intro (fun g5 => ?_) (fun g5 => ?_)
                      · -- pc 59 .if_icmp .eq 10: yes
                        refine Mt.conseq (m_part1 _ _ _ _ _) ?_
                        rintro _ _ _ ⟨rfl, rfl, ⟨g6, rfl⟩ | ⟨g6, rfl⟩⟩
                        · -- pc 74 call X4_isPart true
                          exact absurd (show strP _ _ (I 36 2) by rw [s45]; exact g6) h8
                        · -- pc 74 call X4_isPart false
                          refine And.intro (fun _ => ?_) (fun hh => absurd hh (by decide))
                          refine Mt.conseq (m_fnd0 _ _ _) ?_
                          rintro _ _ _ ⟨rfl, rfl, rfl⟩
                          exact ⟨trivial, rfl, hS.found (by decide)⟩
                      · -- pc 59 .if_icmp .eq 10: no
                        exact absurd (show I 48 1 = I 48 0 from s1.symm.trans ((show I 36 1 = I 34 1 from h7).trans t1)) g5
                    · -- pc 36 .ifCond .ne 11: no
                      exact absurd (show I 34 1 = 0 from t1.trans g4) h5
                · -- pc 8 call X4_isSheet false
                  exact absurd (by decide) g2
              · -- pc 1 call X4_isSheet false
                exact absurd (by decide) g1
          · -- pc 70 .if_icmp .eq 10: no
            refine Mt.conseq (c_fnd2 _ _ _) ?_
            rintro _ _ _ ⟨rfl, rfl, rfl⟩
            refine ⟨trivial, _, rfl, ?_⟩
            refine Mt.of2 _ rfl (by decide +kernel) (Nat.le_of_ble_eq_true rfl) ?_
            refine GW.run kX4_copy (fun pc => Nat.beq pc 102) 127 0 rfl ?_
            refine Mt.conseq (m_isSheet _ _ _ _) ?_
            rintro _ _ _ ⟨rfl, rfl, ⟨g1, rfl⟩ | ⟨g1, rfl⟩⟩
            · -- pc 1 call X4_isSheet true
              refine And.intro (fun hh => absurd hh (by decide)) (fun _ => ?_)
              refine Mt.conseq (m_isSheet _ _ _ _) ?_
              rintro _ _ _ ⟨rfl, rfl, ⟨g2, rfl⟩ | ⟨g2, rfl⟩⟩
              · -- pc 8 call X4_isSheet true
                refine And.intro (fun _ => ?_) (fun hh => absurd hh (by decide))
                refine And.intro (by unfold vp_in; decide) ?_
                refine And.intro (fun g3 => ?_) (fun g3 => ?_)
                · -- pc 27 .ifCond .eq 12: yes
                  exact absurd (show I 36 1 = 0 from s1.trans g3) h3
                · -- pc 27 .ifCond .eq 12: no
                  refine And.intro (by unfold vp_in; decide) ?_
                  refine And.intro (fun g4 => ?_) (fun g4 => ?_)
                  · -- pc 36 .ifCond .ne 11: yes
                    refine And.intro (by unfold vp_in; decide) ?_
                    refine And.intro (by unfold vp_in; decide) ?_
                    refine And.intro (fun g5 => ?_) (fun g5 => ?_)
                    · -- pc 59 .if_icmp .eq 10: yes
                      exact absurd (show I 36 1 = I 34 1 from s1.trans ((show I 48 1 = I 48 0 from g5).trans t1.symm)) h7
                    · -- pc 59 .if_icmp .eq 10: no
                      refine Mt.conseq (m_fnd2 _ _ _) ?_
                      rintro _ _ _ ⟨rfl, rfl, rfl⟩
                      exact ⟨trivial, rfl, hS.found (by decide)⟩
                  · -- pc 36 .ifCond .ne 11: no
                    exact absurd (show I 34 1 = 0 from t1.trans g4) h5
              · -- pc 8 call X4_isSheet false
                exact absurd (by decide) g2
            · -- pc 1 call X4_isSheet false
              exact absurd (by decide) g1
set_option maxRecDepth 100000 in
set_option maxHeartbeats 4000000 in
theorem pr_copy1_1 (sx : Nat × (Nat → Int32)) (fr to nn : Int32) : PrI sx MX3_copy MX4_copy [.int 1, .int fr, .int 1, .int to, .int nn] := by
  intro I J hS
  obtain ⟨s1, s2, n, s3, s4, s5, s6⟩ := hS.2.2.2.1 1 (by decide)
  obtain ⟨t1, t2, m, t3, t4, t5, t6⟩ := hS.2.2.2.1 1 (by decide)
  have s45 : I 36 2 = I 49 1 := s4.trans s5.symm
  have t45 : I 36 2 = I 49 1 := t4.trans t5.symm
  refine Mt.of2 _ rfl (by decide +kernel) (Nat.le_of_ble_eq_true rfl) ?_
  refine GW.run kX3_copy (fun _ => false) 93 0 rfl ?_
  refine Mt.conseq (c_noSheet _ _ _ _) ?_
  rintro _ _ _ ⟨rfl, rfl, ⟨h1, rfl⟩ | ⟨h1, rfl⟩⟩
  · -- pc 1 call X3_noSheet true
    exact absurd h1 (by decide)
  · -- pc 1 call X3_noSheet false
    refine And.intro (fun hh => absurd hh (by decide)) (fun _ => ?_)
    refine Mt.conseq (c_noSheet _ _ _ _) ?_
    rintro _ _ _ ⟨rfl, rfl, ⟨h2, rfl⟩ | ⟨h2, rfl⟩⟩
    · -- pc 8 call X3_noSheet true
      exact absurd h2 (by decide)
    · -- pc 8 call X3_noSheet false
      refine And.intro (fun _ => ?_) (fun hh => absurd hh (by decide))
      refine And.intro (by unfold vp_in; decide) ?_
      refine And.intro (by unfold vp_in; decide) ?_
      refine Mt.conseq (c_miss1 _ _ _) ?_
      rintro _ _ _ ⟨rfl, rfl, ⟨h3, rfl⟩ | ⟨h3, rfl⟩⟩
      · -- pc 39 call X1_isMissing true
        refine And.intro (fun _ => ?_) (fun hh => absurd hh (by decide))
        refine Mt.conseq (c_fnd5 _ _ _) ?_
        rintro _ _ _ ⟨rfl, rfl, rfl⟩
        refine ⟨trivial, _, rfl, ?_⟩
        refine Mt.of2 _ rfl (by decide +kernel) (Nat.le_of_ble_eq_true rfl) ?_
        refine GW.run kX4_copy (fun pc => Nat.beq pc 102) 127 0 rfl ?_
        refine Mt.conseq (m_isSheet _ _ _ _) ?_
        rintro _ _ _ ⟨rfl, rfl, ⟨g1, rfl⟩ | ⟨g1, rfl⟩⟩
        · -- pc 1 call X4_isSheet true
          refine And.intro (fun hh => absurd hh (by decide)) (fun _ => ?_)
          refine Mt.conseq (m_isSheet _ _ _ _) ?_
          rintro _ _ _ ⟨rfl, rfl, ⟨g2, rfl⟩ | ⟨g2, rfl⟩⟩
          · -- pc 8 call X4_isSheet true
            refine And.intro (fun _ => ?_) (fun hh => absurd hh (by decide))
            refine And.intro (by unfold vp_in; decide) ?_
            refine And.intro (fun g3 => ?_) (fun g3 => ?_)
            · -- pc 27 .ifCond .eq 12: yes
              refine Mt.conseq (m_fnd5 _ _ _) ?_
              rintro _ _ _ ⟨rfl, rfl, rfl⟩
              exact ⟨trivial, rfl, hS.found (by decide)⟩
            · -- pc 27 .ifCond .eq 12: no
              exact absurd (show I 48 1 = 0 from s1.symm.trans h3) g3
          · -- pc 8 call X4_isSheet false
            exact absurd (by decide) g2
        · -- pc 1 call X4_isSheet false
          exact absurd (by decide) g1
      · -- pc 39 call X1_isMissing false
        refine And.intro (fun hh => absurd hh (by decide)) (fun _ => ?_)
        refine Mt.conseq (c_miss1 _ _ _) ?_
        rintro _ _ _ ⟨rfl, rfl, ⟨h5, rfl⟩ | ⟨h5, rfl⟩⟩
        · -- pc 47 call X1_isMissing true
          refine And.intro (fun hh => absurd hh (by decide)) (fun _ => ?_)
          refine Mt.conseq (c_fnd5 _ _ _) ?_
          rintro _ _ _ ⟨rfl, rfl, rfl⟩
          refine ⟨trivial, _, rfl, ?_⟩
          refine Mt.of2 _ rfl (by decide +kernel) (Nat.le_of_ble_eq_true rfl) ?_
          refine GW.run kX4_copy (fun pc => Nat.beq pc 102) 127 0 rfl ?_
          refine Mt.conseq (m_isSheet _ _ _ _) ?_
          rintro _ _ _ ⟨rfl, rfl, ⟨g1, rfl⟩ | ⟨g1, rfl⟩⟩
          · -- pc 1 call X4_isSheet true
            refine And.intro (fun hh => absurd hh (by decide)) (fun _ => ?_)
            refine Mt.conseq (m_isSheet _ _ _ _) ?_
            rintro _ _ _ ⟨rfl, rfl, ⟨g2, rfl⟩ | ⟨g2, rfl⟩⟩
            · -- pc 8 call X4_isSheet true
              refine And.intro (fun _ => ?_) (fun hh => absurd hh (by decide))
              refine And.intro (by unfold vp_in; decide) ?_
              refine And.intro (fun g3 => ?_) (fun g3 => ?_)
              · -- pc 27 .ifCond .eq 12: yes
                exact absurd (show I 36 1 = 0 from s1.trans g3) h3
              · -- pc 27 .ifCond .eq 12: no
                refine And.intro (by unfold vp_in; decide) ?_
                refine And.intro (fun g4 => ?_) (fun g4 => ?_)
                · -- pc 36 .ifCond .ne 11: yes
                  exact absurd (show I 48 1 = 0 from t1.symm.trans h5) g4
                · -- pc 36 .ifCond .ne 11: no
                  refine Mt.conseq (m_fnd5 _ _ _) ?_
                  rintro _ _ _ ⟨rfl, rfl, rfl⟩
                  exact ⟨trivial, rfl, hS.found (by decide)⟩
            · -- pc 8 call X4_isSheet false
              exact absurd (by decide) g2
          · -- pc 1 call X4_isSheet false
            exact absurd (by decide) g1
        · -- pc 47 call X1_isMissing false
          refine And.intro (fun _ => ?_) (fun hh => absurd hh (by decide))
          refine And.intro (fun h7 => ?_) (fun h7 => ?_)
          · -- pc 70 .if_icmp .eq 10: yes
            refine Mt.conseq (c_str1 _ _ _ _ _) ?_
            rintro _ _ _ ⟨rfl, rfl, ⟨h8, rfl⟩ | ⟨h8, rfl⟩⟩
            · -- pc 85 call X1_hasStretch true
              refine And.intro (fun hh => absurd hh (by decide)) (fun _ => ?_)
              refine Mt.conseq (c_str1 _ _ _ _ _) ?_
              rintro _ _ _ ⟨rfl, rfl, ⟨h9, rfl⟩ | ⟨h9, rfl⟩⟩
              · -- pc 97 call X1_hasStretch true
                obtain ⟨A, K, rfl, rfl, hA⟩ := str_nat s4 s3 h8
                obtain ⟨B, K2, rfl, eK, hB⟩ := str_nat t4 t3 h9
                obtain rfl : K2 = K := by
                  have z1 : K ≤ 40 := by omega
                  have z2 : K2 ≤ 40 := by omega
                  exact ((nI_eq (by omega) (by omega)).mp eK).symm
                have hcA := nI_clamp (n := A) (by omega)
                have hcB := nI_clamp (n := B) (by omega)
                have hcK := nI_clamp (n := K2) (by omega)
                have hcp : ¬ nI A < 0 ∧ ¬ nI B < 0 ∧ ¬ nI K2 < 0 ∧ (nI A).toNatClampNeg + (nI K2).toNatClampNeg ≤ 40 ∧ (nI B).toNatClampNeg + (nI K2).toNatClampNeg ≤ 40 := ⟨nI_pos (by omega), nI_pos (by omega), nI_pos (by omega), by rw [hcA, hcK]; omega, by rw [hcB, hcK]; omega⟩
                refine And.intro (fun _ => ?_) (fun hh => absurd hh (by decide))
                refine And.intro (hcp) ?_
                refine ⟨trivial, _, rfl, ?_⟩
                refine Mt.of2 _ rfl (by decide +kernel) (Nat.le_of_ble_eq_true rfl) ?_
                refine GW.run kX4_copy (fun pc => Nat.beq pc 102) 127 0 rfl ?_
                refine Mt.conseq (m_isSheet _ _ _ _) ?_
                rintro _ _ _ ⟨rfl, rfl, ⟨g1, rfl⟩ | ⟨g1, rfl⟩⟩
                · -- pc 1 call X4_isSheet true
                  refine And.intro (fun hh => absurd hh (by decide)) (fun _ => ?_)
                  refine Mt.conseq (m_isSheet _ _ _ _) ?_
                  rintro _ _ _ ⟨rfl, rfl, ⟨g2, rfl⟩ | ⟨g2, rfl⟩⟩
                  · -- pc 8 call X4_isSheet true
                    refine And.intro (fun _ => ?_) (fun hh => absurd hh (by decide))
                    refine And.intro (by unfold vp_in; decide) ?_
                    refine And.intro (fun g3 => ?_) (fun g3 => ?_)
                    · -- pc 27 .ifCond .eq 12: yes
                      exact absurd (show I 36 1 = 0 from s1.trans g3) h3
                    · -- pc 27 .ifCond .eq 12: no
                      refine And.intro (by unfold vp_in; decide) ?_
                      refine And.intro (fun g4 => ?_) (fun g4 => ?_)
                      · -- pc 36 .ifCond .ne 11: yes
                        refine And.intro (by unfold vp_in; decide) ?_
                        refine And.intro (by unfold vp_in; decide) ?_
                        refine And.intro (fun g5 => ?_) (fun g5 => ?_)
                        · -- pc 59 .if_icmp .eq 10: yes
                          refine Mt.conseq (m_part1 _ _ _ _ _) ?_
                          rintro _ _ _ ⟨rfl, rfl, ⟨g6, rfl⟩ | ⟨g6, rfl⟩⟩
                          · -- pc 74 call X4_isPart true
                            refine And.intro (fun hh => absurd hh (by decide)) (fun _ => ?_)
                            refine Mt.conseq (m_part1 _ _ _ _ _) ?_
                            rintro _ _ _ ⟨rfl, rfl, ⟨g7, rfl⟩ | ⟨g7, rfl⟩⟩
                            · -- pc 86 call X4_isPart true
                              refine And.intro (fun _ => ?_) (fun hh => absurd hh (by decide))
                              refine GW.weak (GW.eqIJ rfl (wJ_0 (na_cpL J 37 37 (nI A).toNatClampNeg (nI B).toNatClampNeg (nI K2).toNatClampNeg) 51 0 (fun j => (na_cpL J 37 37 (nI A).toNatClampNeg (nI B).toNatClampNeg (nI K2).toNatClampNeg) 50 (40 + A + j))).symm (l_cp1_1 sx A K2 (by omega) (nI B) 1 I (na_cpL J 37 37 (nI A).toNatClampNeg (nI B).toNatClampNeg (nI K2).toNatClampNeg) _ ?_ K2 0 (by omega))) ⟨rfl, rfl, rfl, rfl, rfl, rfl, rfl, trivial⟩
                              refine GW.run kX4_copy (fun pc => Nat.beq pc 139) 127 74 rfl ?_
                              refine GW.weak (GW.eqIJ rfl (wJ_0 (wJ (na_cpL J 37 37 (nI A).toNatClampNeg (nI B).toNatClampNeg (nI K2).toNatClampNeg) 51 0 K2 (fun j => (na_cpL J 37 37 (nI A).toNatClampNeg (nI B).toNatClampNeg (nI K2).toNatClampNeg) 50 (40 + A + j))) 50 (40 + B) (fun j => (na_cpL J 37 37 (nI A).toNatClampNeg (nI B).toNatClampNeg (nI K2).toNatClampNeg) 50 (40 + A + j))).symm (l_cp2_1 sx B K2 (by omega) (fun j => (na_cpL J 37 37 (nI A).toNatClampNeg (nI B).toNatClampNeg (nI K2).toNatClampNeg) 50 (40 + A + j)) I (wJ (na_cpL J 37 37 (nI A).toNatClampNeg (nI B).toNatClampNeg (nI K2).toNatClampNeg) 51 0 K2 (fun j => (na_cpL J 37 37 (nI A).toNatClampNeg (nI B).toNatClampNeg (nI K2).toNatClampNeg) 50 (40 + A + j))) (fun j hj => by rw [wJ_on, if_pos (by omega)]; rfl) _ ?_ K2 0 (by omega))) ⟨rfl, rfl, rfl, rfl, rfl, trivial⟩
                              refine ⟨rfl, ?_⟩
                              exact hS.copied (s := 1) (t := 1) (A := A) (B := B) (K := K2) (by decide) (by decide) s4 t4 s3 t3 hA hB (u := (fun j => (na_cpL J 37 37 (nI A).toNatClampNeg (nI B).toNatClampNeg (nI K2).toNatClampNeg) 50 (40 + A + j))) (fun j hj => rfl) (fun a ha => by rw [wJ_off ha, hcA, hcB, hcK])
                            · -- pc 86 call X4_isPart false
                              exact absurd (show strP _ _ (I 49 1) by rw [← t45]; exact h9) g7
                          · -- pc 74 call X4_isPart false
                            exact absurd (show strP _ _ (I 49 1) by rw [← s45]; exact h8) g6
                        · -- pc 59 .if_icmp .eq 10: no
                          exact absurd (show I 48 1 = I 48 1 from s1.symm.trans ((show I 36 1 = I 36 1 from h7).trans t1)) g5
                      · -- pc 36 .ifCond .ne 11: no
                        exact absurd (show I 36 1 = 0 from t1.trans g4) h5
                  · -- pc 8 call X4_isSheet false
                    exact absurd (by decide) g2
                · -- pc 1 call X4_isSheet false
                  exact absurd (by decide) g1
              · -- pc 97 call X1_hasStretch false
                refine And.intro (fun hh => absurd hh (by decide)) (fun _ => ?_)
                refine Mt.conseq (c_fnd0 _ _ _) ?_
                rintro _ _ _ ⟨rfl, rfl, rfl⟩
                refine ⟨trivial, _, rfl, ?_⟩
                refine Mt.of2 _ rfl (by decide +kernel) (Nat.le_of_ble_eq_true rfl) ?_
                refine GW.run kX4_copy (fun pc => Nat.beq pc 102) 127 0 rfl ?_
                refine Mt.conseq (m_isSheet _ _ _ _) ?_
                rintro _ _ _ ⟨rfl, rfl, ⟨g1, rfl⟩ | ⟨g1, rfl⟩⟩
                · -- pc 1 call X4_isSheet true
                  refine And.intro (fun hh => absurd hh (by decide)) (fun _ => ?_)
                  refine Mt.conseq (m_isSheet _ _ _ _) ?_
                  rintro _ _ _ ⟨rfl, rfl, ⟨g2, rfl⟩ | ⟨g2, rfl⟩⟩
                  · -- pc 8 call X4_isSheet true
                    refine And.intro (fun _ => ?_) (fun hh => absurd hh (by decide))
                    refine And.intro (by unfold vp_in; decide) ?_
                    refine And.intro (fun g3 => ?_) (fun g3 => ?_)
                    · -- pc 27 .ifCond .eq 12: yes
                      exact absurd (show I 36 1 = 0 from s1.trans g3) h3
                    · -- pc 27 .ifCond .eq 12: no
                      refine And.intro (by unfold vp_in; decide) ?_
                      refine And.intro (fun g4 => ?_) (fun g4 => ?_)
                      · -- pc 36 .ifCond .ne 11: yes
                        refine And.intro (by unfold vp_in; decide) ?_
                        refine And.intro (by unfold vp_in; decide) ?_
                        refine And.intro (fun g5 => ?_) (fun g5 => ?_)
                        · -- pc 59 .if_icmp .eq 10: yes
                          refine Mt.conseq (m_part1 _ _ _ _ _) ?_
                          rintro _ _ _ ⟨rfl, rfl, ⟨g6, rfl⟩ | ⟨g6, rfl⟩⟩
                          · -- pc 74 call X4_isPart true
                            refine And.intro (fun hh => absurd hh (by decide)) (fun _ => ?_)
                            refine Mt.conseq (m_part1 _ _ _ _ _) ?_
                            rintro _ _ _ ⟨rfl, rfl, ⟨g7, rfl⟩ | ⟨g7, rfl⟩⟩
                            · -- pc 86 call X4_isPart true
                              exact absurd (show strP _ _ (I 36 2) by rw [t45]; exact g7) h9
                            · -- pc 86 call X4_isPart false
                              refine And.intro (fun hh => absurd hh (by decide)) (fun _ => ?_)
                              refine Mt.conseq (m_fnd0 _ _ _) ?_
                              rintro _ _ _ ⟨rfl, rfl, rfl⟩
                              exact ⟨trivial, rfl, hS.found (by decide)⟩
                          · -- pc 74 call X4_isPart false
                            exact absurd (show strP _ _ (I 49 1) by rw [← s45]; exact h8) g6
                        · -- pc 59 .if_icmp .eq 10: no
                          exact absurd (show I 48 1 = I 48 1 from s1.symm.trans ((show I 36 1 = I 36 1 from h7).trans t1)) g5
                      · -- pc 36 .ifCond .ne 11: no
                        exact absurd (show I 36 1 = 0 from t1.trans g4) h5
                  · -- pc 8 call X4_isSheet false
                    exact absurd (by decide) g2
                · -- pc 1 call X4_isSheet false
                  exact absurd (by decide) g1
            · -- pc 85 call X1_hasStretch false
              refine And.intro (fun _ => ?_) (fun hh => absurd hh (by decide))
              refine Mt.conseq (c_fnd0 _ _ _) ?_
              rintro _ _ _ ⟨rfl, rfl, rfl⟩
              refine ⟨trivial, _, rfl, ?_⟩
              refine Mt.of2 _ rfl (by decide +kernel) (Nat.le_of_ble_eq_true rfl) ?_
              refine GW.run kX4_copy (fun pc => Nat.beq pc 102) 127 0 rfl ?_
              refine Mt.conseq (m_isSheet _ _ _ _) ?_
              rintro _ _ _ ⟨rfl, rfl, ⟨g1, rfl⟩ | ⟨g1, rfl⟩⟩
              · -- pc 1 call X4_isSheet true
                refine And.intro (fun hh => absurd hh (by decide)) (fun _ => ?_)
                refine Mt.conseq (m_isSheet _ _ _ _) ?_
                rintro _ _ _ ⟨rfl, rfl, ⟨g2, rfl⟩ | ⟨g2, rfl⟩⟩
                · -- pc 8 call X4_isSheet true
                  refine And.intro (fun _ => ?_) (fun hh => absurd hh (by decide))
                  refine And.intro (by unfold vp_in; decide) ?_
                  refine And.intro (fun g3 => ?_) (fun g3 => ?_)
                  · -- pc 27 .ifCond .eq 12: yes
                    exact absurd (show I 36 1 = 0 from s1.trans g3) h3
                  · -- pc 27 .ifCond .eq 12: no
                    refine And.intro (by unfold vp_in; decide) ?_
                    refine And.intro (fun g4 => ?_) (fun g4 => ?_)
                    · -- pc 36 .ifCond .ne 11: yes
                      refine And.intro (by unfold vp_in; decide) ?_
                      refine And.intro (by unfold vp_in; decide) ?_
                      refine And.intro (fun g5 => ?_) (fun g5 => ?_)
                      · -- pc 59 .if_icmp .eq 10: yes
                        refine Mt.conseq (m_part1 _ _ _ _ _) ?_
                        rintro _ _ _ ⟨rfl, rfl, ⟨g6, rfl⟩ | ⟨g6, rfl⟩⟩
                        · -- pc 74 call X4_isPart true
                          exact absurd (show strP _ _ (I 36 2) by rw [s45]; exact g6) h8
                        · -- pc 74 call X4_isPart false
                          refine And.intro (fun _ => ?_) (fun hh => absurd hh (by decide))
                          refine Mt.conseq (m_fnd0 _ _ _) ?_
                          rintro _ _ _ ⟨rfl, rfl, rfl⟩
                          exact ⟨trivial, rfl, hS.found (by decide)⟩
                      · -- pc 59 .if_icmp .eq 10: no
                        exact absurd (show I 48 1 = I 48 1 from s1.symm.trans ((show I 36 1 = I 36 1 from h7).trans t1)) g5
                    · -- pc 36 .ifCond .ne 11: no
                      exact absurd (show I 36 1 = 0 from t1.trans g4) h5
                · -- pc 8 call X4_isSheet false
                  exact absurd (by decide) g2
              · -- pc 1 call X4_isSheet false
                exact absurd (by decide) g1
          · -- pc 70 .if_icmp .eq 10: no
            refine Mt.conseq (c_fnd2 _ _ _) ?_
            rintro _ _ _ ⟨rfl, rfl, rfl⟩
            refine ⟨trivial, _, rfl, ?_⟩
            refine Mt.of2 _ rfl (by decide +kernel) (Nat.le_of_ble_eq_true rfl) ?_
            refine GW.run kX4_copy (fun pc => Nat.beq pc 102) 127 0 rfl ?_
            refine Mt.conseq (m_isSheet _ _ _ _) ?_
            rintro _ _ _ ⟨rfl, rfl, ⟨g1, rfl⟩ | ⟨g1, rfl⟩⟩
            · -- pc 1 call X4_isSheet true
              refine And.intro (fun hh => absurd hh (by decide)) (fun _ => ?_)
              refine Mt.conseq (m_isSheet _ _ _ _) ?_
              rintro _ _ _ ⟨rfl, rfl, ⟨g2, rfl⟩ | ⟨g2, rfl⟩⟩
              · -- pc 8 call X4_isSheet true
                refine And.intro (fun _ => ?_) (fun hh => absurd hh (by decide))
                refine And.intro (by unfold vp_in; decide) ?_
                refine And.intro (fun g3 => ?_) (fun g3 => ?_)
                · -- pc 27 .ifCond .eq 12: yes
                  exact absurd (show I 36 1 = 0 from s1.trans g3) h3
                · -- pc 27 .ifCond .eq 12: no
                  refine And.intro (by unfold vp_in; decide) ?_
                  refine And.intro (fun g4 => ?_) (fun g4 => ?_)
                  · -- pc 36 .ifCond .ne 11: yes
                    refine And.intro (by unfold vp_in; decide) ?_
                    refine And.intro (by unfold vp_in; decide) ?_
                    refine And.intro (fun g5 => ?_) (fun g5 => ?_)
                    · -- pc 59 .if_icmp .eq 10: yes
                      exact absurd (show I 36 1 = I 36 1 from s1.trans ((show I 48 1 = I 48 1 from g5).trans t1.symm)) h7
                    · -- pc 59 .if_icmp .eq 10: no
                      refine Mt.conseq (m_fnd2 _ _ _) ?_
                      rintro _ _ _ ⟨rfl, rfl, rfl⟩
                      exact ⟨trivial, rfl, hS.found (by decide)⟩
                  · -- pc 36 .ifCond .ne 11: no
                    exact absurd (show I 36 1 = 0 from t1.trans g4) h5
              · -- pc 8 call X4_isSheet false
                exact absurd (by decide) g2
            · -- pc 1 call X4_isSheet false
              exact absurd (by decide) g1
set_option maxRecDepth 100000 in
set_option maxHeartbeats 4000000 in
theorem pr_copy1_2 (sx : Nat × (Nat → Int32)) (fr to nn : Int32) : PrI sx MX3_copy MX4_copy [.int 1, .int fr, .int 2, .int to, .int nn] := by
  intro I J hS
  obtain ⟨s1, s2, n, s3, s4, s5, s6⟩ := hS.2.2.2.1 1 (by decide)
  obtain ⟨t1, t2, m, t3, t4, t5, t6⟩ := hS.2.2.2.1 2 (by decide)
  have s45 : I 36 2 = I 49 1 := s4.trans s5.symm
  have t45 : I 38 2 = I 49 2 := t4.trans t5.symm
  refine Mt.of2 _ rfl (by decide +kernel) (Nat.le_of_ble_eq_true rfl) ?_
  refine GW.run kX3_copy (fun _ => false) 93 0 rfl ?_
  refine Mt.conseq (c_noSheet _ _ _ _) ?_
  rintro _ _ _ ⟨rfl, rfl, ⟨h1, rfl⟩ | ⟨h1, rfl⟩⟩
  · -- pc 1 call X3_noSheet true
    exact absurd h1 (by decide)
  · -- pc 1 call X3_noSheet false
    refine And.intro (fun hh => absurd hh (by decide)) (fun _ => ?_)
    refine Mt.conseq (c_noSheet _ _ _ _) ?_
    rintro _ _ _ ⟨rfl, rfl, ⟨h2, rfl⟩ | ⟨h2, rfl⟩⟩
    · -- pc 8 call X3_noSheet true
      exact absurd h2 (by decide)
    · -- pc 8 call X3_noSheet false
      refine And.intro (fun _ => ?_) (fun hh => absurd hh (by decide))
      refine And.intro (by unfold vp_in; decide) ?_
      refine And.intro (by unfold vp_in; decide) ?_
      refine Mt.conseq (c_miss1 _ _ _) ?_
      rintro _ _ _ ⟨rfl, rfl, ⟨h3, rfl⟩ | ⟨h3, rfl⟩⟩
      · -- pc 39 call X1_isMissing true
        refine And.intro (fun _ => ?_) (fun hh => absurd hh (by decide))
        refine Mt.conseq (c_fnd5 _ _ _) ?_
        rintro _ _ _ ⟨rfl, rfl, rfl⟩
        refine ⟨trivial, _, rfl, ?_⟩
        refine Mt.of2 _ rfl (by decide +kernel) (Nat.le_of_ble_eq_true rfl) ?_
        refine GW.run kX4_copy (fun pc => Nat.beq pc 102) 127 0 rfl ?_
        refine Mt.conseq (m_isSheet _ _ _ _) ?_
        rintro _ _ _ ⟨rfl, rfl, ⟨g1, rfl⟩ | ⟨g1, rfl⟩⟩
        · -- pc 1 call X4_isSheet true
          refine And.intro (fun hh => absurd hh (by decide)) (fun _ => ?_)
          refine Mt.conseq (m_isSheet _ _ _ _) ?_
          rintro _ _ _ ⟨rfl, rfl, ⟨g2, rfl⟩ | ⟨g2, rfl⟩⟩
          · -- pc 8 call X4_isSheet true
            refine And.intro (fun _ => ?_) (fun hh => absurd hh (by decide))
            refine And.intro (by unfold vp_in; decide) ?_
            refine And.intro (fun g3 => ?_) (fun g3 => ?_)
            · -- pc 27 .ifCond .eq 12: yes
              refine Mt.conseq (m_fnd5 _ _ _) ?_
              rintro _ _ _ ⟨rfl, rfl, rfl⟩
              exact ⟨trivial, rfl, hS.found (by decide)⟩
            · -- pc 27 .ifCond .eq 12: no
              exact absurd (show I 48 1 = 0 from s1.symm.trans h3) g3
          · -- pc 8 call X4_isSheet false
            exact absurd (by decide) g2
        · -- pc 1 call X4_isSheet false
          exact absurd (by decide) g1
      · -- pc 39 call X1_isMissing false
        refine And.intro (fun hh => absurd hh (by decide)) (fun _ => ?_)
        refine Mt.conseq (c_miss2 _ _ _) ?_
        rintro _ _ _ ⟨rfl, rfl, ⟨h5, rfl⟩ | ⟨h5, rfl⟩⟩
        · -- pc 47 call X1_isMissing true
          refine And.intro (fun hh => absurd hh (by decide)) (fun _ => ?_)
          refine Mt.conseq (c_fnd5 _ _ _) ?_
          rintro _ _ _ ⟨rfl, rfl, rfl⟩
          refine ⟨trivial, _, rfl, ?_⟩
          refine Mt.of2 _ rfl (by decide +kernel) (Nat.le_of_ble_eq_true rfl) ?_
          refine GW.run kX4_copy (fun pc => Nat.beq pc 102) 127 0 rfl ?_
          refine Mt.conseq (m_isSheet _ _ _ _) ?_
          rintro _ _ _ ⟨rfl, rfl, ⟨g1, rfl⟩ | ⟨g1, rfl⟩⟩
          · -- pc 1 call X4_isSheet true
            refine And.intro (fun hh => absurd hh (by decide)) (fun _ => ?_)
            refine Mt.conseq (m_isSheet _ _ _ _) ?_
            rintro _ _ _ ⟨rfl, rfl, ⟨g2, rfl⟩ | ⟨g2, rfl⟩⟩
            · -- pc 8 call X4_isSheet true
              refine And.intro (fun _ => ?_) (fun hh => absurd hh (by decide))
              refine And.intro (by unfold vp_in; decide) ?_
              refine And.intro (fun g3 => ?_) (fun g3 => ?_)
              · -- pc 27 .ifCond .eq 12: yes
                exact absurd (show I 36 1 = 0 from s1.trans g3) h3
              · -- pc 27 .ifCond .eq 12: no
                refine And.intro (by unfold vp_in; decide) ?_
                refine And.intro (fun g4 => ?_) (fun g4 => ?_)
                · -- pc 36 .ifCond .ne 11: yes
                  exact absurd (show I 48 2 = 0 from t1.symm.trans h5) g4
                · -- pc 36 .ifCond .ne 11: no
                  refine Mt.conseq (m_fnd5 _ _ _) ?_
                  rintro _ _ _ ⟨rfl, rfl, rfl⟩
                  exact ⟨trivial, rfl, hS.found (by decide)⟩
            · -- pc 8 call X4_isSheet false
              exact absurd (by decide) g2
          · -- pc 1 call X4_isSheet false
            exact absurd (by decide) g1
        · -- pc 47 call X1_isMissing false
          refine And.intro (fun _ => ?_) (fun hh => absurd hh (by decide))
          refine And.intro (fun h7 => ?_) (fun h7 => ?_)
          · -- pc 70 .if_icmp .eq 10: yes
            refine Mt.conseq (c_str1 _ _ _ _ _) ?_
            rintro _ _ _ ⟨rfl, rfl, ⟨h8, rfl⟩ | ⟨h8, rfl⟩⟩
            · -- pc 85 call X1_hasStretch true
              refine And.intro (fun hh => absurd hh (by decide)) (fun _ => ?_)
              refine Mt.conseq (c_str2 _ _ _ _ _) ?_
              rintro _ _ _ ⟨rfl, rfl, ⟨h9, rfl⟩ | ⟨h9, rfl⟩⟩
              · -- pc 97 call X1_hasStretch true
                obtain ⟨A, K, rfl, rfl, hA⟩ := str_nat s4 s3 h8
                obtain ⟨B, K2, rfl, eK, hB⟩ := str_nat t4 t3 h9
                obtain rfl : K2 = K := by
                  have z1 : K ≤ 40 := by omega
                  have z2 : K2 ≤ 40 := by omega
                  exact ((nI_eq (by omega) (by omega)).mp eK).symm
                have hcA := nI_clamp (n := A) (by omega)
                have hcB := nI_clamp (n := B) (by omega)
                have hcK := nI_clamp (n := K2) (by omega)
                have hcp : ¬ nI A < 0 ∧ ¬ nI B < 0 ∧ ¬ nI K2 < 0 ∧ (nI A).toNatClampNeg + (nI K2).toNatClampNeg ≤ 40 ∧ (nI B).toNatClampNeg + (nI K2).toNatClampNeg ≤ 40 := ⟨nI_pos (by omega), nI_pos (by omega), nI_pos (by omega), by rw [hcA, hcK]; omega, by rw [hcB, hcK]; omega⟩
                refine And.intro (fun _ => ?_) (fun hh => absurd hh (by decide))
                refine And.intro (hcp) ?_
                refine ⟨trivial, _, rfl, ?_⟩
                refine Mt.of2 _ rfl (by decide +kernel) (Nat.le_of_ble_eq_true rfl) ?_
                refine GW.run kX4_copy (fun pc => Nat.beq pc 102) 127 0 rfl ?_
                refine Mt.conseq (m_isSheet _ _ _ _) ?_
                rintro _ _ _ ⟨rfl, rfl, ⟨g1, rfl⟩ | ⟨g1, rfl⟩⟩
                · -- pc 1 call X4_isSheet true
                  refine And.intro (fun hh => absurd hh (by decide)) (fun _ => ?_)
                  refine Mt.conseq (m_isSheet _ _ _ _) ?_
                  rintro _ _ _ ⟨rfl, rfl, ⟨g2, rfl⟩ | ⟨g2, rfl⟩⟩
                  · -- pc 8 call X4_isSheet true
                    refine And.intro (fun _ => ?_) (fun hh => absurd hh (by decide))
                    refine And.intro (by unfold vp_in; decide) ?_
                    refine And.intro (fun g3 => ?_) (fun g3 => ?_)
                    · -- pc 27 .ifCond .eq 12: yes
                      exact absurd (show I 36 1 = 0 from s1.trans g3) h3
                    · -- pc 27 .ifCond .eq 12: no
                      refine And.intro (by unfold vp_in; decide) ?_
                      refine And.intro (fun g4 => ?_) (fun g4 => ?_)
                      · -- pc 36 .ifCond .ne 11: yes
                        refine And.intro (by unfold vp_in; decide) ?_
                        refine And.intro (by unfold vp_in; decide) ?_
                        refine And.intro (fun g5 => ?_) (fun g5 => ?_)
                        · -- pc 59 .if_icmp .eq 10: yes
                          refine Mt.conseq (m_part1 _ _ _ _ _) ?_
                          rintro _ _ _ ⟨rfl, rfl, ⟨g6, rfl⟩ | ⟨g6, rfl⟩⟩
                          · -- pc 74 call X4_isPart true
                            refine And.intro (fun hh => absurd hh (by decide)) (fun _ => ?_)
                            refine Mt.conseq (m_part2 _ _ _ _ _) ?_
                            rintro _ _ _ ⟨rfl, rfl, ⟨g7, rfl⟩ | ⟨g7, rfl⟩⟩
                            · -- pc 86 call X4_isPart true
                              refine And.intro (fun _ => ?_) (fun hh => absurd hh (by decide))
                              refine GW.weak (GW.eqIJ rfl (wJ_0 (na_cpL J 37 39 (nI A).toNatClampNeg (nI B).toNatClampNeg (nI K2).toNatClampNeg) 51 0 (fun j => (na_cpL J 37 39 (nI A).toNatClampNeg (nI B).toNatClampNeg (nI K2).toNatClampNeg) 50 (40 + A + j))).symm (l_cp1_1 sx A K2 (by omega) (nI B) 2 I (na_cpL J 37 39 (nI A).toNatClampNeg (nI B).toNatClampNeg (nI K2).toNatClampNeg) _ ?_ K2 0 (by omega))) ⟨rfl, rfl, rfl, rfl, rfl, rfl, rfl, trivial⟩
                              refine GW.run kX4_copy (fun pc => Nat.beq pc 139) 127 74 rfl ?_
                              refine GW.weak (GW.eqIJ rfl (wJ_0 (wJ (na_cpL J 37 39 (nI A).toNatClampNeg (nI B).toNatClampNeg (nI K2).toNatClampNeg) 51 0 K2 (fun j => (na_cpL J 37 39 (nI A).toNatClampNeg (nI B).toNatClampNeg (nI K2).toNatClampNeg) 50 (40 + A + j))) 50 (80 + B) (fun j => (na_cpL J 37 39 (nI A).toNatClampNeg (nI B).toNatClampNeg (nI K2).toNatClampNeg) 50 (40 + A + j))).symm (l_cp2_2 sx B K2 (by omega) (fun j => (na_cpL J 37 39 (nI A).toNatClampNeg (nI B).toNatClampNeg (nI K2).toNatClampNeg) 50 (40 + A + j)) I (wJ (na_cpL J 37 39 (nI A).toNatClampNeg (nI B).toNatClampNeg (nI K2).toNatClampNeg) 51 0 K2 (fun j => (na_cpL J 37 39 (nI A).toNatClampNeg (nI B).toNatClampNeg (nI K2).toNatClampNeg) 50 (40 + A + j))) (fun j hj => by rw [wJ_on, if_pos (by omega)]; rfl) _ ?_ K2 0 (by omega))) ⟨rfl, rfl, rfl, rfl, rfl, trivial⟩
                              refine ⟨rfl, ?_⟩
                              exact hS.copied (s := 1) (t := 2) (A := A) (B := B) (K := K2) (by decide) (by decide) s4 t4 s3 t3 hA hB (u := (fun j => (na_cpL J 37 39 (nI A).toNatClampNeg (nI B).toNatClampNeg (nI K2).toNatClampNeg) 50 (40 + A + j))) (fun j hj => rfl) (fun a ha => by rw [wJ_off ha, hcA, hcB, hcK])
                            · -- pc 86 call X4_isPart false
                              exact absurd (show strP _ _ (I 49 2) by rw [← t45]; exact h9) g7
                          · -- pc 74 call X4_isPart false
                            exact absurd (show strP _ _ (I 49 1) by rw [← s45]; exact h8) g6
                        · -- pc 59 .if_icmp .eq 10: no
                          exact absurd (show I 48 1 = I 48 2 from s1.symm.trans ((show I 36 1 = I 38 1 from h7).trans t1)) g5
                      · -- pc 36 .ifCond .ne 11: no
                        exact absurd (show I 38 1 = 0 from t1.trans g4) h5
                  · -- pc 8 call X4_isSheet false
                    exact absurd (by decide) g2
                · -- pc 1 call X4_isSheet false
                  exact absurd (by decide) g1
              · -- pc 97 call X1_hasStretch false
                refine And.intro (fun hh => absurd hh (by decide)) (fun _ => ?_)
                refine Mt.conseq (c_fnd0 _ _ _) ?_
                rintro _ _ _ ⟨rfl, rfl, rfl⟩
                refine ⟨trivial, _, rfl, ?_⟩
                refine Mt.of2 _ rfl (by decide +kernel) (Nat.le_of_ble_eq_true rfl) ?_
                refine GW.run kX4_copy (fun pc => Nat.beq pc 102) 127 0 rfl ?_
                refine Mt.conseq (m_isSheet _ _ _ _) ?_
                rintro _ _ _ ⟨rfl, rfl, ⟨g1, rfl⟩ | ⟨g1, rfl⟩⟩
                · -- pc 1 call X4_isSheet true
                  refine And.intro (fun hh => absurd hh (by decide)) (fun _ => ?_)
                  refine Mt.conseq (m_isSheet _ _ _ _) ?_
                  rintro _ _ _ ⟨rfl, rfl, ⟨g2, rfl⟩ | ⟨g2, rfl⟩⟩
                  · -- pc 8 call X4_isSheet true
                    refine And.intro (fun _ => ?_) (fun hh => absurd hh (by decide))
                    refine And.intro (by unfold vp_in; decide) ?_
                    refine And.intro (fun g3 => ?_) (fun g3 => ?_)
                    · -- pc 27 .ifCond .eq 12: yes
                      exact absurd (show I 36 1 = 0 from s1.trans g3) h3
                    · -- pc 27 .ifCond .eq 12: no
                      refine And.intro (by unfold vp_in; decide) ?_
                      refine And.intro (fun g4 => ?_) (fun g4 => ?_)
                      · -- pc 36 .ifCond .ne 11: yes
                        refine And.intro (by unfold vp_in; decide) ?_
                        refine And.intro (by unfold vp_in; decide) ?_
                        refine And.intro (fun g5 => ?_) (fun g5 => ?_)
                        · -- pc 59 .if_icmp .eq 10: yes
                          refine Mt.conseq (m_part1 _ _ _ _ _) ?_
                          rintro _ _ _ ⟨rfl, rfl, ⟨g6, rfl⟩ | ⟨g6, rfl⟩⟩
                          · -- pc 74 call X4_isPart true
                            refine And.intro (fun hh => absurd hh (by decide)) (fun _ => ?_)
                            refine Mt.conseq (m_part2 _ _ _ _ _) ?_
                            rintro _ _ _ ⟨rfl, rfl, ⟨g7, rfl⟩ | ⟨g7, rfl⟩⟩
                            · -- pc 86 call X4_isPart true
                              exact absurd (show strP _ _ (I 38 2) by rw [t45]; exact g7) h9
                            · -- pc 86 call X4_isPart false
                              refine And.intro (fun hh => absurd hh (by decide)) (fun _ => ?_)
                              refine Mt.conseq (m_fnd0 _ _ _) ?_
                              rintro _ _ _ ⟨rfl, rfl, rfl⟩
                              exact ⟨trivial, rfl, hS.found (by decide)⟩
                          · -- pc 74 call X4_isPart false
                            exact absurd (show strP _ _ (I 49 1) by rw [← s45]; exact h8) g6
                        · -- pc 59 .if_icmp .eq 10: no
                          exact absurd (show I 48 1 = I 48 2 from s1.symm.trans ((show I 36 1 = I 38 1 from h7).trans t1)) g5
                      · -- pc 36 .ifCond .ne 11: no
                        exact absurd (show I 38 1 = 0 from t1.trans g4) h5
                  · -- pc 8 call X4_isSheet false
                    exact absurd (by decide) g2
                · -- pc 1 call X4_isSheet false
                  exact absurd (by decide) g1
            · -- pc 85 call X1_hasStretch false
              refine And.intro (fun _ => ?_) (fun hh => absurd hh (by decide))
              refine Mt.conseq (c_fnd0 _ _ _) ?_
              rintro _ _ _ ⟨rfl, rfl, rfl⟩
              refine ⟨trivial, _, rfl, ?_⟩
              refine Mt.of2 _ rfl (by decide +kernel) (Nat.le_of_ble_eq_true rfl) ?_
              refine GW.run kX4_copy (fun pc => Nat.beq pc 102) 127 0 rfl ?_
              refine Mt.conseq (m_isSheet _ _ _ _) ?_
              rintro _ _ _ ⟨rfl, rfl, ⟨g1, rfl⟩ | ⟨g1, rfl⟩⟩
              · -- pc 1 call X4_isSheet true
                refine And.intro (fun hh => absurd hh (by decide)) (fun _ => ?_)
                refine Mt.conseq (m_isSheet _ _ _ _) ?_
                rintro _ _ _ ⟨rfl, rfl, ⟨g2, rfl⟩ | ⟨g2, rfl⟩⟩
                · -- pc 8 call X4_isSheet true
                  refine And.intro (fun _ => ?_) (fun hh => absurd hh (by decide))
                  refine And.intro (by unfold vp_in; decide) ?_
                  refine And.intro (fun g3 => ?_) (fun g3 => ?_)
                  · -- pc 27 .ifCond .eq 12: yes
                    exact absurd (show I 36 1 = 0 from s1.trans g3) h3
                  · -- pc 27 .ifCond .eq 12: no
                    refine And.intro (by unfold vp_in; decide) ?_
                    refine And.intro (fun g4 => ?_) (fun g4 => ?_)
                    · -- pc 36 .ifCond .ne 11: yes
                      refine And.intro (by unfold vp_in; decide) ?_
                      refine And.intro (by unfold vp_in; decide) ?_
                      refine And.intro (fun g5 => ?_) (fun g5 => ?_)
                      · -- pc 59 .if_icmp .eq 10: yes
                        refine Mt.conseq (m_part1 _ _ _ _ _) ?_
                        rintro _ _ _ ⟨rfl, rfl, ⟨g6, rfl⟩ | ⟨g6, rfl⟩⟩
                        · -- pc 74 call X4_isPart true
                          exact absurd (show strP _ _ (I 36 2) by rw [s45]; exact g6) h8
                        · -- pc 74 call X4_isPart false
                          refine And.intro (fun _ => ?_) (fun hh => absurd hh (by decide))
                          refine Mt.conseq (m_fnd0 _ _ _) ?_
                          rintro _ _ _ ⟨rfl, rfl, rfl⟩
                          exact ⟨trivial, rfl, hS.found (by decide)⟩
                      · -- pc 59 .if_icmp .eq 10: no
                        exact absurd (show I 48 1 = I 48 2 from s1.symm.trans ((show I 36 1 = I 38 1 from h7).trans t1)) g5
                    · -- pc 36 .ifCond .ne 11: no
                      exact absurd (show I 38 1 = 0 from t1.trans g4) h5
                · -- pc 8 call X4_isSheet false
                  exact absurd (by decide) g2
              · -- pc 1 call X4_isSheet false
                exact absurd (by decide) g1
          · -- pc 70 .if_icmp .eq 10: no
            refine Mt.conseq (c_fnd2 _ _ _) ?_
            rintro _ _ _ ⟨rfl, rfl, rfl⟩
            refine ⟨trivial, _, rfl, ?_⟩
            refine Mt.of2 _ rfl (by decide +kernel) (Nat.le_of_ble_eq_true rfl) ?_
            refine GW.run kX4_copy (fun pc => Nat.beq pc 102) 127 0 rfl ?_
            refine Mt.conseq (m_isSheet _ _ _ _) ?_
            rintro _ _ _ ⟨rfl, rfl, ⟨g1, rfl⟩ | ⟨g1, rfl⟩⟩
            · -- pc 1 call X4_isSheet true
              refine And.intro (fun hh => absurd hh (by decide)) (fun _ => ?_)
              refine Mt.conseq (m_isSheet _ _ _ _) ?_
              rintro _ _ _ ⟨rfl, rfl, ⟨g2, rfl⟩ | ⟨g2, rfl⟩⟩
              · -- pc 8 call X4_isSheet true
                refine And.intro (fun _ => ?_) (fun hh => absurd hh (by decide))
                refine And.intro (by unfold vp_in; decide) ?_
                refine And.intro (fun g3 => ?_) (fun g3 => ?_)
                · -- pc 27 .ifCond .eq 12: yes
                  exact absurd (show I 36 1 = 0 from s1.trans g3) h3
                · -- pc 27 .ifCond .eq 12: no
                  refine And.intro (by unfold vp_in; decide) ?_
                  refine And.intro (fun g4 => ?_) (fun g4 => ?_)
                  · -- pc 36 .ifCond .ne 11: yes
                    refine And.intro (by unfold vp_in; decide) ?_
                    refine And.intro (by unfold vp_in; decide) ?_
                    refine And.intro (fun g5 => ?_) (fun g5 => ?_)
                    · -- pc 59 .if_icmp .eq 10: yes
                      exact absurd (show I 36 1 = I 38 1 from s1.trans ((show I 48 1 = I 48 2 from g5).trans t1.symm)) h7
                    · -- pc 59 .if_icmp .eq 10: no
                      refine Mt.conseq (m_fnd2 _ _ _) ?_
                      rintro _ _ _ ⟨rfl, rfl, rfl⟩
                      exact ⟨trivial, rfl, hS.found (by decide)⟩
                  · -- pc 36 .ifCond .ne 11: no
                    exact absurd (show I 38 1 = 0 from t1.trans g4) h5
              · -- pc 8 call X4_isSheet false
                exact absurd (by decide) g2
            · -- pc 1 call X4_isSheet false
              exact absurd (by decide) g1
set_option maxRecDepth 100000 in
set_option maxHeartbeats 4000000 in
theorem pr_copy1_3 (sx : Nat × (Nat → Int32)) (fr to nn : Int32) : PrI sx MX3_copy MX4_copy [.int 1, .int fr, .int 3, .int to, .int nn] := by
  intro I J hS
  obtain ⟨s1, s2, n, s3, s4, s5, s6⟩ := hS.2.2.2.1 1 (by decide)
  obtain ⟨t1, t2, m, t3, t4, t5, t6⟩ := hS.2.2.2.1 3 (by decide)
  have s45 : I 36 2 = I 49 1 := s4.trans s5.symm
  have t45 : I 40 2 = I 49 3 := t4.trans t5.symm
  refine Mt.of2 _ rfl (by decide +kernel) (Nat.le_of_ble_eq_true rfl) ?_
  refine GW.run kX3_copy (fun _ => false) 93 0 rfl ?_
  refine Mt.conseq (c_noSheet _ _ _ _) ?_
  rintro _ _ _ ⟨rfl, rfl, ⟨h1, rfl⟩ | ⟨h1, rfl⟩⟩
  · -- pc 1 call X3_noSheet true
    exact absurd h1 (by decide)
  · -- pc 1 call X3_noSheet false
    refine And.intro (fun hh => absurd hh (by decide)) (fun _ => ?_)
    refine Mt.conseq (c_noSheet _ _ _ _) ?_
    rintro _ _ _ ⟨rfl, rfl, ⟨h2, rfl⟩ | ⟨h2, rfl⟩⟩
    · -- pc 8 call X3_noSheet true
      exact absurd h2 (by decide)
    · -- pc 8 call X3_noSheet false
      refine And.intro (fun _ => ?_) (fun hh => absurd hh (by decide))
      refine And.intro (by unfold vp_in; decide) ?_
      refine And.intro (by unfold vp_in; decide) ?_
      refine Mt.conseq (c_miss1 _ _ _) ?_
      rintro _ _ _ ⟨rfl, rfl, ⟨h3, rfl⟩ | ⟨h3, rfl⟩⟩
      · -- pc 39 call X1_isMissing true
        refine And.intro (fun _ => ?_) (fun hh => absurd hh (by decide))
        refine Mt.conseq (c_fnd5 _ _ _) ?_
        rintro _ _ _ ⟨rfl, rfl, rfl⟩
        refine ⟨trivial, _, rfl, ?_⟩
        refine Mt.of2 _ rfl (by decide +kernel) (Nat.le_of_ble_eq_true rfl) ?_
        refine GW.run kX4_copy (fun pc => Nat.beq pc 102) 127 0 rfl ?_
        refine Mt.conseq (m_isSheet _ _ _ _) ?_
        rintro _ _ _ ⟨rfl, rfl, ⟨g1, rfl⟩ | ⟨g1, rfl⟩⟩
        · -- pc 1 call X4_isSheet true
          refine And.intro (fun hh => absurd hh (by decide)) (fun _ => ?_)
          refine Mt.conseq (m_isSheet _ _ _ _) ?_
          rintro _ _ _ ⟨rfl, rfl, ⟨g2, rfl⟩ | ⟨g2, rfl⟩⟩
          · -- pc 8 call X4_isSheet true
            refine And.intro (fun _ => ?_) (fun hh => absurd hh (by decide))
            refine And.intro (by unfold vp_in; decide) ?_
            refine And.intro (fun g3 => ?_) (fun g3 => ?_)
            · -- pc 27 .ifCond .eq 12: yes
              refine Mt.conseq (m_fnd5 _ _ _) ?_
              rintro _ _ _ ⟨rfl, rfl, rfl⟩
              exact ⟨trivial, rfl, hS.found (by decide)⟩
            · -- pc 27 .ifCond .eq 12: no
              exact absurd (show I 48 1 = 0 from s1.symm.trans h3) g3
          · -- pc 8 call X4_isSheet false
            exact absurd (by decide) g2
        · -- pc 1 call X4_isSheet false
          exact absurd (by decide) g1
      · -- pc 39 call X1_isMissing false
        refine And.intro (fun hh => absurd hh (by decide)) (fun _ => ?_)
        refine Mt.conseq (c_miss3 _ _ _) ?_
        rintro _ _ _ ⟨rfl, rfl, ⟨h5, rfl⟩ | ⟨h5, rfl⟩⟩
        · -- pc 47 call X1_isMissing true
          refine And.intro (fun hh => absurd hh (by decide)) (fun _ => ?_)
          refine Mt.conseq (c_fnd5 _ _ _) ?_
          rintro _ _ _ ⟨rfl, rfl, rfl⟩
          refine ⟨trivial, _, rfl, ?_⟩
          refine Mt.of2 _ rfl (by decide +kernel) (Nat.le_of_ble_eq_true rfl) ?_
          refine GW.run kX4_copy (fun pc => Nat.beq pc 102) 127 0 rfl ?_
          refine Mt.conseq (m_isSheet _ _ _ _) ?_
          rintro _ _ _ ⟨rfl, rfl, ⟨g1, rfl⟩ | ⟨g1, rfl⟩⟩
          · -- pc 1 call X4_isSheet true
            refine And.intro (fun hh => absurd hh (by decide)) (fun _ => ?_)
            refine Mt.conseq (m_isSheet _ _ _ _) ?_
            rintro _ _ _ ⟨rfl, rfl, ⟨g2, rfl⟩ | ⟨g2, rfl⟩⟩
            · -- pc 8 call X4_isSheet true
              refine And.intro (fun _ => ?_) (fun hh => absurd hh (by decide))
              refine And.intro (by unfold vp_in; decide) ?_
              refine And.intro (fun g3 => ?_) (fun g3 => ?_)
              · -- pc 27 .ifCond .eq 12: yes
                exact absurd (show I 36 1 = 0 from s1.trans g3) h3
              · -- pc 27 .ifCond .eq 12: no
                refine And.intro (by unfold vp_in; decide) ?_
                refine And.intro (fun g4 => ?_) (fun g4 => ?_)
                · -- pc 36 .ifCond .ne 11: yes
                  exact absurd (show I 48 3 = 0 from t1.symm.trans h5) g4
                · -- pc 36 .ifCond .ne 11: no
                  refine Mt.conseq (m_fnd5 _ _ _) ?_
                  rintro _ _ _ ⟨rfl, rfl, rfl⟩
                  exact ⟨trivial, rfl, hS.found (by decide)⟩
            · -- pc 8 call X4_isSheet false
              exact absurd (by decide) g2
          · -- pc 1 call X4_isSheet false
            exact absurd (by decide) g1
        · -- pc 47 call X1_isMissing false
          refine And.intro (fun _ => ?_) (fun hh => absurd hh (by decide))
          refine And.intro (fun h7 => ?_) (fun h7 => ?_)
          · -- pc 70 .if_icmp .eq 10: yes
            refine Mt.conseq (c_str1 _ _ _ _ _) ?_
            rintro _ _ _ ⟨rfl, rfl, ⟨h8, rfl⟩ | ⟨h8, rfl⟩⟩
            · -- pc 85 call X1_hasStretch true
              refine And.intro (fun hh => absurd hh (by decide)) (fun _ => ?_)
              refine Mt.conseq (c_str3 _ _ _ _ _) ?_
              rintro _ _ _ ⟨rfl, rfl, ⟨h9, rfl⟩ | ⟨h9, rfl⟩⟩
              · -- pc 97 call X1_hasStretch true
                obtain ⟨A, K, rfl, rfl, hA⟩ := str_nat s4 s3 h8
                obtain ⟨B, K2, rfl, eK, hB⟩ := str_nat t4 t3 h9
                obtain rfl : K2 = K := by
                  have z1 : K ≤ 40 := by omega
                  have z2 : K2 ≤ 40 := by omega
                  exact ((nI_eq (by omega) (by omega)).mp eK).symm
                have hcA := nI_clamp (n := A) (by omega)
                have hcB := nI_clamp (n := B) (by omega)
                have hcK := nI_clamp (n := K2) (by omega)
                have hcp : ¬ nI A < 0 ∧ ¬ nI B < 0 ∧ ¬ nI K2 < 0 ∧ (nI A).toNatClampNeg + (nI K2).toNatClampNeg ≤ 40 ∧ (nI B).toNatClampNeg + (nI K2).toNatClampNeg ≤ 40 := ⟨nI_pos (by omega), nI_pos (by omega), nI_pos (by omega), by rw [hcA, hcK]; omega, by rw [hcB, hcK]; omega⟩
                refine And.intro (fun _ => ?_) (fun hh => absurd hh (by decide))
                refine And.intro (hcp) ?_
                refine ⟨trivial, _, rfl, ?_⟩
                refine Mt.of2 _ rfl (by decide +kernel) (Nat.le_of_ble_eq_true rfl) ?_
                refine GW.run kX4_copy (fun pc => Nat.beq pc 102) 127 0 rfl ?_
                refine Mt.conseq (m_isSheet _ _ _ _) ?_
                rintro _ _ _ ⟨rfl, rfl, ⟨g1, rfl⟩ | ⟨g1, rfl⟩⟩
                · -- pc 1 call X4_isSheet true
                  refine And.intro (fun hh => absurd hh (by decide)) (fun _ => ?_)
                  refine Mt.conseq (m_isSheet _ _ _ _) ?_
                  rintro _ _ _ ⟨rfl, rfl, ⟨g2, rfl⟩ | ⟨g2, rfl⟩⟩
                  · -- pc 8 call X4_isSheet true
                    refine And.intro (fun _ => ?_) (fun hh => absurd hh (by decide))
                    refine And.intro (by unfold vp_in; decide) ?_
                    refine And.intro (fun g3 => ?_) (fun g3 => ?_)
                    · -- pc 27 .ifCond .eq 12: yes
                      exact absurd (show I 36 1 = 0 from s1.trans g3) h3
                    · -- pc 27 .ifCond .eq 12: no
                      refine And.intro (by unfold vp_in; decide) ?_
                      refine And.intro (fun g4 => ?_) (fun g4 => ?_)
                      · -- pc 36 .ifCond .ne 11: yes
                        refine And.intro (by unfold vp_in; decide) ?_
                        refine And.intro (by unfold vp_in; decide) ?_
                        refine And.intro (fun g5 => ?_) (fun g5 => ?_)
                        · -- pc 59 .if_icmp .eq 10: yes
                          refine Mt.conseq (m_part1 _ _ _ _ _) ?_
                          rintro _ _ _ ⟨rfl, rfl, ⟨g6, rfl⟩ | ⟨g6, rfl⟩⟩
                          · -- pc 74 call X4_isPart true
                            refine And.intro (fun hh => absurd hh (by decide)) (fun _ => ?_)
                            refine Mt.conseq (m_part3 _ _ _ _ _) ?_
                            rintro _ _ _ ⟨rfl, rfl, ⟨g7, rfl⟩ | ⟨g7, rfl⟩⟩
                            · -- pc 86 call X4_isPart true
                              refine And.intro (fun _ => ?_) (fun hh => absurd hh (by decide))
                              refine GW.weak (GW.eqIJ rfl (wJ_0 (na_cpL J 37 41 (nI A).toNatClampNeg (nI B).toNatClampNeg (nI K2).toNatClampNeg) 51 0 (fun j => (na_cpL J 37 41 (nI A).toNatClampNeg (nI B).toNatClampNeg (nI K2).toNatClampNeg) 50 (40 + A + j))).symm (l_cp1_1 sx A K2 (by omega) (nI B) 3 I (na_cpL J 37 41 (nI A).toNatClampNeg (nI B).toNatClampNeg (nI K2).toNatClampNeg) _ ?_ K2 0 (by omega))) ⟨rfl, rfl, rfl, rfl, rfl, rfl, rfl, trivial⟩
                              refine GW.run kX4_copy (fun pc => Nat.beq pc 139) 127 74 rfl ?_
                              refine GW.weak (GW.eqIJ rfl (wJ_0 (wJ (na_cpL J 37 41 (nI A).toNatClampNeg (nI B).toNatClampNeg (nI K2).toNatClampNeg) 51 0 K2 (fun j => (na_cpL J 37 41 (nI A).toNatClampNeg (nI B).toNatClampNeg (nI K2).toNatClampNeg) 50 (40 + A + j))) 50 (120 + B) (fun j => (na_cpL J 37 41 (nI A).toNatClampNeg (nI B).toNatClampNeg (nI K2).toNatClampNeg) 50 (40 + A + j))).symm (l_cp2_3 sx B K2 (by omega) (fun j => (na_cpL J 37 41 (nI A).toNatClampNeg (nI B).toNatClampNeg (nI K2).toNatClampNeg) 50 (40 + A + j)) I (wJ (na_cpL J 37 41 (nI A).toNatClampNeg (nI B).toNatClampNeg (nI K2).toNatClampNeg) 51 0 K2 (fun j => (na_cpL J 37 41 (nI A).toNatClampNeg (nI B).toNatClampNeg (nI K2).toNatClampNeg) 50 (40 + A + j))) (fun j hj => by rw [wJ_on, if_pos (by omega)]; rfl) _ ?_ K2 0 (by omega))) ⟨rfl, rfl, rfl, rfl, rfl, trivial⟩
                              refine ⟨rfl, ?_⟩
                              exact hS.copied (s := 1) (t := 3) (A := A) (B := B) (K := K2) (by decide) (by decide) s4 t4 s3 t3 hA hB (u := (fun j => (na_cpL J 37 41 (nI A).toNatClampNeg (nI B).toNatClampNeg (nI K2).toNatClampNeg) 50 (40 + A + j))) (fun j hj => rfl) (fun a ha => by rw [wJ_off ha, hcA, hcB, hcK])
                            · -- pc 86 call X4_isPart false
                              exact absurd (show strP _ _ (I 49 3) by rw [← t45]; exact h9) g7
                          · -- pc 74 call X4_isPart false
                            exact absurd (show strP _ _ (I 49 1) by rw [← s45]; exact h8) g6
                        · -- pc 59 .if_icmp .eq 10: no
                          exact absurd (show I 48 1 = I 48 3 from s1.symm.trans ((show I 36 1 = I 40 1 from h7).trans t1)) g5
                      · -- pc 36 .ifCond .ne 11: no
                        exact absurd (show I 40 1 = 0 from t1.trans g4) h5
                  · -- pc 8 call X4_isSheet false
                    exact absurd (by decide) g2
                · -- pc 1 call X4_isSheet false
                  exact absurd (by decide) g1
              · -- pc 97 call X1_hasStretch false
                refine And.intro (fun hh => absurd hh (by decide)) (fun _ => ?_)
                refine Mt.conseq (c_fnd0 _ _ _) ?_
                rintro _ _ _ ⟨rfl, rfl, rfl⟩
                refine ⟨trivial, _, rfl, ?_⟩
                refine Mt.of2 _ rfl (by decide +kernel) (Nat.le_of_ble_eq_true rfl) ?_
                refine GW.run kX4_copy (fun pc => Nat.beq pc 102) 127 0 rfl ?_
                refine Mt.conseq (m_isSheet _ _ _ _) ?_
                rintro _ _ _ ⟨rfl, rfl, ⟨g1, rfl⟩ | ⟨g1, rfl⟩⟩
                · -- pc 1 call X4_isSheet true
                  refine And.intro (fun hh => absurd hh (by decide)) (fun _ => ?_)
                  refine Mt.conseq (m_isSheet _ _ _ _) ?_
                  rintro _ _ _ ⟨rfl, rfl, ⟨g2, rfl⟩ | ⟨g2, rfl⟩⟩
                  · -- pc 8 call X4_isSheet true
                    refine And.intro (fun _ => ?_) (fun hh => absurd hh (by decide))
                    refine And.intro (by unfold vp_in; decide) ?_
                    refine And.intro (fun g3 => ?_) (fun g3 => ?_)
                    · -- pc 27 .ifCond .eq 12: yes
                      exact absurd (show I 36 1 = 0 from s1.trans g3) h3
                    · -- pc 27 .ifCond .eq 12: no
                      refine And.intro (by unfold vp_in; decide) ?_
                      refine And.intro (fun g4 => ?_) (fun g4 => ?_)
                      · -- pc 36 .ifCond .ne 11: yes
                        refine And.intro (by unfold vp_in; decide) ?_
                        refine And.intro (by unfold vp_in; decide) ?_
                        refine And.intro (fun g5 => ?_) (fun g5 => ?_)
                        · -- pc 59 .if_icmp .eq 10: yes
                          refine Mt.conseq (m_part1 _ _ _ _ _) ?_
                          rintro _ _ _ ⟨rfl, rfl, ⟨g6, rfl⟩ | ⟨g6, rfl⟩⟩
                          · -- pc 74 call X4_isPart true
                            refine And.intro (fun hh => absurd hh (by decide)) (fun _ => ?_)
                            refine Mt.conseq (m_part3 _ _ _ _ _) ?_
                            rintro _ _ _ ⟨rfl, rfl, ⟨g7, rfl⟩ | ⟨g7, rfl⟩⟩
                            · -- pc 86 call X4_isPart true
                              exact absurd (show strP _ _ (I 40 2) by rw [t45]; exact g7) h9
                            · -- pc 86 call X4_isPart false
                              refine And.intro (fun hh => absurd hh (by decide)) (fun _ => ?_)
                              refine Mt.conseq (m_fnd0 _ _ _) ?_
                              rintro _ _ _ ⟨rfl, rfl, rfl⟩
                              exact ⟨trivial, rfl, hS.found (by decide)⟩
                          · -- pc 74 call X4_isPart false
                            exact absurd (show strP _ _ (I 49 1) by rw [← s45]; exact h8) g6
                        · -- pc 59 .if_icmp .eq 10: no
                          exact absurd (show I 48 1 = I 48 3 from s1.symm.trans ((show I 36 1 = I 40 1 from h7).trans t1)) g5
                      · -- pc 36 .ifCond .ne 11: no
                        exact absurd (show I 40 1 = 0 from t1.trans g4) h5
                  · -- pc 8 call X4_isSheet false
                    exact absurd (by decide) g2
                · -- pc 1 call X4_isSheet false
                  exact absurd (by decide) g1
            · -- pc 85 call X1_hasStretch false
              refine And.intro (fun _ => ?_) (fun hh => absurd hh (by decide))
              refine Mt.conseq (c_fnd0 _ _ _) ?_
              rintro _ _ _ ⟨rfl, rfl, rfl⟩
              refine ⟨trivial, _, rfl, ?_⟩
              refine Mt.of2 _ rfl (by decide +kernel) (Nat.le_of_ble_eq_true rfl) ?_
              refine GW.run kX4_copy (fun pc => Nat.beq pc 102) 127 0 rfl ?_
              refine Mt.conseq (m_isSheet _ _ _ _) ?_
              rintro _ _ _ ⟨rfl, rfl, ⟨g1, rfl⟩ | ⟨g1, rfl⟩⟩
              · -- pc 1 call X4_isSheet true
                refine And.intro (fun hh => absurd hh (by decide)) (fun _ => ?_)
                refine Mt.conseq (m_isSheet _ _ _ _) ?_
                rintro _ _ _ ⟨rfl, rfl, ⟨g2, rfl⟩ | ⟨g2, rfl⟩⟩
                · -- pc 8 call X4_isSheet true
                  refine And.intro (fun _ => ?_) (fun hh => absurd hh (by decide))
                  refine And.intro (by unfold vp_in; decide) ?_
                  refine And.intro (fun g3 => ?_) (fun g3 => ?_)
                  · -- pc 27 .ifCond .eq 12: yes
                    exact absurd (show I 36 1 = 0 from s1.trans g3) h3
                  · -- pc 27 .ifCond .eq 12: no
                    refine And.intro (by unfold vp_in; decide) ?_
                    refine And.intro (fun g4 => ?_) (fun g4 => ?_)
                    · -- pc 36 .ifCond .ne 11: yes
                      refine And.intro (by unfold vp_in; decide) ?_
                      refine And.intro (by unfold vp_in; decide) ?_
                      refine And.intro (fun g5 => ?_) (fun g5 => ?_)
                      · -- pc 59 .if_icmp .eq 10: yes
                        refine Mt.conseq (m_part1 _ _ _ _ _) ?_
                        rintro _ _ _ ⟨rfl, rfl, ⟨g6, rfl⟩ | ⟨g6, rfl⟩⟩
                        · -- pc 74 call X4_isPart true
                          exact absurd (show strP _ _ (I 36 2) by rw [s45]; exact g6) h8
                        · -- pc 74 call X4_isPart false
                          refine And.intro (fun _ => ?_) (fun hh => absurd hh (by decide))
                          refine Mt.conseq (m_fnd0 _ _ _) ?_
                          rintro _ _ _ ⟨rfl, rfl, rfl⟩
                          exact ⟨trivial, rfl, hS.found (by decide)⟩
                      · -- pc 59 .if_icmp .eq 10: no
                        exact absurd (show I 48 1 = I 48 3 from s1.symm.trans ((show I 36 1 = I 40 1 from h7).trans t1)) g5
                    · -- pc 36 .ifCond .ne 11: no
                      exact absurd (show I 40 1 = 0 from t1.trans g4) h5
                · -- pc 8 call X4_isSheet false
                  exact absurd (by decide) g2
              · -- pc 1 call X4_isSheet false
                exact absurd (by decide) g1
          · -- pc 70 .if_icmp .eq 10: no
            refine Mt.conseq (c_fnd2 _ _ _) ?_
            rintro _ _ _ ⟨rfl, rfl, rfl⟩
            refine ⟨trivial, _, rfl, ?_⟩
            refine Mt.of2 _ rfl (by decide +kernel) (Nat.le_of_ble_eq_true rfl) ?_
            refine GW.run kX4_copy (fun pc => Nat.beq pc 102) 127 0 rfl ?_
            refine Mt.conseq (m_isSheet _ _ _ _) ?_
            rintro _ _ _ ⟨rfl, rfl, ⟨g1, rfl⟩ | ⟨g1, rfl⟩⟩
            · -- pc 1 call X4_isSheet true
              refine And.intro (fun hh => absurd hh (by decide)) (fun _ => ?_)
              refine Mt.conseq (m_isSheet _ _ _ _) ?_
              rintro _ _ _ ⟨rfl, rfl, ⟨g2, rfl⟩ | ⟨g2, rfl⟩⟩
              · -- pc 8 call X4_isSheet true
                refine And.intro (fun _ => ?_) (fun hh => absurd hh (by decide))
                refine And.intro (by unfold vp_in; decide) ?_
                refine And.intro (fun g3 => ?_) (fun g3 => ?_)
                · -- pc 27 .ifCond .eq 12: yes
                  exact absurd (show I 36 1 = 0 from s1.trans g3) h3
                · -- pc 27 .ifCond .eq 12: no
                  refine And.intro (by unfold vp_in; decide) ?_
                  refine And.intro (fun g4 => ?_) (fun g4 => ?_)
                  · -- pc 36 .ifCond .ne 11: yes
                    refine And.intro (by unfold vp_in; decide) ?_
                    refine And.intro (by unfold vp_in; decide) ?_
                    refine And.intro (fun g5 => ?_) (fun g5 => ?_)
                    · -- pc 59 .if_icmp .eq 10: yes
                      exact absurd (show I 36 1 = I 40 1 from s1.trans ((show I 48 1 = I 48 3 from g5).trans t1.symm)) h7
                    · -- pc 59 .if_icmp .eq 10: no
                      refine Mt.conseq (m_fnd2 _ _ _) ?_
                      rintro _ _ _ ⟨rfl, rfl, rfl⟩
                      exact ⟨trivial, rfl, hS.found (by decide)⟩
                  · -- pc 36 .ifCond .ne 11: no
                    exact absurd (show I 40 1 = 0 from t1.trans g4) h5
              · -- pc 8 call X4_isSheet false
                exact absurd (by decide) g2
            · -- pc 1 call X4_isSheet false
              exact absurd (by decide) g1
set_option maxRecDepth 100000 in
set_option maxHeartbeats 4000000 in
theorem pr_copy2_0 (sx : Nat × (Nat → Int32)) (fr to nn : Int32) : PrI sx MX3_copy MX4_copy [.int 2, .int fr, .int 0, .int to, .int nn] := by
  intro I J hS
  obtain ⟨s1, s2, n, s3, s4, s5, s6⟩ := hS.2.2.2.1 2 (by decide)
  obtain ⟨t1, t2, m, t3, t4, t5, t6⟩ := hS.2.2.2.1 0 (by decide)
  have s45 : I 38 2 = I 49 2 := s4.trans s5.symm
  have t45 : I 34 2 = I 49 0 := t4.trans t5.symm
  refine Mt.of2 _ rfl (by decide +kernel) (Nat.le_of_ble_eq_true rfl) ?_
  refine GW.run kX3_copy (fun _ => false) 93 0 rfl ?_
  refine Mt.conseq (c_noSheet _ _ _ _) ?_
  rintro _ _ _ ⟨rfl, rfl, ⟨h1, rfl⟩ | ⟨h1, rfl⟩⟩
  · -- pc 1 call X3_noSheet true
    exact absurd h1 (by decide)
  · -- pc 1 call X3_noSheet false
    refine And.intro (fun hh => absurd hh (by decide)) (fun _ => ?_)
    refine Mt.conseq (c_noSheet _ _ _ _) ?_
    rintro _ _ _ ⟨rfl, rfl, ⟨h2, rfl⟩ | ⟨h2, rfl⟩⟩
    · -- pc 8 call X3_noSheet true
      exact absurd h2 (by decide)
    · -- pc 8 call X3_noSheet false
      refine And.intro (fun _ => ?_) (fun hh => absurd hh (by decide))
      refine And.intro (by unfold vp_in; decide) ?_
      refine And.intro (by unfold vp_in; decide) ?_
      refine Mt.conseq (c_miss2 _ _ _) ?_
      rintro _ _ _ ⟨rfl, rfl, ⟨h3, rfl⟩ | ⟨h3, rfl⟩⟩
      · -- pc 39 call X1_isMissing true
        refine And.intro (fun _ => ?_) (fun hh => absurd hh (by decide))
        refine Mt.conseq (c_fnd5 _ _ _) ?_
        rintro _ _ _ ⟨rfl, rfl, rfl⟩
        refine ⟨trivial, _, rfl, ?_⟩
        refine Mt.of2 _ rfl (by decide +kernel) (Nat.le_of_ble_eq_true rfl) ?_
        refine GW.run kX4_copy (fun pc => Nat.beq pc 102) 127 0 rfl ?_
        refine Mt.conseq (m_isSheet _ _ _ _) ?_
        rintro _ _ _ ⟨rfl, rfl, ⟨g1, rfl⟩ | ⟨g1, rfl⟩⟩
        · -- pc 1 call X4_isSheet true
          refine And.intro (fun hh => absurd hh (by decide)) (fun _ => ?_)
          refine Mt.conseq (m_isSheet _ _ _ _) ?_
          rintro _ _ _ ⟨rfl, rfl, ⟨g2, rfl⟩ | ⟨g2, rfl⟩⟩
          · -- pc 8 call X4_isSheet true
            refine And.intro (fun _ => ?_) (fun hh => absurd hh (by decide))
            refine And.intro (by unfold vp_in; decide) ?_
            refine And.intro (fun g3 => ?_) (fun g3 => ?_)
            · -- pc 27 .ifCond .eq 12: yes
              refine Mt.conseq (m_fnd5 _ _ _) ?_
              rintro _ _ _ ⟨rfl, rfl, rfl⟩
              exact ⟨trivial, rfl, hS.found (by decide)⟩
            · -- pc 27 .ifCond .eq 12: no
              exact absurd (show I 48 2 = 0 from s1.symm.trans h3) g3
          · -- pc 8 call X4_isSheet false
            exact absurd (by decide) g2
        · -- pc 1 call X4_isSheet false
          exact absurd (by decide) g1
      · -- pc 39 call X1_isMissing false
        refine And.intro (fun hh => absurd hh (by decide)) (fun _ => ?_)
        refine Mt.conseq (c_miss0 _ _ _) ?_
        rintro _ _ _ ⟨rfl, rfl, ⟨h5, rfl⟩ | ⟨h5, rfl⟩⟩
        · -- pc 47 call X1_isMissing true
          refine And.intro (fun hh => absurd hh (by decide)) (fun _ => ?_)
          refine Mt.conseq (c_fnd5 _ _ _) ?_
          rintro _ _ _ ⟨rfl, rfl, rfl⟩
          refine ⟨trivial, _, rfl, ?_⟩
          refine Mt.of2 _ rfl (by decide +kernel) (Nat.le_of_ble_eq_true rfl) ?_
          refine GW.run kX4_copy (fun pc => Nat.beq pc 102) 127 0 rfl ?_
          refine Mt.conseq (m_isSheet _ _ _ _) ?_
          rintro _ _ _ ⟨rfl, rfl, ⟨g1, rfl⟩ | ⟨g1, rfl⟩⟩
          · -- pc 1 call X4_isSheet true
            refine And.intro (fun hh => absurd hh (by decide)) (fun _ => ?_)
            refine Mt.conseq (m_isSheet _ _ _ _) ?_
            rintro _ _ _ ⟨rfl, rfl, ⟨g2, rfl⟩ | ⟨g2, rfl⟩⟩
            · -- pc 8 call X4_isSheet true
              refine And.intro (fun _ => ?_) (fun hh => absurd hh (by decide))
              refine And.intro (by unfold vp_in; decide) ?_
              refine And.intro (fun g3 => ?_) (fun g3 => ?_)
              · -- pc 27 .ifCond .eq 12: yes
                exact absurd (show I 38 1 = 0 from s1.trans g3) h3
              · -- pc 27 .ifCond .eq 12: no
                refine And.intro (by unfold vp_in; decide) ?_
                refine And.intro (fun g4 => ?_) (fun g4 => ?_)
                · -- pc 36 .ifCond .ne 11: yes
                  exact absurd (show I 48 0 = 0 from t1.symm.trans h5) g4
                · -- pc 36 .ifCond .ne 11: no
                  refine Mt.conseq (m_fnd5 _ _ _) ?_
                  rintro _ _ _ ⟨rfl, rfl, rfl⟩
                  exact ⟨trivial, rfl, hS.found (by decide)⟩
            · -- pc 8 call X4_isSheet false
              exact absurd (by decide) g2
          · -- pc 1 call X4_isSheet false
            exact absurd (by decide) g1
        · -- pc 47 call X1_isMissing false
          refine And.intro (fun _ => ?_) (fun hh => absurd hh (by decide))
          refine And.intro (fun h7 => ?_) (fun h7 => ?_)
          · -- pc 70 .if_icmp .eq 10: yes
            refine Mt.conseq (c_str2 _ _ _ _ _) ?_
            rintro _ _ _ ⟨rfl, rfl, ⟨h8, rfl⟩ | ⟨h8, rfl⟩⟩
            · -- pc 85 call X1_hasStretch true
              refine And.intro (fun hh => absurd hh (by decide)) (fun _ => ?_)
              refine Mt.conseq (c_str0 _ _ _ _ _) ?_
              rintro _ _ _ ⟨rfl, rfl, ⟨h9, rfl⟩ | ⟨h9, rfl⟩⟩
              · -- pc 97 call X1_hasStretch true
                obtain ⟨A, K, rfl, rfl, hA⟩ := str_nat s4 s3 h8
                obtain ⟨B, K2, rfl, eK, hB⟩ := str_nat t4 t3 h9
                obtain rfl : K2 = K := by
                  have z1 : K ≤ 40 := by omega
                  have z2 : K2 ≤ 40 := by omega
                  exact ((nI_eq (by omega) (by omega)).mp eK).symm
                have hcA := nI_clamp (n := A) (by omega)
                have hcB := nI_clamp (n := B) (by omega)
                have hcK := nI_clamp (n := K2) (by omega)
                have hcp : ¬ nI A < 0 ∧ ¬ nI B < 0 ∧ ¬ nI K2 < 0 ∧ (nI A).toNatClampNeg + (nI K2).toNatClampNeg ≤ 40 ∧ (nI B).toNatClampNeg + (nI K2).toNatClampNeg ≤ 40 := ⟨nI_pos (by omega), nI_pos (by omega), nI_pos (by omega), by rw [hcA, hcK]; omega, by rw [hcB, hcK]; omega⟩
                refine And.intro (fun _ => ?_) (fun hh => absurd hh (by decide))
                refine And.intro (hcp) ?_
                refine ⟨trivial, _, rfl, ?_⟩
                refine Mt.of2 _ rfl (by decide +kernel) (Nat.le_of_ble_eq_true rfl) ?_
                refine GW.run kX4_copy (fun pc => Nat.beq pc 102) 127 0 rfl ?_
                refine Mt.conseq (m_isSheet _ _ _ _) ?_
                rintro _ _ _ ⟨rfl, rfl, ⟨g1, rfl⟩ | ⟨g1, rfl⟩⟩
                · -- pc 1 call X4_isSheet true
                  refine And.intro (fun hh => absurd hh (by decide)) (fun _ => ?_)
                  refine Mt.conseq (m_isSheet _ _ _ _) ?_
                  rintro _ _ _ ⟨rfl, rfl, ⟨g2, rfl⟩ | ⟨g2, rfl⟩⟩
                  · -- pc 8 call X4_isSheet true
                    refine And.intro (fun _ => ?_) (fun hh => absurd hh (by decide))
                    refine And.intro (by unfold vp_in; decide) ?_
                    refine And.intro (fun g3 => ?_) (fun g3 => ?_)
                    · -- pc 27 .ifCond .eq 12: yes
                      exact absurd (show I 38 1 = 0 from s1.trans g3) h3
                    · -- pc 27 .ifCond .eq 12: no
                      refine And.intro (by unfold vp_in; decide) ?_
                      refine And.intro (fun g4 => ?_) (fun g4 => ?_)
                      · -- pc 36 .ifCond .ne 11: yes
                        refine And.intro (by unfold vp_in; decide) ?_
                        refine And.intro (by unfold vp_in; decide) ?_
                        refine And.intro (fun g5 => ?_) (fun g5 => ?_)
                        · -- pc 59 .if_icmp .eq 10: yes
                          refine Mt.conseq (m_part2 _ _ _ _ _) ?_
                          rintro _ _ _ ⟨rfl, rfl, ⟨g6, rfl⟩ | ⟨g6, rfl⟩⟩
                          · -- pc 74 call X4_isPart true
                            refine And.intro (fun hh => absurd hh (by decide)) (fun _ => ?_)
                            refine Mt.conseq (m_part0 _ _ _ _ _) ?_
                            rintro _ _ _ ⟨rfl, rfl, ⟨g7, rfl⟩ | ⟨g7, rfl⟩⟩
                            · -- pc 86 call X4_isPart true
                              refine And.intro (fun _ => ?_) (fun hh => absurd hh (by decide))
                              refine GW.weak (GW.eqIJ rfl (wJ_0 (na_cpL J 39 35 (nI A).toNatClampNeg (nI B).toNatClampNeg (nI K2).toNatClampNeg) 51 0 (fun j => (na_cpL J 39 35 (nI A).toNatClampNeg (nI B).toNatClampNeg (nI K2).toNatClampNeg) 50 (80 + A + j))).symm (l_cp1_2 sx A K2 (by omega) (nI B) 0 I (na_cpL J 39 35 (nI A).toNatClampNeg (nI B).toNatClampNeg (nI K2).toNatClampNeg) _ ?_ K2 0 (by omega))) ⟨rfl, rfl, rfl, rfl, rfl, rfl, rfl, trivial⟩
                              refine GW.run kX4_copy (fun pc => Nat.beq pc 139) 127 74 rfl ?_
                              refine GW.weak (GW.eqIJ rfl (wJ_0 (wJ (na_cpL J 39 35 (nI A).toNatClampNeg (nI B).toNatClampNeg (nI K2).toNatClampNeg) 51 0 K2 (fun j => (na_cpL J 39 35 (nI A).toNatClampNeg (nI B).toNatClampNeg (nI K2).toNatClampNeg) 50 (80 + A + j))) 50 (0 + B) (fun j => (na_cpL J 39 35 (nI A).toNatClampNeg (nI B).toNatClampNeg (nI K2).toNatClampNeg) 50 (80 + A + j))).symm (l_cp2_0 sx B K2 (by omega) (fun j => (na_cpL J 39 35 (nI A).toNatClampNeg (nI B).toNatClampNeg (nI K2).toNatClampNeg) 50 (80 + A + j)) I (wJ (na_cpL J 39 35 (nI A).toNatClampNeg (nI B).toNatClampNeg (nI K2).toNatClampNeg) 51 0 K2 (fun j => (na_cpL J 39 35 (nI A).toNatClampNeg (nI B).toNatClampNeg (nI K2).toNatClampNeg) 50 (80 + A + j))) (fun j hj => by rw [wJ_on, if_pos (by omega)]; rfl) _ ?_ K2 0 (by omega))) ⟨rfl, rfl, rfl, rfl, rfl, trivial⟩
                              refine ⟨rfl, ?_⟩
                              exact hS.copied (s := 2) (t := 0) (A := A) (B := B) (K := K2) (by decide) (by decide) s4 t4 s3 t3 hA hB (u := (fun j => (na_cpL J 39 35 (nI A).toNatClampNeg (nI B).toNatClampNeg (nI K2).toNatClampNeg) 50 (80 + A + j))) (fun j hj => rfl) (fun a ha => by rw [wJ_off ha, hcA, hcB, hcK])
                            · -- pc 86 call X4_isPart false
                              exact absurd (show strP _ _ (I 49 0) by rw [← t45]; exact h9) g7
                          · -- pc 74 call X4_isPart false
                            exact absurd (show strP _ _ (I 49 2) by rw [← s45]; exact h8) g6
                        · -- pc 59 .if_icmp .eq 10: no
                          exact absurd (show I 48 2 = I 48 0 from s1.symm.trans ((show I 38 1 = I 34 1 from h7).trans t1)) g5
                      · -- pc 36 .ifCond .ne 11: no
                        exact absurd (show I 34 1 = 0 from t1.trans g4) h5
                  · -- pc 8 call X4_isSheet false
                    exact absurd (by decide) g2
                · -- pc 1 call X4_isSheet false
                  exact absurd (by decide) g1
              · -- pc 97 call X1_hasStretch false
                refine And.intro (fun hh => absurd hh (by decide)) (fun _ => ?_)
                refine Mt.conseq (c_fnd0 _ _ _) ?_
                rintro _ _ _ ⟨rfl, rfl, rfl⟩
                refine ⟨trivial, _, rfl, ?_⟩
                refine Mt.of2 _ rfl (by decide +kernel) (Nat.le_of_ble_eq_true rfl) ?_
                refine GW.run kX4_copy (fun pc => Nat.beq pc 102) 127 0 rfl ?_
                refine Mt.conseq (m_isSheet _ _ _ _) ?_
                rintro _ _ _ ⟨rfl, rfl, ⟨g1, rfl⟩ | ⟨g1, rfl⟩⟩
                · -- pc 1 call X4_isSheet true
                  refine And.intro (fun hh => absurd hh (by decide)) (fun _ => ?_)
                  refine Mt.conseq (m_isSheet _ _ _ _) ?_
                  rintro _ _ _ ⟨rfl, rfl, ⟨g2, rfl⟩ | ⟨g2, rfl⟩⟩
                  · -- pc 8 call X4_isSheet true
                    refine And.intro (fun _ => ?_) (fun hh => absurd hh (by decide))
                    refine And.intro (by unfold vp_in; decide) ?_
                    refine And.intro (fun g3 => ?_) (fun g3 => ?_)
                    · -- pc 27 .ifCond .eq 12: yes
                      exact absurd (show I 38 1 = 0 from s1.trans g3) h3
                    · -- pc 27 .ifCond .eq 12: no
                      refine And.intro (by unfold vp_in; decide) ?_
                      refine And.intro (fun g4 => ?_) (fun g4 => ?_)
                      · -- pc 36 .ifCond .ne 11: yes
                        refine And.intro (by unfold vp_in; decide) ?_
                        refine And.intro (by unfold vp_in; decide) ?_
                        refine And.intro (fun g5 => ?_) (fun g5 => ?_)
                        · -- pc 59 .if_icmp .eq 10: yes
                          refine Mt.conseq (m_part2 _ _ _ _ _) ?_
                          rintro _ _ _ ⟨rfl, rfl, ⟨g6, rfl⟩ | ⟨g6, rfl⟩⟩
                          · -- pc 74 call X4_isPart true
                            refine And.intro (fun hh => absurd hh (by decide)) (fun _ => ?_)
                            refine Mt.conseq (m_part0 _ _ _ _ _) ?_
                            rintro _ _ _ ⟨rfl, rfl, ⟨g7, rfl⟩ | ⟨g7, rfl⟩⟩
                            · -- pc 86 call X4_isPart true
                              exact absurd (show strP _ _ (I 34 2) by rw [t45]; exact g7) h9
                            · -- pc 86 call X4_isPart false
                              refine And.intro (fun hh => absurd hh (by decide)) (fun _ => ?_)
                              refine Mt.conseq (m_fnd0 _ _ _) ?_
                              rintro _ _ _ ⟨rfl, rfl, rfl⟩
                              exact ⟨trivial, rfl, hS.found (by decide)⟩
                          · -- pc 74 call X4_isPart false
                            exact absurd (show strP _ _ (I 49 2) by rw [← s45]; exact h8) g6
                        · -- pc 59 .if_icmp .eq 10: no
                          exact absurd (show I 48 2 = I 48 0 from s1.symm.trans ((show I 38 1 = I 34 1 from h7).trans t1)) g5
                      · -- pc 36 .ifCond .ne 11: no
                        exact absurd (show I 34 1 = 0 from t1.trans g4) h5
                  · -- pc 8 call X4_isSheet false
                    exact absurd (by decide) g2
                · -- pc 1 call X4_isSheet false
                  exact absurd (by decide) g1
            · -- pc 85 call X1_hasStretch false
              refine And.intro (fun _ => ?_) (fun hh => absurd hh (by decide))
              refine Mt.conseq (c_fnd0 _ _ _) ?_
              rintro _ _ _ ⟨rfl, rfl, rfl⟩
              refine ⟨trivial, _, rfl, ?_⟩
              refine Mt.of2 _ rfl (by decide +kernel) (Nat.le_of_ble_eq_true rfl) ?_
              refine GW.run kX4_copy (fun pc => Nat.beq pc 102) 127 0 rfl ?_
              refine Mt.conseq (m_isSheet _ _ _ _) ?_
              rintro _ _ _ ⟨rfl, rfl, ⟨g1, rfl⟩ | ⟨g1, rfl⟩⟩
              · -- pc 1 call X4_isSheet true
                refine And.intro (fun hh => absurd hh (by decide)) (fun _ => ?_)
                refine Mt.conseq (m_isSheet _ _ _ _) ?_
                rintro _ _ _ ⟨rfl, rfl, ⟨g2, rfl⟩ | ⟨g2, rfl⟩⟩
                · -- pc 8 call X4_isSheet true
                  refine And.intro (fun _ => ?_) (fun hh => absurd hh (by decide))
                  refine And.intro (by unfold vp_in; decide) ?_
                  refine And.intro (fun g3 => ?_) (fun g3 => ?_)
                  · -- pc 27 .ifCond .eq 12: yes
                    exact absurd (show I 38 1 = 0 from s1.trans g3) h3
                  · -- pc 27 .ifCond .eq 12: no
                    refine And.intro (by unfold vp_in; decide) ?_
                    refine And.intro (fun g4 => ?_) (fun g4 => ?_)
                    · -- pc 36 .ifCond .ne 11: yes
                      refine And.intro (by unfold vp_in; decide) ?_
                      refine And.intro (by unfold vp_in; decide) ?_
                      refine And.intro (fun g5 => ?_) (fun g5 => ?_)
                      · -- pc 59 .if_icmp .eq 10: yes
                        refine Mt.conseq (m_part2 _ _ _ _ _) ?_
                        rintro _ _ _ ⟨rfl, rfl, ⟨g6, rfl⟩ | ⟨g6, rfl⟩⟩
                        · -- pc 74 call X4_isPart true
                          exact absurd (show strP _ _ (I 38 2) by rw [s45]; exact g6) h8
                        · -- pc 74 call X4_isPart false
                          refine And.intro (fun _ => ?_) (fun hh => absurd hh (by decide))
                          refine Mt.conseq (m_fnd0 _ _ _) ?_
                          rintro _ _ _ ⟨rfl, rfl, rfl⟩
                          exact ⟨trivial, rfl, hS.found (by decide)⟩
                      · -- pc 59 .if_icmp .eq 10: no
                        exact absurd (show I 48 2 = I 48 0 from s1.symm.trans ((show I 38 1 = I 34 1 from h7).trans t1)) g5
                    · -- pc 36 .ifCond .ne 11: no
                      exact absurd (show I 34 1 = 0 from t1.trans g4) h5
                · -- pc 8 call X4_isSheet false
                  exact absurd (by decide) g2
              · -- pc 1 call X4_isSheet false
                exact absurd (by decide) g1
          · -- pc 70 .if_icmp .eq 10: no
            refine Mt.conseq (c_fnd2 _ _ _) ?_
            rintro _ _ _ ⟨rfl, rfl, rfl⟩
            refine ⟨trivial, _, rfl, ?_⟩
            refine Mt.of2 _ rfl (by decide +kernel) (Nat.le_of_ble_eq_true rfl) ?_
            refine GW.run kX4_copy (fun pc => Nat.beq pc 102) 127 0 rfl ?_
            refine Mt.conseq (m_isSheet _ _ _ _) ?_
            rintro _ _ _ ⟨rfl, rfl, ⟨g1, rfl⟩ | ⟨g1, rfl⟩⟩
            · -- pc 1 call X4_isSheet true
              refine And.intro (fun hh => absurd hh (by decide)) (fun _ => ?_)
              refine Mt.conseq (m_isSheet _ _ _ _) ?_
              rintro _ _ _ ⟨rfl, rfl, ⟨g2, rfl⟩ | ⟨g2, rfl⟩⟩
              · -- pc 8 call X4_isSheet true
                refine And.intro (fun _ => ?_) (fun hh => absurd hh (by decide))
                refine And.intro (by unfold vp_in; decide) ?_
                refine And.intro (fun g3 => ?_) (fun g3 => ?_)
                · -- pc 27 .ifCond .eq 12: yes
                  exact absurd (show I 38 1 = 0 from s1.trans g3) h3
                · -- pc 27 .ifCond .eq 12: no
                  refine And.intro (by unfold vp_in; decide) ?_
                  refine And.intro (fun g4 => ?_) (fun g4 => ?_)
                  · -- pc 36 .ifCond .ne 11: yes
                    refine And.intro (by unfold vp_in; decide) ?_
                    refine And.intro (by unfold vp_in; decide) ?_
                    refine And.intro (fun g5 => ?_) (fun g5 => ?_)
                    · -- pc 59 .if_icmp .eq 10: yes
                      exact absurd (show I 38 1 = I 34 1 from s1.trans ((show I 48 2 = I 48 0 from g5).trans t1.symm)) h7
                    · -- pc 59 .if_icmp .eq 10: no
                      refine Mt.conseq (m_fnd2 _ _ _) ?_
                      rintro _ _ _ ⟨rfl, rfl, rfl⟩
                      exact ⟨trivial, rfl, hS.found (by decide)⟩
                  · -- pc 36 .ifCond .ne 11: no
                    exact absurd (show I 34 1 = 0 from t1.trans g4) h5
              · -- pc 8 call X4_isSheet false
                exact absurd (by decide) g2
            · -- pc 1 call X4_isSheet false
              exact absurd (by decide) g1
set_option maxRecDepth 100000 in
set_option maxHeartbeats 4000000 in
theorem pr_copy2_1 (sx : Nat × (Nat → Int32)) (fr to nn : Int32) : PrI sx MX3_copy MX4_copy [.int 2, .int fr, .int 1, .int to, .int nn] := by
  intro I J hS
  obtain ⟨s1, s2, n, s3, s4, s5, s6⟩ := hS.2.2.2.1 2 (by decide)
  obtain ⟨t1, t2, m, t3, t4, t5, t6⟩ := hS.2.2.2.1 1 (by decide)
  have s45 : I 38 2 = I 49 2 := s4.trans s5.symm
  have t45 : I 36 2 = I 49 1 := t4.trans t5.symm
  refine Mt.of2 _ rfl (by decide +kernel) (Nat.le_of_ble_eq_true rfl) ?_
  refine GW.run kX3_copy (fun _ => false) 93 0 rfl ?_
  refine Mt.conseq (c_noSheet _ _ _ _) ?_
  rintro _ _ _ ⟨rfl, rfl, ⟨h1, rfl⟩ | ⟨h1, rfl⟩⟩
  · -- pc 1 call X3_noSheet true
    exact absurd h1 (by decide)
  · -- pc 1 call X3_noSheet false
    refine And.intro (fun hh => absurd hh (by decide)) (fun _ => ?_)
    refine Mt.conseq (c_noSheet _ _ _ _) ?_
    rintro _ _ _ ⟨rfl, rfl, ⟨h2, rfl⟩ | ⟨h2, rfl⟩⟩
    · -- pc 8 call X3_noSheet true
      exact absurd h2 (by decide)
    · -- pc 8 call X3_noSheet false
      refine And.intro (fun _ => ?_) (fun hh => absurd hh (by decide))
      refine And.intro (by unfold vp_in; decide) ?_
      refine And.intro (by unfold vp_in; decide) ?_
      refine Mt.conseq (c_miss2 _ _ _) ?_
      rintro _ _ _ ⟨rfl, rfl, ⟨h3, rfl⟩ | ⟨h3, rfl⟩⟩
      · -- pc 39 call X1_isMissing true
        refine And.intro (fun _ => ?_) (fun hh => absurd hh (by decide))
        refine Mt.conseq (c_fnd5 _ _ _) ?_
        rintro _ _ _ ⟨rfl, rfl, rfl⟩
        refine ⟨trivial, _, rfl, ?_⟩
        refine Mt.of2 _ rfl (by decide +kernel) (Nat.le_of_ble_eq_true rfl) ?_
        refine GW.run kX4_copy (fun pc => Nat.beq pc 102) 127 0 rfl ?_
        refine Mt.conseq (m_isSheet _ _ _ _) ?_
        rintro _ _ _ ⟨rfl, rfl, ⟨g1, rfl⟩ | ⟨g1, rfl⟩⟩
        · -- pc 1 call X4_isSheet true
          refine And.intro (fun hh => absurd hh (by decide)) (fun _ => ?_)
          refine Mt.conseq (m_isSheet _ _ _ _) ?_
          rintro _ _ _ ⟨rfl, rfl, ⟨g2, rfl⟩ | ⟨g2, rfl⟩⟩
          · -- pc 8 call X4_isSheet true
            refine And.intro (fun _ => ?_) (fun hh => absurd hh (by decide))
            refine And.intro (by unfold vp_in; decide) ?_
            refine And.intro (fun g3 => ?_) (fun g3 => ?_)
            · -- pc 27 .ifCond .eq 12: yes
              refine Mt.conseq (m_fnd5 _ _ _) ?_
              rintro _ _ _ ⟨rfl, rfl, rfl⟩
              exact ⟨trivial, rfl, hS.found (by decide)⟩
            · -- pc 27 .ifCond .eq 12: no
              exact absurd (show I 48 2 = 0 from s1.symm.trans h3) g3
          · -- pc 8 call X4_isSheet false
            exact absurd (by decide) g2
        · -- pc 1 call X4_isSheet false
          exact absurd (by decide) g1
      · -- pc 39 call X1_isMissing false
        refine And.intro (fun hh => absurd hh (by decide)) (fun _ => ?_)
        refine Mt.conseq (c_miss1 _ _ _) ?_
        rintro _ _ _ ⟨rfl, rfl, ⟨h5, rfl⟩ | ⟨h5, rfl⟩⟩
        · -- pc 47 call X1_isMissing true
          refine And.intro (fun hh => absurd hh (by decide)) (fun _ => ?_)
          refine Mt.conseq (c_fnd5 _ _ _) ?_
          rintro _ _ _ ⟨rfl, rfl, rfl⟩
          refine ⟨trivial, _, rfl, ?_⟩
          refine Mt.of2 _ rfl (by decide +kernel) (Nat.le_of_ble_eq_true rfl) ?_
          refine GW.run kX4_copy (fun pc => Nat.beq pc 102) 127 0 rfl ?_
          refine Mt.conseq (m_isSheet _ _ _ _) ?_
          rintro _ _ _ ⟨rfl, rfl, ⟨g1, rfl⟩ | ⟨g1, rfl⟩⟩
          · -- pc 1 call X4_isSheet true
            refine And.intro (fun hh => absurd hh (by decide)) (fun _ => ?_)
            refine Mt.conseq (m_isSheet _ _ _ _) ?_
            rintro _ _ _ ⟨rfl, rfl, ⟨g2, rfl⟩ | ⟨g2, rfl⟩⟩
            · -- pc 8 call X4_isSheet true
              refine And.intro (fun _ => ?_) (fun hh => absurd hh (by decide))
              refine And.intro (by unfold vp_in; decide) ?_
              refine And.intro (fun g3 => ?_) (fun g3 => ?_)
              · -- pc 27 .ifCond .eq 12: yes
                exact absurd (show I 38 1 = 0 from s1.trans g3) h3
              · -- pc 27 .ifCond .eq 12: no
                refine And.intro (by unfold vp_in; decide) ?_
                refine And.intro (fun g4 => ?_) (fun g4 => ?_)
                · -- pc 36 .ifCond .ne 11: yes
                  exact absurd (show I 48 1 = 0 from t1.symm.trans h5) g4
                · -- pc 36 .ifCond .ne 11: no
                  refine Mt.conseq (m_fnd5 _ _ _) ?_
                  rintro _ _ _ ⟨rfl, rfl, rfl⟩
                  exact ⟨trivial, rfl, hS.found (by decide)⟩
            · -- pc 8 call X4_isSheet false
              exact absurd (by decide) g2
          · -- pc 1 call X4_isSheet false
            exact absurd (by decide) g1
        · -- pc 47 call X1_isMissing false
          refine And.intro (fun _ => ?_) (fun hh => absurd hh (by decide))
          refine And.intro (fun h7 => ?_) (fun h7 => ?_)
          · -- pc 70 .if_icmp .eq 10: yes
            refine Mt.conseq (c_str2 _ _ _ _ _) ?_
            rintro _ _ _ ⟨rfl, rfl, ⟨h8, rfl⟩ | ⟨h8, rfl⟩⟩
            · -- pc 85 call X1_hasStretch true
              refine And.intro (fun hh => absurd hh (by decide)) (fun _ => ?_)
              refine Mt.conseq (c_str1 _ _ _ _ _) ?_
              rintro _ _ _ ⟨rfl, rfl, ⟨h9, rfl⟩ | ⟨h9, rfl⟩⟩
              · -- pc 97 call X1_hasStretch true
                obtain ⟨A, K, rfl, rfl, hA⟩ := str_nat s4 s3 h8
                obtain ⟨B, K2, rfl, eK, hB⟩ := str_nat t4 t3 h9
                obtain rfl : K2 = K := by
                  have z1 : K ≤ 40 := by omega
                  have z2 : K2 ≤ 40 := by omega
                  exact ((nI_eq (by omega) (by omega)).mp eK).symm
                have hcA := nI_clamp (n := A) (by omega)
                have hcB := nI_clamp (n := B) (by omega)
                have hcK := nI_clamp (n := K2) (by omega)
                have hcp : ¬ nI A < 0 ∧ ¬ nI B < 0 ∧ ¬ nI K2 < 0 ∧ (nI A).toNatClampNeg + (nI K2).toNatClampNeg ≤ 40 ∧ (nI B).toNatClampNeg + (nI K2).toNatClampNeg ≤ 40 := ⟨nI_pos (by omega), nI_pos (by omega), nI_pos (by omega), by rw [hcA, hcK]; omega, by rw [hcB, hcK]; omega⟩
                refine And.intro (fun _ => ?_) (fun hh => absurd hh (by decide))
                refine And.intro (hcp) ?_
                refine ⟨trivial, _, rfl, ?_⟩
                refine Mt.of2 _ rfl (by decide +kernel) (Nat.le_of_ble_eq_true rfl) ?_
                refine GW.run kX4_copy (fun pc => Nat.beq pc 102) 127 0 rfl ?_
                refine Mt.conseq (m_isSheet _ _ _ _) ?_
                rintro _ _ _ ⟨rfl, rfl, ⟨g1, rfl⟩ | ⟨g1, rfl⟩⟩
                · -- pc 1 call X4_isSheet true
                  refine And.intro (fun hh => absurd hh (by decide)) (fun _ => ?_)
                  refine Mt.conseq (m_isSheet _ _ _ _) ?_
                  rintro _ _ _ ⟨rfl, rfl, ⟨g2, rfl⟩ | ⟨g2, rfl⟩⟩
                  · -- pc 8 call X4_isSheet true
                    refine And.intro (fun _ => ?_) (fun hh => absurd hh (by decide))
                    refine And.intro (by unfold vp_in; decide) ?_
                    refine And.intro (fun g3 => ?_) (fun g3 => ?_)
                    · -- pc 27 .ifCond .eq 12: yes
                      exact absurd (show I 38 1 = 0 from s1.trans g3) h3
                    · -- pc 27 .ifCond .eq 12: no
                      refine And.intro (by unfold vp_in; decide) ?_
                      refine And.intro (fun g4 => ?_) (fun g4 => ?_)
                      · -- pc 36 .ifCond .ne 11: yes
                        refine And.intro (by unfold vp_in; decide) ?_
                        refine And.intro (by unfold vp_in; decide) ?_
                        refine And.intro (fun g5 => ?_) (fun g5 => ?_)
                        · -- pc 59 .if_icmp .eq 10: yes
                          refine Mt.conseq (m_part2 _ _ _ _ _) ?_
                          rintro _ _ _ ⟨rfl, rfl, ⟨g6, rfl⟩ | ⟨g6, rfl⟩⟩
                          · -- pc 74 call X4_isPart true
                            refine And.intro (fun hh => absurd hh (by decide)) (fun _ => ?_)
                            refine Mt.conseq (m_part1 _ _ _ _ _) ?_
                            rintro _ _ _ ⟨rfl, rfl, ⟨g7, rfl⟩ | ⟨g7, rfl⟩⟩
                            · -- pc 86 call X4_isPart true
                              refine And.intro (fun _ => ?_) (fun hh => absurd hh (by decide))
                              refine GW.weak (GW.eqIJ rfl (wJ_0 (na_cpL J 39 37 (nI A).toNatClampNeg (nI B).toNatClampNeg (nI K2).toNatClampNeg) 51 0 (fun j => (na_cpL J 39 37 (nI A).toNatClampNeg (nI B).toNatClampNeg (nI K2).toNatClampNeg) 50 (80 + A + j))).symm (l_cp1_2 sx A K2 (by omega) (nI B) 1 I (na_cpL J 39 37 (nI A).toNatClampNeg (nI B).toNatClampNeg (nI K2).toNatClampNeg) _ ?_ K2 0 (by omega))) ⟨rfl, rfl, rfl, rfl, rfl, rfl, rfl, trivial⟩
                              refine GW.run kX4_copy (fun pc => Nat.beq pc 139) 127 74 rfl ?_
                              refine GW.weak (GW.eqIJ rfl (wJ_0 (wJ (na_cpL J 39 37 (nI A).toNatClampNeg (nI B).toNatClampNeg (nI K2).toNatClampNeg) 51 0 K2 (fun j => (na_cpL J 39 37 (nI A).toNatClampNeg (nI B).toNatClampNeg (nI K2).toNatClampNeg) 50 (80 + A + j))) 50 (40 + B) (fun j => (na_cpL J 39 37 (nI A).toNatClampNeg (nI B).toNatClampNeg (nI K2).toNatClampNeg) 50 (80 + A + j))).symm (l_cp2_1 sx B K2 (by omega) (fun j => (na_cpL J 39 37 (nI A).toNatClampNeg (nI B).toNatClampNeg (nI K2).toNatClampNeg) 50 (80 + A + j)) I (wJ (na_cpL J 39 37 (nI A).toNatClampNeg (nI B).toNatClampNeg (nI K2).toNatClampNeg) 51 0 K2 (fun j => (na_cpL J 39 37 (nI A).toNatClampNeg (nI B).toNatClampNeg (nI K2).toNatClampNeg) 50 (80 + A + j))) (fun j hj => by rw [wJ_on, if_pos (by omega)]; rfl) _ ?_ K2 0 (by omega))) ⟨rfl, rfl, rfl, rfl, rfl, trivial⟩
                              refine ⟨rfl, ?_⟩
                              exact hS.copied (s := 2) (t := 1) (A := A) (B := B) (K := K2) (by decide) (by decide) s4 t4 s3 t3 hA hB (u := (fun j => (na_cpL J 39 37 (nI A).toNatClampNeg (nI B).toNatClampNeg (nI K2).toNatClampNeg) 50 (80 + A + j))) (fun j hj => rfl) (fun a ha => by rw [wJ_off ha, hcA, hcB, hcK])
                            · -- pc 86 call X4_isPart false
                              exact absurd (show strP _ _ (I 49 1) by rw [← t45]; exact h9) g7
                          · -- pc 74 call X4_isPart false
                            exact absurd (show strP _ _ (I 49 2) by rw [← s45]; exact h8) g6
                        · -- pc 59 .if_icmp .eq 10: no
                          exact absurd (show I 48 2 = I 48 1 from s1.symm.trans ((show I 38 1 = I 36 1 from h7).trans t1)) g5
                      · -- pc 36 .ifCond .ne 11: no
                        exact absurd (show I 36 1 = 0 from t1.trans g4) h5
                  · -- pc 8 call X4_isSheet false
                    exact absurd (by decide) g2
                · -- pc 1 call X4_isSheet false
                  exact absurd (by decide) g1
              · -- pc 97 call X1_hasStretch false
                refine And.intro (fun hh => absurd hh (by decide)) (fun _ => ?_)
                refine Mt.conseq (c_fnd0 _ _ _) ?_
                rintro _ _ _ ⟨rfl, rfl, rfl⟩
                refine ⟨trivial, _, rfl, ?_⟩
                refine Mt.of2 _ rfl (by decide +kernel) (Nat.le_of_ble_eq_true rfl) ?_
                refine GW.run kX4_copy (fun pc => Nat.beq pc 102) 127 0 rfl ?_
                refine Mt.conseq (m_isSheet _ _ _ _) ?_
                rintro _ _ _ ⟨rfl, rfl, ⟨g1, rfl⟩ | ⟨g1, rfl⟩⟩
                · -- pc 1 call X4_isSheet true
                  refine And.intro (fun hh => absurd hh (by decide)) (fun _ => ?_)
                  refine Mt.conseq (m_isSheet _ _ _ _) ?_
                  rintro _ _ _ ⟨rfl, rfl, ⟨g2, rfl⟩ | ⟨g2, rfl⟩⟩
                  · -- pc 8 call X4_isSheet true
                    refine And.intro (fun _ => ?_) (fun hh => absurd hh (by decide))
                    refine And.intro (by unfold vp_in; decide) ?_
                    refine And.intro (fun g3 => ?_) (fun g3 => ?_)
                    · -- pc 27 .ifCond .eq 12: yes
                      exact absurd (show I 38 1 = 0 from s1.trans g3) h3
                    · -- pc 27 .ifCond .eq 12: no
                      refine And.intro (by unfold vp_in; decide) ?_
                      refine And.intro (fun g4 => ?_) (fun g4 => ?_)
                      · -- pc 36 .ifCond .ne 11: yes
                        refine And.intro (by unfold vp_in; decide) ?_
                        refine And.intro (by unfold vp_in; decide) ?_
                        refine And.intro (fun g5 => ?_) (fun g5 => ?_)
                        · -- pc 59 .if_icmp .eq 10: yes
                          refine Mt.conseq (m_part2 _ _ _ _ _) ?_
                          rintro _ _ _ ⟨rfl, rfl, ⟨g6, rfl⟩ | ⟨g6, rfl⟩⟩
                          · -- pc 74 call X4_isPart true
                            refine And.intro (fun hh => absurd hh (by decide)) (fun _ => ?_)
                            refine Mt.conseq (m_part1 _ _ _ _ _) ?_
                            rintro _ _ _ ⟨rfl, rfl, ⟨g7, rfl⟩ | ⟨g7, rfl⟩⟩
                            · -- pc 86 call X4_isPart true
                              exact absurd (show strP _ _ (I 36 2) by rw [t45]; exact g7) h9
                            · -- pc 86 call X4_isPart false
                              refine And.intro (fun hh => absurd hh (by decide)) (fun _ => ?_)
                              refine Mt.conseq (m_fnd0 _ _ _) ?_
                              rintro _ _ _ ⟨rfl, rfl, rfl⟩
                              exact ⟨trivial, rfl, hS.found (by decide)⟩
                          · -- pc 74 call X4_isPart false
                            exact absurd (show strP _ _ (I 49 2) by rw [← s45]; exact h8) g6
                        · -- pc 59 .if_icmp .eq 10: no
                          exact absurd (show I 48 2 = I 48 1 from s1.symm.trans ((show I 38 1 = I 36 1 from h7).trans t1)) g5
                      · -- pc 36 .ifCond .ne 11: no
                        exact absurd (show I 36 1 = 0 from t1.trans g4) h5
                  · -- pc 8 call X4_isSheet false
                    exact absurd (by decide) g2
                · -- pc 1 call X4_isSheet false
                  exact absurd (by decide) g1
            · -- pc 85 call X1_hasStretch false
              refine And.intro (fun _ => ?_) (fun hh => absurd hh (by decide))
              refine Mt.conseq (c_fnd0 _ _ _) ?_
              rintro _ _ _ ⟨rfl, rfl, rfl⟩
              refine ⟨trivial, _, rfl, ?_⟩
              refine Mt.of2 _ rfl (by decide +kernel) (Nat.le_of_ble_eq_true rfl) ?_
              refine GW.run kX4_copy (fun pc => Nat.beq pc 102) 127 0 rfl ?_
              refine Mt.conseq (m_isSheet _ _ _ _) ?_
              rintro _ _ _ ⟨rfl, rfl, ⟨g1, rfl⟩ | ⟨g1, rfl⟩⟩
              · -- pc 1 call X4_isSheet true
                refine And.intro (fun hh => absurd hh (by decide)) (fun _ => ?_)
                refine Mt.conseq (m_isSheet _ _ _ _) ?_
                rintro _ _ _ ⟨rfl, rfl, ⟨g2, rfl⟩ | ⟨g2, rfl⟩⟩
                · -- pc 8 call X4_isSheet true
                  refine And.intro (fun _ => ?_) (fun hh => absurd hh (by decide))
                  refine And.intro (by unfold vp_in; decide) ?_
                  refine And.intro (fun g3 => ?_) (fun g3 => ?_)
                  · -- pc 27 .ifCond .eq 12: yes
                    exact absurd (show I 38 1 = 0 from s1.trans g3) h3
                  · -- pc 27 .ifCond .eq 12: no
                    refine And.intro (by unfold vp_in; decide) ?_
                    refine And.intro (fun g4 => ?_) (fun g4 => ?_)
                    · -- pc 36 .ifCond .ne 11: yes
                      refine And.intro (by unfold vp_in; decide) ?_
                      refine And.intro (by unfold vp_in; decide) ?_
                      refine And.intro (fun g5 => ?_) (fun g5 => ?_)
                      · -- pc 59 .if_icmp .eq 10: yes
                        refine Mt.conseq (m_part2 _ _ _ _ _) ?_
                        rintro _ _ _ ⟨rfl, rfl, ⟨g6, rfl⟩ | ⟨g6, rfl⟩⟩
                        · -- pc 74 call X4_isPart true
                          exact absurd (show strP _ _ (I 38 2) by rw [s45]; exact g6) h8
                        · -- pc 74 call X4_isPart false
                          refine And.intro (fun _ => ?_) (fun hh => absurd hh (by decide))
                          refine Mt.conseq (m_fnd0 _ _ _) ?_
                          rintro _ _ _ ⟨rfl, rfl, rfl⟩
                          exact ⟨trivial, rfl, hS.found (by decide)⟩
                      · -- pc 59 .if_icmp .eq 10: no
                        exact absurd (show I 48 2 = I 48 1 from s1.symm.trans ((show I 38 1 = I 36 1 from h7).trans t1)) g5
                    · -- pc 36 .ifCond .ne 11: no
                      exact absurd (show I 36 1 = 0 from t1.trans g4) h5
                · -- pc 8 call X4_isSheet false
                  exact absurd (by decide) g2
              · -- pc 1 call X4_isSheet false
                exact absurd (by decide) g1
          · -- pc 70 .if_icmp .eq 10: no
            refine Mt.conseq (c_fnd2 _ _ _) ?_
            rintro _ _ _ ⟨rfl, rfl, rfl⟩
            refine ⟨trivial, _, rfl, ?_⟩
            refine Mt.of2 _ rfl (by decide +kernel) (Nat.le_of_ble_eq_true rfl) ?_
            refine GW.run kX4_copy (fun pc => Nat.beq pc 102) 127 0 rfl ?_
            refine Mt.conseq (m_isSheet _ _ _ _) ?_
            rintro _ _ _ ⟨rfl, rfl, ⟨g1, rfl⟩ | ⟨g1, rfl⟩⟩
            · -- pc 1 call X4_isSheet true
              refine And.intro (fun hh => absurd hh (by decide)) (fun _ => ?_)
              refine Mt.conseq (m_isSheet _ _ _ _) ?_
              rintro _ _ _ ⟨rfl, rfl, ⟨g2, rfl⟩ | ⟨g2, rfl⟩⟩
              · -- pc 8 call X4_isSheet true
                refine And.intro (fun _ => ?_) (fun hh => absurd hh (by decide))
                refine And.intro (by unfold vp_in; decide) ?_
                refine And.intro (fun g3 => ?_) (fun g3 => ?_)
                · -- pc 27 .ifCond .eq 12: yes
                  exact absurd (show I 38 1 = 0 from s1.trans g3) h3
                · -- pc 27 .ifCond .eq 12: no
                  refine And.intro (by unfold vp_in; decide) ?_
                  refine And.intro (fun g4 => ?_) (fun g4 => ?_)
                  · -- pc 36 .ifCond .ne 11: yes
                    refine And.intro (by unfold vp_in; decide) ?_
                    refine And.intro (by unfold vp_in; decide) ?_
                    refine And.intro (fun g5 => ?_) (fun g5 => ?_)
                    · -- pc 59 .if_icmp .eq 10: yes
                      exact absurd (show I 38 1 = I 36 1 from s1.trans ((show I 48 2 = I 48 1 from g5).trans t1.symm)) h7
                    · -- pc 59 .if_icmp .eq 10: no
                      refine Mt.conseq (m_fnd2 _ _ _) ?_
                      rintro _ _ _ ⟨rfl, rfl, rfl⟩
                      exact ⟨trivial, rfl, hS.found (by decide)⟩
                  · -- pc 36 .ifCond .ne 11: no
                    exact absurd (show I 36 1 = 0 from t1.trans g4) h5
              · -- pc 8 call X4_isSheet false
                exact absurd (by decide) g2
            · -- pc 1 call X4_isSheet false
              exact absurd (by decide) g1
set_option maxRecDepth 100000 in
set_option maxHeartbeats 4000000 in
theorem pr_copy2_2 (sx : Nat × (Nat → Int32)) (fr to nn : Int32) : PrI sx MX3_copy MX4_copy [.int 2, .int fr, .int 2, .int to, .int nn] := by
  intro I J hS
  obtain ⟨s1, s2, n, s3, s4, s5, s6⟩ := hS.2.2.2.1 2 (by decide)
  obtain ⟨t1, t2, m, t3, t4, t5, t6⟩ := hS.2.2.2.1 2 (by decide)
  have s45 : I 38 2 = I 49 2 := s4.trans s5.symm
  have t45 : I 38 2 = I 49 2 := t4.trans t5.symm
  refine Mt.of2 _ rfl (by decide +kernel) (Nat.le_of_ble_eq_true rfl) ?_
  refine GW.run kX3_copy (fun _ => false) 93 0 rfl ?_
  refine Mt.conseq (c_noSheet _ _ _ _) ?_
  rintro _ _ _ ⟨rfl, rfl, ⟨h1, rfl⟩ | ⟨h1, rfl⟩⟩
  · -- pc 1 call X3_noSheet true
    exact absurd h1 (by decide)
  · -- pc 1 call X3_noSheet false
    refine And.intro (fun hh => absurd hh (by decide)) (fun _ => ?_)
    refine Mt.conseq (c_noSheet _ _ _ _) ?_
    rintro _ _ _ ⟨rfl, rfl, ⟨h2, rfl⟩ | ⟨h2, rfl⟩⟩
    · -- pc 8 call X3_noSheet true
      exact absurd h2 (by decide)
    · -- pc 8 call X3_noSheet false
      refine And.intro (fun _ => ?_) (fun hh => absurd hh (by decide))
      refine And.intro (by unfold vp_in; decide) ?_
      refine And.intro (by unfold vp_in; decide) ?_
      refine Mt.conseq (c_miss2 _ _ _) ?_
      rintro _ _ _ ⟨rfl, rfl, ⟨h3, rfl⟩ | ⟨h3, rfl⟩⟩
      · -- pc 39 call X1_isMissing true
        refine And.intro (fun _ => ?_) (fun hh => absurd hh (by decide))
        refine Mt.conseq (c_fnd5 _ _ _) ?_
        rintro _ _ _ ⟨rfl, rfl, rfl⟩
        refine ⟨trivial, _, rfl, ?_⟩
        refine Mt.of2 _ rfl (by decide +kernel) (Nat.le_of_ble_eq_true rfl) ?_
        refine GW.run kX4_copy (fun pc => Nat.beq pc 102) 127 0 rfl ?_
        refine Mt.conseq (m_isSheet _ _ _ _) ?_
        rintro _ _ _ ⟨rfl, rfl, ⟨g1, rfl⟩ | ⟨g1, rfl⟩⟩
        · -- pc 1 call X4_isSheet true
          refine And.intro (fun hh => absurd hh (by decide)) (fun _ => ?_)
          refine Mt.conseq (m_isSheet _ _ _ _) ?_
          rintro _ _ _ ⟨rfl, rfl, ⟨g2, rfl⟩ | ⟨g2, rfl⟩⟩
          · -- pc 8 call X4_isSheet true
            refine And.intro (fun _ => ?_) (fun hh => absurd hh (by decide))
            refine And.intro (by unfold vp_in; decide) ?_
            refine And.intro (fun g3 => ?_) (fun g3 => ?_)
            · -- pc 27 .ifCond .eq 12: yes
              refine Mt.conseq (m_fnd5 _ _ _) ?_
              rintro _ _ _ ⟨rfl, rfl, rfl⟩
              exact ⟨trivial, rfl, hS.found (by decide)⟩
            · -- pc 27 .ifCond .eq 12: no
              exact absurd (show I 48 2 = 0 from s1.symm.trans h3) g3
          · -- pc 8 call X4_isSheet false
            exact absurd (by decide) g2
        · -- pc 1 call X4_isSheet false
          exact absurd (by decide) g1
      · -- pc 39 call X1_isMissing false
        refine And.intro (fun hh => absurd hh (by decide)) (fun _ => ?_)
        refine Mt.conseq (c_miss2 _ _ _) ?_
        rintro _ _ _ ⟨rfl, rfl, ⟨h5, rfl⟩ | ⟨h5, rfl⟩⟩
        · -- pc 47 call X1_isMissing true
          refine And.intro (fun hh => absurd hh (by decide)) (fun _ => ?_)
          refine Mt.conseq (c_fnd5 _ _ _) ?_
          rintro _ _ _ ⟨rfl, rfl, rfl⟩
          refine ⟨trivial, _, rfl, ?_⟩
          refine Mt.of2 _ rfl (by decide +kernel) (Nat.le_of_ble_eq_true rfl) ?_
          refine GW.run kX4_copy (fun pc => Nat.beq pc 102) 127 0 rfl ?_
          refine Mt.conseq (m_isSheet _ _ _ _) ?_
          rintro _ _ _ ⟨rfl, rfl, ⟨g1, rfl⟩ | ⟨g1, rfl⟩⟩
          · -- pc 1 call X4_isSheet true
            refine And.intro (fun hh => absurd hh (by decide)) (fun _ => ?_)
            refine Mt.conseq (m_isSheet _ _ _ _) ?_
            rintro _ _ _ ⟨rfl, rfl, ⟨g2, rfl⟩ | ⟨g2, rfl⟩⟩
            · -- pc 8 call X4_isSheet true
              refine And.intro (fun _ => ?_) (fun hh => absurd hh (by decide))
              refine And.intro (by unfold vp_in; decide) ?_
              refine And.intro (fun g3 => ?_) (fun g3 => ?_)
              · -- pc 27 .ifCond .eq 12: yes
                exact absurd (show I 38 1 = 0 from s1.trans g3) h3
              · -- pc 27 .ifCond .eq 12: no
                refine And.intro (by unfold vp_in; decide) ?_
                refine And.intro (fun g4 => ?_) (fun g4 => ?_)
                · -- pc 36 .ifCond .ne 11: yes
                  exact absurd (show I 48 2 = 0 from t1.symm.trans h5) g4
                · -- pc 36 .ifCond .ne 11: no
                  refine Mt.conseq (m_fnd5 _ _ _) ?_
                  rintro _ _ _ ⟨rfl, rfl, rfl⟩
                  exact ⟨trivial, rfl, hS.found (by decide)⟩
            · -- pc 8 call X4_isSheet false
              exact absurd (by decide) g2
          · -- pc 1 call X4_isSheet false
            exact absurd (by decide) g1
        · -- pc 47 call X1_isMissing false
          refine And.intro (fun _ => ?_) (fun hh => absurd hh (by decide))
          refine And.intro (fun h7 => ?_) (fun h7 => ?_)
          · -- pc 70 .if_icmp .eq 10: yes
            refine Mt.conseq (c_str2 _ _ _ _ _) ?_
            rintro _ _ _ ⟨rfl, rfl, ⟨h8, rfl⟩ | ⟨h8, rfl⟩⟩
            · -- pc 85 call X1_hasStretch true
              refine And.intro (fun hh => absurd hh (by decide)) (fun _ => ?_)
              refine Mt.conseq (c_str2 _ _ _ _ _) ?_
              rintro _ _ _ ⟨rfl, rfl, ⟨h9, rfl⟩ | ⟨h9, rfl⟩⟩
              · -- pc 97 call X1_hasStretch true
                obtain ⟨A, K, rfl, rfl, hA⟩ := str_nat s4 s3 h8
                obtain ⟨B, K2, rfl, eK, hB⟩ := str_nat t4 t3 h9
                obtain rfl : K2 = K := by
                  have z1 : K ≤ 40 := by omega
                  have z2 : K2 ≤ 40 := by omega
                  exact ((nI_eq (by omega) (by omega)).mp eK).symm
                have hcA := nI_clamp (n := A) (by omega)
                have hcB := nI_clamp (n := B) (by omega)
                have hcK := nI_clamp (n := K2) (by omega)
                have hcp : ¬ nI A < 0 ∧ ¬ nI B < 0 ∧ ¬ nI K2 < 0 ∧ (nI A).toNatClampNeg + (nI K2).toNatClampNeg ≤ 40 ∧ (nI B).toNatClampNeg + (nI K2).toNatClampNeg ≤ 40 := ⟨nI_pos (by omega), nI_pos (by omega), nI_pos (by omega), by rw [hcA, hcK]; omega, by rw [hcB, hcK]; omega⟩
                refine And.intro (fun _ => ?_) (fun hh => absurd hh (by decide))
                refine And.intro (hcp) ?_
                refine ⟨trivial, _, rfl, ?_⟩
                refine Mt.of2 _ rfl (by decide +kernel) (Nat.le_of_ble_eq_true rfl) ?_
                refine GW.run kX4_copy (fun pc => Nat.beq pc 102) 127 0 rfl ?_
                refine Mt.conseq (m_isSheet _ _ _ _) ?_
                rintro _ _ _ ⟨rfl, rfl, ⟨g1, rfl⟩ | ⟨g1, rfl⟩⟩
                · -- pc 1 call X4_isSheet true
                  refine And.intro (fun hh => absurd hh (by decide)) (fun _ => ?_)
                  refine Mt.conseq (m_isSheet _ _ _ _) ?_
                  rintro _ _ _ ⟨rfl, rfl, ⟨g2, rfl⟩ | ⟨g2, rfl⟩⟩
                  · -- pc 8 call X4_isSheet true
                    refine And.intro (fun _ => ?_) (fun hh => absurd hh (by decide))
                    refine And.intro (by unfold vp_in; decide) ?_
                    refine And.intro (fun g3 => ?_) (fun g3 => ?_)
                    · -- pc 27 .ifCond .eq 12: yes
                      exact absurd (show I 38 1 = 0 from s1.trans g3) h3
                    · -- pc 27 .ifCond .eq 12: no
                      refine And.intro (by unfold vp_in; decide) ?_
                      refine And.intro (fun g4 => ?_) (fun g4 => ?_)
                      · -- pc 36 .ifCond .ne 11: yes
                        refine And.intro (by unfold vp_in; decide) ?_
                        refine And.intro (by unfold vp_in; decide) ?_
                        refine And.intro (fun g5 => ?_) (fun g5 => ?_)
                        · -- pc 59 .if_icmp .eq 10: yes
                          refine Mt.conseq (m_part2 _ _ _ _ _) ?_
                          rintro _ _ _ ⟨rfl, rfl, ⟨g6, rfl⟩ | ⟨g6, rfl⟩⟩
                          · -- pc 74 call X4_isPart true
                            refine And.intro (fun hh => absurd hh (by decide)) (fun _ => ?_)
                            refine Mt.conseq (m_part2 _ _ _ _ _) ?_
                            rintro _ _ _ ⟨rfl, rfl, ⟨g7, rfl⟩ | ⟨g7, rfl⟩⟩
                            · -- pc 86 call X4_isPart true
                              refine And.intro (fun _ => ?_) (fun hh => absurd hh (by decide))
                              refine GW.weak (GW.eqIJ rfl (wJ_0 (na_cpL J 39 39 (nI A).toNatClampNeg (nI B).toNatClampNeg (nI K2).toNatClampNeg) 51 0 (fun j => (na_cpL J 39 39 (nI A).toNatClampNeg (nI B).toNatClampNeg (nI K2).toNatClampNeg) 50 (80 + A + j))).symm (l_cp1_2 sx A K2 (by omega) (nI B) 2 I (na_cpL J 39 39 (nI A).toNatClampNeg (nI B).toNatClampNeg (nI K2).toNatClampNeg) _ ?_ K2 0 (by omega))) ⟨rfl, rfl, rfl, rfl, rfl, rfl, rfl, trivial⟩
                              refine GW.run kX4_copy (fun pc => Nat.beq pc 139) 127 74 rfl ?_
                              refine GW.weak (GW.eqIJ rfl (wJ_0 (wJ (na_cpL J 39 39 (nI A).toNatClampNeg (nI B).toNatClampNeg (nI K2).toNatClampNeg) 51 0 K2 (fun j => (na_cpL J 39 39 (nI A).toNatClampNeg (nI B).toNatClampNeg (nI K2).toNatClampNeg) 50 (80 + A + j))) 50 (80 + B) (fun j => (na_cpL J 39 39 (nI A).toNatClampNeg (nI B).toNatClampNeg (nI K2).toNatClampNeg) 50 (80 + A + j))).symm (l_cp2_2 sx B K2 (by omega) (fun j => (na_cpL J 39 39 (nI A).toNatClampNeg (nI B).toNatClampNeg (nI K2).toNatClampNeg) 50 (80 + A + j)) I (wJ (na_cpL J 39 39 (nI A).toNatClampNeg (nI B).toNatClampNeg (nI K2).toNatClampNeg) 51 0 K2 (fun j => (na_cpL J 39 39 (nI A).toNatClampNeg (nI B).toNatClampNeg (nI K2).toNatClampNeg) 50 (80 + A + j))) (fun j hj => by rw [wJ_on, if_pos (by omega)]; rfl) _ ?_ K2 0 (by omega))) ⟨rfl, rfl, rfl, rfl, rfl, trivial⟩
                              refine ⟨rfl, ?_⟩
                              exact hS.copied (s := 2) (t := 2) (A := A) (B := B) (K := K2) (by decide) (by decide) s4 t4 s3 t3 hA hB (u := (fun j => (na_cpL J 39 39 (nI A).toNatClampNeg (nI B).toNatClampNeg (nI K2).toNatClampNeg) 50 (80 + A + j))) (fun j hj => rfl) (fun a ha => by rw [wJ_off ha, hcA, hcB, hcK])
                            · -- pc 86 call X4_isPart false
                              exact absurd (show strP _ _ (I 49 2) by rw [← t45]; exact h9) g7
                          · -- pc 74 call X4_isPart false
                            exact absurd (show strP _ _ (I 49 2) by rw [← s45]; exact h8) g6
                        · -- pc 59 .if_icmp .eq 10: no
                          exact absurd (show I 48 2 = I 48 2 from s1.symm.trans ((show I 38 1 = I 38 1 from h7).trans t1)) g5
                      · -- pc 36 .ifCond .ne 11: no
                        exact absurd (show I 38 1 = 0 from t1.trans g4) h5
                  · -- pc 8 call X4_isSheet false
                    exact absurd (by decide) g2
                · -- pc 1 call X4_isSheet false
                  exact absurd (by decide) g1
              · -- pc 97 call X1_hasStretch false
                refine And.intro (fun hh => absurd hh (by decide)) (fun _ => ?_)
                refine Mt.conseq (c_fnd0 _ _ _) ?_
                rintro _ _ _ ⟨rfl, rfl, rfl⟩
                refine ⟨trivial, _, rfl, ?_⟩
                refine Mt.of2 _ rfl (by decide +kernel) (Nat.le_of_ble_eq_true rfl) ?_
                refine GW.run kX4_copy (fun pc => Nat.beq pc 102) 127 0 rfl ?_
                refine Mt.conseq (m_isSheet _ _ _ _) ?_
                rintro _ _ _ ⟨rfl, rfl, ⟨g1, rfl⟩ | ⟨g1, rfl⟩⟩
                · -- pc 1 call X4_isSheet true
                  refine And.intro (fun hh => absurd hh (by decide)) (fun _ => ?_)
                  refine Mt.conseq (m_isSheet _ _ _ _) ?_
                  rintro _ _ _ ⟨rfl, rfl, ⟨g2, rfl⟩ | ⟨g2, rfl⟩⟩
                  · -- pc 8 call X4_isSheet true
                    refine And.intro (fun _ => ?_) (fun hh => absurd hh (by decide))
                    refine And.intro (by unfold vp_in; decide) ?_
                    refine And.intro (fun g3 => ?_) (fun g3 => ?_)
                    · -- pc 27 .ifCond .eq 12: yes
                      exact absurd (show I 38 1 = 0 from s1.trans g3) h3
                    · -- pc 27 .ifCond .eq 12: no
                      refine And.intro (by unfold vp_in; decide) ?_
                      refine And.intro (fun g4 => ?_) (fun g4 => ?_)
                      · -- pc 36 .ifCond .ne 11: yes
                        refine And.intro (by unfold vp_in; decide) ?_
                        refine And.intro (by unfold vp_in; decide) ?_
                        refine And.intro (fun g5 => ?_) (fun g5 => ?_)
                        · -- pc 59 .if_icmp .eq 10: yes
                          refine Mt.conseq (m_part2 _ _ _ _ _) ?_
                          rintro _ _ _ ⟨rfl, rfl, ⟨g6, rfl⟩ | ⟨g6, rfl⟩⟩
                          · -- pc 74 call X4_isPart true
                            refine And.intro (fun hh => absurd hh (by decide)) (fun _ => ?_)
                            refine Mt.conseq (m_part2 _ _ _ _ _) ?_
                            rintro _ _ _ ⟨rfl, rfl, ⟨g7, rfl⟩ | ⟨g7, rfl⟩⟩
                            · -- pc 86 call X4_isPart true
                              exact absurd (show strP _ _ (I 38 2) by rw [t45]; exact g7) h9
                            · -- pc 86 call X4_isPart false
                              refine And.intro (fun hh => absurd hh (by decide)) (fun _ => ?_)
                              refine Mt.conseq (m_fnd0 _ _ _) ?_
                              rintro _ _ _ ⟨rfl, rfl, rfl⟩
                              exact ⟨trivial, rfl, hS.found (by decide)⟩
                          · -- pc 74 call X4_isPart false
                            exact absurd (show strP _ _ (I 49 2) by rw [← s45]; exact h8) g6
                        · -- pc 59 .if_icmp .eq 10: no
                          exact absurd (show I 48 2 = I 48 2 from s1.symm.trans ((show I 38 1 = I 38 1 from h7).trans t1)) g5
                      · -- pc 36 .ifCond .ne 11: no
                        exact absurd (show I 38 1 = 0 from t1.trans g4) h5
                  · -- pc 8 call X4_isSheet false
                    exact absurd (by decide) g2
                · -- pc 1 call X4_isSheet false
                  exact absurd (by decide) g1
            · -- pc 85 call X1_hasStretch false
              refine And.intro (fun _ => ?_) (fun hh => absurd hh (by decide))
              refine Mt.conseq (c_fnd0 _ _ _) ?_
              rintro _ _ _ ⟨rfl, rfl, rfl⟩
              refine ⟨trivial, _, rfl, ?_⟩
              refine Mt.of2 _ rfl (by decide +kernel) (Nat.le_of_ble_eq_true rfl) ?_
              refine GW.run kX4_copy (fun pc => Nat.beq pc 102) 127 0 rfl ?_
              refine Mt.conseq (m_isSheet _ _ _ _) ?_
              rintro _ _ _ ⟨rfl, rfl, ⟨g1, rfl⟩ | ⟨g1, rfl⟩⟩
              · -- pc 1 call X4_isSheet true
                refine And.intro (fun hh => absurd hh (by decide)) (fun _ => ?_)
                refine Mt.conseq (m_isSheet _ _ _ _) ?_
                rintro _ _ _ ⟨rfl, rfl, ⟨g2, rfl⟩ | ⟨g2, rfl⟩⟩
                · -- pc 8 call X4_isSheet true
                  refine And.intro (fun _ => ?_) (fun hh => absurd hh (by decide))
                  refine And.intro (by unfold vp_in; decide) ?_
                  refine And.intro (fun g3 => ?_) (fun g3 => ?_)
                  · -- pc 27 .ifCond .eq 12: yes
                    exact absurd (show I 38 1 = 0 from s1.trans g3) h3
                  · -- pc 27 .ifCond .eq 12: no
                    refine And.intro (by unfold vp_in; decide) ?_
                    refine And.intro (fun g4 => ?_) (fun g4 => ?_)
                    · -- pc 36 .ifCond .ne 11: yes
                      refine And.intro (by unfold vp_in; decide) ?_
                      refine And.intro (by unfold vp_in; decide) ?_
                      refine And.intro (fun g5 => ?_) (fun g5 => ?_)
                      · -- pc 59 .if_icmp .eq 10: yes
                        refine Mt.conseq (m_part2 _ _ _ _ _) ?_
                        rintro _ _ _ ⟨rfl, rfl, ⟨g6, rfl⟩ | ⟨g6, rfl⟩⟩
                        · -- pc 74 call X4_isPart true
                          exact absurd (show strP _ _ (I 38 2) by rw [s45]; exact g6) h8
                        · -- pc 74 call X4_isPart false
                          refine And.intro (fun _ => ?_) (fun hh => absurd hh (by decide))
                          refine Mt.conseq (m_fnd0 _ _ _) ?_
                          rintro _ _ _ ⟨rfl, rfl, rfl⟩
                          exact ⟨trivial, rfl, hS.found (by decide)⟩
                      · -- pc 59 .if_icmp .eq 10: no
                        exact absurd (show I 48 2 = I 48 2 from s1.symm.trans ((show I 38 1 = I 38 1 from h7).trans t1)) g5
                    · -- pc 36 .ifCond .ne 11: no
                      exact absurd (show I 38 1 = 0 from t1.trans g4) h5
                · -- pc 8 call X4_isSheet false
                  exact absurd (by decide) g2
              · -- pc 1 call X4_isSheet false
                exact absurd (by decide) g1
          · -- pc 70 .if_icmp .eq 10: no
            refine Mt.conseq (c_fnd2 _ _ _) ?_
            rintro _ _ _ ⟨rfl, rfl, rfl⟩
            refine ⟨trivial, _, rfl, ?_⟩
            refine Mt.of2 _ rfl (by decide +kernel) (Nat.le_of_ble_eq_true rfl) ?_
            refine GW.run kX4_copy (fun pc => Nat.beq pc 102) 127 0 rfl ?_
            refine Mt.conseq (m_isSheet _ _ _ _) ?_
            rintro _ _ _ ⟨rfl, rfl, ⟨g1, rfl⟩ | ⟨g1, rfl⟩⟩
            · -- pc 1 call X4_isSheet true
              refine And.intro (fun hh => absurd hh (by decide)) (fun _ => ?_)
              refine Mt.conseq (m_isSheet _ _ _ _) ?_
              rintro _ _ _ ⟨rfl, rfl, ⟨g2, rfl⟩ | ⟨g2, rfl⟩⟩
              · -- pc 8 call X4_isSheet true
                refine And.intro (fun _ => ?_) (fun hh => absurd hh (by decide))
                refine And.intro (by unfold vp_in; decide) ?_
                refine And.intro (fun g3 => ?_) (fun g3 => ?_)
                · -- pc 27 .ifCond .eq 12: yes
                  exact absurd (show I 38 1 = 0 from s1.trans g3) h3
                · -- pc 27 .ifCond .eq 12: no
                  refine And.intro (by unfold vp_in; decide) ?_
                  refine And.intro (fun g4 => ?_) (fun g4 => ?_)
                  · -- pc 36 .ifCond .ne 11: yes
                    refine And.intro (by unfold vp_in; decide) ?_
                    refine And.intro (by unfold vp_in; decide) ?_
                    refine And.intro (fun g5 => ?_) (fun g5 => ?_)
                    · -- pc 59 .if_icmp .eq 10: yes
                      exact absurd (show I 38 1 = I 38 1 from s1.trans ((show I 48 2 = I 48 2 from g5).trans t1.symm)) h7
                    · -- pc 59 .if_icmp .eq 10: no
                      refine Mt.conseq (m_fnd2 _ _ _) ?_
                      rintro _ _ _ ⟨rfl, rfl, rfl⟩
                      exact ⟨trivial, rfl, hS.found (by decide)⟩
                  · -- pc 36 .ifCond .ne 11: no
                    exact absurd (show I 38 1 = 0 from t1.trans g4) h5
              · -- pc 8 call X4_isSheet false
                exact absurd (by decide) g2
            · -- pc 1 call X4_isSheet false
              exact absurd (by decide) g1
set_option maxRecDepth 100000 in
set_option maxHeartbeats 4000000 in
theorem pr_copy2_3 (sx : Nat × (Nat → Int32)) (fr to nn : Int32) : PrI sx MX3_copy MX4_copy [.int 2, .int fr, .int 3, .int to, .int nn] := by
  intro I J hS
  obtain ⟨s1, s2, n, s3, s4, s5, s6⟩ := hS.2.2.2.1 2 (by decide)
  obtain ⟨t1, t2, m, t3, t4, t5, t6⟩ := hS.2.2.2.1 3 (by decide)
  have s45 : I 38 2 = I 49 2 := s4.trans s5.symm
  have t45 : I 40 2 = I 49 3 := t4.trans t5.symm
  refine Mt.of2 _ rfl (by decide +kernel) (Nat.le_of_ble_eq_true rfl) ?_
  refine GW.run kX3_copy (fun _ => false) 93 0 rfl ?_
  refine Mt.conseq (c_noSheet _ _ _ _) ?_
  rintro _ _ _ ⟨rfl, rfl, ⟨h1, rfl⟩ | ⟨h1, rfl⟩⟩
  · -- pc 1 call X3_noSheet true
    exact absurd h1 (by decide)
  · -- pc 1 call X3_noSheet false
    refine And.intro (fun hh => absurd hh (by decide)) (fun _ => ?_)
    refine Mt.conseq (c_noSheet _ _ _ _) ?_
    rintro _ _ _ ⟨rfl, rfl, ⟨h2, rfl⟩ | ⟨h2, rfl⟩⟩
    · -- pc 8 call X3_noSheet true
      exact absurd h2 (by decide)
    · -- pc 8 call X3_noSheet false
      refine And.intro (fun _ => ?_) (fun hh => absurd hh (by decide))
      refine And.intro (by unfold vp_in; decide) ?_
      refine And.intro (by unfold vp_in; decide) ?_
      refine Mt.conseq (c_miss2 _ _ _) ?_
      rintro _ _ _ ⟨rfl, rfl, ⟨h3, rfl⟩ | ⟨h3, rfl⟩⟩
      · -- pc 39 call X1_isMissing true
        refine And.intro (fun _ => ?_) (fun hh => absurd hh (by decide))
        refine Mt.conseq (c_fnd5 _ _ _) ?_
        rintro _ _ _ ⟨rfl, rfl, rfl⟩
        refine ⟨trivial, _, rfl, ?_⟩
        refine Mt.of2 _ rfl (by decide +kernel) (Nat.le_of_ble_eq_true rfl) ?_
        refine GW.run kX4_copy (fun pc => Nat.beq pc 102) 127 0 rfl ?_
        refine Mt.conseq (m_isSheet _ _ _ _) ?_
        rintro _ _ _ ⟨rfl, rfl, ⟨g1, rfl⟩ | ⟨g1, rfl⟩⟩
        · -- pc 1 call X4_isSheet true
          refine And.intro (fun hh => absurd hh (by decide)) (fun _ => ?_)
          refine Mt.conseq (m_isSheet _ _ _ _) ?_
          rintro _ _ _ ⟨rfl, rfl, ⟨g2, rfl⟩ | ⟨g2, rfl⟩⟩
          · -- pc 8 call X4_isSheet true
            refine And.intro (fun _ => ?_) (fun hh => absurd hh (by decide))
            refine And.intro (by unfold vp_in; decide) ?_
            refine And.intro (fun g3 => ?_) (fun g3 => ?_)
            · -- pc 27 .ifCond .eq 12: yes
              refine Mt.conseq (m_fnd5 _ _ _) ?_
              rintro _ _ _ ⟨rfl, rfl, rfl⟩
              exact ⟨trivial, rfl, hS.found (by decide)⟩
            · -- pc 27 .ifCond .eq 12: no
              exact absurd (show I 48 2 = 0 from s1.symm.trans h3) g3
          · -- pc 8 call X4_isSheet false
            exact absurd (by decide) g2
        · -- pc 1 call X4_isSheet false
          exact absurd (by decide) g1
      · -- pc 39 call X1_isMissing false
        refine And.intro (fun hh => absurd hh (by decide)) (fun _ => ?_)
        refine Mt.conseq (c_miss3 _ _ _) ?_
        rintro _ _ _ ⟨rfl, rfl, ⟨h5, rfl⟩ | ⟨h5, rfl⟩⟩
        · -- pc 47 call X1_isMissing true
          refine And.intro (fun hh => absurd hh (by decide)) (fun _ => ?_)
          refine Mt.conseq (c_fnd5 _ _ _) ?_
          rintro _ _ _ ⟨rfl, rfl, rfl⟩
          refine ⟨trivial, _, rfl, ?_⟩
          refine Mt.of2 _ rfl (by decide +kernel) (Nat.le_of_ble_eq_true rfl) ?_
          refine GW.run kX4_copy (fun pc => Nat.beq pc 102) 127 0 rfl ?_
          refine Mt.conseq (m_isSheet _ _ _ _) ?_
          rintro _ _ _ ⟨rfl, rfl, ⟨g1, rfl⟩ | ⟨g1, rfl⟩⟩
          · -- pc 1 call X4_isSheet true
            refine And.intro (fun hh => absurd hh (by decide)) (fun _ => ?_)
            refine Mt.conseq (m_isSheet _ _ _ _) ?_
            rintro _ _ _ ⟨rfl, rfl, ⟨g2, rfl⟩ | ⟨g2, rfl⟩⟩
            · -- pc 8 call X4_isSheet true
              refine And.intro (fun _ => ?_) (fun hh => absurd hh (by decide))
              refine And.intro (by unfold vp_in; decide) ?_
              refine And.intro (fun g3 => ?_) (fun g3 => ?_)
              · -- pc 27 .ifCond .eq 12: yes
                exact absurd (show I 38 1 = 0 from s1.trans g3) h3
              · -- pc 27 .ifCond .eq 12: no
                refine And.intro (by unfold vp_in; decide) ?_
                refine And.intro (fun g4 => ?_) (fun g4 => ?_)
                · -- pc 36 .ifCond .ne 11: yes
                  exact absurd (show I 48 3 = 0 from t1.symm.trans h5) g4
                · -- pc 36 .ifCond .ne 11: no
                  refine Mt.conseq (m_fnd5 _ _ _) ?_
                  rintro _ _ _ ⟨rfl, rfl, rfl⟩
                  exact ⟨trivial, rfl, hS.found (by decide)⟩
            · -- pc 8 call X4_isSheet false
              exact absurd (by decide) g2
          · -- pc 1 call X4_isSheet false
            exact absurd (by decide) g1
        · -- pc 47 call X1_isMissing false
          refine And.intro (fun _ => ?_) (fun hh => absurd hh (by decide))
          refine And.intro (fun h7 => ?_) (fun h7 => ?_)
          · -- pc 70 .if_icmp .eq 10: yes
            refine Mt.conseq (c_str2 _ _ _ _ _) ?_
            rintro _ _ _ ⟨rfl, rfl, ⟨h8, rfl⟩ | ⟨h8, rfl⟩⟩
            · -- pc 85 call X1_hasStretch true
              refine And.intro (fun hh => absurd hh (by decide)) (fun _ => ?_)
              refine Mt.conseq (c_str3 _ _ _ _ _) ?_
              rintro _ _ _ ⟨rfl, rfl, ⟨h9, rfl⟩ | ⟨h9, rfl⟩⟩
              · -- pc 97 call X1_hasStretch true
                obtain ⟨A, K, rfl, rfl, hA⟩ := str_nat s4 s3 h8
                obtain ⟨B, K2, rfl, eK, hB⟩ := str_nat t4 t3 h9
                obtain rfl : K2 = K := by
                  have z1 : K ≤ 40 := by omega
                  have z2 : K2 ≤ 40 := by omega
                  exact ((nI_eq (by omega) (by omega)).mp eK).symm
                have hcA := nI_clamp (n := A) (by omega)
                have hcB := nI_clamp (n := B) (by omega)
                have hcK := nI_clamp (n := K2) (by omega)
                have hcp : ¬ nI A < 0 ∧ ¬ nI B < 0 ∧ ¬ nI K2 < 0 ∧ (nI A).toNatClampNeg + (nI K2).toNatClampNeg ≤ 40 ∧ (nI B).toNatClampNeg + (nI K2).toNatClampNeg ≤ 40 := ⟨nI_pos (by omega), nI_pos (by omega), nI_pos (by omega), by rw [hcA, hcK]; omega, by rw [hcB, hcK]; omega⟩
                refine And.intro (fun _ => ?_) (fun hh => absurd hh (by decide))
                refine And.intro (hcp) ?_
                refine ⟨trivial, _, rfl, ?_⟩
                refine Mt.of2 _ rfl (by decide +kernel) (Nat.le_of_ble_eq_true rfl) ?_
                refine GW.run kX4_copy (fun pc => Nat.beq pc 102) 127 0 rfl ?_
                refine Mt.conseq (m_isSheet _ _ _ _) ?_
                rintro _ _ _ ⟨rfl, rfl, ⟨g1, rfl⟩ | ⟨g1, rfl⟩⟩
                · -- pc 1 call X4_isSheet true
                  refine And.intro (fun hh => absurd hh (by decide)) (fun _ => ?_)
                  refine Mt.conseq (m_isSheet _ _ _ _) ?_
                  rintro _ _ _ ⟨rfl, rfl, ⟨g2, rfl⟩ | ⟨g2, rfl⟩⟩
                  · -- pc 8 call X4_isSheet true
                    refine And.intro (fun _ => ?_) (fun hh => absurd hh (by decide))
                    refine And.intro (by unfold vp_in; decide) ?_
                    refine And.intro (fun g3 => ?_) (fun g3 => ?_)
                    · -- pc 27 .ifCond .eq 12: yes
                      exact absurd (show I 38 1 = 0 from s1.trans g3) h3
                    · -- pc 27 .ifCond .eq 12: no
                      refine And.intro (by unfold vp_in; decide) ?_
                      refine And.intro (fun g4 => ?_) (fun g4 => ?_)
                      · -- pc 36 .ifCond .ne 11: yes
                        refine And.intro (by unfold vp_in; decide) ?_
                        refine And.intro (by unfold vp_in; decide) ?_
                        refine And.intro (fun g5 => ?_) (fun g5 => ?_)
                        · -- pc 59 .if_icmp .eq 10: yes
                          refine Mt.conseq (m_part2 _ _ _ _ _) ?_
                          rintro _ _ _ ⟨rfl, rfl, ⟨g6, rfl⟩ | ⟨g6, rfl⟩⟩
                          · -- pc 74 call X4_isPart true
                            refine And.intro (fun hh => absurd hh (by decide)) (fun _ => ?_)
                            refine Mt.conseq (m_part3 _ _ _ _ _) ?_
                            rintro _ _ _ ⟨rfl, rfl, ⟨g7, rfl⟩ | ⟨g7, rfl⟩⟩
                            · -- pc 86 call X4_isPart true
                              refine And.intro (fun _ => ?_) (fun hh => absurd hh (by decide))
                              refine GW.weak (GW.eqIJ rfl (wJ_0 (na_cpL J 39 41 (nI A).toNatClampNeg (nI B).toNatClampNeg (nI K2).toNatClampNeg) 51 0 (fun j => (na_cpL J 39 41 (nI A).toNatClampNeg (nI B).toNatClampNeg (nI K2).toNatClampNeg) 50 (80 + A + j))).symm (l_cp1_2 sx A K2 (by omega) (nI B) 3 I (na_cpL J 39 41 (nI A).toNatClampNeg (nI B).toNatClampNeg (nI K2).toNatClampNeg) _ ?_ K2 0 (by omega))) ⟨rfl, rfl, rfl, rfl, rfl, rfl, rfl, trivial⟩
                              refine GW.run kX4_copy (fun pc => Nat.beq pc 139) 127 74 rfl ?_
                              refine GW.weak (GW.eqIJ rfl (wJ_0 (wJ (na_cpL J 39 41 (nI A).toNatClampNeg (nI B).toNatClampNeg (nI K2).toNatClampNeg) 51 0 K2 (fun j => (na_cpL J 39 41 (nI A).toNatClampNeg (nI B).toNatClampNeg (nI K2).toNatClampNeg) 50 (80 + A + j))) 50 (120 + B) (fun j => (na_cpL J 39 41 (nI A).toNatClampNeg (nI B).toNatClampNeg (nI K2).toNatClampNeg) 50 (80 + A + j))).symm (l_cp2_3 sx B K2 (by omega) (fun j => (na_cpL J 39 41 (nI A).toNatClampNeg (nI B).toNatClampNeg (nI K2).toNatClampNeg) 50 (80 + A + j)) I (wJ (na_cpL J 39 41 (nI A).toNatClampNeg (nI B).toNatClampNeg (nI K2).toNatClampNeg) 51 0 K2 (fun j => (na_cpL J 39 41 (nI A).toNatClampNeg (nI B).toNatClampNeg (nI K2).toNatClampNeg) 50 (80 + A + j))) (fun j hj => by rw [wJ_on, if_pos (by omega)]; rfl) _ ?_ K2 0 (by omega))) ⟨rfl, rfl, rfl, rfl, rfl, trivial⟩
                              refine ⟨rfl, ?_⟩
                              exact hS.copied (s := 2) (t := 3) (A := A) (B := B) (K := K2) (by decide) (by decide) s4 t4 s3 t3 hA hB (u := (fun j => (na_cpL J 39 41 (nI A).toNatClampNeg (nI B).toNatClampNeg (nI K2).toNatClampNeg) 50 (80 + A + j))) (fun j hj => rfl) (fun a ha => by rw [wJ_off ha, hcA, hcB, hcK])
                            · -- pc 86 call X4_isPart false
                              exact absurd (show strP _ _ (I 49 3) by rw [← t45]; exact h9) g7
                          · -- pc 74 call X4_isPart false
                            exact absurd (show strP _ _ (I 49 2) by rw [← s45]; exact h8) g6
                        · -- pc 59 .if_icmp .eq 10: no
                          exact absurd (show I 48 2 = I 48 3 from s1.symm.trans ((show I 38 1 = I 40 1 from h7).trans t1)) g5
                      · -- pc 36 .ifCond .ne 11: no
                        exact absurd (show I 40 1 = 0 from t1.trans g4) h5
                  · -- pc 8 call X4_isSheet false
                    exact absurd (by decide) g2
                · -- pc 1 call X4_isSheet false
                  exact absurd (by decide) g1
              · -- pc 97 call X1_hasStretch false
                refine And.intro (fun hh => absurd hh (by decide)) (fun _ => ?_)
                refine Mt.conseq (c_fnd0 _ _ _) ?_
                rintro _ _ _ ⟨rfl, rfl, rfl⟩
                refine ⟨trivial, _, rfl, ?_⟩
                refine Mt.of2 _ rfl (by decide +kernel) (Nat.le_of_ble_eq_true rfl) ?_
                refine GW.run kX4_copy (fun pc => Nat.beq pc 102) 127 0 rfl ?_
                refine Mt.conseq (m_isSheet _ _ _ _) ?_
                rintro _ _ _ ⟨rfl, rfl, ⟨g1, rfl⟩ | ⟨g1, rfl⟩⟩
                · -- pc 1 call X4_isSheet true
                  refine And.intro (fun hh => absurd hh (by decide)) (fun _ => ?_)
                  refine Mt.conseq (m_isSheet _ _ _ _) ?_
                  rintro _ _ _ ⟨rfl, rfl, ⟨g2, rfl⟩ | ⟨g2, rfl⟩⟩
                  · -- pc 8 call X4_isSheet true
                    refine And.intro (fun _ => ?_) (fun hh => absurd hh (by decide))
                    refine And.intro (by unfold vp_in; decide) ?_
                    refine And.intro (fun g3 => ?_) (fun g3 => ?_)
                    · -- pc 27 .ifCond .eq 12: yes
                      exact absurd (show I 38 1 = 0 from s1.trans g3) h3
                    · -- pc 27 .ifCond .eq 12: no
                      refine And.intro (by unfold vp_in; decide) ?_
                      refine And.intro (fun g4 => ?_) (fun g4 => ?_)
                      · -- pc 36 .ifCond .ne 11: yes
                        refine And.intro (by unfold vp_in; decide) ?_
                        refine And.intro (by unfold vp_in; decide) ?_
                        refine And.intro (fun g5 => ?_) (fun g5 => ?_)
                        · -- pc 59 .if_icmp .eq 10: yes
                          refine Mt.conseq (m_part2 _ _ _ _ _) ?_
                          rintro _ _ _ ⟨rfl, rfl, ⟨g6, rfl⟩ | ⟨g6, rfl⟩⟩
                          · -- pc 74 call X4_isPart true
                            refine And.intro (fun hh => absurd hh (by decide)) (fun _ => ?_)
                            refine Mt.conseq (m_part3 _ _ _ _ _) ?_
                            rintro _ _ _ ⟨rfl, rfl, ⟨g7, rfl⟩ | ⟨g7, rfl⟩⟩
                            · -- pc 86 call X4_isPart true
                              exact absurd (show strP _ _ (I 40 2) by rw [t45]; exact g7) h9
                            · -- pc 86 call X4_isPart false
                              refine And.intro (fun hh => absurd hh (by decide)) (fun _ => ?_)
                              refine Mt.conseq (m_fnd0 _ _ _) ?_
                              rintro _ _ _ ⟨rfl, rfl, rfl⟩
                              exact ⟨trivial, rfl, hS.found (by decide)⟩
                          · -- pc 74 call X4_isPart false
                            exact absurd (show strP _ _ (I 49 2) by rw [← s45]; exact h8) g6
                        · -- pc 59 .if_icmp .eq 10: no
                          exact absurd (show I 48 2 = I 48 3 from s1.symm.trans ((show I 38 1 = I 40 1 from h7).trans t1)) g5
                      · -- pc 36 .ifCond .ne 11: no
                        exact absurd (show I 40 1 = 0 from t1.trans g4) h5
                  · -- pc 8 call X4_isSheet false
                    exact absurd (by decide) g2
                · -- pc 1 call X4_isSheet false
                  exact absurd (by decide) g1
            · -- pc 85 call X1_hasStretch false
              refine And.intro (fun _ => ?_) (fun hh => absurd hh (by decide))
              refine Mt.conseq (c_fnd0 _ _ _) ?_
              rintro _ _ _ ⟨rfl, rfl, rfl⟩
              refine ⟨trivial, _, rfl, ?_⟩
              refine Mt.of2 _ rfl (by decide +kernel) (Nat.le_of_ble_eq_true rfl) ?_
              refine GW.run kX4_copy (fun pc => Nat.beq pc 102) 127 0 rfl ?_
              refine Mt.conseq (m_isSheet _ _ _ _) ?_
              rintro _ _ _ ⟨rfl, rfl, ⟨g1, rfl⟩ | ⟨g1, rfl⟩⟩
              · -- pc 1 call X4_isSheet true
                refine And.intro (fun hh => absurd hh (by decide)) (fun _ => ?_)
                refine Mt.conseq (m_isSheet _ _ _ _) ?_
                rintro _ _ _ ⟨rfl, rfl, ⟨g2, rfl⟩ | ⟨g2, rfl⟩⟩
                · -- pc 8 call X4_isSheet true
                  refine And.intro (fun _ => ?_) (fun hh => absurd hh (by decide))
                  refine And.intro (by unfold vp_in; decide) ?_
                  refine And.intro (fun g3 => ?_) (fun g3 => ?_)
                  · -- pc 27 .ifCond .eq 12: yes
                    exact absurd (show I 38 1 = 0 from s1.trans g3) h3
                  · -- pc 27 .ifCond .eq 12: no
                    refine And.intro (by unfold vp_in; decide) ?_
                    refine And.intro (fun g4 => ?_) (fun g4 => ?_)
                    · -- pc 36 .ifCond .ne 11: yes
                      refine And.intro (by unfold vp_in; decide) ?_
                      refine And.intro (by unfold vp_in; decide) ?_
                      refine And.intro (fun g5 => ?_) (fun g5 => ?_)
                      · -- pc 59 .if_icmp .eq 10: yes
                        refine Mt.conseq (m_part2 _ _ _ _ _) ?_
                        rintro _ _ _ ⟨rfl, rfl, ⟨g6, rfl⟩ | ⟨g6, rfl⟩⟩
                        · -- pc 74 call X4_isPart true
                          exact absurd (show strP _ _ (I 38 2) by rw [s45]; exact g6) h8
                        · -- pc 74 call X4_isPart false
                          refine And.intro (fun _ => ?_) (fun hh => absurd hh (by decide))
                          refine Mt.conseq (m_fnd0 _ _ _) ?_
                          rintro _ _ _ ⟨rfl, rfl, rfl⟩
                          exact ⟨trivial, rfl, hS.found (by decide)⟩
                      · -- pc 59 .if_icmp .eq 10: no
                        exact absurd (show I 48 2 = I 48 3 from s1.symm.trans ((show I 38 1 = I 40 1 from h7).trans t1)) g5
                    · -- pc 36 .ifCond .ne 11: no
                      exact absurd (show I 40 1 = 0 from t1.trans g4) h5
                · -- pc 8 call X4_isSheet false
                  exact absurd (by decide) g2
              · -- pc 1 call X4_isSheet false
                exact absurd (by decide) g1
          · -- pc 70 .if_icmp .eq 10: no
            refine Mt.conseq (c_fnd2 _ _ _) ?_
            rintro _ _ _ ⟨rfl, rfl, rfl⟩
            refine ⟨trivial, _, rfl, ?_⟩
            refine Mt.of2 _ rfl (by decide +kernel) (Nat.le_of_ble_eq_true rfl) ?_
            refine GW.run kX4_copy (fun pc => Nat.beq pc 102) 127 0 rfl ?_
            refine Mt.conseq (m_isSheet _ _ _ _) ?_
            rintro _ _ _ ⟨rfl, rfl, ⟨g1, rfl⟩ | ⟨g1, rfl⟩⟩
            · -- pc 1 call X4_isSheet true
              refine And.intro (fun hh => absurd hh (by decide)) (fun _ => ?_)
              refine Mt.conseq (m_isSheet _ _ _ _) ?_
              rintro _ _ _ ⟨rfl, rfl, ⟨g2, rfl⟩ | ⟨g2, rfl⟩⟩
              · -- pc 8 call X4_isSheet true
                refine And.intro (fun _ => ?_) (fun hh => absurd hh (by decide))
                refine And.intro (by unfold vp_in; decide) ?_
                refine And.intro (fun g3 => ?_) (fun g3 => ?_)
                · -- pc 27 .ifCond .eq 12: yes
                  exact absurd (show I 38 1 = 0 from s1.trans g3) h3
                · -- pc 27 .ifCond .eq 12: no
                  refine And.intro (by unfold vp_in; decide) ?_
                  refine And.intro (fun g4 => ?_) (fun g4 => ?_)
                  · -- pc 36 .ifCond .ne 11: yes
                    refine And.intro (by unfold vp_in; decide) ?_
                    refine And.intro (by unfold vp_in; decide) ?_
                    refine And.intro (fun g5 => ?_) (fun g5 => ?_)
                    · -- pc 59 .if_icmp .eq 10: yes
                      exact absurd (show I 38 1 = I 40 1 from s1.trans ((show I 48 2 = I 48 3 from g5).trans t1.symm)) h7
                    · -- pc 59 .if_icmp .eq 10: no
                      refine Mt.conseq (m_fnd2 _ _ _) ?_
                      rintro _ _ _ ⟨rfl, rfl, rfl⟩
                      exact ⟨trivial, rfl, hS.found (by decide)⟩
                  · -- pc 36 .ifCond .ne 11: no
                    exact absurd (show I 40 1 = 0 from t1.trans g4) h5
              · -- pc 8 call X4_isSheet false
                exact absurd (by decide) g2
            · -- pc 1 call X4_isSheet false
              exact absurd (by decide) g1
set_option maxRecDepth 100000 in
set_option maxHeartbeats 4000000 in
theorem pr_copy3_0 (sx : Nat × (Nat → Int32)) (fr to nn : Int32) : PrI sx MX3_copy MX4_copy [.int 3, .int fr, .int 0, .int to, .int nn] := by
  intro I J hS
  obtain ⟨s1, s2, n, s3, s4, s5, s6⟩ := hS.2.2.2.1 3 (by decide)
  obtain ⟨t1, t2, m, t3, t4, t5, t6⟩ := hS.2.2.2.1 0 (by decide)
  have s45 : I 40 2 = I 49 3 := s4.trans s5.symm
  have t45 : I 34 2 = I 49 0 := t4.trans t5.symm
  refine Mt.of2 _ rfl (by decide +kernel) (Nat.le_of_ble_eq_true rfl) ?_
  refine GW.run kX3_copy (fun _ => false) 93 0 rfl ?_
  refine Mt.conseq (c_noSheet _ _ _ _) ?_
  rintro _ _ _ ⟨rfl, rfl, ⟨h1, rfl⟩ | ⟨h1, rfl⟩⟩
  · -- pc 1 call X3_noSheet true
    exact absurd h1 (by decide)
  · -- pc 1 call X3_noSheet false
    refine And.intro (fun hh => absurd hh (by decide)) (fun _ => ?_)
    refine Mt.conseq (c_noSheet _ _ _ _) ?_
    rintro _ _ _ ⟨rfl, rfl, ⟨h2, rfl⟩ | ⟨h2, rfl⟩⟩
    · -- pc 8 call X3_noSheet true
      exact absurd h2 (by decide)
    · -- pc 8 call X3_noSheet false
      refine And.intro (fun _ => ?_) (fun hh => absurd hh (by decide))
      refine And.intro (by unfold vp_in; decide) ?_
      refine And.intro (by unfold vp_in; decide) ?_
      refine Mt.conseq (c_miss3 _ _ _) ?_
      rintro _ _ _ ⟨rfl, rfl, ⟨h3, rfl⟩ | ⟨h3, rfl⟩⟩
      · -- pc 39 call X1_isMissing true
        refine And.intro (fun _ => ?_) (fun hh => absurd hh (by decide))
        refine Mt.conseq (c_fnd5 _ _ _) ?_
        rintro _ _ _ ⟨rfl, rfl, rfl⟩
        refine ⟨trivial, _, rfl, ?_⟩
        refine Mt.of2 _ rfl (by decide +kernel) (Nat.le_of_ble_eq_true rfl) ?_
        refine GW.run kX4_copy (fun pc => Nat.beq pc 102) 127 0 rfl ?_
        refine Mt.conseq (m_isSheet _ _ _ _) ?_
        rintro _ _ _ ⟨rfl, rfl, ⟨g1, rfl⟩ | ⟨g1, rfl⟩⟩
        · -- pc 1 call X4_isSheet true
          refine And.intro (fun hh => absurd hh (by decide)) (fun _ => ?_)
          refine Mt.conseq (m_isSheet _ _ _ _) ?_
          rintro _ _ _ ⟨rfl, rfl, ⟨g2, rfl⟩ | ⟨g2, rfl⟩⟩
          · -- pc 8 call X4_isSheet true
            refine And.intro (fun _ => ?_) (fun hh => absurd hh (by decide))
            refine And.intro (by unfold vp_in; decide) ?_
            refine And.intro (fun g3 => ?_) (fun g3 => ?_)
            · -- pc 27 .ifCond .eq 12: yes
              refine Mt.conseq (m_fnd5 _ _ _) ?_
              rintro _ _ _ ⟨rfl, rfl, rfl⟩
              exact ⟨trivial, rfl, hS.found (by decide)⟩
            · -- pc 27 .ifCond .eq 12: no
              exact absurd (show I 48 3 = 0 from s1.symm.trans h3) g3
          · -- pc 8 call X4_isSheet false
            exact absurd (by decide) g2
        · -- pc 1 call X4_isSheet false
          exact absurd (by decide) g1
      · -- pc 39 call X1_isMissing false
        refine And.intro (fun hh => absurd hh (by decide)) (fun _ => ?_)
        refine Mt.conseq (c_miss0 _ _ _) ?_
        rintro _ _ _ ⟨rfl, rfl, ⟨h5, rfl⟩ | ⟨h5, rfl⟩⟩
        · -- pc 47 call X1_isMissing true
          refine And.intro (fun hh => absurd hh (by decide)) (fun _ => ?_)
          refine Mt.conseq (c_fnd5 _ _ _) ?_
          rintro _ _ _ ⟨rfl, rfl, rfl⟩
          refine ⟨trivial, _, rfl, ?_⟩
          refine Mt.of2 _ rfl (by decide +kernel) (Nat.le_of_ble_eq_true rfl) ?_
          refine GW.run kX4_copy (fun pc => Nat.beq pc 102) 127 0 rfl ?_
          refine Mt.conseq (m_isSheet _ _ _ _) ?_
          rintro _ _ _ ⟨rfl, rfl, ⟨g1, rfl⟩ | ⟨g1, rfl⟩⟩
          · -- pc 1 call X4_isSheet true
            refine And.intro (fun hh => absurd hh (by decide)) (fun _ => ?_)
            refine Mt.conseq (m_isSheet _ _ _ _) ?_
            rintro _ _ _ ⟨rfl, rfl, ⟨g2, rfl⟩ | ⟨g2, rfl⟩⟩
            · -- pc 8 call X4_isSheet true
              refine And.intro (fun _ => ?_) (fun hh => absurd hh (by decide))
              refine And.intro (by unfold vp_in; decide) ?_
              refine And.intro (fun g3 => ?_) (fun g3 => ?_)
              · -- pc 27 .ifCond .eq 12: yes
                exact absurd (show I 40 1 = 0 from s1.trans g3) h3
              · -- pc 27 .ifCond .eq 12: no
                refine And.intro (by unfold vp_in; decide) ?_
                refine And.intro (fun g4 => ?_) (fun g4 => ?_)
                · -- pc 36 .ifCond .ne 11: yes
                  exact absurd (show I 48 0 = 0 from t1.symm.trans h5) g4
                · -- pc 36 .ifCond .ne 11: no
                  refine Mt.conseq (m_fnd5 _ _ _) ?_
                  rintro _ _ _ ⟨rfl, rfl, rfl⟩
                  exact ⟨trivial, rfl, hS.found (by decide)⟩
            · -- pc 8 call X4_isSheet false
              exact absurd (by decide) g2
          · -- pc 1 call X4_isSheet false
            exact absurd (by decide) g1
        · -- pc 47 call X1_isMissing false
          refine And.intro (fun _ => ?_) (fun hh => absurd hh (by decide))
          refine And.intro (fun h7 => ?_) (fun h7 => ?_)
          · -- pc 70 .if_icmp .eq 10: yes
            refine Mt.conseq (c_str3 _ _ _ _ _) ?_
            rintro _ _ _ ⟨rfl, rfl, ⟨h8, rfl⟩ | ⟨h8, rfl⟩⟩
            · -- pc 85 call X1_hasStretch true
              refine And.intro (fun hh => absurd hh (by decide)) (fun _ => ?_)
              refine Mt.conseq (c_str0 _ _ _ _ _) ?_
              rintro _ _ _ ⟨rfl, rfl, ⟨h9, rfl⟩ | ⟨h9, rfl⟩⟩
              · -- pc 97 call X1_hasStretch true
                obtain ⟨A, K, rfl, rfl, hA⟩ := str_nat s4 s3 h8
                obtain ⟨B, K2, rfl, eK, hB⟩ := str_nat t4 t3 h9
                obtain rfl : K2 = K := by
                  have z1 : K ≤ 40 := by omega
                  have z2 : K2 ≤ 40 := by omega
                  exact ((nI_eq (by omega) (by omega)).mp eK).symm
                have hcA := nI_clamp (n := A) (by omega)
                have hcB := nI_clamp (n := B) (by omega)
                have hcK := nI_clamp (n := K2) (by omega)
                have hcp : ¬ nI A < 0 ∧ ¬ nI B < 0 ∧ ¬ nI K2 < 0 ∧ (nI A).toNatClampNeg + (nI K2).toNatClampNeg ≤ 40 ∧ (nI B).toNatClampNeg + (nI K2).toNatClampNeg ≤ 40 := ⟨nI_pos (by omega), nI_pos (by omega), nI_pos (by omega), by rw [hcA, hcK]; omega, by rw [hcB, hcK]; omega⟩
                refine And.intro (fun _ => ?_) (fun hh => absurd hh (by decide))
                refine And.intro (hcp) ?_
                refine ⟨trivial, _, rfl, ?_⟩
                refine Mt.of2 _ rfl (by decide +kernel) (Nat.le_of_ble_eq_true rfl) ?_
                refine GW.run kX4_copy (fun pc => Nat.beq pc 102) 127 0 rfl ?_
                refine Mt.conseq (m_isSheet _ _ _ _) ?_
                rintro _ _ _ ⟨rfl, rfl, ⟨g1, rfl⟩ | ⟨g1, rfl⟩⟩
                · -- pc 1 call X4_isSheet true
                  refine And.intro (fun hh => absurd hh (by decide)) (fun _ => ?_)
                  refine Mt.conseq (m_isSheet _ _ _ _) ?_
                  rintro _ _ _ ⟨rfl, rfl, ⟨g2, rfl⟩ | ⟨g2, rfl⟩⟩
                  · -- pc 8 call X4_isSheet true
                    refine And.intro (fun _ => ?_) (fun hh => absurd hh (by decide))
                    refine And.intro (by unfold vp_in; decide) ?_
                    refine And.intro (fun g3 => ?_) (fun g3 => ?_)
                    · -- pc 27 .ifCond .eq 12: yes
                      exact absurd (show I 40 1 = 0 from s1.trans g3) h3
                    · -- pc 27 .ifCond .eq 12: no
                      refine And.intro (by unfold vp_in; decide) ?_
                      refine And.intro (fun g4 => ?_) (fun g4 => ?_)
                      · -- pc 36 .ifCond .ne 11: yes
                        refine And.intro (by unfold vp_in; decide) ?_
                        refine And.intro (by unfold vp_in; decide) ?_
                        refine And.intro (fun g5 => ?_) (fun g5 => ?_)
                        · -- pc 59 .if_icmp .eq 10: yes
                          refine Mt.conseq (m_part3 _ _ _ _ _) ?_
                          rintro _ _ _ ⟨rfl, rfl, ⟨g6, rfl⟩ | ⟨g6, rfl⟩⟩
                          · -- pc 74 call X4_isPart true
                            refine And.intro (fun hh => absurd hh (by decide)) (fun _ => ?_)
                            refine Mt.conseq (m_part0 _ _ _ _ _) ?_
                            rintro _ _ _ ⟨rfl, rfl, ⟨g7, rfl⟩ | ⟨g7, rfl⟩⟩
                            · -- pc 86 call X4_isPart true
                              refine And.intro (fun _ => ?_) (fun hh => absurd hh (by decide))
                              refine GW.weak (GW.eqIJ rfl (wJ_0 (na_cpL J 41 35 (nI A).toNatClampNeg (nI B).toNatClampNeg (nI K2).toNatClampNeg) 51 0 (fun j => (na_cpL J 41 35 (nI A).toNatClampNeg (nI B).toNatClampNeg (nI K2).toNatClampNeg) 50 (120 + A + j))).symm (l_cp1_3 sx A K2 (by omega) (nI B) 0 I (na_cpL J 41 35 (nI A).toNatClampNeg (nI B).toNatClampNeg (nI K2).toNatClampNeg) _ ?_ K2 0 (by omega))) ⟨rfl, rfl, rfl, rfl, rfl, rfl, rfl, trivial⟩
                              refine GW.run kX4_copy (fun pc => Nat.beq pc 139) 127 74 rfl ?_
                              refine GW.weak (GW.eqIJ rfl (wJ_0 (wJ (na_cpL J 41 35 (nI A).toNatClampNeg (nI B).toNatClampNeg (nI K2).toNatClampNeg) 51 0 K2 (fun j => (na_cpL J 41 35 (nI A).toNatClampNeg (nI B).toNatClampNeg (nI K2).toNatClampNeg) 50 (120 + A + j))) 50 (0 + B) (fun j => (na_cpL J 41 35 (nI A).toNatClampNeg (nI B).toNatClampNeg (nI K2).toNatClampNeg) 50 (120 + A + j))).symm (l_cp2_0 sx B K2 (by omega) (fun j => (na_cpL J 41 35 (nI A).toNatClampNeg (nI B).toNatClampNeg (nI K2).toNatClampNeg) 50 (120 + A + j)) I (wJ (na_cpL J 41 35 (nI A).toNatClampNeg (nI B).toNatClampNeg (nI K2).toNatClampNeg) 51 0 K2 (fun j => (na_cpL J 41 35 (nI A).toNatClampNeg (nI B).toNatClampNeg (nI K2).toNatClampNeg) 50 (120 + A + j))) (fun j hj => by rw [wJ_on, if_pos (by omega)]; rfl) _ ?_ K2 0 (by omega))) ⟨rfl, rfl, rfl, rfl, rfl, trivial⟩
                              refine ⟨rfl, ?_⟩
                              exact hS.copied (s := 3) (t := 0) (A := A) (B := B) (K := K2) (by decide) (by decide) s4 t4 s3 t3 hA hB (u := (fun j => (na_cpL J 41 35 (nI A).toNatClampNeg (nI B).toNatClampNeg (nI K2).toNatClampNeg) 50 (120 + A + j))) (fun j hj => rfl) (fun a ha => by rw [wJ_off ha, hcA, hcB, hcK])
                            · -- pc 86 call X4_isPart false
                              exact absurd (show strP _ _ (I 49 0) by rw [← t45]; exact h9) g7
                          · -- pc 74 call X4_isPart false
                            exact absurd (show strP _ _ (I 49 3) by rw [← s45]; exact h8) g6
                        · -- pc 59 .if_icmp .eq 10: no
                          exact absurd (show I 48 3 = I 48 0 from s1.symm.trans ((show I 40 1 = I 34 1 from h7).trans t1)) g5
                      · -- pc 36 .ifCond .ne 11: no
                        exact absurd (show I 34 1 = 0 from t1.trans g4) h5
                  · -- pc 8 call X4_isSheet false
                    exact absurd (by decide) g2
                · -- pc 1 call X4_isSheet false
                  exact absurd (by decide) g1
              · -- pc 97 call X1_hasStretch false
                refine And.intro (fun hh => absurd hh (by decide)) (fun _ => ?_)
                refine Mt.conseq (c_fnd0 _ _ _) ?_
                rintro _ _ _ ⟨rfl, rfl, rfl⟩
                refine ⟨trivial, _, rfl, ?_⟩
                refine Mt.of2 _ rfl (by decide +kernel) (Nat.le_of_ble_eq_true rfl) ?_
                refine GW.run kX4_copy (fun pc => Nat.beq pc 102) 127 0 rfl ?_
                refine Mt.conseq (m_isSheet _ _ _ _) ?_
                rintro _ _ _ ⟨rfl, rfl, ⟨g1, rfl⟩ | ⟨g1, rfl⟩⟩
                · -- pc 1 call X4_isSheet true
                  refine And.intro (fun hh => absurd hh (by decide)) (fun _ => ?_)
                  refine Mt.conseq (m_isSheet _ _ _ _) ?_
                  rintro _ _ _ ⟨rfl, rfl, ⟨g2, rfl⟩ | ⟨g2, rfl⟩⟩
                  · -- pc 8 call X4_isSheet true
                    refine And.intro (fun _ => ?_) (fun hh => absurd hh (by decide))
                    refine And.intro (by unfold vp_in; decide) ?_
                    refine And.intro (fun g3 => ?_) (fun g3 => ?_)
                    · -- pc 27 .ifCond .eq 12: yes
                      exact absurd (show I 40 1 = 0 from s1.trans g3) h3
                    · -- pc 27 .ifCond .eq 12: no
                      refine And.intro (by unfold vp_in; decide) ?_
                      refine And.intro (fun g4 => ?_) (fun g4 => ?_)
                      · -- pc 36 .ifCond .ne 11: yes
                        refine And.intro (by unfold vp_in; decide) ?_
                        refine And.intro (by unfold vp_in; decide) ?_
                        refine And.intro (fun g5 => ?_) (fun g5 => ?_)
                        · -- pc 59 .if_icmp .eq 10: yes
                          refine Mt.conseq (m_part3 _ _ _ _ _) ?_
                          rintro _ _ _ ⟨rfl, rfl, ⟨g6, rfl⟩ | ⟨g6, rfl⟩⟩
                          · -- pc 74 call X4_isPart true
                            refine And.intro (fun hh => absurd hh (by decide)) (fun _ => ?_)
                            refine Mt.conseq (m_part0 _ _ _ _ _) ?_
                            rintro _ _ _ ⟨rfl, rfl, ⟨g7, rfl⟩ | ⟨g7, rfl⟩⟩
                            · -- pc 86 call X4_isPart true
                              exact absurd (show strP _ _ (I 34 2) by rw [t45]; exact g7) h9
                            · -- pc 86 call X4_isPart false
                              refine And.intro (fun hh => absurd hh (by decide)) (fun _ => ?_)
                              refine Mt.conseq (m_fnd0 _ _ _) ?_
                              rintro _ _ _ ⟨rfl, rfl, rfl⟩
                              exact ⟨trivial, rfl, hS.found (by decide)⟩
                          · -- pc 74 call X4_isPart false
                            exact absurd (show strP _ _ (I 49 3) by rw [← s45]; exact h8) g6
                        · -- pc 59 .if_icmp .eq 10: no
                          exact absurd (show I 48 3 = I 48 0 from s1.symm.trans ((show I 40 1 = I 34 1 from h7).trans t1)) g5
                      · -- pc 36 .ifCond .ne 11: no
                        exact absurd (show I 34 1 = 0 from t1.trans g4) h5
                  · -- pc 8 call X4_isSheet false
                    exact absurd (by decide) g2
                · -- pc 1 call X4_isSheet false
                  exact absurd (by decide) g1
            · -- pc 85 call X1_hasStretch false
              refine And.intro (fun _ => ?_) (fun hh => absurd hh (by decide))
              refine Mt.conseq (c_fnd0 _ _ _) ?_
              rintro _ _ _ ⟨rfl, rfl, rfl⟩
              refine ⟨trivial, _, rfl, ?_⟩
              refine Mt.of2 _ rfl (by decide +kernel) (Nat.le_of_ble_eq_true rfl) ?_
              refine GW.run kX4_copy (fun pc => Nat.beq pc 102) 127 0 rfl ?_
              refine Mt.conseq (m_isSheet _ _ _ _) ?_
              rintro _ _ _ ⟨rfl, rfl, ⟨g1, rfl⟩ | ⟨g1, rfl⟩⟩
              · -- pc 1 call X4_isSheet true
                refine And.intro (fun hh => absurd hh (by decide)) (fun _ => ?_)
                refine Mt.conseq (m_isSheet _ _ _ _) ?_
                rintro _ _ _ ⟨rfl, rfl, ⟨g2, rfl⟩ | ⟨g2, rfl⟩⟩
                · -- pc 8 call X4_isSheet true
                  refine And.intro (fun _ => ?_) (fun hh => absurd hh (by decide))
                  refine And.intro (by unfold vp_in; decide) ?_
                  refine And.intro (fun g3 => ?_) (fun g3 => ?_)
                  · -- pc 27 .ifCond .eq 12: yes
                    exact absurd (show I 40 1 = 0 from s1.trans g3) h3
                  · -- pc 27 .ifCond .eq 12: no
                    refine And.intro (by unfold vp_in; decide) ?_
                    refine And.intro (fun g4 => ?_) (fun g4 => ?_)
                    · -- pc 36 .ifCond .ne 11: yes
                      refine And.intro (by unfold vp_in; decide) ?_
                      refine And.intro (by unfold vp_in; decide) ?_
                      refine And.intro (fun g5 => ?_) (fun g5 => ?_)
                      · -- pc 59 .if_icmp .eq 10: yes
                        refine Mt.conseq (m_part3 _ _ _ _ _) ?_
                        rintro _ _ _ ⟨rfl, rfl, ⟨g6, rfl⟩ | ⟨g6, rfl⟩⟩
                        · -- pc 74 call X4_isPart true
                          exact absurd (show strP _ _ (I 40 2) by rw [s45]; exact g6) h8
                        · -- pc 74 call X4_isPart false
                          refine And.intro (fun _ => ?_) (fun hh => absurd hh (by decide))
                          refine Mt.conseq (m_fnd0 _ _ _) ?_
                          rintro _ _ _ ⟨rfl, rfl, rfl⟩
                          exact ⟨trivial, rfl, hS.found (by decide)⟩
                      · -- pc 59 .if_icmp .eq 10: no
                        exact absurd (show I 48 3 = I 48 0 from s1.symm.trans ((show I 40 1 = I 34 1 from h7).trans t1)) g5
                    · -- pc 36 .ifCond .ne 11: no
                      exact absurd (show I 34 1 = 0 from t1.trans g4) h5
                · -- pc 8 call X4_isSheet false
                  exact absurd (by decide) g2
              · -- pc 1 call X4_isSheet false
                exact absurd (by decide) g1
          · -- pc 70 .if_icmp .eq 10: no
            refine Mt.conseq (c_fnd2 _ _ _) ?_
            rintro _ _ _ ⟨rfl, rfl, rfl⟩
            refine ⟨trivial, _, rfl, ?_⟩
            refine Mt.of2 _ rfl (by decide +kernel) (Nat.le_of_ble_eq_true rfl) ?_
            refine GW.run kX4_copy (fun pc => Nat.beq pc 102) 127 0 rfl ?_
            refine Mt.conseq (m_isSheet _ _ _ _) ?_
            rintro _ _ _ ⟨rfl, rfl, ⟨g1, rfl⟩ | ⟨g1, rfl⟩⟩
            · -- pc 1 call X4_isSheet true
              refine And.intro (fun hh => absurd hh (by decide)) (fun _ => ?_)
              refine Mt.conseq (m_isSheet _ _ _ _) ?_
              rintro _ _ _ ⟨rfl, rfl, ⟨g2, rfl⟩ | ⟨g2, rfl⟩⟩
              · -- pc 8 call X4_isSheet true
                refine And.intro (fun _ => ?_) (fun hh => absurd hh (by decide))
                refine And.intro (by unfold vp_in; decide) ?_
                refine And.intro (fun g3 => ?_) (fun g3 => ?_)
                · -- pc 27 .ifCond .eq 12: yes
                  exact absurd (show I 40 1 = 0 from s1.trans g3) h3
                · -- pc 27 .ifCond .eq 12: no
                  refine And.intro (by unfold vp_in; decide) ?_
                  refine And.intro (fun g4 => ?_) (fun g4 => ?_)
                  · -- pc 36 .ifCond .ne 11: yes
                    refine And.intro (by unfold vp_in; decide) ?_
                    refine And.intro (by unfold vp_in; decide) ?_
                    refine And.intro (fun g5 => ?_) (fun g5 => ?_)
                    · -- pc 59 .if_icmp .eq 10: yes
                      exact absurd (show I 40 1 = I 34 1 from s1.trans ((show I 48 3 = I 48 0 from g5).trans t1.symm)) h7
                    · -- pc 59 .if_icmp .eq 10: no
                      refine Mt.conseq (m_fnd2 _ _ _) ?_
                      rintro _ _ _ ⟨rfl, rfl, rfl⟩
                      exact ⟨trivial, rfl, hS.found (by decide)⟩
                  · -- pc 36 .ifCond .ne 11: no
                    exact absurd (show I 34 1 = 0 from t1.trans g4) h5
              · -- pc 8 call X4_isSheet false
                exact absurd (by decide) g2
            · -- pc 1 call X4_isSheet false
              exact absurd (by decide) g1
set_option maxRecDepth 100000 in
set_option maxHeartbeats 4000000 in
theorem pr_copy3_1 (sx : Nat × (Nat → Int32)) (fr to nn : Int32) : PrI sx MX3_copy MX4_copy [.int 3, .int fr, .int 1, .int to, .int nn] := by
  intro I J hS
  obtain ⟨s1, s2, n, s3, s4, s5, s6⟩ := hS.2.2.2.1 3 (by decide)
  obtain ⟨t1, t2, m, t3, t4, t5, t6⟩ := hS.2.2.2.1 1 (by decide)
  have s45 : I 40 2 = I 49 3 := s4.trans s5.symm
  have t45 : I 36 2 = I 49 1 := t4.trans t5.symm
  refine Mt.of2 _ rfl (by decide +kernel) (Nat.le_of_ble_eq_true rfl) ?_
  refine GW.run kX3_copy (fun _ => false) 93 0 rfl ?_
  refine Mt.conseq (c_noSheet _ _ _ _) ?_
  rintro _ _ _ ⟨rfl, rfl, ⟨h1, rfl⟩ | ⟨h1, rfl⟩⟩
  · -- pc 1 call X3_noSheet true
    exact absurd h1 (by decide)
  · -- pc 1 call X3_noSheet false
    refine And.intro (fun hh => absurd hh (by decide)) (fun _ => ?_)
    refine Mt.conseq (c_noSheet _ _ _ _) ?_
    rintro _ _ _ ⟨rfl, rfl, ⟨h2, rfl⟩ | ⟨h2, rfl⟩⟩
    · -- pc 8 call X3_noSheet true
      exact absurd h2 (by decide)
    · -- pc 8 call X3_noSheet false
      refine And.intro (fun _ => ?_) (fun hh => absurd hh (by decide))
      refine And.intro (by unfold vp_in; decide) ?_
      refine And.intro (by unfold vp_in; decide) ?_
      refine Mt.conseq (c_miss3 _ _ _) ?_
      rintro _ _ _ ⟨rfl, rfl, ⟨h3, rfl⟩ | ⟨h3, rfl⟩⟩
      · -- pc 39 call X1_isMissing true
        refine And.intro (fun _ => ?_) (fun hh => absurd hh (by decide))
        refine Mt.conseq (c_fnd5 _ _ _) ?_
        rintro _ _ _ ⟨rfl, rfl, rfl⟩
        refine ⟨trivial, _, rfl, ?_⟩
        refine Mt.of2 _ rfl (by decide +kernel) (Nat.le_of_ble_eq_true rfl) ?_
        refine GW.run kX4_copy (fun pc => Nat.beq pc 102) 127 0 rfl ?_
        refine Mt.conseq (m_isSheet _ _ _ _) ?_
        rintro _ _ _ ⟨rfl, rfl, ⟨g1, rfl⟩ | ⟨g1, rfl⟩⟩
        · -- pc 1 call X4_isSheet true
          refine And.intro (fun hh => absurd hh (by decide)) (fun _ => ?_)
          refine Mt.conseq (m_isSheet _ _ _ _) ?_
          rintro _ _ _ ⟨rfl, rfl, ⟨g2, rfl⟩ | ⟨g2, rfl⟩⟩
          · -- pc 8 call X4_isSheet true
            refine And.intro (fun _ => ?_) (fun hh => absurd hh (by decide))
            refine And.intro (by unfold vp_in; decide) ?_
            refine And.intro (fun g3 => ?_) (fun g3 => ?_)
            · -- pc 27 .ifCond .eq 12: yes
              refine Mt.conseq (m_fnd5 _ _ _) ?_
              rintro _ _ _ ⟨rfl, rfl, rfl⟩
              exact ⟨trivial, rfl, hS.found (by decide)⟩
            · -- pc 27 .ifCond .eq 12: no
              exact absurd (show I 48 3 = 0 from s1.symm.trans h3) g3
          · -- pc 8 call X4_isSheet false
            exact absurd (by decide) g2
        · -- pc 1 call X4_isSheet false
          exact absurd (by decide) g1
      · -- pc 39 call X1_isMissing false
        refine And.intro (fun hh => absurd hh (by decide)) (fun _ => ?_)
        refine Mt.conseq (c_miss1 _ _ _) ?_
        rintro _ _ _ ⟨rfl, rfl, ⟨h5, rfl⟩ | ⟨h5, rfl⟩⟩
        · -- pc 47 call X1_isMissing true
          refine And.intro (fun hh => absurd hh (by decide)) (fun _ => ?_)
          refine Mt.conseq (c_fnd5 _ _ _) ?_
          rintro _ _ _ ⟨rfl, rfl, rfl⟩
          refine ⟨trivial, _, rfl, ?_⟩
          refine Mt.of2 _ rfl (by decide +kernel) (Nat.le_of_ble_eq_true rfl) ?_
          refine GW.run kX4_copy (fun pc => Nat.beq pc 102) 127 0 rfl ?_
          refine Mt.conseq (m_isSheet _ _ _ _) ?_
          rintro _ _ _ ⟨rfl, rfl, ⟨g1, rfl⟩ | ⟨g1, rfl⟩⟩
          · -- pc 1 call X4_isSheet true
            refine And.intro (fun hh => absurd hh (by decide)) (fun _ => ?_)
            refine Mt.conseq (m_isSheet _ _ _ _) ?_
            rintro _ _ _ ⟨rfl, rfl, ⟨g2, rfl⟩ | ⟨g2, rfl⟩⟩
            · -- pc 8 call X4_isSheet true
              refine And.intro (fun _ => ?_) (fun hh => absurd hh (by decide))
              refine And.intro (by unfold vp_in; decide) ?_
              refine And.intro (fun g3 => ?_) (fun g3 => ?_)
              · -- pc 27 .ifCond .eq 12: yes
                exact absurd (show I 40 1 = 0 from s1.trans g3) h3
              · -- pc 27 .ifCond .eq 12: no
                refine And.intro (by unfold vp_in; decide) ?_
                refine And.intro (fun g4 => ?_) (fun g4 => ?_)
                · -- pc 36 .ifCond .ne 11: yes
                  exact absurd (show I 48 1 = 0 from t1.symm.trans h5) g4
                · -- pc 36 .ifCond .ne 11: no
                  refine Mt.conseq (m_fnd5 _ _ _) ?_
                  rintro _ _ _ ⟨rfl, rfl, rfl⟩
                  exact ⟨trivial, rfl, hS.found (by decide)⟩
            · -- pc 8 call X4_isSheet false
              exact absurd (by decide) g2
          · -- pc 1 call X4_isSheet false
            exact absurd (by decide) g1
        · -- pc 47 call X1_isMissing false
          refine And.intro (fun _ => ?_) (fun hh => absurd hh (by decide))
          refine And.intro (fun h7 => ?_) (fun h7 => ?_)
          · -- pc 70 .if_icmp .eq 10: yes
            refine Mt.conseq (c_str3 _ _ _ _ _) ?_
            rintro _ _ _ ⟨rfl, rfl, ⟨h8, rfl⟩ | ⟨h8, rfl⟩⟩
            · -- pc 85 call X1_hasStretch true
              refine And.intro (fun hh => absurd hh (by decide)) (fun _ => ?_)
              refine Mt.conseq (c_str1 _ _ _ _ _) ?_
              rintro _ _ _ ⟨rfl, rfl, ⟨h9, rfl⟩ | ⟨h9, rfl⟩⟩
              · -- pc 97 call X1_hasStretch true
                obtain ⟨A, K, rfl, rfl, hA⟩ := str_nat s4 s3 h8
                obtain ⟨B, K2, rfl, eK, hB⟩ := str_nat t4 t3 h9
                obtain rfl : K2 = K := by
                  have z1 : K ≤ 40 := by omega
                  have z2 : K2 ≤ 40 := by omega
                  exact ((nI_eq (by omega) (by omega)).mp eK).symm
                have hcA := nI_clamp (n := A) (by omega)
                have hcB := nI_clamp (n := B) (by omega)
                have hcK := nI_clamp (n := K2) (by omega)
                have hcp : ¬ nI A < 0 ∧ ¬ nI B < 0 ∧ ¬ nI K2 < 0 ∧ (nI A).toNatClampNeg + (nI K2).toNatClampNeg ≤ 40 ∧ (nI B).toNatClampNeg + (nI K2).toNatClampNeg ≤ 40 := ⟨nI_pos (by omega), nI_pos (by omega), nI_pos (by omega), by rw [hcA, hcK]; omega, by rw [hcB, hcK]; omega⟩
                refine And.intro (fun _ => ?_) (fun hh => absurd hh (by decide))
                refine And.intro (hcp) ?_
                refine ⟨trivial, _, rfl, ?_⟩
                refine Mt.of2 _ rfl (by decide +kernel) (Nat.le_of_ble_eq_true rfl) ?_
                refine GW.run kX4_copy (fun pc => Nat.beq pc 102) 127 0 rfl ?_
                refine Mt.conseq (m_isSheet _ _ _ _) ?_
                rintro _ _ _ ⟨rfl, rfl, ⟨g1, rfl⟩ | ⟨g1, rfl⟩⟩
                · -- pc 1 call X4_isSheet true
                  refine And.intro (fun hh => absurd hh (by decide)) (fun _ => ?_)
                  refine Mt.conseq (m_isSheet _ _ _ _) ?_
                  rintro _ _ _ ⟨rfl, rfl, ⟨g2, rfl⟩ | ⟨g2, rfl⟩⟩
                  · -- pc 8 call X4_isSheet true
                    refine And.intro (fun _ => ?_) (fun hh => absurd hh (by decide))
                    refine And.intro (by unfold vp_in; decide) ?_
                    refine And.intro (fun g3 => ?_) (fun g3 => ?_)
                    · -- pc 27 .ifCond .eq 12: yes
                      exact absurd (show I 40 1 = 0 from s1.trans g3) h3
                    · -- pc 27 .ifCond .eq 12: no
                      refine And.intro (by unfold vp_in; decide) ?_
                      refine And.intro (fun g4 => ?_) (fun g4 => ?_)
                      · -- pc 36 .ifCond .ne 11: yes
                        refine And.intro (by unfold vp_in; decide) ?_
                        refine And.intro (by unfold vp_in; decide) ?_
                        refine And.intro (fun g5 => ?_) (fun g5 => ?_)
                        · -- pc 59 .if_icmp .eq 10: yes
                          refine Mt.conseq (m_part3 _ _ _ _ _) ?_
                          rintro _ _ _ ⟨rfl, rfl, ⟨g6, rfl⟩ | ⟨g6, rfl⟩⟩
                          · -- pc 74 call X4_isPart true
                            refine And.intro (fun hh => absurd hh (by decide)) (fun _ => ?_)
                            refine Mt.conseq (m_part1 _ _ _ _ _) ?_
                            rintro _ _ _ ⟨rfl, rfl, ⟨g7, rfl⟩ | ⟨g7, rfl⟩⟩
                            · -- pc 86 call X4_isPart true
                              refine And.intro (fun _ => ?_) (fun hh => absurd hh (by decide))
                              refine GW.weak (GW.eqIJ rfl (wJ_0 (na_cpL J 41 37 (nI A).toNatClampNeg (nI B).toNatClampNeg (nI K2).toNatClampNeg) 51 0 (fun j => (na_cpL J 41 37 (nI A).toNatClampNeg (nI B).toNatClampNeg (nI K2).toNatClampNeg) 50 (120 + A + j))).symm (l_cp1_3 sx A K2 (by omega) (nI B) 1 I (na_cpL J 41 37 (nI A).toNatClampNeg (nI B).toNatClampNeg (nI K2).toNatClampNeg) _ ?_ K2 0 (by omega))) ⟨rfl, rfl, rfl, rfl, rfl, rfl, rfl, trivial⟩
                              refine GW.run kX4_copy (fun pc => Nat.beq pc 139) 127 74 rfl ?_
                              refine GW.weak (GW.eqIJ rfl (wJ_0 (wJ (na_cpL J 41 37 (nI A).toNatClampNeg (nI B).toNatClampNeg (nI K2).toNatClampNeg) 51 0 K2 (fun j => (na_cpL J 41 37 (nI A).toNatClampNeg (nI B).toNatClampNeg (nI K2).toNatClampNeg) 50 (120 + A + j))) 50 (40 + B) (fun j => (na_cpL J 41 37 (nI A).toNatClampNeg (nI B).toNatClampNeg (nI K2).toNatClampNeg) 50 (120 + A + j))).symm (l_cp2_1 sx B K2 (by omega) (fun j => (na_cpL J 41 37 (nI A).toNatClampNeg (nI B).toNatClampNeg (nI K2).toNatClampNeg) 50 (120 + A + j)) I (wJ (na_cpL J 41 37 (nI A).toNatClampNeg (nI B).toNatClampNeg (nI K2).toNatClampNeg) 51 0 K2 (fun j => (na_cpL J 41 37 (nI A).toNatClampNeg (nI B).toNatClampNeg (nI K2).toNatClampNeg) 50 (120 + A + j))) (fun j hj => by rw [wJ_on, if_pos (by omega)]; rfl) _ ?_ K2 0 (by omega))) ⟨rfl, rfl, rfl, rfl, rfl, trivial⟩
                              refine ⟨rfl, ?_⟩
                              exact hS.copied (s := 3) (t := 1) (A := A) (B := B) (K := K2) (by decide) (by decide) s4 t4 s3 t3 hA hB (u := (fun j => (na_cpL J 41 37 (nI A).toNatClampNeg (nI B).toNatClampNeg (nI K2).toNatClampNeg) 50 (120 + A + j))) (fun j hj => rfl) (fun a ha => by rw [wJ_off ha, hcA, hcB, hcK])
                            · -- pc 86 call X4_isPart false
                              exact absurd (show strP _ _ (I 49 1) by rw [← t45]; exact h9) g7
                          · -- pc 74 call X4_isPart false
                            exact absurd (show strP _ _ (I 49 3) by rw [← s45]; exact h8) g6
                        · -- pc 59 .if_icmp .eq 10: no
                          exact absurd (show I 48 3 = I 48 1 from s1.symm.trans ((show I 40 1 = I 36 1 from h7).trans t1)) g5
                      · -- pc 36 .ifCond .ne 11: no
                        exact absurd (show I 36 1 = 0 from t1.trans g4) h5
                  · -- pc 8 call X4_isSheet false
                    exact absurd (by decide) g2
                · -- pc 1 call X4_isSheet false
                  exact absurd (by decide) g1
              · -- pc 97 call X1_hasStretch false
                refine And.intro (fun hh => absurd hh (by decide)) (fun _ => ?_)
                refine Mt.conseq (c_fnd0 _ _ _) ?_
                rintro _ _ _ ⟨rfl, rfl, rfl⟩
                refine ⟨trivial, _, rfl, ?_⟩
                refine Mt.of2 _ rfl (by decide +kernel) (Nat.le_of_ble_eq_true rfl) ?_
                refine GW.run kX4_copy (fun pc => Nat.beq pc 102) 127 0 rfl ?_
                refine Mt.conseq (m_isSheet _ _ _ _) ?_
                rintro _ _ _ ⟨rfl, rfl, ⟨g1, rfl⟩ | ⟨g1, rfl⟩⟩
                · -- pc 1 call X4_isSheet true
                  refine And.intro (fun hh => absurd hh (by decide)) (fun _ => ?_)
                  refine Mt.conseq (m_isSheet _ _ _ _) ?_
                  rintro _ _ _ ⟨rfl, rfl, ⟨g2, rfl⟩ | ⟨g2, rfl⟩⟩
                  · -- pc 8 call X4_isSheet true
                    refine And.intro (fun _ => ?_) (fun hh => absurd hh (by decide))
                    refine And.intro (by unfold vp_in; decide) ?_
                    refine And.intro (fun g3 => ?_) (fun g3 => ?_)
                    · -- pc 27 .ifCond .eq 12: yes
                      exact absurd (show I 40 1 = 0 from s1.trans g3) h3
                    · -- pc 27 .ifCond .eq 12: no
                      refine And.intro (by unfold vp_in; decide) ?_
                      refine And.intro (fun g4 => ?_) (fun g4 => ?_)
                      · -- pc 36 .ifCond .ne 11: yes
                        refine And.intro (by unfold vp_in; decide) ?_
                        refine And.intro (by unfold vp_in; decide) ?_
                        refine And.intro (fun g5 => ?_) (fun g5 => ?_)
                        · -- pc 59 .if_icmp .eq 10: yes
                          refine Mt.conseq (m_part3 _ _ _ _ _) ?_
                          rintro _ _ _ ⟨rfl, rfl, ⟨g6, rfl⟩ | ⟨g6, rfl⟩⟩
                          · -- pc 74 call X4_isPart true
                            refine And.intro (fun hh => absurd hh (by decide)) (fun _ => ?_)
                            refine Mt.conseq (m_part1 _ _ _ _ _) ?_
                            rintro _ _ _ ⟨rfl, rfl, ⟨g7, rfl⟩ | ⟨g7, rfl⟩⟩
                            · -- pc 86 call X4_isPart true
                              exact absurd (show strP _ _ (I 36 2) by rw [t45]; exact g7) h9
                            · -- pc 86 call X4_isPart false
                              refine And.intro (fun hh => absurd hh (by decide)) (fun _ => ?_)
                              refine Mt.conseq (m_fnd0 _ _ _) ?_
                              rintro _ _ _ ⟨rfl, rfl, rfl⟩
                              exact ⟨trivial, rfl, hS.found (by decide)⟩
                          · -- pc 74 call X4_isPart false
                            exact absurd (show strP _ _ (I 49 3) by rw [← s45]; exact h8) g6
                        · -- pc 59 .if_icmp .eq 10: no
                          exact absurd (show I 48 3 = I 48 1 from s1.symm.trans ((show I 40 1 = I 36 1 from h7).trans t1)) g5
                      · -- pc 36 .ifCond .ne 11: no
                        exact absurd (show I 36 1 = 0 from t1.trans g4) h5
                  · -- pc 8 call X4_isSheet false
                    exact absurd (by decide) g2
                · -- pc 1 call X4_isSheet false
                  exact absurd (by decide) g1
            · -- pc 85 call X1_hasStretch false
              refine And.intro (fun _ => ?_) (fun hh => absurd hh (by decide))
              refine Mt.conseq (c_fnd0 _ _ _) ?_
              rintro _ _ _ ⟨rfl, rfl, rfl⟩
              refine ⟨trivial, _, rfl, ?_⟩
              refine Mt.of2 _ rfl (by decide +kernel) (Nat.le_of_ble_eq_true rfl) ?_
              refine GW.run kX4_copy (fun pc => Nat.beq pc 102) 127 0 rfl ?_
              refine Mt.conseq (m_isSheet _ _ _ _) ?_
              rintro _ _ _ ⟨rfl, rfl, ⟨g1, rfl⟩ | ⟨g1, rfl⟩⟩
              · -- pc 1 call X4_isSheet true
                refine And.intro (fun hh => absurd hh (by decide)) (fun _ => ?_)
                refine Mt.conseq (m_isSheet _ _ _ _) ?_
                rintro _ _ _ ⟨rfl, rfl, ⟨g2, rfl⟩ | ⟨g2, rfl⟩⟩
                · -- pc 8 call X4_isSheet true
                  refine And.intro (fun _ => ?_) (fun hh => absurd hh (by decide))
                  refine And.intro (by unfold vp_in; decide) ?_
                  refine And.intro (fun g3 => ?_) (fun g3 => ?_)
                  · -- pc 27 .ifCond .eq 12: yes
                    exact absurd (show I 40 1 = 0 from s1.trans g3) h3
                  · -- pc 27 .ifCond .eq 12: no
                    refine And.intro (by unfold vp_in; decide) ?_
                    refine And.intro (fun g4 => ?_) (fun g4 => ?_)
                    · -- pc 36 .ifCond .ne 11: yes
                      refine And.intro (by unfold vp_in; decide) ?_
                      refine And.intro (by unfold vp_in; decide) ?_
                      refine And.intro (fun g5 => ?_) (fun g5 => ?_)
                      · -- pc 59 .if_icmp .eq 10: yes
                        refine Mt.conseq (m_part3 _ _ _ _ _) ?_
                        rintro _ _ _ ⟨rfl, rfl, ⟨g6, rfl⟩ | ⟨g6, rfl⟩⟩
                        · -- pc 74 call X4_isPart true
                          exact absurd (show strP _ _ (I 40 2) by rw [s45]; exact g6) h8
                        · -- pc 74 call X4_isPart false
                          refine And.intro (fun _ => ?_) (fun hh => absurd hh (by decide))
                          refine Mt.conseq (m_fnd0 _ _ _) ?_
                          rintro _ _ _ ⟨rfl, rfl, rfl⟩
                          exact ⟨trivial, rfl, hS.found (by decide)⟩
                      · -- pc 59 .if_icmp .eq 10: no
                        exact absurd (show I 48 3 = I 48 1 from s1.symm.trans ((show I 40 1 = I 36 1 from h7).trans t1)) g5
                    · -- pc 36 .ifCond .ne 11: no
                      exact absurd (show I 36 1 = 0 from t1.trans g4) h5
                · -- pc 8 call X4_isSheet false
                  exact absurd (by decide) g2
              · -- pc 1 call X4_isSheet false
                exact absurd (by decide) g1
          · -- pc 70 .if_icmp .eq 10: no
            refine Mt.conseq (c_fnd2 _ _ _) ?_
            rintro _ _ _ ⟨rfl, rfl, rfl⟩
            refine ⟨trivial, _, rfl, ?_⟩
            refine Mt.of2 _ rfl (by decide +kernel) (Nat.le_of_ble_eq_true rfl) ?_
            refine GW.run kX4_copy (fun pc => Nat.beq pc 102) 127 0 rfl ?_
            refine Mt.conseq (m_isSheet _ _ _ _) ?_
            rintro _ _ _ ⟨rfl, rfl, ⟨g1, rfl⟩ | ⟨g1, rfl⟩⟩
            · -- pc 1 call X4_isSheet true
              refine And.intro (fun hh => absurd hh (by decide)) (fun _ => ?_)
              refine Mt.conseq (m_isSheet _ _ _ _) ?_
              rintro _ _ _ ⟨rfl, rfl, ⟨g2, rfl⟩ | ⟨g2, rfl⟩⟩
              · -- pc 8 call X4_isSheet true
                refine And.intro (fun _ => ?_) (fun hh => absurd hh (by decide))
                refine And.intro (by unfold vp_in; decide) ?_
                refine And.intro (fun g3 => ?_) (fun g3 => ?_)
                · -- pc 27 .ifCond .eq 12: yes
                  exact absurd (show I 40 1 = 0 from s1.trans g3) h3
                · -- pc 27 .ifCond .eq 12: no
                  refine And.intro (by unfold vp_in; decide) ?_
                  refine And.intro (fun g4 => ?_) (fun g4 => ?_)
                  · -- pc 36 .ifCond .ne 11: yes
                    refine And.intro (by unfold vp_in; decide) ?_
                    refine And.intro (by unfold vp_in; decide) ?_
                    refine And.intro (fun g5 => ?_) (fun g5 => ?_)
                    · -- pc 59 .if_icmp .eq 10: yes
                      exact absurd (show I 40 1 = I 36 1 from s1.trans ((show I 48 3 = I 48 1 from g5).trans t1.symm)) h7
                    · -- pc 59 .if_icmp .eq 10: no
                      refine Mt.conseq (m_fnd2 _ _ _) ?_
                      rintro _ _ _ ⟨rfl, rfl, rfl⟩
                      exact ⟨trivial, rfl, hS.found (by decide)⟩
                  · -- pc 36 .ifCond .ne 11: no
                    exact absurd (show I 36 1 = 0 from t1.trans g4) h5
              · -- pc 8 call X4_isSheet false
                exact absurd (by decide) g2
            · -- pc 1 call X4_isSheet false
              exact absurd (by decide) g1
set_option maxRecDepth 100000 in
set_option maxHeartbeats 4000000 in
theorem pr_copy3_2 (sx : Nat × (Nat → Int32)) (fr to nn : Int32) : PrI sx MX3_copy MX4_copy [.int 3, .int fr, .int 2, .int to, .int nn] := by
  intro I J hS
  obtain ⟨s1, s2, n, s3, s4, s5, s6⟩ := hS.2.2.2.1 3 (by decide)
  obtain ⟨t1, t2, m, t3, t4, t5, t6⟩ := hS.2.2.2.1 2 (by decide)
  have s45 : I 40 2 = I 49 3 := s4.trans s5.symm
  have t45 : I 38 2 = I 49 2 := t4.trans t5.symm
  refine Mt.of2 _ rfl (by decide +kernel) (Nat.le_of_ble_eq_true rfl) ?_
  refine GW.run kX3_copy (fun _ => false) 93 0 rfl ?_
  refine Mt.conseq (c_noSheet _ _ _ _) ?_
  rintro _ _ _ ⟨rfl, rfl, ⟨h1, rfl⟩ | ⟨h1, rfl⟩⟩
  · -- pc 1 call X3_noSheet true
    exact absurd h1 (by decide)
  · -- pc 1 call X3_noSheet false
    refine And.intro (fun hh => absurd hh (by decide)) (fun _ => ?_)
    refine Mt.conseq (c_noSheet _ _ _ _) ?_
    rintro _ _ _ ⟨rfl, rfl, ⟨h2, rfl⟩ | ⟨h2, rfl⟩⟩
    · -- pc 8 call X3_noSheet true
      exact absurd h2 (by decide)
    · -- pc 8 call X3_noSheet false
      refine And.intro (fun _ => ?_) (fun hh => absurd hh (by decide))
      refine And.intro (by unfold vp_in; decide) ?_
      refine And.intro (by unfold vp_in; decide) ?_
      refine Mt.conseq (c_miss3 _ _ _) ?_
      rintro _ _ _ ⟨rfl, rfl, ⟨h3, rfl⟩ | ⟨h3, rfl⟩⟩
      · -- pc 39 call X1_isMissing true
        refine And.intro (fun _ => ?_) (fun hh => absurd hh (by decide))
        refine Mt.conseq (c_fnd5 _ _ _) ?_
        rintro _ _ _ ⟨rfl, rfl, rfl⟩
        refine ⟨trivial, _, rfl, ?_⟩
        refine Mt.of2 _ rfl (by decide +kernel) (Nat.le_of_ble_eq_true rfl) ?_
        refine GW.run kX4_copy (fun pc => Nat.beq pc 102) 127 0 rfl ?_
        refine Mt.conseq (m_isSheet _ _ _ _) ?_
        rintro _ _ _ ⟨rfl, rfl, ⟨g1, rfl⟩ | ⟨g1, rfl⟩⟩
        · -- pc 1 call X4_isSheet true
          refine And.intro (fun hh => absurd hh (by decide)) (fun _ => ?_)
          refine Mt.conseq (m_isSheet _ _ _ _) ?_
          rintro _ _ _ ⟨rfl, rfl, ⟨g2, rfl⟩ | ⟨g2, rfl⟩⟩
          · -- pc 8 call X4_isSheet true
            refine And.intro (fun _ => ?_) (fun hh => absurd hh (by decide))
            refine And.intro (by unfold vp_in; decide) ?_
            refine And.intro (fun g3 => ?_) (fun g3 => ?_)
            · -- pc 27 .ifCond .eq 12: yes
              refine Mt.conseq (m_fnd5 _ _ _) ?_
              rintro _ _ _ ⟨rfl, rfl, rfl⟩
              exact ⟨trivial, rfl, hS.found (by decide)⟩
            · -- pc 27 .ifCond .eq 12: no
              exact absurd (show I 48 3 = 0 from s1.symm.trans h3) g3
          · -- pc 8 call X4_isSheet false
            exact absurd (by decide) g2
        · -- pc 1 call X4_isSheet false
          exact absurd (by decide) g1
      · -- pc 39 call X1_isMissing false
        refine And.intro (fun hh => absurd hh (by decide)) (fun _ => ?_)
        refine Mt.conseq (c_miss2 _ _ _) ?_
        rintro _ _ _ ⟨rfl, rfl, ⟨h5, rfl⟩ | ⟨h5, rfl⟩⟩
        · -- pc 47 call X1_isMissing true
          refine And.intro (fun hh => absurd hh (by decide)) (fun _ => ?_)
          refine Mt.conseq (c_fnd5 _ _ _) ?_
          rintro _ _ _ ⟨rfl, rfl, rfl⟩
          refine ⟨trivial, _, rfl, ?_⟩
          refine Mt.of2 _ rfl (by decide +kernel) (Nat.le_of_ble_eq_true rfl) ?_
          refine GW.run kX4_copy (fun pc => Nat.beq pc 102) 127 0 rfl ?_
          refine Mt.conseq (m_isSheet _ _ _ _) ?_
          rintro _ _ _ ⟨rfl, rfl, ⟨g1, rfl⟩ | ⟨g1, rfl⟩⟩
          · -- pc 1 call X4_isSheet true
            refine And.intro (fun hh => absurd hh (by decide)) (fun _ => ?_)
            refine Mt.conseq (m_isSheet _ _ _ _) ?_
            rintro _ _ _ ⟨rfl, rfl, ⟨g2, rfl⟩ | ⟨g2, rfl⟩⟩
            · -- pc 8 call X4_isSheet true
              refine And.intro (fun _ => ?_) (fun hh => absurd hh (by decide))
              refine And.intro (by unfold vp_in; decide) ?_
              refine And.intro (fun g3 => ?_) (fun g3 => ?_)
              · -- pc 27 .ifCond .eq 12: yes
                exact absurd (show I 40 1 = 0 from s1.trans g3) h3
              · -- pc 27 .ifCond .eq 12: no
                refine And.intro (by unfold vp_in; decide) ?_
                refine And.intro (fun g4 => ?_) (fun g4 => ?_)
                · -- pc 36 .ifCond .ne 11: yes
                  exact absurd (show I 48 2 = 0 from t1.symm.trans h5) g4
                · -- pc 36 .ifCond .ne 11: no
                  refine Mt.conseq (m_fnd5 _ _ _) ?_
                  rintro _ _ _ ⟨rfl, rfl, rfl⟩
                  exact ⟨trivial, rfl, hS.found (by decide)⟩
            · -- pc 8 call X4_isSheet false
              exact absurd (by decide) g2
          · -- pc 1 call X4_isSheet false
            exact absurd (by decide) g1
        · -- pc 47 call X1_isMissing false
          refine And.intro (fun _ => ?_) (fun hh => absurd hh (by decide))
          refine And.intro (fun h7 => ?_) (fun h7 => ?_)
          · -- pc 70 .if_icmp .eq 10: yes
            refine Mt.conseq (c_str3 _ _ _ _ _) ?_
            rintro _ _ _ ⟨rfl, rfl, ⟨h8, rfl⟩ | ⟨h8, rfl⟩⟩
            · -- pc 85 call X1_hasStretch true
              refine And.intro (fun hh => absurd hh (by decide)) (fun _ => ?_)
              refine Mt.conseq (c_str2 _ _ _ _ _) ?_
              rintro _ _ _ ⟨rfl, rfl, ⟨h9, rfl⟩ | ⟨h9, rfl⟩⟩
              · -- pc 97 call X1_hasStretch true
                obtain ⟨A, K, rfl, rfl, hA⟩ := str_nat s4 s3 h8
                obtain ⟨B, K2, rfl, eK, hB⟩ := str_nat t4 t3 h9
                obtain rfl : K2 = K := by
                  have z1 : K ≤ 40 := by omega
                  have z2 : K2 ≤ 40 := by omega
                  exact ((nI_eq (by omega) (by omega)).mp eK).symm
                have hcA := nI_clamp (n := A) (by omega)
                have hcB := nI_clamp (n := B) (by omega)
                have hcK := nI_clamp (n := K2) (by omega)
                have hcp : ¬ nI A < 0 ∧ ¬ nI B < 0 ∧ ¬ nI K2 < 0 ∧ (nI A).toNatClampNeg + (nI K2).toNatClampNeg ≤ 40 ∧ (nI B).toNatClampNeg + (nI K2).toNatClampNeg ≤ 40 := ⟨nI_pos (by omega), nI_pos (by omega), nI_pos (by omega), by rw [hcA, hcK]; omega, by rw [hcB, hcK]; omega⟩
                refine And.intro (fun _ => ?_) (fun hh => absurd hh (by decide))
                refine And.intro (hcp) ?_
                refine ⟨trivial, _, rfl, ?_⟩
                refine Mt.of2 _ rfl (by decide +kernel) (Nat.le_of_ble_eq_true rfl) ?_
                refine GW.run kX4_copy (fun pc => Nat.beq pc 102) 127 0 rfl ?_
                refine Mt.conseq (m_isSheet _ _ _ _) ?_
                rintro _ _ _ ⟨rfl, rfl, ⟨g1, rfl⟩ | ⟨g1, rfl⟩⟩
                · -- pc 1 call X4_isSheet true
                  refine And.intro (fun hh => absurd hh (by decide)) (fun _ => ?_)
                  refine Mt.conseq (m_isSheet _ _ _ _) ?_
                  rintro _ _ _ ⟨rfl, rfl, ⟨g2, rfl⟩ | ⟨g2, rfl⟩⟩
                  · -- pc 8 call X4_isSheet true
                    refine And.intro (fun _ => ?_) (fun hh => absurd hh (by decide))
                    refine And.intro (by unfold vp_in; decide) ?_
                    refine And.intro (fun g3 => ?_) (fun g3 => ?_)
                    · -- pc 27 .ifCond .eq 12: yes
                      exact absurd (show I 40 1 = 0 from s1.trans g3) h3
                    · -- pc 27 .ifCond .eq 12: no
                      refine And.intro (by unfold vp_in; decide) ?_
                      refine And.intro (fun g4 => ?_) (fun g4 => ?_)
                      · -- pc 36 .ifCond .ne 11: yes
                        refine And.intro (by unfold vp_in; decide) ?_
                        refine And.intro (by unfold vp_in; decide) ?_
                        refine And.intro (fun g5 => ?_) (fun g5 => ?_)
                        · -- pc 59 .if_icmp .eq 10: yes
                          refine Mt.conseq (m_part3 _ _ _ _ _) ?_
                          rintro _ _ _ ⟨rfl, rfl, ⟨g6, rfl⟩ | ⟨g6, rfl⟩⟩
                          · -- pc 74 call X4_isPart true
                            refine And.intro (fun hh => absurd hh (by decide)) (fun _ => ?_)
                            refine Mt.conseq (m_part2 _ _ _ _ _) ?_
                            rintro _ _ _ ⟨rfl, rfl, ⟨g7, rfl⟩ | ⟨g7, rfl⟩⟩
                            · -- pc 86 call X4_isPart true
                              refine And.intro (fun _ => ?_) (fun hh => absurd hh (by decide))
                              refine GW.weak (GW.eqIJ rfl (wJ_0 (na_cpL J 41 39 (nI A).toNatClampNeg (nI B).toNatClampNeg (nI K2).toNatClampNeg) 51 0 (fun j => (na_cpL J 41 39 (nI A).toNatClampNeg (nI B).toNatClampNeg (nI K2).toNatClampNeg) 50 (120 + A + j))).symm (l_cp1_3 sx A K2 (by omega) (nI B) 2 I (na_cpL J 41 39 (nI A).toNatClampNeg (nI B).toNatClampNeg (nI K2).toNatClampNeg) _ ?_ K2 0 (by omega))) ⟨rfl, rfl, rfl, rfl, rfl, rfl, rfl, trivial⟩
                              refine GW.run kX4_copy (fun pc => Nat.beq pc 139) 127 74 rfl ?_
                              refine GW.weak (GW.eqIJ rfl (wJ_0 (wJ (na_cpL J 41 39 (nI A).toNatClampNeg (nI B).toNatClampNeg (nI K2).toNatClampNeg) 51 0 K2 (fun j => (na_cpL J 41 39 (nI A).toNatClampNeg (nI B).toNatClampNeg (nI K2).toNatClampNeg) 50 (120 + A + j))) 50 (80 + B) (fun j => (na_cpL J 41 39 (nI A).toNatClampNeg (nI B).toNatClampNeg (nI K2).toNatClampNeg) 50 (120 + A + j))).symm (l_cp2_2 sx B K2 (by omega) (fun j => (na_cpL J 41 39 (nI A).toNatClampNeg (nI B).toNatClampNeg (nI K2).toNatClampNeg) 50 (120 + A + j)) I (wJ (na_cpL J 41 39 (nI A).toNatClampNeg (nI B).toNatClampNeg (nI K2).toNatClampNeg) 51 0 K2 (fun j => (na_cpL J 41 39 (nI A).toNatClampNeg (nI B).toNatClampNeg (nI K2).toNatClampNeg) 50 (120 + A + j))) (fun j hj => by rw [wJ_on, if_pos (by omega)]; rfl) _ ?_ K2 0 (by omega))) ⟨rfl, rfl, rfl, rfl, rfl, trivial⟩
                              refine ⟨rfl, ?_⟩
                              exact hS.copied (s := 3) (t := 2) (A := A) (B := B) (K := K2) (by decide) (by decide) s4 t4 s3 t3 hA hB (u := (fun j => (na_cpL J 41 39 (nI A).toNatClampNeg (nI B).toNatClampNeg (nI K2).toNatClampNeg) 50 (120 + A + j))) (fun j hj => rfl) (fun a ha => by rw [wJ_off ha, hcA, hcB, hcK])
                            · -- pc 86 call X4_isPart false
                              exact absurd (show strP _ _ (I 49 2) by rw [← t45]; exact h9) g7
                          · -- pc 74 call X4_isPart false
                            exact absurd (show strP _ _ (I 49 3) by rw [← s45]; exact h8) g6
                        · -- pc 59 .if_icmp .eq 10: no
                          exact absurd (show I 48 3 = I 48 2 from s1.symm.trans ((show I 40 1 = I 38 1 from h7).trans t1)) g5
                      · -- pc 36 .ifCond .ne 11: no
                        exact absurd (show I 38 1 = 0 from t1.trans g4) h5
                  · -- pc 8 call X4_isSheet false
                    exact absurd (by decide) g2
                · -- pc 1 call X4_isSheet false
                  exact absurd (by decide) g1
              · -- pc 97 call X1_hasStretch false
                refine And.intro (fun hh => absurd hh (by decide)) (fun _ => ?_)
                refine Mt.conseq (c_fnd0 _ _ _) ?_
                rintro _ _ _ ⟨rfl, rfl, rfl⟩
                refine ⟨trivial, _, rfl, ?_⟩
                refine Mt.of2 _ rfl (by decide +kernel) (Nat.le_of_ble_eq_true rfl) ?_
                refine GW.run kX4_copy (fun pc => Nat.beq pc 102) 127 0 rfl ?_
                refine Mt.conseq (m_isSheet _ _ _ _) ?_
                rintro _ _ _ ⟨rfl, rfl, ⟨g1, rfl⟩ | ⟨g1, rfl⟩⟩
                · -- pc 1 call X4_isSheet true
                  refine And.intro (fun hh => absurd hh (by decide)) (fun _ => ?_)
                  refine Mt.conseq (m_isSheet _ _ _ _) ?_
                  rintro _ _ _ ⟨rfl, rfl, ⟨g2, rfl⟩ | ⟨g2, rfl⟩⟩
                  · -- pc 8 call X4_isSheet true
                    refine And.intro (fun _ => ?_) (fun hh => absurd hh (by decide))
                    refine And.intro (by unfold vp_in; decide) ?_
                    refine And.intro (fun g3 => ?_) (fun g3 => ?_)
                    · -- pc 27 .ifCond .eq 12: yes
                      exact absurd (show I 40 1 = 0 from s1.trans g3) h3
                    · -- pc 27 .ifCond .eq 12: no
                      refine And.intro (by unfold vp_in; decide) ?_
                      refine And.intro (fun g4 => ?_) (fun g4 => ?_)
                      · -- pc 36 .ifCond .ne 11: yes
                        refine And.intro (by unfold vp_in; decide) ?_
                        refine And.intro (by unfold vp_in; decide) ?_
                        refine And.intro (fun g5 => ?_) (fun g5 => ?_)
                        · -- pc 59 .if_icmp .eq 10: yes
                          refine Mt.conseq (m_part3 _ _ _ _ _) ?_
                          rintro _ _ _ ⟨rfl, rfl, ⟨g6, rfl⟩ | ⟨g6, rfl⟩⟩
                          · -- pc 74 call X4_isPart true
                            refine And.intro (fun hh => absurd hh (by decide)) (fun _ => ?_)
                            refine Mt.conseq (m_part2 _ _ _ _ _) ?_
                            rintro _ _ _ ⟨rfl, rfl, ⟨g7, rfl⟩ | ⟨g7, rfl⟩⟩
                            · -- pc 86 call X4_isPart true
                              exact absurd (show strP _ _ (I 38 2) by rw [t45]; exact g7) h9
                            · -- pc 86 call X4_isPart false
                              refine And.intro (fun hh => absurd hh (by decide)) (fun _ => ?_)
                              refine Mt.conseq (m_fnd0 _ _ _) ?_
                              rintro _ _ _ ⟨rfl, rfl, rfl⟩
                              exact ⟨trivial, rfl, hS.found (by decide)⟩
                          · -- pc 74 call X4_isPart false
                            exact absurd (show strP _ _ (I 49 3) by rw [← s45]; exact h8) g6
                        · -- pc 59 .if_icmp .eq 10: no
                          exact absurd (show I 48 3 = I 48 2 from s1.symm.trans ((show I 40 1 = I 38 1 from h7).trans t1)) g5
                      · -- pc 36 .ifCond .ne 11: no
                        exact absurd (show I 38 1 = 0 from t1.trans g4) h5
                  · -- pc 8 call X4_isSheet false
                    exact absurd (by decide) g2
                · -- pc 1 call X4_isSheet false
                  exact absurd (by decide) g1
            · -- pc 85 call X1_hasStretch false
              refine And.intro (fun _ => ?_) (fun hh => absurd hh (by decide))
              refine Mt.conseq (c_fnd0 _ _ _) ?_
              rintro _ _ _ ⟨rfl, rfl, rfl⟩
              refine ⟨trivial, _, rfl, ?_⟩
              refine Mt.of2 _ rfl (by decide +kernel) (Nat.le_of_ble_eq_true rfl) ?_
              refine GW.run kX4_copy (fun pc => Nat.beq pc 102) 127 0 rfl ?_
              refine Mt.conseq (m_isSheet _ _ _ _) ?_
              rintro _ _ _ ⟨rfl, rfl, ⟨g1, rfl⟩ | ⟨g1, rfl⟩⟩
              · -- pc 1 call X4_isSheet true
                refine And.intro (fun hh => absurd hh (by decide)) (fun _ => ?_)
                refine Mt.conseq (m_isSheet _ _ _ _) ?_
                rintro _ _ _ ⟨rfl, rfl, ⟨g2, rfl⟩ | ⟨g2, rfl⟩⟩
                · -- pc 8 call X4_isSheet true
                  refine And.intro (fun _ => ?_) (fun hh => absurd hh (by decide))
                  refine And.intro (by unfold vp_in; decide) ?_
                  refine And.intro (fun g3 => ?_) (fun g3 => ?_)
                  · -- pc 27 .ifCond .eq 12: yes
                    exact absurd (show I 40 1 = 0 from s1.trans g3) h3
                  · -- pc 27 .ifCond .eq 12: no
                    refine And.intro (by unfold vp_in; decide) ?_
                    refine And.intro (fun g4 => ?_) (fun g4 => ?_)
                    · -- pc 36 .ifCond .ne 11: yes
                      refine And.intro (by unfold vp_in; decide) ?_
                      refine And.intro (by unfold vp_in; decide) ?_
                      refine And.intro (fun g5 => ?_) (fun g5 => ?_)
                      · -- pc 59 .if_icmp .eq 10: yes
                        refine Mt.conseq (m_part3 _ _ _ _ _) ?_
                        rintro _ _ _ ⟨rfl, rfl, ⟨g6, rfl⟩ | ⟨g6, rfl⟩⟩
                        · -- pc 74 call X4_isPart true
                          exact absurd (show strP _ _ (I 40 2) by rw [s45]; exact g6) h8
                        · -- pc 74 call X4_isPart false
                          refine And.intro (fun _ => ?_) (fun hh => absurd hh (by decide))
                          refine Mt.conseq (m_fnd0 _ _ _) ?_
                          rintro _ _ _ ⟨rfl, rfl, rfl⟩
                          exact ⟨trivial, rfl, hS.found (by decide)⟩
                      · -- pc 59 .if_icmp .eq 10: no
                        exact absurd (show I 48 3 = I 48 2 from s1.symm.trans ((show I 40 1 = I 38 1 from h7).trans t1)) g5
                    · -- pc 36 .ifCond .ne 11: no
                      exact absurd (show I 38 1 = 0 from t1.trans g4) h5
                · -- pc 8 call X4_isSheet false
                  exact absurd (by decide) g2
              · -- pc 1 call X4_isSheet false
                exact absurd (by decide) g1
          · -- pc 70 .if_icmp .eq 10: no
            refine Mt.conseq (c_fnd2 _ _ _) ?_
            rintro _ _ _ ⟨rfl, rfl, rfl⟩
            refine ⟨trivial, _, rfl, ?_⟩
            refine Mt.of2 _ rfl (by decide +kernel) (Nat.le_of_ble_eq_true rfl) ?_
            refine GW.run kX4_copy (fun pc => Nat.beq pc 102) 127 0 rfl ?_
            refine Mt.conseq (m_isSheet _ _ _ _) ?_
            rintro _ _ _ ⟨rfl, rfl, ⟨g1, rfl⟩ | ⟨g1, rfl⟩⟩
            · -- pc 1 call X4_isSheet true
              refine And.intro (fun hh => absurd hh (by decide)) (fun _ => ?_)
              refine Mt.conseq (m_isSheet _ _ _ _) ?_
              rintro _ _ _ ⟨rfl, rfl, ⟨g2, rfl⟩ | ⟨g2, rfl⟩⟩
              · -- pc 8 call X4_isSheet true
                refine And.intro (fun _ => ?_) (fun hh => absurd hh (by decide))
                refine And.intro (by unfold vp_in; decide) ?_
                refine And.intro (fun g3 => ?_) (fun g3 => ?_)
                · -- pc 27 .ifCond .eq 12: yes
                  exact absurd (show I 40 1 = 0 from s1.trans g3) h3
                · -- pc 27 .ifCond .eq 12: no
                  refine And.intro (by unfold vp_in; decide) ?_
                  refine And.intro (fun g4 => ?_) (fun g4 => ?_)
                  · -- pc 36 .ifCond .ne 11: yes
                    refine And.intro (by unfold vp_in; decide) ?_
                    refine And.intro (by unfold vp_in; decide) ?_
                    refine And.intro (fun g5 => ?_) (fun g5 => ?_)
                    · -- pc 59 .if_icmp .eq 10: yes
                      exact absurd (show I 40 1 = I 38 1 from s1.trans ((show I 48 3 = I 48 2 from g5).trans t1.symm)) h7
                    · -- pc 59 .if_icmp .eq 10: no
                      refine Mt.conseq (m_fnd2 _ _ _) ?_
                      rintro _ _ _ ⟨rfl, rfl, rfl⟩
                      exact ⟨trivial, rfl, hS.found (by decide)⟩
                  · -- pc 36 .ifCond .ne 11: no
                    exact absurd (show I 38 1 = 0 from t1.trans g4) h5
              · -- pc 8 call X4_isSheet false
                exact absurd (by decide) g2
            · -- pc 1 call X4_isSheet false
              exact absurd (by decide) g1
set_option maxRecDepth 100000 in
set_option maxHeartbeats 4000000 in
theorem pr_copy3_3 (sx : Nat × (Nat → Int32)) (fr to nn : Int32) : PrI sx MX3_copy MX4_copy [.int 3, .int fr, .int 3, .int to, .int nn] := by
  intro I J hS
  obtain ⟨s1, s2, n, s3, s4, s5, s6⟩ := hS.2.2.2.1 3 (by decide)
  obtain ⟨t1, t2, m, t3, t4, t5, t6⟩ := hS.2.2.2.1 3 (by decide)
  have s45 : I 40 2 = I 49 3 := s4.trans s5.symm
  have t45 : I 40 2 = I 49 3 := t4.trans t5.symm
  refine Mt.of2 _ rfl (by decide +kernel) (Nat.le_of_ble_eq_true rfl) ?_
  refine GW.run kX3_copy (fun _ => false) 93 0 rfl ?_
  refine Mt.conseq (c_noSheet _ _ _ _) ?_
  rintro _ _ _ ⟨rfl, rfl, ⟨h1, rfl⟩ | ⟨h1, rfl⟩⟩
  · -- pc 1 call X3_noSheet true
    exact absurd h1 (by decide)
  · -- pc 1 call X3_noSheet false
    refine And.intro (fun hh => absurd hh (by decide)) (fun _ => ?_)
    refine Mt.conseq (c_noSheet _ _ _ _) ?_
    rintro _ _ _ ⟨rfl, rfl, ⟨h2, rfl⟩ | ⟨h2, rfl⟩⟩
    · -- pc 8 call X3_noSheet true
      exact absurd h2 (by decide)
    · -- pc 8 call X3_noSheet false
      refine And.intro (fun _ => ?_) (fun hh => absurd hh (by decide))
      refine And.intro (by unfold vp_in; decide) ?_
      refine And.intro (by unfold vp_in; decide) ?_
      refine Mt.conseq (c_miss3 _ _ _) ?_
      rintro _ _ _ ⟨rfl, rfl, ⟨h3, rfl⟩ | ⟨h3, rfl⟩⟩
      · -- pc 39 call X1_isMissing true
        refine And.intro (fun _ => ?_) (fun hh => absurd hh (by decide))
        refine Mt.conseq (c_fnd5 _ _ _) ?_
        rintro _ _ _ ⟨rfl, rfl, rfl⟩
        refine ⟨trivial, _, rfl, ?_⟩
        refine Mt.of2 _ rfl (by decide +kernel) (Nat.le_of_ble_eq_true rfl) ?_
        refine GW.run kX4_copy (fun pc => Nat.beq pc 102) 127 0 rfl ?_
        refine Mt.conseq (m_isSheet _ _ _ _) ?_
        rintro _ _ _ ⟨rfl, rfl, ⟨g1, rfl⟩ | ⟨g1, rfl⟩⟩
        · -- pc 1 call X4_isSheet true
          refine And.intro (fun hh => absurd hh (by decide)) (fun _ => ?_)
          refine Mt.conseq (m_isSheet _ _ _ _) ?_
          rintro _ _ _ ⟨rfl, rfl, ⟨g2, rfl⟩ | ⟨g2, rfl⟩⟩
          · -- pc 8 call X4_isSheet true
            refine And.intro (fun _ => ?_) (fun hh => absurd hh (by decide))
            refine And.intro (by unfold vp_in; decide) ?_
            refine And.intro (fun g3 => ?_) (fun g3 => ?_)
            · -- pc 27 .ifCond .eq 12: yes
              refine Mt.conseq (m_fnd5 _ _ _) ?_
              rintro _ _ _ ⟨rfl, rfl, rfl⟩
              exact ⟨trivial, rfl, hS.found (by decide)⟩
            · -- pc 27 .ifCond .eq 12: no
              exact absurd (show I 48 3 = 0 from s1.symm.trans h3) g3
          · -- pc 8 call X4_isSheet false
            exact absurd (by decide) g2
        · -- pc 1 call X4_isSheet false
          exact absurd (by decide) g1
      · -- pc 39 call X1_isMissing false
        refine And.intro (fun hh => absurd hh (by decide)) (fun _ => ?_)
        refine Mt.conseq (c_miss3 _ _ _) ?_
        rintro _ _ _ ⟨rfl, rfl, ⟨h5, rfl⟩ | ⟨h5, rfl⟩⟩
        · -- pc 47 call X1_isMissing true
          refine And.intro (fun hh => absurd hh (by decide)) (fun _ => ?_)
          refine Mt.conseq (c_fnd5 _ _ _) ?_
          rintro _ _ _ ⟨rfl, rfl, rfl⟩
          refine ⟨trivial, _, rfl, ?_⟩
          refine Mt.of2 _ rfl (by decide +kernel) (Nat.le_of_ble_eq_true rfl) ?_
          refine GW.run kX4_copy (fun pc => Nat.beq pc 102) 127 0 rfl ?_
          refine Mt.conseq (m_isSheet _ _ _ _) ?_
          rintro _ _ _ ⟨rfl, rfl, ⟨g1, rfl⟩ | ⟨g1, rfl⟩⟩
          · -- pc 1 call X4_isSheet true
            refine And.intro (fun hh => absurd hh (by decide)) (fun _ => ?_)
            refine Mt.conseq (m_isSheet _ _ _ _) ?_
            rintro _ _ _ ⟨rfl, rfl, ⟨g2, rfl⟩ | ⟨g2, rfl⟩⟩
            · -- pc 8 call X4_isSheet true
              refine And.intro (fun _ => ?_) (fun hh => absurd hh (by decide))
              refine And.intro (by unfold vp_in; decide) ?_
              refine And.intro (fun g3 => ?_) (fun g3 => ?_)
              · -- pc 27 .ifCond .eq 12: yes
                exact absurd (show I 40 1 = 0 from s1.trans g3) h3
              · -- pc 27 .ifCond .eq 12: no
                refine And.intro (by unfold vp_in; decide) ?_
                refine And.intro (fun g4 => ?_) (fun g4 => ?_)
                · -- pc 36 .ifCond .ne 11: yes
                  exact absurd (show I 48 3 = 0 from t1.symm.trans h5) g4
                · -- pc 36 .ifCond .ne 11: no
                  refine Mt.conseq (m_fnd5 _ _ _) ?_
                  rintro _ _ _ ⟨rfl, rfl, rfl⟩
                  exact ⟨trivial, rfl, hS.found (by decide)⟩
            · -- pc 8 call X4_isSheet false
              exact absurd (by decide) g2
          · -- pc 1 call X4_isSheet false
            exact absurd (by decide) g1
        · -- pc 47 call X1_isMissing false
          refine And.intro (fun _ => ?_) (fun hh => absurd hh (by decide))
          refine And.intro (fun h7 => ?_) (fun h7 => ?_)
          · -- pc 70 .if_icmp .eq 10: yes
            refine Mt.conseq (c_str3 _ _ _ _ _) ?_
            rintro _ _ _ ⟨rfl, rfl, ⟨h8, rfl⟩ | ⟨h8, rfl⟩⟩
            · -- pc 85 call X1_hasStretch true
              refine And.intro (fun hh => absurd hh (by decide)) (fun _ => ?_)
              refine Mt.conseq (c_str3 _ _ _ _ _) ?_
              rintro _ _ _ ⟨rfl, rfl, ⟨h9, rfl⟩ | ⟨h9, rfl⟩⟩
              · -- pc 97 call X1_hasStretch true
                obtain ⟨A, K, rfl, rfl, hA⟩ := str_nat s4 s3 h8
                obtain ⟨B, K2, rfl, eK, hB⟩ := str_nat t4 t3 h9
                obtain rfl : K2 = K := by
                  have z1 : K ≤ 40 := by omega
                  have z2 : K2 ≤ 40 := by omega
                  exact ((nI_eq (by omega) (by omega)).mp eK).symm
                have hcA := nI_clamp (n := A) (by omega)
                have hcB := nI_clamp (n := B) (by omega)
                have hcK := nI_clamp (n := K2) (by omega)
                have hcp : ¬ nI A < 0 ∧ ¬ nI B < 0 ∧ ¬ nI K2 < 0 ∧ (nI A).toNatClampNeg + (nI K2).toNatClampNeg ≤ 40 ∧ (nI B).toNatClampNeg + (nI K2).toNatClampNeg ≤ 40 := ⟨nI_pos (by omega), nI_pos (by omega), nI_pos (by omega), by rw [hcA, hcK]; omega, by rw [hcB, hcK]; omega⟩
                refine And.intro (fun _ => ?_) (fun hh => absurd hh (by decide))
                refine And.intro (hcp) ?_
                refine ⟨trivial, _, rfl, ?_⟩
                refine Mt.of2 _ rfl (by decide +kernel) (Nat.le_of_ble_eq_true rfl) ?_
                refine GW.run kX4_copy (fun pc => Nat.beq pc 102) 127 0 rfl ?_
                refine Mt.conseq (m_isSheet _ _ _ _) ?_
                rintro _ _ _ ⟨rfl, rfl, ⟨g1, rfl⟩ | ⟨g1, rfl⟩⟩
                · -- pc 1 call X4_isSheet true
                  refine And.intro (fun hh => absurd hh (by decide)) (fun _ => ?_)
                  refine Mt.conseq (m_isSheet _ _ _ _) ?_
                  rintro _ _ _ ⟨rfl, rfl, ⟨g2, rfl⟩ | ⟨g2, rfl⟩⟩
                  · -- pc 8 call X4_isSheet true
                    refine And.intro (fun _ => ?_) (fun hh => absurd hh (by decide))
                    refine And.intro (by unfold vp_in; decide) ?_
                    refine And.intro (fun g3 => ?_) (fun g3 => ?_)
                    · -- pc 27 .ifCond .eq 12: yes
                      exact absurd (show I 40 1 = 0 from s1.trans g3) h3
                    · -- pc 27 .ifCond .eq 12: no
                      refine And.intro (by unfold vp_in; decide) ?_
                      refine And.intro (fun g4 => ?_) (fun g4 => ?_)
                      · -- pc 36 .ifCond .ne 11: yes
                        refine And.intro (by unfold vp_in; decide) ?_
                        refine And.intro (by unfold vp_in; decide) ?_
                        refine And.intro (fun g5 => ?_) (fun g5 => ?_)
                        · -- pc 59 .if_icmp .eq 10: yes
                          refine Mt.conseq (m_part3 _ _ _ _ _) ?_
                          rintro _ _ _ ⟨rfl, rfl, ⟨g6, rfl⟩ | ⟨g6, rfl⟩⟩
                          · -- pc 74 call X4_isPart true
                            refine And.intro (fun hh => absurd hh (by decide)) (fun _ => ?_)
                            refine Mt.conseq (m_part3 _ _ _ _ _) ?_
                            rintro _ _ _ ⟨rfl, rfl, ⟨g7, rfl⟩ | ⟨g7, rfl⟩⟩
                            · -- pc 86 call X4_isPart true
                              refine And.intro (fun _ => ?_) (fun hh => absurd hh (by decide))
                              refine GW.weak (GW.eqIJ rfl (wJ_0 (na_cpL J 41 41 (nI A).toNatClampNeg (nI B).toNatClampNeg (nI K2).toNatClampNeg) 51 0 (fun j => (na_cpL J 41 41 (nI A).toNatClampNeg (nI B).toNatClampNeg (nI K2).toNatClampNeg) 50 (120 + A + j))).symm (l_cp1_3 sx A K2 (by omega) (nI B) 3 I (na_cpL J 41 41 (nI A).toNatClampNeg (nI B).toNatClampNeg (nI K2).toNatClampNeg) _ ?_ K2 0 (by omega))) ⟨rfl, rfl, rfl, rfl, rfl, rfl, rfl, trivial⟩
                              refine GW.run kX4_copy (fun pc => Nat.beq pc 139) 127 74 rfl ?_
                              refine GW.weak (GW.eqIJ rfl (wJ_0 (wJ (na_cpL J 41 41 (nI A).toNatClampNeg (nI B).toNatClampNeg (nI K2).toNatClampNeg) 51 0 K2 (fun j => (na_cpL J 41 41 (nI A).toNatClampNeg (nI B).toNatClampNeg (nI K2).toNatClampNeg) 50 (120 + A + j))) 50 (120 + B) (fun j => (na_cpL J 41 41 (nI A).toNatClampNeg (nI B).toNatClampNeg (nI K2).toNatClampNeg) 50 (120 + A + j))).symm (l_cp2_3 sx B K2 (by omega) (fun j => (na_cpL J 41 41 (nI A).toNatClampNeg (nI B).toNatClampNeg (nI K2).toNatClampNeg) 50 (120 + A + j)) I (wJ (na_cpL J 41 41 (nI A).toNatClampNeg (nI B).toNatClampNeg (nI K2).toNatClampNeg) 51 0 K2 (fun j => (na_cpL J 41 41 (nI A).toNatClampNeg (nI B).toNatClampNeg (nI K2).toNatClampNeg) 50 (120 + A + j))) (fun j hj => by rw [wJ_on, if_pos (by omega)]; rfl) _ ?_ K2 0 (by omega))) ⟨rfl, rfl, rfl, rfl, rfl, trivial⟩
                              refine ⟨rfl, ?_⟩
                              exact hS.copied (s := 3) (t := 3) (A := A) (B := B) (K := K2) (by decide) (by decide) s4 t4 s3 t3 hA hB (u := (fun j => (na_cpL J 41 41 (nI A).toNatClampNeg (nI B).toNatClampNeg (nI K2).toNatClampNeg) 50 (120 + A + j))) (fun j hj => rfl) (fun a ha => by rw [wJ_off ha, hcA, hcB, hcK])
                            · -- pc 86 call X4_isPart false
                              exact absurd (show strP _ _ (I 49 3) by rw [← t45]; exact h9) g7
                          · -- pc 74 call X4_isPart false
                            exact absurd (show strP _ _ (I 49 3) by rw [← s45]; exact h8) g6
                        · -- pc 59 .if_icmp .eq 10: no
                          exact absurd (show I 48 3 = I 48 3 from s1.symm.trans ((show I 40 1 = I 40 1 from h7).trans t1)) g5
                      · -- pc 36 .ifCond .ne 11: no
                        exact absurd (show I 40 1 = 0 from t1.trans g4) h5
                  · -- pc 8 call X4_isSheet false
                    exact absurd (by decide) g2
                · -- pc 1 call X4_isSheet false
                  exact absurd (by decide) g1
              · -- pc 97 call X1_hasStretch false
                refine And.intro (fun hh => absurd hh (by decide)) (fun _ => ?_)
                refine Mt.conseq (c_fnd0 _ _ _) ?_
                rintro _ _ _ ⟨rfl, rfl, rfl⟩
                refine ⟨trivial, _, rfl, ?_⟩
                refine Mt.of2 _ rfl (by decide +kernel) (Nat.le_of_ble_eq_true rfl) ?_
                refine GW.run kX4_copy (fun pc => Nat.beq pc 102) 127 0 rfl ?_
                refine Mt.conseq (m_isSheet _ _ _ _) ?_
                rintro _ _ _ ⟨rfl, rfl, ⟨g1, rfl⟩ | ⟨g1, rfl⟩⟩
                · -- pc 1 call X4_isSheet true
                  refine And.intro (fun hh => absurd hh (by decide)) (fun _ => ?_)
                  refine Mt.conseq (m_isSheet _ _ _ _) ?_
                  rintro _ _ _ ⟨rfl, rfl, ⟨g2, rfl⟩ | ⟨g2, rfl⟩⟩
                  · -- pc 8 call X4_isSheet true
                    refine And.intro (fun _ => ?_) (fun hh => absurd hh (by decide))
                    refine And.intro (by unfold vp_in; decide) ?_
                    refine And.intro (fun g3 => ?_) (fun g3 => ?_)
                    · -- pc 27 .ifCond .eq 12: yes
                      exact absurd (show I 40 1 = 0 from s1.trans g3) h3
                    · -- pc 27 .ifCond .eq 12: no
                      refine And.intro (by unfold vp_in; decide) ?_
                      refine And.intro (fun g4 => ?_) (fun g4 => ?_)
                      · -- pc 36 .ifCond .ne 11: yes
                        refine And.intro (by unfold vp_in; decide) ?_
                        refine And.intro (by unfold vp_in; decide) ?_
                        refine And.intro (fun g5 => ?_) (fun g5 => ?_)
                        · -- pc 59 .if_icmp .eq 10: yes
                          refine Mt.conseq (m_part3 _ _ _ _ _) ?_
                          rintro _ _ _ ⟨rfl, rfl, ⟨g6, rfl⟩ | ⟨g6, rfl⟩⟩
                          · -- pc 74 call X4_isPart true
                            refine And.intro (fun hh => absurd hh (by decide)) (fun _ => ?_)
                            refine Mt.conseq (m_part3 _ _ _ _ _) ?_
                            rintro _ _ _ ⟨rfl, rfl, ⟨g7, rfl⟩ | ⟨g7, rfl⟩⟩
                            · -- pc 86 call X4_isPart true
                              exact absurd (show strP _ _ (I 40 2) by rw [t45]; exact g7) h9
                            · -- pc 86 call X4_isPart false
                              refine And.intro (fun hh => absurd hh (by decide)) (fun _ => ?_)
                              refine Mt.conseq (m_fnd0 _ _ _) ?_
                              rintro _ _ _ ⟨rfl, rfl, rfl⟩
                              exact ⟨trivial, rfl, hS.found (by decide)⟩
                          · -- pc 74 call X4_isPart false
                            exact absurd (show strP _ _ (I 49 3) by rw [← s45]; exact h8) g6
                        · -- pc 59 .if_icmp .eq 10: no
                          exact absurd (show I 48 3 = I 48 3 from s1.symm.trans ((show I 40 1 = I 40 1 from h7).trans t1)) g5
                      · -- pc 36 .ifCond .ne 11: no
                        exact absurd (show I 40 1 = 0 from t1.trans g4) h5
                  · -- pc 8 call X4_isSheet false
                    exact absurd (by decide) g2
                · -- pc 1 call X4_isSheet false
                  exact absurd (by decide) g1
            · -- pc 85 call X1_hasStretch false
              refine And.intro (fun _ => ?_) (fun hh => absurd hh (by decide))
              refine Mt.conseq (c_fnd0 _ _ _) ?_
              rintro _ _ _ ⟨rfl, rfl, rfl⟩
              refine ⟨trivial, _, rfl, ?_⟩
              refine Mt.of2 _ rfl (by decide +kernel) (Nat.le_of_ble_eq_true rfl) ?_
              refine GW.run kX4_copy (fun pc => Nat.beq pc 102) 127 0 rfl ?_
              refine Mt.conseq (m_isSheet _ _ _ _) ?_
              rintro _ _ _ ⟨rfl, rfl, ⟨g1, rfl⟩ | ⟨g1, rfl⟩⟩
              · -- pc 1 call X4_isSheet true
                refine And.intro (fun hh => absurd hh (by decide)) (fun _ => ?_)
                refine Mt.conseq (m_isSheet _ _ _ _) ?_
                rintro _ _ _ ⟨rfl, rfl, ⟨g2, rfl⟩ | ⟨g2, rfl⟩⟩
                · -- pc 8 call X4_isSheet true
                  refine And.intro (fun _ => ?_) (fun hh => absurd hh (by decide))
                  refine And.intro (by unfold vp_in; decide) ?_
                  refine And.intro (fun g3 => ?_) (fun g3 => ?_)
                  · -- pc 27 .ifCond .eq 12: yes
                    exact absurd (show I 40 1 = 0 from s1.trans g3) h3
                  · -- pc 27 .ifCond .eq 12: no
                    refine And.intro (by unfold vp_in; decide) ?_
                    refine And.intro (fun g4 => ?_) (fun g4 => ?_)
                    · -- pc 36 .ifCond .ne 11: yes
                      refine And.intro (by unfold vp_in; decide) ?_
                      refine And.intro (by unfold vp_in; decide) ?_
                      refine And.intro (fun g5 => ?_) (fun g5 => ?_)
                      · -- pc 59 .if_icmp .eq 10: yes
                        refine Mt.conseq (m_part3 _ _ _ _ _) ?_
                        rintro _ _ _ ⟨rfl, rfl, ⟨g6, rfl⟩ | ⟨g6, rfl⟩⟩
                        · -- pc 74 call X4_isPart true
                          exact absurd (show strP _ _ (I 40 2) by rw [s45]; exact g6) h8
                        · -- pc 74 call X4_isPart false
                          refine And.intro (fun _ => ?_) (fun hh => absurd hh (by decide))
                          refine Mt.conseq (m_fnd0 _ _ _) ?_
                          rintro _ _ _ ⟨rfl, rfl, rfl⟩
                          exact ⟨trivial, rfl, hS.found (by decide)⟩
                      · -- pc 59 .if_icmp .eq 10: no
                        exact absurd (show I 48 3 = I 48 3 from s1.symm.trans ((show I 40 1 = I 40 1 from h7).trans t1)) g5
                    · -- pc 36 .ifCond .ne 11: no
                      exact absurd (show I 40 1 = 0 from t1.trans g4) h5
                · -- pc 8 call X4_isSheet false
                  exact absurd (by decide) g2
              · -- pc 1 call X4_isSheet false
                exact absurd (by decide) g1
          · -- pc 70 .if_icmp .eq 10: no
            refine Mt.conseq (c_fnd2 _ _ _) ?_
            rintro _ _ _ ⟨rfl, rfl, rfl⟩
            refine ⟨trivial, _, rfl, ?_⟩
            refine Mt.of2 _ rfl (by decide +kernel) (Nat.le_of_ble_eq_true rfl) ?_
            refine GW.run kX4_copy (fun pc => Nat.beq pc 102) 127 0 rfl ?_
            refine Mt.conseq (m_isSheet _ _ _ _) ?_
            rintro _ _ _ ⟨rfl, rfl, ⟨g1, rfl⟩ | ⟨g1, rfl⟩⟩
            · -- pc 1 call X4_isSheet true
              refine And.intro (fun hh => absurd hh (by decide)) (fun _ => ?_)
              refine Mt.conseq (m_isSheet _ _ _ _) ?_
              rintro _ _ _ ⟨rfl, rfl, ⟨g2, rfl⟩ | ⟨g2, rfl⟩⟩
              · -- pc 8 call X4_isSheet true
                refine And.intro (fun _ => ?_) (fun hh => absurd hh (by decide))
                refine And.intro (by unfold vp_in; decide) ?_
                refine And.intro (fun g3 => ?_) (fun g3 => ?_)
                · -- pc 27 .ifCond .eq 12: yes
                  exact absurd (show I 40 1 = 0 from s1.trans g3) h3
                · -- pc 27 .ifCond .eq 12: no
                  refine And.intro (by unfold vp_in; decide) ?_
                  refine And.intro (fun g4 => ?_) (fun g4 => ?_)
                  · -- pc 36 .ifCond .ne 11: yes
                    refine And.intro (by unfold vp_in; decide) ?_
                    refine And.intro (by unfold vp_in; decide) ?_
                    refine And.intro (fun g5 => ?_) (fun g5 => ?_)
                    · -- pc 59 .if_icmp .eq 10: yes
                      exact absurd (show I 40 1 = I 40 1 from s1.trans ((show I 48 3 = I 48 3 from g5).trans t1.symm)) h7
                    · -- pc 59 .if_icmp .eq 10: no
                      refine Mt.conseq (m_fnd2 _ _ _) ?_
                      rintro _ _ _ ⟨rfl, rfl, rfl⟩
                      exact ⟨trivial, rfl, hS.found (by decide)⟩
                  · -- pc 36 .ifCond .ne 11: no
                    exact absurd (show I 40 1 = 0 from t1.trans g4) h5
              · -- pc 8 call X4_isSheet false
                exact absurd (by decide) g2
            · -- pc 1 call X4_isSheet false
              exact absurd (by decide) g1
set_option maxRecDepth 100000 in
set_option maxHeartbeats 4000000 in
theorem pr_copyx (sx : Nat × (Nat → Int32)) (s fr t to nn : Int32) (hx : outP s 0 3 ∨ outP t 0 3) : PrI sx MX3_copy MX4_copy [.int s, .int fr, .int t, .int to, .int nn] := by
  intro I J hS
  refine Mt.of2 _ rfl (by decide +kernel) (Nat.le_of_ble_eq_true rfl) ?_
  refine GW.run kX3_copy (fun _ => false) 93 0 rfl ?_
  refine Mt.conseq (c_noSheet _ _ _ _) ?_
  rintro _ _ _ ⟨rfl, rfl, ⟨h1, rfl⟩ | ⟨h1, rfl⟩⟩
  · -- pc 1 call X3_noSheet true
    refine And.intro (fun _ => ?_) (fun hh => absurd hh (by decide))
    refine Mt.conseq (c_fnd0 _ _ _) ?_
    rintro _ _ _ ⟨rfl, rfl, rfl⟩
    refine ⟨trivial, _, rfl, ?_⟩
    refine Mt.of2 _ rfl (by decide +kernel) (Nat.le_of_ble_eq_true rfl) ?_
    refine GW.run kX4_copy (fun pc => Nat.beq pc 102) 127 0 rfl ?_
    refine Mt.conseq (m_isSheet _ _ _ _) ?_
    rintro _ _ _ ⟨rfl, rfl, ⟨g1, rfl⟩ | ⟨g1, rfl⟩⟩
    · -- pc 1 call X4_isSheet true
      exact (out_in h1 g1).elim
    · -- pc 1 call X4_isSheet false
      refine And.intro (fun _ => ?_) (fun hh => absurd hh (by decide))
      refine Mt.conseq (m_fnd0 _ _ _) ?_
      rintro _ _ _ ⟨rfl, rfl, rfl⟩
      exact ⟨trivial, rfl, hS.found (by decide)⟩
  · -- pc 1 call X3_noSheet false
    refine And.intro (fun hh => absurd hh (by decide)) (fun _ => ?_)
    refine Mt.conseq (c_noSheet _ _ _ _) ?_
    rintro _ _ _ ⟨rfl, rfl, ⟨h3, rfl⟩ | ⟨h3, rfl⟩⟩
    · -- pc 8 call X3_noSheet true
      refine And.intro (fun hh => absurd hh (by decide)) (fun _ => ?_)
      refine Mt.conseq (c_fnd0 _ _ _) ?_
      rintro _ _ _ ⟨rfl, rfl, rfl⟩
      refine ⟨trivial, _, rfl, ?_⟩
      refine Mt.of2 _ rfl (by decide +kernel) (Nat.le_of_ble_eq_true rfl) ?_
      refine GW.run kX4_copy (fun pc => Nat.beq pc 102) 127 0 rfl ?_
      refine Mt.conseq (m_isSheet _ _ _ _) ?_
      rintro _ _ _ ⟨rfl, rfl, ⟨g1, rfl⟩ | ⟨g1, rfl⟩⟩
      · -- pc 1 call X4_isSheet true
        refine And.intro (fun hh => absurd hh (by decide)) (fun _ => ?_)
        refine Mt.conseq (m_isSheet _ _ _ _) ?_
        rintro _ _ _ ⟨rfl, rfl, ⟨g2, rfl⟩ | ⟨g2, rfl⟩⟩
        · -- pc 8 call X4_isSheet true
          exact (out_in h3 g2).elim
        · -- pc 8 call X4_isSheet false
          refine And.intro (fun hh => absurd hh (by decide)) (fun _ => ?_)
          refine Mt.conseq (m_fnd0 _ _ _) ?_
          rintro _ _ _ ⟨rfl, rfl, rfl⟩
          exact ⟨trivial, rfl, hS.found (by decide)⟩
      · -- pc 1 call X4_isSheet false
        exact (nout_nin h1 g1).elim
    · -- pc 8 call X3_noSheet false
      exact (hx.elim h1 h3).elim
theorem pr_copy (sx : Nat × (Nat → Int32)) (s fr t to nn : Int32) : PrI sx MX3_copy MX4_copy [.int s, .int fr, .int t, .int to, .int nn] := by
  by_cases hx : outP s 0 3 ∨ outP t 0 3
  · exact pr_copyx sx s fr t to nn hx
  · obtain ⟨a, ha, rfl⟩ := nout_nI (b := 3) (by decide) (fun z => hx (Or.inl z))
    obtain ⟨b, hb, rfl⟩ := nout_nI (b := 3) (by decide) (fun z => hx (Or.inr z))
    obtain rfl | rfl | rfl | rfl : a = 0 ∨ a = 1 ∨ a = 2 ∨ a = 3 := by omega
    · obtain rfl | rfl | rfl | rfl : b = 0 ∨ b = 1 ∨ b = 2 ∨ b = 3 := by omega
      · exact pr_copy0_0 sx fr to nn
      · exact pr_copy0_1 sx fr to nn
      · exact pr_copy0_2 sx fr to nn
      · exact pr_copy0_3 sx fr to nn
    · obtain rfl | rfl | rfl | rfl : b = 0 ∨ b = 1 ∨ b = 2 ∨ b = 3 := by omega
      · exact pr_copy1_0 sx fr to nn
      · exact pr_copy1_1 sx fr to nn
      · exact pr_copy1_2 sx fr to nn
      · exact pr_copy1_3 sx fr to nn
    · obtain rfl | rfl | rfl | rfl : b = 0 ∨ b = 1 ∨ b = 2 ∨ b = 3 := by omega
      · exact pr_copy2_0 sx fr to nn
      · exact pr_copy2_1 sx fr to nn
      · exact pr_copy2_2 sx fr to nn
      · exact pr_copy2_3 sx fr to nn
    · obtain rfl | rfl | rfl | rfl : b = 0 ∨ b = 1 ∨ b = 2 ∨ b = 3 := by omega
      · exact pr_copy3_0 sx fr to nn
      · exact pr_copy3_1 sx fr to nn
      · exact pr_copy3_2 sx fr to nn
      · exact pr_copy3_3 sx fr to nn
