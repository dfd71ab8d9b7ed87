/-! THE TAPE: words and numbers -/
def weq (u v : Nat → Int32) : Nat → Nat → Bool
  | 0, _ => true
  | m + 1, n => if u n = v n then weq u v m (n + 1) else false
/-- the token from e on is word i -/
abbrev Wd (B : Nat → Int32) (L i e : Nat) : Prop := tK B L e = 0 ∧ tE B L e - tSt B L e = wdN i ∧ weq (fun j => B (tSt B L e + j)) (wdL i) (wdN i) 0 = true
/-- the number of n digits -/
def nmV (B : Nat → Int32) (s : Nat) : Nat → Int32
  | 0 => 0
  | n + 1 => jmin 10000 (nmV B s n * 10 + B (s + n) - 48)
def vlE (B : Nat → Int32) (L e : Nat) : Int32 := nmV B (tSt B L e) (tE B L e - tSt B L e)
abbrev Nm (B : Nat → Int32) (L : Nat) (lo hi : Int32) (e : Nat) : Prop := tK B L e = 1 ∧ ¬ outP (vlE B L e) lo hi
def yS (I N : Mm) (L e : Nat) (x : Int32) : Mm := pN 21 N (clT I (nI (tK (I 32) L e)) (nI (tSt (I 32) L e)) (nI (tE (I 32) L e)) x)
theorem cS_y {I N : Mm} {L e : Nat} {x : Int32} : cS (pN 21 N I) L e x = yS I N L e x := clT_pN
theorem y_step (sx : Nat × (Nat → Int32)) (L : Nat) (hL1 : L ≤ 120) (I : Mm) (hL : I 31 1 = nI L) (N : Mm) (e : Nat) (he : e ≤ L) (x : Int32) (J : Ml) : Mt sx MX2_step [.ref 31] (yS I N L e x) J (fun r I' J' => yS I N L (tE (I 32) L e) x = I' ∧ J = J' ∧ r = none) := by
  have h := c_stp sx L hL1 (pN 21 N I) hL e he x J
  rw [cS_y, cS_y] at h
  exact h
set_option maxRecDepth 100000 in
set_option maxHeartbeats 4000000 in
theorem l_isW0 (sx : Nat × (Nat → Int32)) (s : Nat) (hs : s + 6 ≤ 120) (I : Mm) (hI : I 31 3 = nI s) (T : Bool) (J : Ml) (Rt : Option Value → Mm → Ml → Prop) (hR1 : T = true → Rt (some (.int 1)) I J) (hR2 : T = false → Rt (some (.int 0)) I J) : ∀ m n , n + m = 6 → weq (fun j => I 32 (s + j)) (wdL 0) m n = T → GW sx (na_mi MX2_isWord) Rt 27 [some (.ref 31), some (.ref 100), some (.int (nI n))] [] I J := by
  intro m
  induction m with
  | zero =>
    intro n  hn hw
    obtain rfl : n = 6 := by omega
    have hz : nI 6 ≤ nI 6 := Int32.le_refl _
    refine GW.run kX2_isWord (fun pc => Nat.beq pc 27) 66 15 rfl ?_
    refine Mt.conseq (c_len0 _ _ _) ?_
    rintro _ _ _ ⟨rfl, rfl, rfl⟩
    refine And.intro (fun _ => ?_) (fun hh => absurd hz hh)
    exact ⟨na_nl_b1, hR1 hw.symm⟩
  | succ m ih =>
    intro n  hn hw
    have hz : ¬ nI 6 ≤ nI n := nI_ge (by omega) (by decide)
    have e : I 31 3 + nI n = nI (s + n) := by rw [hI, nI_add]
    have hb : vp_in (I 31 3 + nI n) 120 := by rw [e]; exact vp_in_nI (by omega) (by omega)
    have hc : (I 31 3 + nI n).toNatClampNeg = s + n := by rw [e, nI_clamp (by omega)]
    refine GW.run kX2_isWord (fun pc => Nat.beq pc 27) 66 15 rfl ?_
    refine Mt.conseq (c_len0 _ _ _) ?_
    rintro _ _ _ ⟨rfl, rfl, rfl⟩
    refine And.intro (fun hh => absurd hh hz) (fun _ => ?_)
    refine And.intro (hb) ?_
    refine Mt.conseq (c_chr0 _ n (by omega) _ _) ?_
    rintro _ _ _ ⟨rfl, rfl, rfl⟩
    refine And.intro (fun h3 => ?_) (fun h3 => ?_)
    · -- pc 51 .if_icmp .eq 5: yes
      rw [weq, if_pos (show I 32 (s + n) = wdL 0 n from by have z : I 32 (I 31 3 + nI n).toNatClampNeg = wdL 0 n := h3; rw [hc] at z; exact z)] at hw
      exact GW.weak (ih (n + 1) (by omega) hw) ⟨rfl, rfl, by rw [nI_1], trivial⟩
    · -- pc 51 .if_icmp .eq 5: no
      rw [weq, if_neg (fun z => h3 (by show I 32 (I 31 3 + nI n).toNatClampNeg = wdL 0 n; rw [hc]; exact z))] at hw
      exact ⟨na_nl_b0, hR2 hw.symm⟩
set_option maxRecDepth 100000 in
set_option maxHeartbeats 4000000 in
theorem y_isW0 (sx : Nat × (Nat → Int32)) (L : Nat) (hL1 : L ≤ 120) (I : Mm) (hL : I 31 1 = nI L) (N : Mm) (e : Nat) (he : e ≤ L) (x : Int32) (J : Ml) : Mt sx MX2_isWord [.ref 31, .ref 100] (yS I N L e x) J (na_b (yS I N L e x) J (Wd (I 32) L 0 e)) := by
  have h5 := tK_5 (I 32) L e
  have hb1 := tSt_b (B := I 32) he
  have hb2 := tE_b (B := I 32) he
  have hsub : nI (tE (I 32) L e) - nI (tSt (I 32) L e) = nI (tE (I 32) L e - tSt (I 32) L e) := pk_sub (by omega)
  refine Mt.of2 _ rfl (by decide +kernel) (Nat.le_of_ble_eq_true rfl) ?_
  refine GW.run kX2_isWord (fun pc => Nat.beq pc 27) 66 0 rfl ?_
  refine And.intro (fun h1 => ?_) (fun h1 => ?_)
  · -- pc 4 .ifCond .ne 19: yes
    exact ⟨na_nl_b0, rfl, rfl, Or.inr ⟨fun z => h1 (by show nI (tK (I 32) L e) = 0; rw [z.1]; rfl), rfl⟩⟩
  · -- pc 4 .ifCond .ne 19: no
    refine Mt.conseq (c_len0 _ _ _) ?_
    rintro _ _ _ ⟨rfl, rfl, rfl⟩
    refine And.intro (fun h3 => ?_) (fun h3 => ?_)
    · -- pc 20 .if_icmp .eq 5: yes
      have k0 : tK (I 32) L e = 0 := by
        have z : nI (tK (I 32) L e) = nI 0 := h1
        exact (nI_eq (by omega) (by omega)).mp z
      have kl : tE (I 32) L e - tSt (I 32) L e = 6 := by
        have z : nI (tE (I 32) L e) - nI (tSt (I 32) L e) = nI 6 := h3
        rw [hsub, nI_eq (by omega) (by omega)] at z
        exact z
      exact GW.weak (l_isW0 sx (tSt (I 32) L e) (by omega) (yS I N L e x) rfl (weq (fun j => I 32 (tSt (I 32) L e + j)) (wdL 0) 6 0) J _ (fun z => ⟨rfl, rfl, Or.inl ⟨⟨k0, kl, z⟩, rfl⟩⟩) (fun z => ⟨rfl, rfl, Or.inr ⟨fun q => absurd (q.2.2.symm.trans z) (by decide), rfl⟩⟩) 6 0 rfl rfl) ⟨rfl, rfl, rfl, trivial⟩
    · -- pc 20 .if_icmp .eq 5: no
      exact ⟨na_nl_b0, rfl, rfl, Or.inr ⟨fun z => h3 (by show nI (tE (I 32) L e) - nI (tSt (I 32) L e) = nI 6; rw [hsub, z.2.1]; rfl), rfl⟩⟩
set_option maxRecDepth 100000 in
set_option maxHeartbeats 4000000 in
theorem l_isW1 (sx : Nat × (Nat → Int32)) (s : Nat) (hs : s + 6 ≤ 120) (I : Mm) (hI : I 31 3 = nI s) (T : Bool) (J : Ml) (Rt : Option Value → Mm → Ml → Prop) (hR1 : T = true → Rt (some (.int 1)) I J) (hR2 : T = false → Rt (some (.int 0)) I J) : ∀ m n , n + m = 6 → weq (fun j => I 32 (s + j)) (wdL 1) m n = T → GW sx (na_mi MX2_isWord) Rt 27 [some (.ref 31), some (.ref 101), some (.int (nI n))] [] I J := by
  intro m
  induction m with
  | zero =>
    intro n  hn hw
    obtain rfl : n = 6 := by omega
    have hz : nI 6 ≤ nI 6 := Int32.le_refl _
    refine GW.run kX2_isWord (fun pc => Nat.beq pc 27) 66 15 rfl ?_
    refine Mt.conseq (c_len1 _ _ _) ?_
    rintro _ _ _ ⟨rfl, rfl, rfl⟩
    refine And.intro (fun _ => ?_) (fun hh => absurd hz hh)
    exact ⟨na_nl_b1, hR1 hw.symm⟩
  | succ m ih =>
    intro n  hn hw
    have hz : ¬ nI 6 ≤ nI n := nI_ge (by omega) (by decide)
    have e : I 31 3 + nI n = nI (s + n) := by rw [hI, nI_add]
    have hb : vp_in (I 31 3 + nI n) 120 := by rw [e]; exact vp_in_nI (by omega) (by omega)
    have hc : (I 31 3 + nI n).toNatClampNeg = s + n := by rw [e, nI_clamp (by omega)]
    refine GW.run kX2_isWord (fun pc => Nat.beq pc 27) 66 15 rfl ?_
    refine Mt.conseq (c_len1 _ _ _) ?_
    rintro _ _ _ ⟨rfl, rfl, rfl⟩
    refine And.intro (fun hh => absurd hh hz) (fun _ => ?_)
    refine And.intro (hb) ?_
    refine Mt.conseq (c_chr1 _ n (by omega) _ _) ?_
    rintro _ _ _ ⟨rfl, rfl, rfl⟩
    refine And.intro (fun h3 => ?_) (fun h3 => ?_)
    · -- pc 51 .if_icmp .eq 5: yes
      rw [weq, if_pos (show I 32 (s + n) = wdL 1 n from by have z : I 32 (I 31 3 + nI n).toNatClampNeg = wdL 1 n := h3; rw [hc] at z; exact z)] at hw
      exact GW.weak (ih (n + 1) (by omega) hw) ⟨rfl, rfl, by rw [nI_1], trivial⟩
    · -- pc 51 .if_icmp .eq 5: no
      rw [weq, if_neg (fun z => h3 (by show I 32 (I 31 3 + nI n).toNatClampNeg = wdL 1 n; rw [hc]; exact z))] at hw
      exact ⟨na_nl_b0, hR2 hw.symm⟩
set_option maxRecDepth 100000 in
set_option maxHeartbeats 4000000 in
theorem y_isW1 (sx : Nat × (Nat → Int32)) (L : Nat) (hL1 : L ≤ 120) (I : Mm) (hL : I 31 1 = nI L) (N : Mm) (e : Nat) (he : e ≤ L) (x : Int32) (J : Ml) : Mt sx MX2_isWord [.ref 31, .ref 101] (yS I N L e x) J (na_b (yS I N L e x) J (Wd (I 32) L 1 e)) := by
  have h5 := tK_5 (I 32) L e
  have hb1 := tSt_b (B := I 32) he
  have hb2 := tE_b (B := I 32) he
  have hsub : nI (tE (I 32) L e) - nI (tSt (I 32) L e) = nI (tE (I 32) L e - tSt (I 32) L e) := pk_sub (by omega)
  refine Mt.of2 _ rfl (by decide +kernel) (Nat.le_of_ble_eq_true rfl) ?_
  refine GW.run kX2_isWord (fun pc => Nat.beq pc 27) 66 0 rfl ?_
  refine And.intro (fun h1 => ?_) (fun h1 => ?_)
  · -- pc 4 .ifCond .ne 19: yes
    exact ⟨na_nl_b0, rfl, rfl, Or.inr ⟨fun z => h1 (by show nI (tK (I 32) L e) = 0; rw [z.1]; rfl), rfl⟩⟩
  · -- pc 4 .ifCond .ne 19: no
    refine Mt.conseq (c_len1 _ _ _) ?_
    rintro _ _ _ ⟨rfl, rfl, rfl⟩
    refine And.intro (fun h3 => ?_) (fun h3 => ?_)
    · -- pc 20 .if_icmp .eq 5: yes
      have k0 : tK (I 32) L e = 0 := by
        have z : nI (tK (I 32) L e) = nI 0 := h1
        exact (nI_eq (by omega) (by omega)).mp z
      have kl : tE (I 32) L e - tSt (I 32) L e = 6 := by
        have z : nI (tE (I 32) L e) - nI (tSt (I 32) L e) = nI 6 := h3
        rw [hsub, nI_eq (by omega) (by omega)] at z
        exact z
      exact GW.weak (l_isW1 sx (tSt (I 32) L e) (by omega) (yS I N L e x) rfl (weq (fun j => I 32 (tSt (I 32) L e + j)) (wdL 1) 6 0) J _ (fun z => ⟨rfl, rfl, Or.inl ⟨⟨k0, kl, z⟩, rfl⟩⟩) (fun z => ⟨rfl, rfl, Or.inr ⟨fun q => absurd (q.2.2.symm.trans z) (by decide), rfl⟩⟩) 6 0 rfl rfl) ⟨rfl, rfl, rfl, trivial⟩
    · -- pc 20 .if_icmp .eq 5: no
      exact ⟨na_nl_b0, rfl, rfl, Or.inr ⟨fun z => h3 (by show nI (tE (I 32) L e) - nI (tSt (I 32) L e) = nI 6; rw [hsub, z.2.1]; rfl), rfl⟩⟩
set_option maxRecDepth 100000 in
set_option maxHeartbeats 4000000 in
theorem l_isW2 (sx : Nat × (Nat → Int32)) (s : Nat) (hs : s + 7 ≤ 120) (I : Mm) (hI : I 31 3 = nI s) (T : Bool) (J : Ml) (Rt : Option Value → Mm → Ml → Prop) (hR1 : T = true → Rt (some (.int 1)) I J) (hR2 : T = false → Rt (some (.int 0)) I J) : ∀ m n , n + m = 7 → weq (fun j => I 32 (s + j)) (wdL 2) m n = T → GW sx (na_mi MX2_isWord) Rt 27 [some (.ref 31), some (.ref 102), some (.int (nI n))] [] I J := by
  intro m
  induction m with
  | zero =>
    intro n  hn hw
    obtain rfl : n = 7 := by omega
    have hz : nI 7 ≤ nI 7 := Int32.le_refl _
    refine GW.run kX2_isWord (fun pc => Nat.beq pc 27) 66 15 rfl ?_
    refine Mt.conseq (c_len2 _ _ _) ?_
    rintro _ _ _ ⟨rfl, rfl, rfl⟩
    refine And.intro (fun _ => ?_) (fun hh => absurd hz hh)
    exact ⟨na_nl_b1, hR1 hw.symm⟩
  | succ m ih =>
    intro n  hn hw
    have hz : ¬ nI 7 ≤ nI n := nI_ge (by omega) (by decide)
    have e : I 31 3 + nI n = nI (s + n) := by rw [hI, nI_add]
    have hb : vp_in (I 31 3 + nI n) 120 := by rw [e]; exact vp_in_nI (by omega) (by omega)
    have hc : (I 31 3 + nI n).toNatClampNeg = s + n := by rw [e, nI_clamp (by omega)]
    refine GW.run kX2_isWord (fun pc => Nat.beq pc 27) 66 15 rfl ?_
    refine Mt.conseq (c_len2 _ _ _) ?_
    rintro _ _ _ ⟨rfl, rfl, rfl⟩
    refine And.intro (fun hh => absurd hh hz) (fun _ => ?_)
    refine And.intro (hb) ?_
    refine Mt.conseq (c_chr2 _ n (by omega) _ _) ?_
    rintro _ _ _ ⟨rfl, rfl, rfl⟩
    refine And.intro (fun h3 => ?_) (fun h3 => ?_)
    · -- pc 51 .if_icmp .eq 5: yes
      rw [weq, if_pos (show I 32 (s + n) = wdL 2 n from by have z : I 32 (I 31 3 + nI n).toNatClampNeg = wdL 2 n := h3; rw [hc] at z; exact z)] at hw
      exact GW.weak (ih (n + 1) (by omega) hw) ⟨rfl, rfl, by rw [nI_1], trivial⟩
    · -- pc 51 .if_icmp .eq 5: no
      rw [weq, if_neg (fun z => h3 (by show I 32 (I 31 3 + nI n).toNatClampNeg = wdL 2 n; rw [hc]; exact z))] at hw
      exact ⟨na_nl_b0, hR2 hw.symm⟩
set_option maxRecDepth 100000 in
set_option maxHeartbeats 4000000 in
theorem y_isW2 (sx : Nat × (Nat → Int32)) (L : Nat) (hL1 : L ≤ 120) (I : Mm) (hL : I 31 1 = nI L) (N : Mm) (e : Nat) (he : e ≤ L) (x : Int32) (J : Ml) : Mt sx MX2_isWord [.ref 31, .ref 102] (yS I N L e x) J (na_b (yS I N L e x) J (Wd (I 32) L 2 e)) := by
  have h5 := tK_5 (I 32) L e
  have hb1 := tSt_b (B := I 32) he
  have hb2 := tE_b (B := I 32) he
  have hsub : nI (tE (I 32) L e) - nI (tSt (I 32) L e) = nI (tE (I 32) L e - tSt (I 32) L e) := pk_sub (by omega)
  refine Mt.of2 _ rfl (by decide +kernel) (Nat.le_of_ble_eq_true rfl) ?_
  refine GW.run kX2_isWord (fun pc => Nat.beq pc 27) 66 0 rfl ?_
  refine And.intro (fun h1 => ?_) (fun h1 => ?_)
  · -- pc 4 .ifCond .ne 19: yes
    exact ⟨na_nl_b0, rfl, rfl, Or.inr ⟨fun z => h1 (by show nI (tK (I 32) L e) = 0; rw [z.1]; rfl), rfl⟩⟩
  · -- pc 4 .ifCond .ne 19: no
    refine Mt.conseq (c_len2 _ _ _) ?_
    rintro _ _ _ ⟨rfl, rfl, rfl⟩
    refine And.intro (fun h3 => ?_) (fun h3 => ?_)
    · -- pc 20 .if_icmp .eq 5: yes
      have k0 : tK (I 32) L e = 0 := by
        have z : nI (tK (I 32) L e) = nI 0 := h1
        exact (nI_eq (by omega) (by omega)).mp z
      have kl : tE (I 32) L e - tSt (I 32) L e = 7 := by
        have z : nI (tE (I 32) L e) - nI (tSt (I 32) L e) = nI 7 := h3
        rw [hsub, nI_eq (by omega) (by omega)] at z
        exact z
      exact GW.weak (l_isW2 sx (tSt (I 32) L e) (by omega) (yS I N L e x) rfl (weq (fun j => I 32 (tSt (I 32) L e + j)) (wdL 2) 7 0) J _ (fun z => ⟨rfl, rfl, Or.inl ⟨⟨k0, kl, z⟩, rfl⟩⟩) (fun z => ⟨rfl, rfl, Or.inr ⟨fun q => absurd (q.2.2.symm.trans z) (by decide), rfl⟩⟩) 7 0 rfl rfl) ⟨rfl, rfl, rfl, trivial⟩
    · -- pc 20 .if_icmp .eq 5: no
      exact ⟨na_nl_b0, rfl, rfl, Or.inr ⟨fun z => h3 (by show nI (tE (I 32) L e) - nI (tSt (I 32) L e) = nI 7; rw [hsub, z.2.1]; rfl), rfl⟩⟩
set_option maxRecDepth 100000 in
set_option maxHeartbeats 4000000 in
theorem l_isW3 (sx : Nat × (Nat → Int32)) (s : Nat) (hs : s + 6 ≤ 120) (I : Mm) (hI : I 31 3 = nI s) (T : Bool) (J : Ml) (Rt : Option Value → Mm → Ml → Prop) (hR1 : T = true → Rt (some (.int 1)) I J) (hR2 : T = false → Rt (some (.int 0)) I J) : ∀ m n , n + m = 6 → weq (fun j => I 32 (s + j)) (wdL 3) m n = T → GW sx (na_mi MX2_isWord) Rt 27 [some (.ref 31), some (.ref 103), some (.int (nI n))] [] I J := by
  intro m
  induction m with
  | zero =>
    intro n  hn hw
    obtain rfl : n = 6 := by omega
    have hz : nI 6 ≤ nI 6 := Int32.le_refl _
    refine GW.run kX2_isWord (fun pc => Nat.beq pc 27) 66 15 rfl ?_
    refine Mt.conseq (c_len3 _ _ _) ?_
    rintro _ _ _ ⟨rfl, rfl, rfl⟩
    refine And.intro (fun _ => ?_) (fun hh => absurd hz hh)
    exact ⟨na_nl_b1, hR1 hw.symm⟩
  | succ m ih =>
    intro n  hn hw
    have hz : ¬ nI 6 ≤ nI n := nI_ge (by omega) (by decide)
    have e : I 31 3 + nI n = nI (s + n) := by rw [hI, nI_add]
    have hb : vp_in (I 31 3 + nI n) 120 := by rw [e]; exact vp_in_nI (by omega) (by omega)
    have hc : (I 31 3 + nI n).toNatClampNeg = s + n := by rw [e, nI_clamp (by omega)]
    refine GW.run kX2_isWord (fun pc => Nat.beq pc 27) 66 15 rfl ?_
    refine Mt.conseq (c_len3 _ _ _) ?_
    rintro _ _ _ ⟨rfl, rfl, rfl⟩
    refine And.intro (fun hh => absurd hh hz) (fun _ => ?_)
    refine And.intro (hb) ?_
    refine Mt.conseq (c_chr3 _ n (by omega) _ _) ?_
    rintro _ _ _ ⟨rfl, rfl, rfl⟩
    refine And.intro (fun h3 => ?_) (fun h3 => ?_)
    · -- pc 51 .if_icmp .eq 5: yes
      rw [weq, if_pos (show I 32 (s + n) = wdL 3 n from by have z : I 32 (I 31 3 + nI n).toNatClampNeg = wdL 3 n := h3; rw [hc] at z; exact z)] at hw
      exact GW.weak (ih (n + 1) (by omega) hw) ⟨rfl, rfl, by rw [nI_1], trivial⟩
    · -- pc 51 .if_icmp .eq 5: no
      rw [weq, if_neg (fun z => h3 (by show I 32 (I 31 3 + nI n).toNatClampNeg = wdL 3 n; rw [hc]; exact z))] at hw
      exact ⟨na_nl_b0, hR2 hw.symm⟩
set_option maxRecDepth 100000 in
set_option maxHeartbeats 4000000 in
theorem y_isW3 (sx : Nat × (Nat → Int32)) (L : Nat) (hL1 : L ≤ 120) (I : Mm) (hL : I 31 1 = nI L) (N : Mm) (e : Nat) (he : e ≤ L) (x : Int32) (J : Ml) : Mt sx MX2_isWord [.ref 31, .ref 103] (yS I N L e x) J (na_b (yS I N L e x) J (Wd (I 32) L 3 e)) := by
  have h5 := tK_5 (I 32) L e
  have hb1 := tSt_b (B := I 32) he
  have hb2 := tE_b (B := I 32) he
  have hsub : nI (tE (I 32) L e) - nI (tSt (I 32) L e) = nI (tE (I 32) L e - tSt (I 32) L e) := pk_sub (by omega)
  refine Mt.of2 _ rfl (by decide +kernel) (Nat.le_of_ble_eq_true rfl) ?_
  refine GW.run kX2_isWord (fun pc => Nat.beq pc 27) 66 0 rfl ?_
  refine And.intro (fun h1 => ?_) (fun h1 => ?_)
  · -- pc 4 .ifCond .ne 19: yes
    exact ⟨na_nl_b0, rfl, rfl, Or.inr ⟨fun z => h1 (by show nI (tK (I 32) L e) = 0; rw [z.1]; rfl), rfl⟩⟩
  · -- pc 4 .ifCond .ne 19: no
    refine Mt.conseq (c_len3 _ _ _) ?_
    rintro _ _ _ ⟨rfl, rfl, rfl⟩
    refine And.intro (fun h3 => ?_) (fun h3 => ?_)
    · -- pc 20 .if_icmp .eq 5: yes
      have k0 : tK (I 32) L e = 0 := by
        have z : nI (tK (I 32) L e) = nI 0 := h1
        exact (nI_eq (by omega) (by omega)).mp z
      have kl : tE (I 32) L e - tSt (I 32) L e = 6 := by
        have z : nI (tE (I 32) L e) - nI (tSt (I 32) L e) = nI 6 := h3
        rw [hsub, nI_eq (by omega) (by omega)] at z
        exact z
      exact GW.weak (l_isW3 sx (tSt (I 32) L e) (by omega) (yS I N L e x) rfl (weq (fun j => I 32 (tSt (I 32) L e + j)) (wdL 3) 6 0) J _ (fun z => ⟨rfl, rfl, Or.inl ⟨⟨k0, kl, z⟩, rfl⟩⟩) (fun z => ⟨rfl, rfl, Or.inr ⟨fun q => absurd (q.2.2.symm.trans z) (by decide), rfl⟩⟩) 6 0 rfl rfl) ⟨rfl, rfl, rfl, trivial⟩
    · -- pc 20 .if_icmp .eq 5: no
      exact ⟨na_nl_b0, rfl, rfl, Or.inr ⟨fun z => h3 (by show nI (tE (I 32) L e) - nI (tSt (I 32) L e) = nI 6; rw [hsub, z.2.1]; rfl), rfl⟩⟩
set_option maxRecDepth 100000 in
set_option maxHeartbeats 4000000 in
theorem l_isW4 (sx : Nat × (Nat → Int32)) (s : Nat) (hs : s + 5 ≤ 120) (I : Mm) (hI : I 31 3 = nI s) (T : Bool) (J : Ml) (Rt : Option Value → Mm → Ml → Prop) (hR1 : T = true → Rt (some (.int 1)) I J) (hR2 : T = false → Rt (some (.int 0)) I J) : ∀ m n , n + m = 5 → weq (fun j => I 32 (s + j)) (wdL 4) m n = T → GW sx (na_mi MX2_isWord) Rt 27 [some (.ref 31), some (.ref 104), some (.int (nI n))] [] I J := by
  intro m
  induction m with
  | zero =>
    intro n  hn hw
    obtain rfl : n = 5 := by omega
    have hz : nI 5 ≤ nI 5 := Int32.le_refl _
    refine GW.run kX2_isWord (fun pc => Nat.beq pc 27) 66 15 rfl ?_
    refine Mt.conseq (c_len4 _ _ _) ?_
    rintro _ _ _ ⟨rfl, rfl, rfl⟩
    refine And.intro (fun _ => ?_) (fun hh => absurd hz hh)
    exact ⟨na_nl_b1, hR1 hw.symm⟩
  | succ m ih =>
    intro n  hn hw
    have hz : ¬ nI 5 ≤ nI n := nI_ge (by omega) (by decide)
    have e : I 31 3 + nI n = nI (s + n) := by rw [hI, nI_add]
    have hb : vp_in (I 31 3 + nI n) 120 := by rw [e]; exact vp_in_nI (by omega) (by omega)
    have hc : (I 31 3 + nI n).toNatClampNeg = s + n := by rw [e, nI_clamp (by omega)]
    refine GW.run kX2_isWord (fun pc => Nat.beq pc 27) 66 15 rfl ?_
    refine Mt.conseq (c_len4 _ _ _) ?_
    rintro _ _ _ ⟨rfl, rfl, rfl⟩
    refine And.intro (fun hh => absurd hh hz) (fun _ => ?_)
    refine And.intro (hb) ?_
    refine Mt.conseq (c_chr4 _ n (by omega) _ _) ?_
    rintro _ _ _ ⟨rfl, rfl, rfl⟩
    refine And.intro (fun h3 => ?_) (fun h3 => ?_)
    · -- pc 51 .if_icmp .eq 5: yes
      rw [weq, if_pos (show I 32 (s + n) = wdL 4 n from by have z : I 32 (I 31 3 + nI n).toNatClampNeg = wdL 4 n := h3; rw [hc] at z; exact z)] at hw
      exact GW.weak (ih (n + 1) (by omega) hw) ⟨rfl, rfl, by rw [nI_1], trivial⟩
    · -- pc 51 .if_icmp .eq 5: no
      rw [weq, if_neg (fun z => h3 (by show I 32 (I 31 3 + nI n).toNatClampNeg = wdL 4 n; rw [hc]; exact z))] at hw
      exact ⟨na_nl_b0, hR2 hw.symm⟩
set_option maxRecDepth 100000 in
set_option maxHeartbeats 4000000 in
theorem y_isW4 (sx : Nat × (Nat → Int32)) (L : Nat) (hL1 : L ≤ 120) (I : Mm) (hL : I 31 1 = nI L) (N : Mm) (e : Nat) (he : e ≤ L) (x : Int32) (J : Ml) : Mt sx MX2_isWord [.ref 31, .ref 104] (yS I N L e x) J (na_b (yS I N L e x) J (Wd (I 32) L 4 e)) := by
  have h5 := tK_5 (I 32) L e
  have hb1 := tSt_b (B := I 32) he
  have hb2 := tE_b (B := I 32) he
  have hsub : nI (tE (I 32) L e) - nI (tSt (I 32) L e) = nI (tE (I 32) L e - tSt (I 32) L e) := pk_sub (by omega)
  refine Mt.of2 _ rfl (by decide +kernel) (Nat.le_of_ble_eq_true rfl) ?_
  refine GW.run kX2_isWord (fun pc => Nat.beq pc 27) 66 0 rfl ?_
  refine And.intro (fun h1 => ?_) (fun h1 => ?_)
  · -- pc 4 .ifCond .ne 19: yes
    exact ⟨na_nl_b0, rfl, rfl, Or.inr ⟨fun z => h1 (by show nI (tK (I 32) L e) = 0; rw [z.1]; rfl), rfl⟩⟩
  · -- pc 4 .ifCond .ne 19: no
    refine Mt.conseq (c_len4 _ _ _) ?_
    rintro _ _ _ ⟨rfl, rfl, rfl⟩
    refine And.intro (fun h3 => ?_) (fun h3 => ?_)
    · -- pc 20 .if_icmp .eq 5: yes
      have k0 : tK (I 32) L e = 0 := by
        have z : nI (tK (I 32) L e) = nI 0 := h1
        exact (nI_eq (by omega) (by omega)).mp z
      have kl : tE (I 32) L e - tSt (I 32) L e = 5 := by
        have z : nI (tE (I 32) L e) - nI (tSt (I 32) L e) = nI 5 := h3
        rw [hsub, nI_eq (by omega) (by omega)] at z
        exact z
      exact GW.weak (l_isW4 sx (tSt (I 32) L e) (by omega) (yS I N L e x) rfl (weq (fun j => I 32 (tSt (I 32) L e + j)) (wdL 4) 5 0) J _ (fun z => ⟨rfl, rfl, Or.inl ⟨⟨k0, kl, z⟩, rfl⟩⟩) (fun z => ⟨rfl, rfl, Or.inr ⟨fun q => absurd (q.2.2.symm.trans z) (by decide), rfl⟩⟩) 5 0 rfl rfl) ⟨rfl, rfl, rfl, trivial⟩
    · -- pc 20 .if_icmp .eq 5: no
      exact ⟨na_nl_b0, rfl, rfl, Or.inr ⟨fun z => h3 (by show nI (tE (I 32) L e) - nI (tSt (I 32) L e) = nI 5; rw [hsub, z.2.1]; rfl), rfl⟩⟩
set_option maxRecDepth 100000 in
set_option maxHeartbeats 4000000 in
theorem l_isW5 (sx : Nat × (Nat → Int32)) (s : Nat) (hs : s + 7 ≤ 120) (I : Mm) (hI : I 31 3 = nI s) (T : Bool) (J : Ml) (Rt : Option Value → Mm → Ml → Prop) (hR1 : T = true → Rt (some (.int 1)) I J) (hR2 : T = false → Rt (some (.int 0)) I J) : ∀ m n , n + m = 7 → weq (fun j => I 32 (s + j)) (wdL 5) m n = T → GW sx (na_mi MX2_isWord) Rt 27 [some (.ref 31), some (.ref 105), some (.int (nI n))] [] I J := by
  intro m
  induction m with
  | zero =>
    intro n  hn hw
    obtain rfl : n = 7 := by omega
    have hz : nI 7 ≤ nI 7 := Int32.le_refl _
    refine GW.run kX2_isWord (fun pc => Nat.beq pc 27) 66 15 rfl ?_
    refine Mt.conseq (c_len5 _ _ _) ?_
    rintro _ _ _ ⟨rfl, rfl, rfl⟩
    refine And.intro (fun _ => ?_) (fun hh => absurd hz hh)
    exact ⟨na_nl_b1, hR1 hw.symm⟩
  | succ m ih =>
    intro n  hn hw
    have hz : ¬ nI 7 ≤ nI n := nI_ge (by omega) (by decide)
    have e : I 31 3 + nI n = nI (s + n) := by rw [hI, nI_add]
    have hb : vp_in (I 31 3 + nI n) 120 := by rw [e]; exact vp_in_nI (by omega) (by omega)
    have hc : (I 31 3 + nI n).toNatClampNeg = s + n := by rw [e, nI_clamp (by omega)]
    refine GW.run kX2_isWord (fun pc => Nat.beq pc 27) 66 15 rfl ?_
    refine Mt.conseq (c_len5 _ _ _) ?_
    rintro _ _ _ ⟨rfl, rfl, rfl⟩
    refine And.intro (fun hh => absurd hh hz) (fun _ => ?_)
    refine And.intro (hb) ?_
    refine Mt.conseq (c_chr5 _ n (by omega) _ _) ?_
    rintro _ _ _ ⟨rfl, rfl, rfl⟩
    refine And.intro (fun h3 => ?_) (fun h3 => ?_)
    · -- pc 51 .if_icmp .eq 5: yes
      rw [weq, if_pos (show I 32 (s + n) = wdL 5 n from by have z : I 32 (I 31 3 + nI n).toNatClampNeg = wdL 5 n := h3; rw [hc] at z; exact z)] at hw
      exact GW.weak (ih (n + 1) (by omega) hw) ⟨rfl, rfl, by rw [nI_1], trivial⟩
    · -- pc 51 .if_icmp .eq 5: no
      rw [weq, if_neg (fun z => h3 (by show I 32 (I 31 3 + nI n).toNatClampNeg = wdL 5 n; rw [hc]; exact z))] at hw
      exact ⟨na_nl_b0, hR2 hw.symm⟩
set_option maxRecDepth 100000 in
set_option maxHeartbeats 4000000 in
theorem y_isW5 (sx : Nat × (Nat → Int32)) (L : Nat) (hL1 : L ≤ 120) (I : Mm) (hL : I 31 1 = nI L) (N : Mm) (e : Nat) (he : e ≤ L) (x : Int32) (J : Ml) : Mt sx MX2_isWord [.ref 31, .ref 105] (yS I N L e x) J (na_b (yS I N L e x) J (Wd (I 32) L 5 e)) := by
  have h5 := tK_5 (I 32) L e
  have hb1 := tSt_b (B := I 32) he
  have hb2 := tE_b (B := I 32) he
  have hsub : nI (tE (I 32) L e) - nI (tSt (I 32) L e) = nI (tE (I 32) L e - tSt (I 32) L e) := pk_sub (by omega)
  refine Mt.of2 _ rfl (by decide +kernel) (Nat.le_of_ble_eq_true rfl) ?_
  refine GW.run kX2_isWord (fun pc => Nat.beq pc 27) 66 0 rfl ?_
  refine And.intro (fun h1 => ?_) (fun h1 => ?_)
  · -- pc 4 .ifCond .ne 19: yes
    exact ⟨na_nl_b0, rfl, rfl, Or.inr ⟨fun z => h1 (by show nI (tK (I 32) L e) = 0; rw [z.1]; rfl), rfl⟩⟩
  · -- pc 4 .ifCond .ne 19: no
    refine Mt.conseq (c_len5 _ _ _) ?_
    rintro _ _ _ ⟨rfl, rfl, rfl⟩
    refine And.intro (fun h3 => ?_) (fun h3 => ?_)
    · -- pc 20 .if_icmp .eq 5: yes
      have k0 : tK (I 32) L e = 0 := by
        have z : nI (tK (I 32) L e) = nI 0 := h1
        exact (nI_eq (by omega) (by omega)).mp z
      have kl : tE (I 32) L e - tSt (I 32) L e = 7 := by
        have z : nI (tE (I 32) L e) - nI (tSt (I 32) L e) = nI 7 := h3
        rw [hsub, nI_eq (by omega) (by omega)] at z
        exact z
      exact GW.weak (l_isW5 sx (tSt (I 32) L e) (by omega) (yS I N L e x) rfl (weq (fun j => I 32 (tSt (I 32) L e + j)) (wdL 5) 7 0) J _ (fun z => ⟨rfl, rfl, Or.inl ⟨⟨k0, kl, z⟩, rfl⟩⟩) (fun z => ⟨rfl, rfl, Or.inr ⟨fun q => absurd (q.2.2.symm.trans z) (by decide), rfl⟩⟩) 7 0 rfl rfl) ⟨rfl, rfl, rfl, trivial⟩
    · -- pc 20 .if_icmp .eq 5: no
      exact ⟨na_nl_b0, rfl, rfl, Or.inr ⟨fun z => h3 (by show nI (tE (I 32) L e) - nI (tSt (I 32) L e) = nI 7; rw [hsub, z.2.1]; rfl), rfl⟩⟩
set_option maxRecDepth 100000 in
set_option maxHeartbeats 4000000 in
theorem l_isW6 (sx : Nat × (Nat → Int32)) (s : Nat) (hs : s + 2 ≤ 120) (I : Mm) (hI : I 31 3 = nI s) (T : Bool) (J : Ml) (Rt : Option Value → Mm → Ml → Prop) (hR1 : T = true → Rt (some (.int 1)) I J) (hR2 : T = false → Rt (some (.int 0)) I J) : ∀ m n , n + m = 2 → weq (fun j => I 32 (s + j)) (wdL 6) m n = T → GW sx (na_mi MX2_isWord) Rt 27 [some (.ref 31), some (.ref 106), some (.int (nI n))] [] I J := by
  intro m
  induction m with
  | zero =>
    intro n  hn hw
    obtain rfl : n = 2 := by omega
    have hz : nI 2 ≤ nI 2 := Int32.le_refl _
    refine GW.run kX2_isWord (fun pc => Nat.beq pc 27) 66 15 rfl ?_
    refine Mt.conseq (c_len6 _ _ _) ?_
    rintro _ _ _ ⟨rfl, rfl, rfl⟩
    refine And.intro (fun _ => ?_) (fun hh => absurd hz hh)
    exact ⟨na_nl_b1, hR1 hw.symm⟩
  | succ m ih =>
    intro n  hn hw
    have hz : ¬ nI 2 ≤ nI n := nI_ge (by omega) (by decide)
    have e : I 31 3 + nI n = nI (s + n) := by rw [hI, nI_add]
    have hb : vp_in (I 31 3 + nI n) 120 := by rw [e]; exact vp_in_nI (by omega) (by omega)
    have hc : (I 31 3 + nI n).toNatClampNeg = s + n := by rw [e, nI_clamp (by omega)]
    refine GW.run kX2_isWord (fun pc => Nat.beq pc 27) 66 15 rfl ?_
    refine Mt.conseq (c_len6 _ _ _) ?_
    rintro _ _ _ ⟨rfl, rfl, rfl⟩
    refine And.intro (fun hh => absurd hh hz) (fun _ => ?_)
    refine And.intro (hb) ?_
    refine Mt.conseq (c_chr6 _ n (by omega) _ _) ?_
    rintro _ _ _ ⟨rfl, rfl, rfl⟩
    refine And.intro (fun h3 => ?_) (fun h3 => ?_)
    · -- pc 51 .if_icmp .eq 5: yes
      rw [weq, if_pos (show I 32 (s + n) = wdL 6 n from by have z : I 32 (I 31 3 + nI n).toNatClampNeg = wdL 6 n := h3; rw [hc] at z; exact z)] at hw
      exact GW.weak (ih (n + 1) (by omega) hw) ⟨rfl, rfl, by rw [nI_1], trivial⟩
    · -- pc 51 .if_icmp .eq 5: no
      rw [weq, if_neg (fun z => h3 (by show I 32 (I 31 3 + nI n).toNatClampNeg = wdL 6 n; rw [hc]; exact z))] at hw
      exact ⟨na_nl_b0, hR2 hw.symm⟩
set_option maxRecDepth 100000 in
set_option maxHeartbeats 4000000 in
theorem y_isW6 (sx : Nat × (Nat → Int32)) (L : Nat) (hL1 : L ≤ 120) (I : Mm) (hL : I 31 1 = nI L) (N : Mm) (e : Nat) (he : e ≤ L) (x : Int32) (J : Ml) : Mt sx MX2_isWord [.ref 31, .ref 106] (yS I N L e x) J (na_b (yS I N L e x) J (Wd (I 32) L 6 e)) := by
  have h5 := tK_5 (I 32) L e
  have hb1 := tSt_b (B := I 32) he
  have hb2 := tE_b (B := I 32) he
  have hsub : nI (tE (I 32) L e) - nI (tSt (I 32) L e) = nI (tE (I 32) L e - tSt (I 32) L e) := pk_sub (by omega)
  refine Mt.of2 _ rfl (by decide +kernel) (Nat.le_of_ble_eq_true rfl) ?_
  refine GW.run kX2_isWord (fun pc => Nat.beq pc 27) 66 0 rfl ?_
  refine And.intro (fun h1 => ?_) (fun h1 => ?_)
  · -- pc 4 .ifCond .ne 19: yes
    exact ⟨na_nl_b0, rfl, rfl, Or.inr ⟨fun z => h1 (by show nI (tK (I 32) L e) = 0; rw [z.1]; rfl), rfl⟩⟩
  · -- pc 4 .ifCond .ne 19: no
    refine Mt.conseq (c_len6 _ _ _) ?_
    rintro _ _ _ ⟨rfl, rfl, rfl⟩
    refine And.intro (fun h3 => ?_) (fun h3 => ?_)
    · -- pc 20 .if_icmp .eq 5: yes
      have k0 : tK (I 32) L e = 0 := by
        have z : nI (tK (I 32) L e) = nI 0 := h1
        exact (nI_eq (by omega) (by omega)).mp z
      have kl : tE (I 32) L e - tSt (I 32) L e = 2 := by
        have z : nI (tE (I 32) L e) - nI (tSt (I 32) L e) = nI 2 := h3
        rw [hsub, nI_eq (by omega) (by omega)] at z
        exact z
      exact GW.weak (l_isW6 sx (tSt (I 32) L e) (by omega) (yS I N L e x) rfl (weq (fun j => I 32 (tSt (I 32) L e + j)) (wdL 6) 2 0) J _ (fun z => ⟨rfl, rfl, Or.inl ⟨⟨k0, kl, z⟩, rfl⟩⟩) (fun z => ⟨rfl, rfl, Or.inr ⟨fun q => absurd (q.2.2.symm.trans z) (by decide), rfl⟩⟩) 2 0 rfl rfl) ⟨rfl, rfl, rfl, trivial⟩
    · -- pc 20 .if_icmp .eq 5: no
      exact ⟨na_nl_b0, rfl, rfl, Or.inr ⟨fun z => h3 (by show nI (tE (I 32) L e) - nI (tSt (I 32) L e) = nI 2; rw [hsub, z.2.1]; rfl), rfl⟩⟩
set_option maxRecDepth 100000 in
set_option maxHeartbeats 4000000 in
theorem l_isW7 (sx : Nat × (Nat → Int32)) (s : Nat) (hs : s + 4 ≤ 120) (I : Mm) (hI : I 31 3 = nI s) (T : Bool) (J : Ml) (Rt : Option Value → Mm → Ml → Prop) (hR1 : T = true → Rt (some (.int 1)) I J) (hR2 : T = false → Rt (some (.int 0)) I J) : ∀ m n , n + m = 4 → weq (fun j => I 32 (s + j)) (wdL 7) m n = T → GW sx (na_mi MX2_isWord) Rt 27 [some (.ref 31), some (.ref 107), some (.int (nI n))] [] I J := by
  intro m
  induction m with
  | zero =>
    intro n  hn hw
    obtain rfl : n = 4 := by omega
    have hz : nI 4 ≤ nI 4 := Int32.le_refl _
    refine GW.run kX2_isWord (fun pc => Nat.beq pc 27) 66 15 rfl ?_
    refine Mt.conseq (c_len7 _ _ _) ?_
    rintro _ _ _ ⟨rfl, rfl, rfl⟩
    refine And.intro (fun _ => ?_) (fun hh => absurd hz hh)
    exact ⟨na_nl_b1, hR1 hw.symm⟩
  | succ m ih =>
    intro n  hn hw
    have hz : ¬ nI 4 ≤ nI n := nI_ge (by omega) (by decide)
    have e : I 31 3 + nI n = nI (s + n) := by rw [hI, nI_add]
    have hb : vp_in (I 31 3 + nI n) 120 := by rw [e]; exact vp_in_nI (by omega) (by omega)
    have hc : (I 31 3 + nI n).toNatClampNeg = s + n := by rw [e, nI_clamp (by omega)]
    refine GW.run kX2_isWord (fun pc => Nat.beq pc 27) 66 15 rfl ?_
    refine Mt.conseq (c_len7 _ _ _) ?_
    rintro _ _ _ ⟨rfl, rfl, rfl⟩
    refine And.intro (fun hh => absurd hh hz) (fun _ => ?_)
    refine And.intro (hb) ?_
    refine Mt.conseq (c_chr7 _ n (by omega) _ _) ?_
    rintro _ _ _ ⟨rfl, rfl, rfl⟩
    refine And.intro (fun h3 => ?_) (fun h3 => ?_)
    · -- pc 51 .if_icmp .eq 5: yes
      rw [weq, if_pos (show I 32 (s + n) = wdL 7 n from by have z : I 32 (I 31 3 + nI n).toNatClampNeg = wdL 7 n := h3; rw [hc] at z; exact z)] at hw
      exact GW.weak (ih (n + 1) (by omega) hw) ⟨rfl, rfl, by rw [nI_1], trivial⟩
    · -- pc 51 .if_icmp .eq 5: no
      rw [weq, if_neg (fun z => h3 (by show I 32 (I 31 3 + nI n).toNatClampNeg = wdL 7 n; rw [hc]; exact z))] at hw
      exact ⟨na_nl_b0, hR2 hw.symm⟩
set_option maxRecDepth 100000 in
set_option maxHeartbeats 4000000 in
theorem y_isW7 (sx : Nat × (Nat → Int32)) (L : Nat) (hL1 : L ≤ 120) (I : Mm) (hL : I 31 1 = nI L) (N : Mm) (e : Nat) (he : e ≤ L) (x : Int32) (J : Ml) : Mt sx MX2_isWord [.ref 31, .ref 107] (yS I N L e x) J (na_b (yS I N L e x) J (Wd (I 32) L 7 e)) := by
  have h5 := tK_5 (I 32) L e
  have hb1 := tSt_b (B := I 32) he
  have hb2 := tE_b (B := I 32) he
  have hsub : nI (tE (I 32) L e) - nI (tSt (I 32) L e) = nI (tE (I 32) L e - tSt (I 32) L e) := pk_sub (by omega)
  refine Mt.of2 _ rfl (by decide +kernel) (Nat.le_of_ble_eq_true rfl) ?_
  refine GW.run kX2_isWord (fun pc => Nat.beq pc 27) 66 0 rfl ?_
  refine And.intro (fun h1 => ?_) (fun h1 => ?_)
  · -- pc 4 .ifCond .ne 19: yes
    exact ⟨na_nl_b0, rfl, rfl, Or.inr ⟨fun z => h1 (by show nI (tK (I 32) L e) = 0; rw [z.1]; rfl), rfl⟩⟩
  · -- pc 4 .ifCond .ne 19: no
    refine Mt.conseq (c_len7 _ _ _) ?_
    rintro _ _ _ ⟨rfl, rfl, rfl⟩
    refine And.intro (fun h3 => ?_) (fun h3 => ?_)
    · -- pc 20 .if_icmp .eq 5: yes
      have k0 : tK (I 32) L e = 0 := by
        have z : nI (tK (I 32) L e) = nI 0 := h1
        exact (nI_eq (by omega) (by omega)).mp z
      have kl : tE (I 32) L e - tSt (I 32) L e = 4 := by
        have z : nI (tE (I 32) L e) - nI (tSt (I 32) L e) = nI 4 := h3
        rw [hsub, nI_eq (by omega) (by omega)] at z
        exact z
      exact GW.weak (l_isW7 sx (tSt (I 32) L e) (by omega) (yS I N L e x) rfl (weq (fun j => I 32 (tSt (I 32) L e + j)) (wdL 7) 4 0) J _ (fun z => ⟨rfl, rfl, Or.inl ⟨⟨k0, kl, z⟩, rfl⟩⟩) (fun z => ⟨rfl, rfl, Or.inr ⟨fun q => absurd (q.2.2.symm.trans z) (by decide), rfl⟩⟩) 4 0 rfl rfl) ⟨rfl, rfl, rfl, trivial⟩
    · -- pc 20 .if_icmp .eq 5: no
      exact ⟨na_nl_b0, rfl, rfl, Or.inr ⟨fun z => h3 (by show nI (tE (I 32) L e) - nI (tSt (I 32) L e) = nI 4; rw [hsub, z.2.1]; rfl), rfl⟩⟩
set_option maxRecDepth 100000 in
set_option maxHeartbeats 4000000 in
theorem l_isW8 (sx : Nat × (Nat → Int32)) (s : Nat) (hs : s + 4 ≤ 120) (I : Mm) (hI : I 31 3 = nI s) (T : Bool) (J : Ml) (Rt : Option Value → Mm → Ml → Prop) (hR1 : T = true → Rt (some (.int 1)) I J) (hR2 : T = false → Rt (some (.int 0)) I J) : ∀ m n , n + m = 4 → weq (fun j => I 32 (s + j)) (wdL 8) m n = T → GW sx (na_mi MX2_isWord) Rt 27 [some (.ref 31), some (.ref 108), some (.int (nI n))] [] I J := by
  intro m
  induction m with
  | zero =>
    intro n  hn hw
    obtain rfl : n = 4 := by omega
    have hz : nI 4 ≤ nI 4 := Int32.le_refl _
    refine GW.run kX2_isWord (fun pc => Nat.beq pc 27) 66 15 rfl ?_
    refine Mt.conseq (c_len8 _ _ _) ?_
    rintro _ _ _ ⟨rfl, rfl, rfl⟩
    refine And.intro (fun _ => ?_) (fun hh => absurd hz hh)
    exact ⟨na_nl_b1, hR1 hw.symm⟩
  | succ m ih =>
    intro n  hn hw
    have hz : ¬ nI 4 ≤ nI n := nI_ge (by omega) (by decide)
    have e : I 31 3 + nI n = nI (s + n) := by rw [hI, nI_add]
    have hb : vp_in (I 31 3 + nI n) 120 := by rw [e]; exact vp_in_nI (by omega) (by omega)
    have hc : (I 31 3 + nI n).toNatClampNeg = s + n := by rw [e, nI_clamp (by omega)]
    refine GW.run kX2_isWord (fun pc => Nat.beq pc 27) 66 15 rfl ?_
    refine Mt.conseq (c_len8 _ _ _) ?_
    rintro _ _ _ ⟨rfl, rfl, rfl⟩
    refine And.intro (fun hh => absurd hh hz) (fun _ => ?_)
    refine And.intro (hb) ?_
    refine Mt.conseq (c_chr8 _ n (by omega) _ _) ?_
    rintro _ _ _ ⟨rfl, rfl, rfl⟩
    refine And.intro (fun h3 => ?_) (fun h3 => ?_)
    · -- pc 51 .if_icmp .eq 5: yes
      rw [weq, if_pos (show I 32 (s + n) = wdL 8 n from by have z : I 32 (I 31 3 + nI n).toNatClampNeg = wdL 8 n := h3; rw [hc] at z; exact z)] at hw
      exact GW.weak (ih (n + 1) (by omega) hw) ⟨rfl, rfl, by rw [nI_1], trivial⟩
    · -- pc 51 .if_icmp .eq 5: no
      rw [weq, if_neg (fun z => h3 (by show I 32 (I 31 3 + nI n).toNatClampNeg = wdL 8 n; rw [hc]; exact z))] at hw
      exact ⟨na_nl_b0, hR2 hw.symm⟩
set_option maxRecDepth 100000 in
set_option maxHeartbeats 4000000 in
theorem y_isW8 (sx : Nat × (Nat → Int32)) (L : Nat) (hL1 : L ≤ 120) (I : Mm) (hL : I 31 1 = nI L) (N : Mm) (e : Nat) (he : e ≤ L) (x : Int32) (J : Ml) : Mt sx MX2_isWord [.ref 31, .ref 108] (yS I N L e x) J (na_b (yS I N L e x) J (Wd (I 32) L 8 e)) := by
  have h5 := tK_5 (I 32) L e
  have hb1 := tSt_b (B := I 32) he
  have hb2 := tE_b (B := I 32) he
  have hsub : nI (tE (I 32) L e) - nI (tSt (I 32) L e) = nI (tE (I 32) L e - tSt (I 32) L e) := pk_sub (by omega)
  refine Mt.of2 _ rfl (by decide +kernel) (Nat.le_of_ble_eq_true rfl) ?_
  refine GW.run kX2_isWord (fun pc => Nat.beq pc 27) 66 0 rfl ?_
  refine And.intro (fun h1 => ?_) (fun h1 => ?_)
  · -- pc 4 .ifCond .ne 19: yes
    exact ⟨na_nl_b0, rfl, rfl, Or.inr ⟨fun z => h1 (by show nI (tK (I 32) L e) = 0; rw [z.1]; rfl), rfl⟩⟩
  · -- pc 4 .ifCond .ne 19: no
    refine Mt.conseq (c_len8 _ _ _) ?_
    rintro _ _ _ ⟨rfl, rfl, rfl⟩
    refine And.intro (fun h3 => ?_) (fun h3 => ?_)
    · -- pc 20 .if_icmp .eq 5: yes
      have k0 : tK (I 32) L e = 0 := by
        have z : nI (tK (I 32) L e) = nI 0 := h1
        exact (nI_eq (by omega) (by omega)).mp z
      have kl : tE (I 32) L e - tSt (I 32) L e = 4 := by
        have z : nI (tE (I 32) L e) - nI (tSt (I 32) L e) = nI 4 := h3
        rw [hsub, nI_eq (by omega) (by omega)] at z
        exact z
      exact GW.weak (l_isW8 sx (tSt (I 32) L e) (by omega) (yS I N L e x) rfl (weq (fun j => I 32 (tSt (I 32) L e + j)) (wdL 8) 4 0) J _ (fun z => ⟨rfl, rfl, Or.inl ⟨⟨k0, kl, z⟩, rfl⟩⟩) (fun z => ⟨rfl, rfl, Or.inr ⟨fun q => absurd (q.2.2.symm.trans z) (by decide), rfl⟩⟩) 4 0 rfl rfl) ⟨rfl, rfl, rfl, trivial⟩
    · -- pc 20 .if_icmp .eq 5: no
      exact ⟨na_nl_b0, rfl, rfl, Or.inr ⟨fun z => h3 (by show nI (tE (I 32) L e) - nI (tSt (I 32) L e) = nI 4; rw [hsub, z.2.1]; rfl), rfl⟩⟩
set_option maxRecDepth 100000 in
set_option maxHeartbeats 4000000 in
theorem l_isW9 (sx : Nat × (Nat → Int32)) (s : Nat) (hs : s + 3 ≤ 120) (I : Mm) (hI : I 31 3 = nI s) (T : Bool) (J : Ml) (Rt : Option Value → Mm → Ml → Prop) (hR1 : T = true → Rt (some (.int 1)) I J) (hR2 : T = false → Rt (some (.int 0)) I J) : ∀ m n , n + m = 3 → weq (fun j => I 32 (s + j)) (wdL 9) m n = T → GW sx (na_mi MX2_isWord) Rt 27 [some (.ref 31), some (.ref 109), some (.int (nI n))] [] I J := by
  intro m
  induction m with
  | zero =>
    intro n  hn hw
    obtain rfl : n = 3 := by omega
    have hz : nI 3 ≤ nI 3 := Int32.le_refl _
    refine GW.run kX2_isWord (fun pc => Nat.beq pc 27) 66 15 rfl ?_
    refine Mt.conseq (c_len9 _ _ _) ?_
    rintro _ _ _ ⟨rfl, rfl, rfl⟩
    refine And.intro (fun _ => ?_) (fun hh => absurd hz hh)
    exact ⟨na_nl_b1, hR1 hw.symm⟩
  | succ m ih =>
    intro n  hn hw
    have hz : ¬ nI 3 ≤ nI n := nI_ge (by omega) (by decide)
    have e : I 31 3 + nI n = nI (s + n) := by rw [hI, nI_add]
    have hb : vp_in (I 31 3 + nI n) 120 := by rw [e]; exact vp_in_nI (by omega) (by omega)
    have hc : (I 31 3 + nI n).toNatClampNeg = s + n := by rw [e, nI_clamp (by omega)]
    refine GW.run kX2_isWord (fun pc => Nat.beq pc 27) 66 15 rfl ?_
    refine Mt.conseq (c_len9 _ _ _) ?_
    rintro _ _ _ ⟨rfl, rfl, rfl⟩
    refine And.intro (fun hh => absurd hh hz) (fun _ => ?_)
    refine And.intro (hb) ?_
    refine Mt.conseq (c_chr9 _ n (by omega) _ _) ?_
    rintro _ _ _ ⟨rfl, rfl, rfl⟩
    refine And.intro (fun h3 => ?_) (fun h3 => ?_)
    · -- pc 51 .if_icmp .eq 5: yes
      rw [weq, if_pos (show I 32 (s + n) = wdL 9 n from by have z : I 32 (I 31 3 + nI n).toNatClampNeg = wdL 9 n := h3; rw [hc] at z; exact z)] at hw
      exact GW.weak (ih (n + 1) (by omega) hw) ⟨rfl, rfl, by rw [nI_1], trivial⟩
    · -- pc 51 .if_icmp .eq 5: no
      rw [weq, if_neg (fun z => h3 (by show I 32 (I 31 3 + nI n).toNatClampNeg = wdL 9 n; rw [hc]; exact z))] at hw
      exact ⟨na_nl_b0, hR2 hw.symm⟩
set_option maxRecDepth 100000 in
set_option maxHeartbeats 4000000 in
theorem y_isW9 (sx : Nat × (Nat → Int32)) (L : Nat) (hL1 : L ≤ 120) (I : Mm) (hL : I 31 1 = nI L) (N : Mm) (e : Nat) (he : e ≤ L) (x : Int32) (J : Ml) : Mt sx MX2_isWord [.ref 31, .ref 109] (yS I N L e x) J (na_b (yS I N L e x) J (Wd (I 32) L 9 e)) := by
  have h5 := tK_5 (I 32) L e
  have hb1 := tSt_b (B := I 32) he
  have hb2 := tE_b (B := I 32) he
  have hsub : nI (tE (I 32) L e) - nI (tSt (I 32) L e) = nI (tE (I 32) L e - tSt (I 32) L e) := pk_sub (by omega)
  refine Mt.of2 _ rfl (by decide +kernel) (Nat.le_of_ble_eq_true rfl) ?_
  refine GW.run kX2_isWord (fun pc => Nat.beq pc 27) 66 0 rfl ?_
  refine And.intro (fun h1 => ?_) (fun h1 => ?_)
  · -- pc 4 .ifCond .ne 19: yes
    exact ⟨na_nl_b0, rfl, rfl, Or.inr ⟨fun z => h1 (by show nI (tK (I 32) L e) = 0; rw [z.1]; rfl), rfl⟩⟩
  · -- pc 4 .ifCond .ne 19: no
    refine Mt.conseq (c_len9 _ _ _) ?_
    rintro _ _ _ ⟨rfl, rfl, rfl⟩
    refine And.intro (fun h3 => ?_) (fun h3 => ?_)
    · -- pc 20 .if_icmp .eq 5: yes
      have k0 : tK (I 32) L e = 0 := by
        have z : nI (tK (I 32) L e) = nI 0 := h1
        exact (nI_eq (by omega) (by omega)).mp z
      have kl : tE (I 32) L e - tSt (I 32) L e = 3 := by
        have z : nI (tE (I 32) L e) - nI (tSt (I 32) L e) = nI 3 := h3
        rw [hsub, nI_eq (by omega) (by omega)] at z
        exact z
      exact GW.weak (l_isW9 sx (tSt (I 32) L e) (by omega) (yS I N L e x) rfl (weq (fun j => I 32 (tSt (I 32) L e + j)) (wdL 9) 3 0) J _ (fun z => ⟨rfl, rfl, Or.inl ⟨⟨k0, kl, z⟩, rfl⟩⟩) (fun z => ⟨rfl, rfl, Or.inr ⟨fun q => absurd (q.2.2.symm.trans z) (by decide), rfl⟩⟩) 3 0 rfl rfl) ⟨rfl, rfl, rfl, trivial⟩
    · -- pc 20 .if_icmp .eq 5: no
      exact ⟨na_nl_b0, rfl, rfl, Or.inr ⟨fun z => h3 (by show nI (tE (I 32) L e) - nI (tSt (I 32) L e) = nI 3; rw [hsub, z.2.1]; rfl), rfl⟩⟩
set_option maxRecDepth 100000 in
set_option maxHeartbeats 4000000 in
theorem l_isW10 (sx : Nat × (Nat → Int32)) (s : Nat) (hs : s + 5 ≤ 120) (I : Mm) (hI : I 31 3 = nI s) (T : Bool) (J : Ml) (Rt : Option Value → Mm → Ml → Prop) (hR1 : T = true → Rt (some (.int 1)) I J) (hR2 : T = false → Rt (some (.int 0)) I J) : ∀ m n , n + m = 5 → weq (fun j => I 32 (s + j)) (wdL 10) m n = T → GW sx (na_mi MX2_isWord) Rt 27 [some (.ref 31), some (.ref 110), some (.int (nI n))] [] I J := by
  intro m
  induction m with
  | zero =>
    intro n  hn hw
    obtain rfl : n = 5 := by omega
    have hz : nI 5 ≤ nI 5 := Int32.le_refl _
    refine GW.run kX2_isWord (fun pc => Nat.beq pc 27) 66 15 rfl ?_
    refine Mt.conseq (c_len10 _ _ _) ?_
    rintro _ _ _ ⟨rfl, rfl, rfl⟩
    refine And.intro (fun _ => ?_) (fun hh => absurd hz hh)
    exact ⟨na_nl_b1, hR1 hw.symm⟩
  | succ m ih =>
    intro n  hn hw
    have hz : ¬ nI 5 ≤ nI n := nI_ge (by omega) (by decide)
    have e : I 31 3 + nI n = nI (s + n) := by rw [hI, nI_add]
    have hb : vp_in (I 31 3 + nI n) 120 := by rw [e]; exact vp_in_nI (by omega) (by omega)
    have hc : (I 31 3 + nI n).toNatClampNeg = s + n := by rw [e, nI_clamp (by omega)]
    refine GW.run kX2_isWord (fun pc => Nat.beq pc 27) 66 15 rfl ?_
    refine Mt.conseq (c_len10 _ _ _) ?_
    rintro _ _ _ ⟨rfl, rfl, rfl⟩
    refine And.intro (fun hh => absurd hh hz) (fun _ => ?_)
    refine And.intro (hb) ?_
    refine Mt.conseq (c_chr10 _ n (by omega) _ _) ?_
    rintro _ _ _ ⟨rfl, rfl, rfl⟩
    refine And.intro (fun h3 => ?_) (fun h3 => ?_)
    · -- pc 51 .if_icmp .eq 5: yes
      rw [weq, if_pos (show I 32 (s + n) = wdL 10 n from by have z : I 32 (I 31 3 + nI n).toNatClampNeg = wdL 10 n := h3; rw [hc] at z; exact z)] at hw
      exact GW.weak (ih (n + 1) (by omega) hw) ⟨rfl, rfl, by rw [nI_1], trivial⟩
    · -- pc 51 .if_icmp .eq 5: no
      rw [weq, if_neg (fun z => h3 (by show I 32 (I 31 3 + nI n).toNatClampNeg = wdL 10 n; rw [hc]; exact z))] at hw
      exact ⟨na_nl_b0, hR2 hw.symm⟩
set_option maxRecDepth 100000 in
set_option maxHeartbeats 4000000 in
theorem y_isW10 (sx : Nat × (Nat → Int32)) (L : Nat) (hL1 : L ≤ 120) (I : Mm) (hL : I 31 1 = nI L) (N : Mm) (e : Nat) (he : e ≤ L) (x : Int32) (J : Ml) : Mt sx MX2_isWord [.ref 31, .ref 110] (yS I N L e x) J (na_b (yS I N L e x) J (Wd (I 32) L 10 e)) := by
  have h5 := tK_5 (I 32) L e
  have hb1 := tSt_b (B := I 32) he
  have hb2 := tE_b (B := I 32) he
  have hsub : nI (tE (I 32) L e) - nI (tSt (I 32) L e) = nI (tE (I 32) L e - tSt (I 32) L e) := pk_sub (by omega)
  refine Mt.of2 _ rfl (by decide +kernel) (Nat.le_of_ble_eq_true rfl) ?_
  refine GW.run kX2_isWord (fun pc => Nat.beq pc 27) 66 0 rfl ?_
  refine And.intro (fun h1 => ?_) (fun h1 => ?_)
  · -- pc 4 .ifCond .ne 19: yes
    exact ⟨na_nl_b0, rfl, rfl, Or.inr ⟨fun z => h1 (by show nI (tK (I 32) L e) = 0; rw [z.1]; rfl), rfl⟩⟩
  · -- pc 4 .ifCond .ne 19: no
    refine Mt.conseq (c_len10 _ _ _) ?_
    rintro _ _ _ ⟨rfl, rfl, rfl⟩
    refine And.intro (fun h3 => ?_) (fun h3 => ?_)
    · -- pc 20 .if_icmp .eq 5: yes
      have k0 : tK (I 32) L e = 0 := by
        have z : nI (tK (I 32) L e) = nI 0 := h1
        exact (nI_eq (by omega) (by omega)).mp z
      have kl : tE (I 32) L e - tSt (I 32) L e = 5 := by
        have z : nI (tE (I 32) L e) - nI (tSt (I 32) L e) = nI 5 := h3
        rw [hsub, nI_eq (by omega) (by omega)] at z
        exact z
      exact GW.weak (l_isW10 sx (tSt (I 32) L e) (by omega) (yS I N L e x) rfl (weq (fun j => I 32 (tSt (I 32) L e + j)) (wdL 10) 5 0) J _ (fun z => ⟨rfl, rfl, Or.inl ⟨⟨k0, kl, z⟩, rfl⟩⟩) (fun z => ⟨rfl, rfl, Or.inr ⟨fun q => absurd (q.2.2.symm.trans z) (by decide), rfl⟩⟩) 5 0 rfl rfl) ⟨rfl, rfl, rfl, trivial⟩
    · -- pc 20 .if_icmp .eq 5: no
      exact ⟨na_nl_b0, rfl, rfl, Or.inr ⟨fun z => h3 (by show nI (tE (I 32) L e) - nI (tSt (I 32) L e) = nI 5; rw [hsub, z.2.1]; rfl), rfl⟩⟩
set_option maxRecDepth 100000 in
set_option maxHeartbeats 4000000 in
theorem l_isW11 (sx : Nat × (Nat → Int32)) (s : Nat) (hs : s + 4 ≤ 120) (I : Mm) (hI : I 31 3 = nI s) (T : Bool) (J : Ml) (Rt : Option Value → Mm → Ml → Prop) (hR1 : T = true → Rt (some (.int 1)) I J) (hR2 : T = false → Rt (some (.int 0)) I J) : ∀ m n , n + m = 4 → weq (fun j => I 32 (s + j)) (wdL 11) m n = T → GW sx (na_mi MX2_isWord) Rt 27 [some (.ref 31), some (.ref 111), some (.int (nI n))] [] I J := by
  intro m
  induction m with
  | zero =>
    intro n  hn hw
    obtain rfl : n = 4 := by omega
    have hz : nI 4 ≤ nI 4 := Int32.le_refl _
    refine GW.run kX2_isWord (fun pc => Nat.beq pc 27) 66 15 rfl ?_
    refine Mt.conseq (c_len11 _ _ _) ?_
    rintro _ _ _ ⟨rfl, rfl, rfl⟩
    refine And.intro (fun _ => ?_) (fun hh => absurd hz hh)
    exact ⟨na_nl_b1, hR1 hw.symm⟩
  | succ m ih =>
    intro n  hn hw
    have hz : ¬ nI 4 ≤ nI n := nI_ge (by omega) (by decide)
    have e : I 31 3 + nI n = nI (s + n) := by rw [hI, nI_add]
    have hb : vp_in (I 31 3 + nI n) 120 := by rw [e]; exact vp_in_nI (by omega) (by omega)
    have hc : (I 31 3 + nI n).toNatClampNeg = s + n := by rw [e, nI_clamp (by omega)]
    refine GW.run kX2_isWord (fun pc => Nat.beq pc 27) 66 15 rfl ?_
    refine Mt.conseq (c_len11 _ _ _) ?_
    rintro _ _ _ ⟨rfl, rfl, rfl⟩
    refine And.intro (fun hh => absurd hh hz) (fun _ => ?_)
    refine And.intro (hb) ?_
    refine Mt.conseq (c_chr11 _ n (by omega) _ _) ?_
    rintro _ _ _ ⟨rfl, rfl, rfl⟩
    refine And.intro (fun h3 => ?_) (fun h3 => ?_)
    · -- pc 51 .if_icmp .eq 5: yes
      rw [weq, if_pos (show I 32 (s + n) = wdL 11 n from by have z : I 32 (I 31 3 + nI n).toNatClampNeg = wdL 11 n := h3; rw [hc] at z; exact z)] at hw
      exact GW.weak (ih (n + 1) (by omega) hw) ⟨rfl, rfl, by rw [nI_1], trivial⟩
    · -- pc 51 .if_icmp .eq 5: no
      rw [weq, if_neg (fun z => h3 (by show I 32 (I 31 3 + nI n).toNatClampNeg = wdL 11 n; rw [hc]; exact z))] at hw
      exact ⟨na_nl_b0, hR2 hw.symm⟩
set_option maxRecDepth 100000 in
set_option maxHeartbeats 4000000 in
theorem y_isW11 (sx : Nat × (Nat → Int32)) (L : Nat) (hL1 : L ≤ 120) (I : Mm) (hL : I 31 1 = nI L) (N : Mm) (e : Nat) (he : e ≤ L) (x : Int32) (J : Ml) : Mt sx MX2_isWord [.ref 31, .ref 111] (yS I N L e x) J (na_b (yS I N L e x) J (Wd (I 32) L 11 e)) := by
  have h5 := tK_5 (I 32) L e
  have hb1 := tSt_b (B := I 32) he
  have hb2 := tE_b (B := I 32) he
  have hsub : nI (tE (I 32) L e) - nI (tSt (I 32) L e) = nI (tE (I 32) L e - tSt (I 32) L e) := pk_sub (by omega)
  refine Mt.of2 _ rfl (by decide +kernel) (Nat.le_of_ble_eq_true rfl) ?_
  refine GW.run kX2_isWord (fun pc => Nat.beq pc 27) 66 0 rfl ?_
  refine And.intro (fun h1 => ?_) (fun h1 => ?_)
  · -- pc 4 .ifCond .ne 19: yes
    exact ⟨na_nl_b0, rfl, rfl, Or.inr ⟨fun z => h1 (by show nI (tK (I 32) L e) = 0; rw [z.1]; rfl), rfl⟩⟩
  · -- pc 4 .ifCond .ne 19: no
    refine Mt.conseq (c_len11 _ _ _) ?_
    rintro _ _ _ ⟨rfl, rfl, rfl⟩
    refine And.intro (fun h3 => ?_) (fun h3 => ?_)
    · -- pc 20 .if_icmp .eq 5: yes
      have k0 : tK (I 32) L e = 0 := by
        have z : nI (tK (I 32) L e) = nI 0 := h1
        exact (nI_eq (by omega) (by omega)).mp z
      have kl : tE (I 32) L e - tSt (I 32) L e = 4 := by
        have z : nI (tE (I 32) L e) - nI (tSt (I 32) L e) = nI 4 := h3
        rw [hsub, nI_eq (by omega) (by omega)] at z
        exact z
      exact GW.weak (l_isW11 sx (tSt (I 32) L e) (by omega) (yS I N L e x) rfl (weq (fun j => I 32 (tSt (I 32) L e + j)) (wdL 11) 4 0) J _ (fun z => ⟨rfl, rfl, Or.inl ⟨⟨k0, kl, z⟩, rfl⟩⟩) (fun z => ⟨rfl, rfl, Or.inr ⟨fun q => absurd (q.2.2.symm.trans z) (by decide), rfl⟩⟩) 4 0 rfl rfl) ⟨rfl, rfl, rfl, trivial⟩
    · -- pc 20 .if_icmp .eq 5: no
      exact ⟨na_nl_b0, rfl, rfl, Or.inr ⟨fun z => h3 (by show nI (tE (I 32) L e) - nI (tSt (I 32) L e) = nI 4; rw [hsub, z.2.1]; rfl), rfl⟩⟩
set_option maxRecDepth 100000 in
set_option maxHeartbeats 4000000 in
theorem l_isW12 (sx : Nat × (Nat → Int32)) (s : Nat) (hs : s + 5 ≤ 120) (I : Mm) (hI : I 31 3 = nI s) (T : Bool) (J : Ml) (Rt : Option Value → Mm → Ml → Prop) (hR1 : T = true → Rt (some (.int 1)) I J) (hR2 : T = false → Rt (some (.int 0)) I J) : ∀ m n , n + m = 5 → weq (fun j => I 32 (s + j)) (wdL 12) m n = T → GW sx (na_mi MX2_isWord) Rt 27 [some (.ref 31), some (.ref 112), some (.int (nI n))] [] I J := by
  intro m
  induction m with
  | zero =>
    intro n  hn hw
    obtain rfl : n = 5 := by omega
    have hz : nI 5 ≤ nI 5 := Int32.le_refl _
    refine GW.run kX2_isWord (fun pc => Nat.beq pc 27) 66 15 rfl ?_
    refine Mt.conseq (c_len12 _ _ _) ?_
    rintro _ _ _ ⟨rfl, rfl, rfl⟩
    refine And.intro (fun _ => ?_) (fun hh => absurd hz hh)
    exact ⟨na_nl_b1, hR1 hw.symm⟩
  | succ m ih =>
    intro n  hn hw
    have hz : ¬ nI 5 ≤ nI n := nI_ge (by omega) (by decide)
    have e : I 31 3 + nI n = nI (s + n) := by rw [hI, nI_add]
    have hb : vp_in (I 31 3 + nI n) 120 := by rw [e]; exact vp_in_nI (by omega) (by omega)
    have hc : (I 31 3 + nI n).toNatClampNeg = s + n := by rw [e, nI_clamp (by omega)]
    refine GW.run kX2_isWord (fun pc => Nat.beq pc 27) 66 15 rfl ?_
    refine Mt.conseq (c_len12 _ _ _) ?_
    rintro _ _ _ ⟨rfl, rfl, rfl⟩
    refine And.intro (fun hh => absurd hh hz) (fun _ => ?_)
    refine And.intro (hb) ?_
    refine Mt.conseq (c_chr12 _ n (by omega) _ _) ?_
    rintro _ _ _ ⟨rfl, rfl, rfl⟩
    refine And.intro (fun h3 => ?_) (fun h3 => ?_)
    · -- pc 51 .if_icmp .eq 5: yes
      rw [weq, if_pos (show I 32 (s + n) = wdL 12 n from by have z : I 32 (I 31 3 + nI n).toNatClampNeg = wdL 12 n := h3; rw [hc] at z; exact z)] at hw
      exact GW.weak (ih (n + 1) (by omega) hw) ⟨rfl, rfl, by rw [nI_1], trivial⟩
    · -- pc 51 .if_icmp .eq 5: no
      rw [weq, if_neg (fun z => h3 (by show I 32 (I 31 3 + nI n).toNatClampNeg = wdL 12 n; rw [hc]; exact z))] at hw
      exact ⟨na_nl_b0, hR2 hw.symm⟩
set_option maxRecDepth 100000 in
set_option maxHeartbeats 4000000 in
theorem y_isW12 (sx : Nat × (Nat → Int32)) (L : Nat) (hL1 : L ≤ 120) (I : Mm) (hL : I 31 1 = nI L) (N : Mm) (e : Nat) (he : e ≤ L) (x : Int32) (J : Ml) : Mt sx MX2_isWord [.ref 31, .ref 112] (yS I N L e x) J (na_b (yS I N L e x) J (Wd (I 32) L 12 e)) := by
  have h5 := tK_5 (I 32) L e
  have hb1 := tSt_b (B := I 32) he
  have hb2 := tE_b (B := I 32) he
  have hsub : nI (tE (I 32) L e) - nI (tSt (I 32) L e) = nI (tE (I 32) L e - tSt (I 32) L e) := pk_sub (by omega)
  refine Mt.of2 _ rfl (by decide +kernel) (Nat.le_of_ble_eq_true rfl) ?_
  refine GW.run kX2_isWord (fun pc => Nat.beq pc 27) 66 0 rfl ?_
  refine And.intro (fun h1 => ?_) (fun h1 => ?_)
  · -- pc 4 .ifCond .ne 19: yes
    exact ⟨na_nl_b0, rfl, rfl, Or.inr ⟨fun z => h1 (by show nI (tK (I 32) L e) = 0; rw [z.1]; rfl), rfl⟩⟩
  · -- pc 4 .ifCond .ne 19: no
    refine Mt.conseq (c_len12 _ _ _) ?_
    rintro _ _ _ ⟨rfl, rfl, rfl⟩
    refine And.intro (fun h3 => ?_) (fun h3 => ?_)
    · -- pc 20 .if_icmp .eq 5: yes
      have k0 : tK (I 32) L e = 0 := by
        have z : nI (tK (I 32) L e) = nI 0 := h1
        exact (nI_eq (by omega) (by omega)).mp z
      have kl : tE (I 32) L e - tSt (I 32) L e = 5 := by
        have z : nI (tE (I 32) L e) - nI (tSt (I 32) L e) = nI 5 := h3
        rw [hsub, nI_eq (by omega) (by omega)] at z
        exact z
      exact GW.weak (l_isW12 sx (tSt (I 32) L e) (by omega) (yS I N L e x) rfl (weq (fun j => I 32 (tSt (I 32) L e + j)) (wdL 12) 5 0) J _ (fun z => ⟨rfl, rfl, Or.inl ⟨⟨k0, kl, z⟩, rfl⟩⟩) (fun z => ⟨rfl, rfl, Or.inr ⟨fun q => absurd (q.2.2.symm.trans z) (by decide), rfl⟩⟩) 5 0 rfl rfl) ⟨rfl, rfl, rfl, trivial⟩
    · -- pc 20 .if_icmp .eq 5: no
      exact ⟨na_nl_b0, rfl, rfl, Or.inr ⟨fun z => h3 (by show nI (tE (I 32) L e) - nI (tSt (I 32) L e) = nI 5; rw [hsub, z.2.1]; rfl), rfl⟩⟩
set_option maxRecDepth 100000 in
set_option maxHeartbeats 4000000 in
theorem l_isW13 (sx : Nat × (Nat → Int32)) (s : Nat) (hs : s + 4 ≤ 120) (I : Mm) (hI : I 31 3 = nI s) (T : Bool) (J : Ml) (Rt : Option Value → Mm → Ml → Prop) (hR1 : T = true → Rt (some (.int 1)) I J) (hR2 : T = false → Rt (some (.int 0)) I J) : ∀ m n , n + m = 4 → weq (fun j => I 32 (s + j)) (wdL 13) m n = T → GW sx (na_mi MX2_isWord) Rt 27 [some (.ref 31), some (.ref 113), some (.int (nI n))] [] I J := by
  intro m
  induction m with
  | zero =>
    intro n  hn hw
    obtain rfl : n = 4 := by omega
    have hz : nI 4 ≤ nI 4 := Int32.le_refl _
    refine GW.run kX2_isWord (fun pc => Nat.beq pc 27) 66 15 rfl ?_
    refine Mt.conseq (c_len13 _ _ _) ?_
    rintro _ _ _ ⟨rfl, rfl, rfl⟩
    refine And.intro (fun _ => ?_) (fun hh => absurd hz hh)
    exact ⟨na_nl_b1, hR1 hw.symm⟩
  | succ m ih =>
    intro n  hn hw
    have hz : ¬ nI 4 ≤ nI n := nI_ge (by omega) (by decide)
    have e : I 31 3 + nI n = nI (s + n) := by rw [hI, nI_add]
    have hb : vp_in (I 31 3 + nI n) 120 := by rw [e]; exact vp_in_nI (by omega) (by omega)
    have hc : (I 31 3 + nI n).toNatClampNeg = s + n := by rw [e, nI_clamp (by omega)]
    refine GW.run kX2_isWord (fun pc => Nat.beq pc 27) 66 15 rfl ?_
    refine Mt.conseq (c_len13 _ _ _) ?_
    rintro _ _ _ ⟨rfl, rfl, rfl⟩
    refine And.intro (fun hh => absurd hh hz) (fun _ => ?_)
    refine And.intro (hb) ?_
    refine Mt.conseq (c_chr13 _ n (by omega) _ _) ?_
    rintro _ _ _ ⟨rfl, rfl, rfl⟩
    refine And.intro (fun h3 => ?_) (fun h3 => ?_)
    · -- pc 51 .if_icmp .eq 5: yes
      rw [weq, if_pos (show I 32 (s + n) = wdL 13 n from by have z : I 32 (I 31 3 + nI n).toNatClampNeg = wdL 13 n := h3; rw [hc] at z; exact z)] at hw
      exact GW.weak (ih (n + 1) (by omega) hw) ⟨rfl, rfl, by rw [nI_1], trivial⟩
    · -- pc 51 .if_icmp .eq 5: no
      rw [weq, if_neg (fun z => h3 (by show I 32 (I 31 3 + nI n).toNatClampNeg = wdL 13 n; rw [hc]; exact z))] at hw
      exact ⟨na_nl_b0, hR2 hw.symm⟩
set_option maxRecDepth 100000 in
set_option maxHeartbeats 4000000 in
theorem y_isW13 (sx : Nat × (Nat → Int32)) (L : Nat) (hL1 : L ≤ 120) (I : Mm) (hL : I 31 1 = nI L) (N : Mm) (e : Nat) (he : e ≤ L) (x : Int32) (J : Ml) : Mt sx MX2_isWord [.ref 31, .ref 113] (yS I N L e x) J (na_b (yS I N L e x) J (Wd (I 32) L 13 e)) := by
  have h5 := tK_5 (I 32) L e
  have hb1 := tSt_b (B := I 32) he
  have hb2 := tE_b (B := I 32) he
  have hsub : nI (tE (I 32) L e) - nI (tSt (I 32) L e) = nI (tE (I 32) L e - tSt (I 32) L e) := pk_sub (by omega)
  refine Mt.of2 _ rfl (by decide +kernel) (Nat.le_of_ble_eq_true rfl) ?_
  refine GW.run kX2_isWord (fun pc => Nat.beq pc 27) 66 0 rfl ?_
  refine And.intro (fun h1 => ?_) (fun h1 => ?_)
  · -- pc 4 .ifCond .ne 19: yes
    exact ⟨na_nl_b0, rfl, rfl, Or.inr ⟨fun z => h1 (by show nI (tK (I 32) L e) = 0; rw [z.1]; rfl), rfl⟩⟩
  · -- pc 4 .ifCond .ne 19: no
    refine Mt.conseq (c_len13 _ _ _) ?_
    rintro _ _ _ ⟨rfl, rfl, rfl⟩
    refine And.intro (fun h3 => ?_) (fun h3 => ?_)
    · -- pc 20 .if_icmp .eq 5: yes
      have k0 : tK (I 32) L e = 0 := by
        have z : nI (tK (I 32) L e) = nI 0 := h1
        exact (nI_eq (by omega) (by omega)).mp z
      have kl : tE (I 32) L e - tSt (I 32) L e = 4 := by
        have z : nI (tE (I 32) L e) - nI (tSt (I 32) L e) = nI 4 := h3
        rw [hsub, nI_eq (by omega) (by omega)] at z
        exact z
      exact GW.weak (l_isW13 sx (tSt (I 32) L e) (by omega) (yS I N L e x) rfl (weq (fun j => I 32 (tSt (I 32) L e + j)) (wdL 13) 4 0) J _ (fun z => ⟨rfl, rfl, Or.inl ⟨⟨k0, kl, z⟩, rfl⟩⟩) (fun z => ⟨rfl, rfl, Or.inr ⟨fun q => absurd (q.2.2.symm.trans z) (by decide), rfl⟩⟩) 4 0 rfl rfl) ⟨rfl, rfl, rfl, trivial⟩
    · -- pc 20 .if_icmp .eq 5: no
      exact ⟨na_nl_b0, rfl, rfl, Or.inr ⟨fun z => h3 (by show nI (tE (I 32) L e) - nI (tSt (I 32) L e) = nI 4; rw [hsub, z.2.1]; rfl), rfl⟩⟩
set_option maxRecDepth 100000 in
set_option maxHeartbeats 4000000 in
theorem l_isW14 (sx : Nat × (Nat → Int32)) (s : Nat) (hs : s + 4 ≤ 120) (I : Mm) (hI : I 31 3 = nI s) (T : Bool) (J : Ml) (Rt : Option Value → Mm → Ml → Prop) (hR1 : T = true → Rt (some (.int 1)) I J) (hR2 : T = false → Rt (some (.int 0)) I J) : ∀ m n , n + m = 4 → weq (fun j => I 32 (s + j)) (wdL 14) m n = T → GW sx (na_mi MX2_isWord) Rt 27 [some (.ref 31), some (.ref 114), some (.int (nI n))] [] I J := by
  intro m
  induction m with
  | zero =>
    intro n  hn hw
    obtain rfl : n = 4 := by omega
    have hz : nI 4 ≤ nI 4 := Int32.le_refl _
    refine GW.run kX2_isWord (fun pc => Nat.beq pc 27) 66 15 rfl ?_
    refine Mt.conseq (c_len14 _ _ _) ?_
    rintro _ _ _ ⟨rfl, rfl, rfl⟩
    refine And.intro (fun _ => ?_) (fun hh => absurd hz hh)
    exact ⟨na_nl_b1, hR1 hw.symm⟩
  | succ m ih =>
    intro n  hn hw
    have hz : ¬ nI 4 ≤ nI n := nI_ge (by omega) (by decide)
    have e : I 31 3 + nI n = nI (s + n) := by rw [hI, nI_add]
    have hb : vp_in (I 31 3 + nI n) 120 := by rw [e]; exact vp_in_nI (by omega) (by omega)
    have hc : (I 31 3 + nI n).toNatClampNeg = s + n := by rw [e, nI_clamp (by omega)]
    refine GW.run kX2_isWord (fun pc => Nat.beq pc 27) 66 15 rfl ?_
    refine Mt.conseq (c_len14 _ _ _) ?_
    rintro _ _ _ ⟨rfl, rfl, rfl⟩
    refine And.intro (fun hh => absurd hh hz) (fun _ => ?_)
    refine And.intro (hb) ?_
    refine Mt.conseq (c_chr14 _ n (by omega) _ _) ?_
    rintro _ _ _ ⟨rfl, rfl, rfl⟩
    refine And.intro (fun h3 => ?_) (fun h3 => ?_)
    · -- pc 51 .if_icmp .eq 5: yes
      rw [weq, if_pos (show I 32 (s + n) = wdL 14 n from by have z : I 32 (I 31 3 + nI n).toNatClampNeg = wdL 14 n := h3; rw [hc] at z; exact z)] at hw
      exact GW.weak (ih (n + 1) (by omega) hw) ⟨rfl, rfl, by rw [nI_1], trivial⟩
    · -- pc 51 .if_icmp .eq 5: no
      rw [weq, if_neg (fun z => h3 (by show I 32 (I 31 3 + nI n).toNatClampNeg = wdL 14 n; rw [hc]; exact z))] at hw
      exact ⟨na_nl_b0, hR2 hw.symm⟩
set_option maxRecDepth 100000 in
set_option maxHeartbeats 4000000 in
theorem y_isW14 (sx : Nat × (Nat → Int32)) (L : Nat) (hL1 : L ≤ 120) (I : Mm) (hL : I 31 1 = nI L) (N : Mm) (e : Nat) (he : e ≤ L) (x : Int32) (J : Ml) : Mt sx MX2_isWord [.ref 31, .ref 114] (yS I N L e x) J (na_b (yS I N L e x) J (Wd (I 32) L 14 e)) := by
  have h5 := tK_5 (I 32) L e
  have hb1 := tSt_b (B := I 32) he
  have hb2 := tE_b (B := I 32) he
  have hsub : nI (tE (I 32) L e) - nI (tSt (I 32) L e) = nI (tE (I 32) L e - tSt (I 32) L e) := pk_sub (by omega)
  refine Mt.of2 _ rfl (by decide +kernel) (Nat.le_of_ble_eq_true rfl) ?_
  refine GW.run kX2_isWord (fun pc => Nat.beq pc 27) 66 0 rfl ?_
  refine And.intro (fun h1 => ?_) (fun h1 => ?_)
  · -- pc 4 .ifCond .ne 19: yes
    exact ⟨na_nl_b0, rfl, rfl, Or.inr ⟨fun z => h1 (by show nI (tK (I 32) L e) = 0; rw [z.1]; rfl), rfl⟩⟩
  · -- pc 4 .ifCond .ne 19: no
    refine Mt.conseq (c_len14 _ _ _) ?_
    rintro _ _ _ ⟨rfl, rfl, rfl⟩
    refine And.intro (fun h3 => ?_) (fun h3 => ?_)
    · -- pc 20 .if_icmp .eq 5: yes
      have k0 : tK (I 32) L e = 0 := by
        have z : nI (tK (I 32) L e) = nI 0 := h1
        exact (nI_eq (by omega) (by omega)).mp z
      have kl : tE (I 32) L e - tSt (I 32) L e = 4 := by
        have z : nI (tE (I 32) L e) - nI (tSt (I 32) L e) = nI 4 := h3
        rw [hsub, nI_eq (by omega) (by omega)] at z
        exact z
      exact GW.weak (l_isW14 sx (tSt (I 32) L e) (by omega) (yS I N L e x) rfl (weq (fun j => I 32 (tSt (I 32) L e + j)) (wdL 14) 4 0) J _ (fun z => ⟨rfl, rfl, Or.inl ⟨⟨k0, kl, z⟩, rfl⟩⟩) (fun z => ⟨rfl, rfl, Or.inr ⟨fun q => absurd (q.2.2.symm.trans z) (by decide), rfl⟩⟩) 4 0 rfl rfl) ⟨rfl, rfl, rfl, trivial⟩
    · -- pc 20 .if_icmp .eq 5: no
      exact ⟨na_nl_b0, rfl, rfl, Or.inr ⟨fun z => h3 (by show nI (tE (I 32) L e) - nI (tSt (I 32) L e) = nI 4; rw [hsub, z.2.1]; rfl), rfl⟩⟩
set_option maxRecDepth 100000 in
set_option maxHeartbeats 4000000 in
theorem l_isW15 (sx : Nat × (Nat → Int32)) (s : Nat) (hs : s + 4 ≤ 120) (I : Mm) (hI : I 31 3 = nI s) (T : Bool) (J : Ml) (Rt : Option Value → Mm → Ml → Prop) (hR1 : T = true → Rt (some (.int 1)) I J) (hR2 : T = false → Rt (some (.int 0)) I J) : ∀ m n , n + m = 4 → weq (fun j => I 32 (s + j)) (wdL 15) m n = T → GW sx (na_mi MX2_isWord) Rt 27 [some (.ref 31), some (.ref 115), some (.int (nI n))] [] I J := by
  intro m
  induction m with
  | zero =>
    intro n  hn hw
    obtain rfl : n = 4 := by omega
    have hz : nI 4 ≤ nI 4 := Int32.le_refl _
    refine GW.run kX2_isWord (fun pc => Nat.beq pc 27) 66 15 rfl ?_
    refine Mt.conseq (c_len15 _ _ _) ?_
    rintro _ _ _ ⟨rfl, rfl, rfl⟩
    refine And.intro (fun _ => ?_) (fun hh => absurd hz hh)
    exact ⟨na_nl_b1, hR1 hw.symm⟩
  | succ m ih =>
    intro n  hn hw
    have hz : ¬ nI 4 ≤ nI n := nI_ge (by omega) (by decide)
    have e : I 31 3 + nI n = nI (s + n) := by rw [hI, nI_add]
    have hb : vp_in (I 31 3 + nI n) 120 := by rw [e]; exact vp_in_nI (by omega) (by omega)
    have hc : (I 31 3 + nI n).toNatClampNeg = s + n := by rw [e, nI_clamp (by omega)]
    refine GW.run kX2_isWord (fun pc => Nat.beq pc 27) 66 15 rfl ?_
    refine Mt.conseq (c_len15 _ _ _) ?_
    rintro _ _ _ ⟨rfl, rfl, rfl⟩
    refine And.intro (fun hh => absurd hh hz) (fun _ => ?_)
    refine And.intro (hb) ?_
    refine Mt.conseq (c_chr15 _ n (by omega) _ _) ?_
    rintro _ _ _ ⟨rfl, rfl, rfl⟩
    refine And.intro (fun h3 => ?_) (fun h3 => ?_)
    · -- pc 51 .if_icmp .eq 5: yes
      rw [weq, if_pos (show I 32 (s + n) = wdL 15 n from by have z : I 32 (I 31 3 + nI n).toNatClampNeg = wdL 15 n := h3; rw [hc] at z; exact z)] at hw
      exact GW.weak (ih (n + 1) (by omega) hw) ⟨rfl, rfl, by rw [nI_1], trivial⟩
    · -- pc 51 .if_icmp .eq 5: no
      rw [weq, if_neg (fun z => h3 (by show I 32 (I 31 3 + nI n).toNatClampNeg = wdL 15 n; rw [hc]; exact z))] at hw
      exact ⟨na_nl_b0, hR2 hw.symm⟩
set_option maxRecDepth 100000 in
set_option maxHeartbeats 4000000 in
theorem y_isW15 (sx : Nat × (Nat → Int32)) (L : Nat) (hL1 : L ≤ 120) (I : Mm) (hL : I 31 1 = nI L) (N : Mm) (e : Nat) (he : e ≤ L) (x : Int32) (J : Ml) : Mt sx MX2_isWord [.ref 31, .ref 115] (yS I N L e x) J (na_b (yS I N L e x) J (Wd (I 32) L 15 e)) := by
  have h5 := tK_5 (I 32) L e
  have hb1 := tSt_b (B := I 32) he
  have hb2 := tE_b (B := I 32) he
  have hsub : nI (tE (I 32) L e) - nI (tSt (I 32) L e) = nI (tE (I 32) L e - tSt (I 32) L e) := pk_sub (by omega)
  refine Mt.of2 _ rfl (by decide +kernel) (Nat.le_of_ble_eq_true rfl) ?_
  refine GW.run kX2_isWord (fun pc => Nat.beq pc 27) 66 0 rfl ?_
  refine And.intro (fun h1 => ?_) (fun h1 => ?_)
  · -- pc 4 .ifCond .ne 19: yes
    exact ⟨na_nl_b0, rfl, rfl, Or.inr ⟨fun z => h1 (by show nI (tK (I 32) L e) = 0; rw [z.1]; rfl), rfl⟩⟩
  · -- pc 4 .ifCond .ne 19: no
    refine Mt.conseq (c_len15 _ _ _) ?_
    rintro _ _ _ ⟨rfl, rfl, rfl⟩
    refine And.intro (fun h3 => ?_) (fun h3 => ?_)
    · -- pc 20 .if_icmp .eq 5: yes
      have k0 : tK (I 32) L e = 0 := by
        have z : nI (tK (I 32) L e) = nI 0 := h1
        exact (nI_eq (by omega) (by omega)).mp z
      have kl : tE (I 32) L e - tSt (I 32) L e = 4 := by
        have z : nI (tE (I 32) L e) - nI (tSt (I 32) L e) = nI 4 := h3
        rw [hsub, nI_eq (by omega) (by omega)] at z
        exact z
      exact GW.weak (l_isW15 sx (tSt (I 32) L e) (by omega) (yS I N L e x) rfl (weq (fun j => I 32 (tSt (I 32) L e + j)) (wdL 15) 4 0) J _ (fun z => ⟨rfl, rfl, Or.inl ⟨⟨k0, kl, z⟩, rfl⟩⟩) (fun z => ⟨rfl, rfl, Or.inr ⟨fun q => absurd (q.2.2.symm.trans z) (by decide), rfl⟩⟩) 4 0 rfl rfl) ⟨rfl, rfl, rfl, trivial⟩
    · -- pc 20 .if_icmp .eq 5: no
      exact ⟨na_nl_b0, rfl, rfl, Or.inr ⟨fun z => h3 (by show nI (tE (I 32) L e) - nI (tSt (I 32) L e) = nI 4; rw [hsub, z.2.1]; rfl), rfl⟩⟩
set_option maxRecDepth 100000 in
set_option maxHeartbeats 4000000 in
theorem l_isW16 (sx : Nat × (Nat → Int32)) (s : Nat) (hs : s + 4 ≤ 120) (I : Mm) (hI : I 31 3 = nI s) (T : Bool) (J : Ml) (Rt : Option Value → Mm → Ml → Prop) (hR1 : T = true → Rt (some (.int 1)) I J) (hR2 : T = false → Rt (some (.int 0)) I J) : ∀ m n , n + m = 4 → weq (fun j => I 32 (s + j)) (wdL 16) m n = T → GW sx (na_mi MX2_isWord) Rt 27 [some (.ref 31), some (.ref 116), some (.int (nI n))] [] I J := by
  intro m
  induction m with
  | zero =>
    intro n  hn hw
    obtain rfl : n = 4 := by omega
    have hz : nI 4 ≤ nI 4 := Int32.le_refl _
    refine GW.run kX2_isWord (fun pc => Nat.beq pc 27) 66 15 rfl ?_
    refine Mt.conseq (c_len16 _ _ _) ?_
    rintro _ _ _ ⟨rfl, rfl, rfl⟩
    refine And.intro (fun _ => ?_) (fun hh => absurd hz hh)
    exact ⟨na_nl_b1, hR1 hw.symm⟩
  | succ m ih =>
    intro n  hn hw
    have hz : ¬ nI 4 ≤ nI n := nI_ge (by omega) (by decide)
    have e : I 31 3 + nI n = nI (s + n) := by rw [hI, nI_add]
    have hb : vp_in (I 31 3 + nI n) 120 := by rw [e]; exact vp_in_nI (by omega) (by omega)
    have hc : (I 31 3 + nI n).toNatClampNeg = s + n := by rw [e, nI_clamp (by omega)]
    refine GW.run kX2_isWord (fun pc => Nat.beq pc 27) 66 15 rfl ?_
    refine Mt.conseq (c_len16 _ _ _) ?_
    rintro _ _ _ ⟨rfl, rfl, rfl⟩
    refine And.intro (fun hh => absurd hh hz) (fun _ => ?_)
    refine And.intro (hb) ?_
    refine Mt.conseq (c_chr16 _ n (by omega) _ _) ?_
    rintro _ _ _ ⟨rfl, rfl, rfl⟩
    refine And.intro (fun h3 => ?_) (fun h3 => ?_)
    · -- pc 51 .if_icmp .eq 5: yes
      rw [weq, if_pos (show I 32 (s + n) = wdL 16 n from by have z : I 32 (I 31 3 + nI n).toNatClampNeg = wdL 16 n := h3; rw [hc] at z; exact z)] at hw
      exact GW.weak (ih (n + 1) (by omega) hw) ⟨rfl, rfl, by rw [nI_1], trivial⟩
    · -- pc 51 .if_icmp .eq 5: no
      rw [weq, if_neg (fun z => h3 (by show I 32 (I 31 3 + nI n).toNatClampNeg = wdL 16 n; rw [hc]; exact z))] at hw
      exact ⟨na_nl_b0, hR2 hw.symm⟩
set_option maxRecDepth 100000 in
set_option maxHeartbeats 4000000 in
theorem y_isW16 (sx : Nat × (Nat → Int32)) (L : Nat) (hL1 : L ≤ 120) (I : Mm) (hL : I 31 1 = nI L) (N : Mm) (e : Nat) (he : e ≤ L) (x : Int32) (J : Ml) : Mt sx MX2_isWord [.ref 31, .ref 116] (yS I N L e x) J (na_b (yS I N L e x) J (Wd (I 32) L 16 e)) := by
  have h5 := tK_5 (I 32) L e
  have hb1 := tSt_b (B := I 32) he
  have hb2 := tE_b (B := I 32) he
  have hsub : nI (tE (I 32) L e) - nI (tSt (I 32) L e) = nI (tE (I 32) L e - tSt (I 32) L e) := pk_sub (by omega)
  refine Mt.of2 _ rfl (by decide +kernel) (Nat.le_of_ble_eq_true rfl) ?_
  refine GW.run kX2_isWord (fun pc => Nat.beq pc 27) 66 0 rfl ?_
  refine And.intro (fun h1 => ?_) (fun h1 => ?_)
  · -- pc 4 .ifCond .ne 19: yes
    exact ⟨na_nl_b0, rfl, rfl, Or.inr ⟨fun z => h1 (by show nI (tK (I 32) L e) = 0; rw [z.1]; rfl), rfl⟩⟩
  · -- pc 4 .ifCond .ne 19: no
    refine Mt.conseq (c_len16 _ _ _) ?_
    rintro _ _ _ ⟨rfl, rfl, rfl⟩
    refine And.intro (fun h3 => ?_) (fun h3 => ?_)
    · -- pc 20 .if_icmp .eq 5: yes
      have k0 : tK (I 32) L e = 0 := by
        have z : nI (tK (I 32) L e) = nI 0 := h1
        exact (nI_eq (by omega) (by omega)).mp z
      have kl : tE (I 32) L e - tSt (I 32) L e = 4 := by
        have z : nI (tE (I 32) L e) - nI (tSt (I 32) L e) = nI 4 := h3
        rw [hsub, nI_eq (by omega) (by omega)] at z
        exact z
      exact GW.weak (l_isW16 sx (tSt (I 32) L e) (by omega) (yS I N L e x) rfl (weq (fun j => I 32 (tSt (I 32) L e + j)) (wdL 16) 4 0) J _ (fun z => ⟨rfl, rfl, Or.inl ⟨⟨k0, kl, z⟩, rfl⟩⟩) (fun z => ⟨rfl, rfl, Or.inr ⟨fun q => absurd (q.2.2.symm.trans z) (by decide), rfl⟩⟩) 4 0 rfl rfl) ⟨rfl, rfl, rfl, trivial⟩
    · -- pc 20 .if_icmp .eq 5: no
      exact ⟨na_nl_b0, rfl, rfl, Or.inr ⟨fun z => h3 (by show nI (tE (I 32) L e) - nI (tSt (I 32) L e) = nI 4; rw [hsub, z.2.1]; rfl), rfl⟩⟩
set_option maxRecDepth 100000 in
set_option maxHeartbeats 4000000 in
theorem l_nm (sx : Nat × (Nat → Int32)) (s D : Nat) (hs : s + D ≤ 120) (I : Mm) (t lo hi : Int32) (J : Ml) (Rt : Option Value → Mm → Ml → Prop) (hR : GW sx (na_mi MX2_isNumber) Rt 61 [some (.ref 31), some (.int lo), some (.int hi), none] [] (clT I t (nI s) (nI (s + D)) (nmV (I 32) s D)) J) : ∀ m n , n + m = D → GW sx (na_mi MX2_isNumber) Rt 20 [some (.ref 31), some (.int lo), some (.int hi), some (.int (nI (s + n)))] [] (clT I t (nI s) (nI (s + D)) (nmV (I 32) s n)) J := by
  intro m
  induction m with
  | zero =>
    intro n  hn 
    obtain rfl : D = n := by omega
    have hz : nI (s + D) ≤ nI (s + D) := Int32.le_refl _
    refine GW.run kX2_isNumber (fun pc => Nat.beq pc 20 || Nat.beq pc 61) 73 12 rfl ?_
    refine And.intro (fun _ => ?_) (fun hh => absurd hz hh)
    exact GW.weak hR ⟨rfl, rfl, rfl, trivial⟩
  | succ m ih =>
    intro n  hn 
    have hz : ¬ nI (s + D) ≤ nI (s + n) := nI_ge (by omega) (by omega)
    have hb : vp_in (nI (s + n)) 120 := vp_in_nI (by omega) (by omega)
    have hc := nI_clamp (n := s + n) (by omega)
    have ih := ih (n + 1) (by omega)
    refine GW.run kX2_isNumber (fun pc => Nat.beq pc 20 || Nat.beq pc 61) 73 12 rfl ?_
    refine And.intro (fun hh => absurd hh hz) (fun _ => ?_)
    refine And.intro (hb) ?_
    refine GW.weak (GW.eqI ?_ ih) ⟨rfl, rfl, rfl, by rw [nI_1]; rfl, trivial⟩
    rw [nmV, hc]
    exact clT_5
set_option maxRecDepth 100000 in
set_option maxHeartbeats 4000000 in
theorem c_isN (sx : Nat × (Nat → Int32)) (L : Nat) (hL1 : L ≤ 120) (I : Mm) (hL : I 31 1 = nI L) (e : Nat) (he : e ≤ L) (x lo hi : Int32) (J : Ml) : Mt sx MX2_isNumber [.ref 31, .int lo, .int hi] (cS I L e x) J (fun r I' J' => J = J' ∧ ((Nm (I 32) L lo hi e ∧ cS I L e (vlE (I 32) L e) = I' ∧ r = some (.int 1)) ∨ (¬ Nm (I 32) L lo hi e ∧ (∃ y, cS I L e y = I') ∧ r = some (.int 0)))) := by
  have h5 := tK_5 (I 32) L e
  have hb1 := tSt_b (B := I 32) he
  have hb2 := tE_b (B := I 32) he
  refine Mt.of2 _ rfl (by decide +kernel) (Nat.le_of_ble_eq_true rfl) ?_
  refine GW.run kX2_isNumber (fun pc => Nat.beq pc 20) 73 0 rfl ?_
  refine And.intro (fun h1 => ?_) (fun h1 => ?_)
  · -- pc 5 .if_icmp .eq 5: yes
    have k1 : tK (I 32) L e = 1 := by
      have z : nI (tK (I 32) L e) = nI 1 := h1
      exact (nI_eq (by omega) (by omega)).mp z
    have hED : tSt (I 32) L e + (tE (I 32) L e - tSt (I 32) L e) = tE (I 32) L e := by omega
    have hfin : clT I (nI (tK (I 32) L e)) (nI (tSt (I 32) L e)) (nI (tSt (I 32) L e + (tE (I 32) L e - tSt (I 32) L e))) (nmV (I 32) (tSt (I 32) L e) (tE (I 32) L e - tSt (I 32) L e)) = cS I L e (vlE (I 32) L e) := by rw [hED]; rfl
    refine GW.weak (GW.eqI ?_ (l_nm sx (tSt (I 32) L e) (tE (I 32) L e - tSt (I 32) L e) (by omega) I (nI (tK (I 32) L e)) lo hi J _ ?_ (tE (I 32) L e - tSt (I 32) L e) 0 (by omega))) ⟨rfl, rfl, rfl, rfl, trivial⟩
    · rw [hED]
      exact clT_5
    refine GW.run kX2_isNumber (fun _ => false) 73 33 rfl ?_
    refine Mt.conseq (c_outside _ _ _ _ _ _) ?_
    rintro _ _ _ ⟨rfl, rfl, ⟨e1, rfl⟩ | ⟨e1, rfl⟩⟩
    · -- pc 67 call X3_outside true
      refine And.intro (fun _ => ?_) (fun hh => absurd hh (by decide))
      exact ⟨na_nl_b0, rfl, Or.inr ⟨fun z => z.2 e1, ⟨vlE (I 32) L e, by rw [← hfin]⟩, rfl⟩⟩
    · -- pc 67 call X3_outside false
      refine And.intro (fun hh => absurd hh (by decide)) (fun _ => ?_)
      exact ⟨na_nl_b1, rfl, Or.inl ⟨⟨k1, e1⟩, by rw [← hfin], rfl⟩⟩
  · -- pc 5 .if_icmp .eq 5: no
    exact ⟨na_nl_b0, rfl, Or.inr ⟨fun z => h1 (by show nI (tK (I 32) L e) = 1; rw [z.1]; rfl), ⟨x, rfl⟩, rfl⟩⟩
theorem y_isN (sx : Nat × (Nat → Int32)) (L : Nat) (hL1 : L ≤ 120) (I : Mm) (hL : I 31 1 = nI L) (N : Mm) (e : Nat) (he : e ≤ L) (x lo hi : Int32) (J : Ml) : Mt sx MX2_isNumber [.ref 31, .int lo, .int hi] (yS I N L e x) J (fun r I' J' => J = J' ∧ ((Nm (I 32) L lo hi e ∧ yS I N L e (vlE (I 32) L e) = I' ∧ r = some (.int 1)) ∨ (¬ Nm (I 32) L lo hi e ∧ (∃ y, yS I N L e y = I') ∧ r = some (.int 0)))) := by
  have h := c_isN sx L hL1 (pN 21 N I) hL e he x lo hi J
  rw [cS_y] at h
  refine Mt.conseq h ?_
  rintro r I' J' ⟨h1, ⟨h2, h3, h4⟩ | ⟨h2, ⟨y, h3⟩, h4⟩⟩
  · exact ⟨h1, Or.inl ⟨h2, by rw [← h3]; exact cS_y.symm, h4⟩⟩
  · exact ⟨h1, Or.inr ⟨h2, ⟨y, by rw [← h3]; exact cS_y.symm⟩, h4⟩⟩
