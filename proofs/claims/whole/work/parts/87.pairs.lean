/-! PAIRS: lays -/
abbrev lyOk (x : Int64) : Prop := 0 ≤ x ∧ x ≤ 9999
def lyN (u : Nat → Int64) (N : Mm) : Nat → Mm
  | 0 => N
  | n + 1 => if lyOk (u n) then na_set (lyN u N n) 1 n (u n).toInt32 else lyN u N n
def lyM (u : Nat → Int64) (f : Nat → Int32) : Nat → (Nat → Int32)
  | 0 => f
  | n + 1 => if lyOk (u n) then upd (lyM u f n) (4 + 4 * n + 0) (mx (u n).toInt32) else lyM u f n
def lyC (u : Nat → Int64) : Nat → Int32
  | 0 => 0
  | n + 1 => if lyOk (u n) then lyC u n + 1 else lyC u n
theorem ly_rg {x : Int64} (h : lyOk x) : rg 0 9999 x.toInt32 := by
  have h1 : (0 : Int64).toInt ≤ x.toInt := Int64.le_iff_toInt_le.mp h.1
  have h2 : x.toInt ≤ (9999 : Int64).toInt := Int64.le_iff_toInt_le.mp h.2
  rw [show (0 : Int64).toInt = 0 by decide] at h1
  rw [show (9999 : Int64).toInt = 9999 by decide] at h2
  have e : x.toInt32.toInt = x.toInt := by
    rw [Int64.toInt_toInt32]
    exact Int.bmod_eq_of_le (by omega) (by omega)
  exact ⟨by rw [e]; exact h1, by rw [e]; exact h2⟩
theorem lyN_ok {P : Nat} {u : Nat → Int64} {N : Mm} (h : NOk P N) : ∀ n, NOk P (lyN u N n)
  | 0 => h
  | n + 1 => by
    rw [lyN]
    split
    · rename_i q
      exact (lyN_ok h n).r1 (ly_rg q)
    · exact lyN_ok h n
theorem lyN_hi {u : Nat → Int64} {N : Mm} (h : ∀ a, 10 ≤ a → N a = fun _ => 0) : ∀ n, ∀ a, 10 ≤ a → lyN u N n a = fun _ => 0
  | 0 => h
  | n + 1 => by
    rw [lyN]
    split
    · exact set_hi (by decide) (lyN_hi h n)
    · exact lyN_hi h n
theorem ly_ag {P : Nat} (hP8 : P ≤ 8) {u w : Nat → Int64} {f : Nat → Int32} {N : Mm} (ha : Agr P (vN f) N) : ∀ n, n ≤ 8 → (∀ j, j < n → w j = u j) → Agr P (vN (lyM w f n)) (lyN u N n) ∧ lyC w n = lyC u n
  | 0, _, _ => ⟨ha, rfl⟩
  | n + 1, hn, hu => by
    obtain ⟨h1, h2⟩ := ly_ag hP8 ha n (by omega) (fun j hj => hu j (by omega))
    rw [lyM, lyN, lyC, lyC, hu n (by omega), h2]
    by_cases q : lyOk (u n)
    · rw [if_pos q, if_pos q, if_pos q, mx_id (ly_rg q).2]
      exact ⟨agR hP8 h1 (by omega) (w := 0) (by decide) _, rfl⟩
    · rw [if_neg q, if_neg q, if_neg q]
      exact ⟨h1, rfl⟩
theorem pN1_set {N I : Mm} {j : Nat} {v : Int32} : na_set (pN 1 N I) 2 j v = pN 1 (na_set N 1 j v) I := pN_set (by decide) rfl
set_option maxRecDepth 100000 in
set_option maxHeartbeats 4000000 in
theorem l_lyC0 (sx : Nat × (Nat → Int32)) (L : Nat) (hL : L ≤ 40) (E : Nat) (hE : E = min 8 L) (N I : Mm) (hI : I 34 2 = nI L) (J : Ml) (Rt : Option Value → Mm → Ml → Prop) (hR : Rt (some (.int (lyC (J 35) E))) (pN 1 (lyN (J 35) N E) I) J) : ∀ m n , n + m = E → GW sx (na_mi MX3_lays) Rt 40 [some (.ref 0), some (.int 0), some (.ref 34), some (.int (lyC (J 35) n)), some (.int (nI n)), none, none] [] (pN 1 (lyN (J 35) N n) I) J := by
  intro m
  induction m with
  | zero =>
    intro n  hn 
    obtain rfl : E = n := by omega
    refine GW.run kX3_lays (fun pc => Nat.beq pc 40) 85 23 rfl ?_
    refine And.intro (fun h1 => ?_) (fun h1 => ?_)
    · -- pc 44 .if_icmp .ge 59: yes
      exact ⟨trivial, hR⟩
    · -- pc 44 .if_icmp .ge 59: no
      refine And.intro (fun h2 => ?_) (fun h2 => ?_)
      · -- pc 53 .if_icmp .ge 50: yes
        exact ⟨trivial, hR⟩
      · -- pc 53 .if_icmp .ge 50: no
        exfalso
        have z1 : ¬ (8 : Int32) ≤ nI E := h1
        have z2 : ¬ I 34 2 ≤ nI E := h2
        rw [hI, nI_leI (by omega) (by omega)] at z2
        rw [show (8 : Int32) = nI 8 from rfl, nI_leI (by omega) (by omega)] at z1
        omega
  | succ m ih =>
    intro n  hn 
    have hz : ¬ (8 : Int32) ≤ nI n := nI_ge (a := n) (b := 8) (by omega) (by omega)
    have hz2 : ¬ I 34 2 ≤ nI n := by rw [hI]; exact nI_ge (by omega) (by omega)
    have ih := ih (n + 1) (by omega)
    have hb : vp_in (nI n) 40 := vp_in_nI (by omega) (by omega)
    have hb8 : vp_in (nI n) 8 := vp_in_nI (by omega) (by omega)
    have hc := nI_clamp (n := n) (by omega)
    refine GW.run kX3_lays (fun pc => Nat.beq pc 40) 85 23 rfl ?_
    refine And.intro (fun hh => absurd hh hz) (fun _ => ?_)
    refine And.intro (fun hh => absurd hh hz2) (fun _ => ?_)
    refine And.intro (hb) ?_
    refine And.intro (fun h1 => ?_) (fun h1 => ?_)
    · -- pc 69 .ifCond .lt 28: yes
      have ok : ¬ lyOk (J 35 n) := by
        have e := hc
        have z := ((fun z : lyOk _ => absurd z.1 (Int64.not_le.mpr ((lg_cmp_lt _ _).mp h1))) : ¬ lyOk (J 35 (nI n).toNatClampNeg))
        rw [e] at z
        exact z
      refine GW.weak (GW.eqI ?_ ih) ⟨rfl, rfl, rfl, by rw [lyC, if_neg ok], by rw [nI_1], trivial⟩
      rw [lyN, if_neg ok]
    · -- pc 69 .ifCond .lt 28: no
      refine And.intro (fun h2 => ?_) (fun h2 => ?_)
      · -- pc 78 .ifCond .gt 19: yes
        have ok : ¬ lyOk (J 35 n) := by
          have e := hc
          have z := ((fun z : lyOk _ => absurd z.2 (Int64.not_le.mpr ((lg_cmp_gt _ _).mp h2))) : ¬ lyOk (J 35 (nI n).toNatClampNeg))
          rw [e] at z
          exact z
        refine GW.weak (GW.eqI ?_ ih) ⟨rfl, rfl, rfl, by rw [lyC, if_neg ok], by rw [nI_1], trivial⟩
        rw [lyN, if_neg ok]
      · -- pc 78 .ifCond .gt 19: no
        refine And.intro (hb8) ?_
        have ok : lyOk (J 35 n) := by
          have e := hc
          have z := ((show lyOk (J 35 (nI n).toNatClampNeg) from ⟨Int64.not_lt.mp (fun z => h1 ((lg_cmp_lt _ _).mpr z)), Int64.not_lt.mp (fun z => h2 ((lg_cmp_gt _ _).mpr z))⟩) : lyOk (J 35 (nI n).toNatClampNeg))
          rw [e] at z
          exact z
        refine GW.weak (GW.eqI ?_ ih) ⟨rfl, rfl, rfl, by rw [lyC, if_pos ok], by rw [nI_1], trivial⟩
        rw [lyN, if_pos ok]
        rw [hc]
        exact pN1_set
set_option maxRecDepth 100000 in
set_option maxHeartbeats 4000000 in
theorem l_lyM0 (sx : Nat × (Nat → Int32)) (L : Nat) (hL : L ≤ 40) (E : Nat) (hE : E = min 8 L) (f : Nat → Int32) (I : Mm) (hI : I 49 0 = nI L) (J : Ml) (Rt : Option Value → Mm → Ml → Prop) (hR : Rt (some (.int (lyC (fun j => J 50 (0 + j)) E))) (sR (lyM (fun j => J 50 (0 + j)) f E) I) J) : ∀ m n , n + m = E → GW sx (na_mi MX4_lays) Rt 21 [some (.ref 43), some (.int 0), none, some (.int (lyC (fun j => J 50 (0 + j)) n)), some (.int (nI n)), none, none] [] (sR (lyM (fun j => J 50 (0 + j)) f n) I) J := by
  intro m
  induction m with
  | zero =>
    intro n  hn 
    obtain rfl : E = n := by omega
    refine GW.run kX4_lays (fun pc => Nat.beq pc 21) 81 14 rfl ?_
    refine And.intro (by unfold vp_in; decide) ?_
    refine And.intro (fun h1 => ?_) (fun h1 => ?_)
    · -- pc 29 .if_icmp .ge 59: yes
      exact ⟨trivial, hR⟩
    · -- pc 29 .if_icmp .ge 59: no
      refine And.intro (fun h2 => ?_) (fun h2 => ?_)
      · -- pc 36 .if_icmp .ge 52: yes
        exact ⟨trivial, hR⟩
      · -- pc 36 .if_icmp .ge 52: no
        exfalso
        have z1 : ¬ (8 : Int32) ≤ nI E := h2
        have z2 : ¬ I 49 0 ≤ nI E := h1
        rw [hI, nI_leI (by omega) (by omega)] at z2
        rw [show (8 : Int32) = nI 8 from rfl, nI_leI (by omega) (by omega)] at z1
        omega
  | succ m ih =>
    intro n  hn 
    have hz2 : ¬ (8 : Int32) ≤ nI n := nI_ge (a := n) (b := 8) (by omega) (by omega)
    have hz : ¬ I 49 0 ≤ nI n := by rw [hI]; exact nI_ge (by omega) (by omega)
    have ih := ih (n + 1) (by omega)
    have hix : (40 : Int32) * 0 + nI n = nI (0 + n) := by rw [show (40 : Int32) * 0 = nI 0 by decide, nI_add]
    have hbx : vp_in ((40 : Int32) * 0 + nI n) 160 := by rw [hix]; exact vp_in_nI (by omega) (by omega)
    have hcx : ((40 : Int32) * 0 + nI n).toNatClampNeg = 0 + n := by rw [hix, nI_clamp (by omega)]
    refine GW.run kX4_lays (fun pc => Nat.beq pc 21) 81 14 rfl ?_
    refine And.intro (by unfold vp_in; decide) ?_
    refine And.intro (fun hh => absurd hh hz) (fun _ => ?_)
    refine And.intro (fun hh => absurd hh hz2) (fun _ => ?_)
    refine And.intro (hbx) ?_
    refine And.intro (fun h1 => ?_) (fun h1 => ?_)
    · -- pc 57 .ifCond .lt 25: yes
      have ok : ¬ lyOk (J 50 (0 + n)) := by
        have z := ((fun z : lyOk _ => absurd z.1 (Int64.not_le.mpr ((lg_cmp_lt _ _).mp h1))) : ¬ lyOk (J 50 ((40 : Int32) * 0 + nI n).toNatClampNeg))
        rw [hcx] at z
        exact z
      refine GW.weak (GW.eqI ?_ ih) ⟨rfl, rfl, by rw [lyC, if_neg ok], by rw [nI_1], trivial⟩
      rw [lyM, if_neg ok]
    · -- pc 57 .ifCond .lt 25: no
      refine And.intro (fun h2 => ?_) (fun h2 => ?_)
      · -- pc 66 .ifCond .gt 16: yes
        have ok : ¬ lyOk (J 50 (0 + n)) := by
          have z := ((fun z : lyOk _ => absurd z.2 (Int64.not_le.mpr ((lg_cmp_gt _ _).mp h2))) : ¬ lyOk (J 50 ((40 : Int32) * 0 + nI n).toNatClampNeg))
          rw [hcx] at z
          exact z
        refine GW.weak (GW.eqI ?_ ih) ⟨rfl, rfl, by rw [lyC, if_neg ok], by rw [nI_1], trivial⟩
        rw [lyM, if_neg ok]
      · -- pc 66 .ifCond .gt 16: no
        refine Mt.conseq (m_lies _ _ n 0 (by omega) (by decide) _ (by decide) _ _ _) ?_
        rintro _ _ _ ⟨rfl, rfl, rfl⟩
        have ok : lyOk (J 50 (0 + n)) := by
          have z := ((show lyOk (J 50 ((40 : Int32) * 0 + nI n).toNatClampNeg) from ⟨Int64.not_lt.mp (fun z => h1 ((lg_cmp_lt _ _).mpr z)), Int64.not_lt.mp (fun z => h2 ((lg_cmp_gt _ _).mpr z))⟩) : lyOk (J 50 ((40 : Int32) * 0 + nI n).toNatClampNeg))
          rw [hcx] at z
          exact z
        refine GW.weak (GW.eqI ?_ ih) ⟨rfl, rfl, by rw [lyC, if_pos ok], by rw [nI_1], trivial⟩
        rw [lyM, if_pos ok]
        rw [hcx]
set_option maxRecDepth 100000 in
set_option maxHeartbeats 4000000 in
theorem m_bad0 (sx : Nat × (Nat → Int32)) (I : Mm) (J : Ml) : Mt sx MX4_badSheet [.ref 43, .int 0] I J (fun r I' J' => I = I' ∧ J = J' ∧ ((I 48 0 = 0 ∧ r = some (.int (-1000000006))) ∨ (¬ I 48 0 = 0 ∧ r = some (.int 0)))) := by
  refine Mt.of2 _ rfl (by decide +kernel) (Nat.le_of_ble_eq_true rfl) ?_
  refine GW.run kX4_badSheet (fun _ => false) 44 0 rfl ?_
  refine Mt.conseq (m_isSheet _ _ _ _) ?_
  rintro _ _ _ ⟨rfl, rfl, ⟨h1, rfl⟩ | ⟨h1, rfl⟩⟩
  · -- pc 1 call X4_isSheet true
    refine And.intro (fun _ => ?_) (fun hh => absurd hh (by decide))
    refine And.intro (by unfold vp_in; decide) ?_
    refine And.intro (fun h2 => ?_) (fun h2 => ?_)
    · -- pc 18 .ifCond .ne 9: yes
      exact ⟨trivial, rfl, rfl, Or.inr ⟨h2, rfl⟩⟩
    · -- pc 18 .ifCond .ne 9: no
      exact ⟨trivial, rfl, rfl, Or.inl ⟨h2, rfl⟩⟩
  · -- pc 1 call X4_isSheet false
    exact absurd (by decide) h1
set_option maxRecDepth 100000 in
set_option maxHeartbeats 4000000 in
theorem l_lyC1 (sx : Nat × (Nat → Int32)) (L : Nat) (hL : L ≤ 40) (E : Nat) (hE : E = min 8 L) (N I : Mm) (hI : I 36 2 = nI L) (J : Ml) (Rt : Option Value → Mm → Ml → Prop) (hR : Rt (some (.int (lyC (J 37) E))) (pN 1 (lyN (J 37) N E) I) J) : ∀ m n , n + m = E → GW sx (na_mi MX3_lays) Rt 40 [some (.ref 0), some (.int 1), some (.ref 36), some (.int (lyC (J 37) n)), some (.int (nI n)), none, none] [] (pN 1 (lyN (J 37) N n) I) J := by
  intro m
  induction m with
  | zero =>
    intro n  hn 
    obtain rfl : E = n := by omega
    refine GW.run kX3_lays (fun pc => Nat.beq pc 40) 85 23 rfl ?_
    refine And.intro (fun h1 => ?_) (fun h1 => ?_)
    · -- pc 44 .if_icmp .ge 59: yes
      exact ⟨trivial, hR⟩
    · -- pc 44 .if_icmp .ge 59: no
      refine And.intro (fun h2 => ?_) (fun h2 => ?_)
      · -- pc 53 .if_icmp .ge 50: yes
        exact ⟨trivial, hR⟩
      · -- pc 53 .if_icmp .ge 50: no
        exfalso
        have z1 : ¬ (8 : Int32) ≤ nI E := h1
        have z2 : ¬ I 36 2 ≤ nI E := h2
        rw [hI, nI_leI (by omega) (by omega)] at z2
        rw [show (8 : Int32) = nI 8 from rfl, nI_leI (by omega) (by omega)] at z1
        omega
  | succ m ih =>
    intro n  hn 
    have hz : ¬ (8 : Int32) ≤ nI n := nI_ge (a := n) (b := 8) (by omega) (by omega)
    have hz2 : ¬ I 36 2 ≤ nI n := by rw [hI]; exact nI_ge (by omega) (by omega)
    have ih := ih (n + 1) (by omega)
    have hb : vp_in (nI n) 40 := vp_in_nI (by omega) (by omega)
    have hb8 : vp_in (nI n) 8 := vp_in_nI (by omega) (by omega)
    have hc := nI_clamp (n := n) (by omega)
    refine GW.run kX3_lays (fun pc => Nat.beq pc 40) 85 23 rfl ?_
    refine And.intro (fun hh => absurd hh hz) (fun _ => ?_)
    refine And.intro (fun hh => absurd hh hz2) (fun _ => ?_)
    refine And.intro (hb) ?_
    refine And.intro (fun h1 => ?_) (fun h1 => ?_)
    · -- pc 69 .ifCond .lt 28: yes
      have ok : ¬ lyOk (J 37 n) := by
        have e := hc
        have z := ((fun z : lyOk _ => absurd z.1 (Int64.not_le.mpr ((lg_cmp_lt _ _).mp h1))) : ¬ lyOk (J 37 (nI n).toNatClampNeg))
        rw [e] at z
        exact z
      refine GW.weak (GW.eqI ?_ ih) ⟨rfl, rfl, rfl, by rw [lyC, if_neg ok], by rw [nI_1], trivial⟩
      rw [lyN, if_neg ok]
    · -- pc 69 .ifCond .lt 28: no
      refine And.intro (fun h2 => ?_) (fun h2 => ?_)
      · -- pc 78 .ifCond .gt 19: yes
        have ok : ¬ lyOk (J 37 n) := by
          have e := hc
          have z := ((fun z : lyOk _ => absurd z.2 (Int64.not_le.mpr ((lg_cmp_gt _ _).mp h2))) : ¬ lyOk (J 37 (nI n).toNatClampNeg))
          rw [e] at z
          exact z
        refine GW.weak (GW.eqI ?_ ih) ⟨rfl, rfl, rfl, by rw [lyC, if_neg ok], by rw [nI_1], trivial⟩
        rw [lyN, if_neg ok]
      · -- pc 78 .ifCond .gt 19: no
        refine And.intro (hb8) ?_
        have ok : lyOk (J 37 n) := by
          have e := hc
          have z := ((show lyOk (J 37 (nI n).toNatClampNeg) from ⟨Int64.not_lt.mp (fun z => h1 ((lg_cmp_lt _ _).mpr z)), Int64.not_lt.mp (fun z => h2 ((lg_cmp_gt _ _).mpr z))⟩) : lyOk (J 37 (nI n).toNatClampNeg))
          rw [e] at z
          exact z
        refine GW.weak (GW.eqI ?_ ih) ⟨rfl, rfl, rfl, by rw [lyC, if_pos ok], by rw [nI_1], trivial⟩
        rw [lyN, if_pos ok]
        rw [hc]
        exact pN1_set
set_option maxRecDepth 100000 in
set_option maxHeartbeats 4000000 in
theorem l_lyM1 (sx : Nat × (Nat → Int32)) (L : Nat) (hL : L ≤ 40) (E : Nat) (hE : E = min 8 L) (f : Nat → Int32) (I : Mm) (hI : I 49 1 = nI L) (J : Ml) (Rt : Option Value → Mm → Ml → Prop) (hR : Rt (some (.int (lyC (fun j => J 50 (40 + j)) E))) (sR (lyM (fun j => J 50 (40 + j)) f E) I) J) : ∀ m n , n + m = E → GW sx (na_mi MX4_lays) Rt 21 [some (.ref 43), some (.int 1), none, some (.int (lyC (fun j => J 50 (40 + j)) n)), some (.int (nI n)), none, none] [] (sR (lyM (fun j => J 50 (40 + j)) f n) I) J := by
  intro m
  induction m with
  | zero =>
    intro n  hn 
    obtain rfl : E = n := by omega
    refine GW.run kX4_lays (fun pc => Nat.beq pc 21) 81 14 rfl ?_
    refine And.intro (by unfold vp_in; decide) ?_
    refine And.intro (fun h1 => ?_) (fun h1 => ?_)
    · -- pc 29 .if_icmp .ge 59: yes
      exact ⟨trivial, hR⟩
    · -- pc 29 .if_icmp .ge 59: no
      refine And.intro (fun h2 => ?_) (fun h2 => ?_)
      · -- pc 36 .if_icmp .ge 52: yes
        exact ⟨trivial, hR⟩
      · -- pc 36 .if_icmp .ge 52: no
        exfalso
        have z1 : ¬ (8 : Int32) ≤ nI E := h2
        have z2 : ¬ I 49 1 ≤ nI E := h1
        rw [hI, nI_leI (by omega) (by omega)] at z2
        rw [show (8 : Int32) = nI 8 from rfl, nI_leI (by omega) (by omega)] at z1
        omega
  | succ m ih =>
    intro n  hn 
    have hz2 : ¬ (8 : Int32) ≤ nI n := nI_ge (a := n) (b := 8) (by omega) (by omega)
    have hz : ¬ I 49 1 ≤ nI n := by rw [hI]; exact nI_ge (by omega) (by omega)
    have ih := ih (n + 1) (by omega)
    have hix : (40 : Int32) * 1 + nI n = nI (40 + n) := by rw [show (40 : Int32) * 1 = nI 40 by decide, nI_add]
    have hbx : vp_in ((40 : Int32) * 1 + nI n) 160 := by rw [hix]; exact vp_in_nI (by omega) (by omega)
    have hcx : ((40 : Int32) * 1 + nI n).toNatClampNeg = 40 + n := by rw [hix, nI_clamp (by omega)]
    refine GW.run kX4_lays (fun pc => Nat.beq pc 21) 81 14 rfl ?_
    refine And.intro (by unfold vp_in; decide) ?_
    refine And.intro (fun hh => absurd hh hz) (fun _ => ?_)
    refine And.intro (fun hh => absurd hh hz2) (fun _ => ?_)
    refine And.intro (hbx) ?_
    refine And.intro (fun h1 => ?_) (fun h1 => ?_)
    · -- pc 57 .ifCond .lt 25: yes
      have ok : ¬ lyOk (J 50 (40 + n)) := by
        have z := ((fun z : lyOk _ => absurd z.1 (Int64.not_le.mpr ((lg_cmp_lt _ _).mp h1))) : ¬ lyOk (J 50 ((40 : Int32) * 1 + nI n).toNatClampNeg))
        rw [hcx] at z
        exact z
      refine GW.weak (GW.eqI ?_ ih) ⟨rfl, rfl, by rw [lyC, if_neg ok], by rw [nI_1], trivial⟩
      rw [lyM, if_neg ok]
    · -- pc 57 .ifCond .lt 25: no
      refine And.intro (fun h2 => ?_) (fun h2 => ?_)
      · -- pc 66 .ifCond .gt 16: yes
        have ok : ¬ lyOk (J 50 (40 + n)) := by
          have z := ((fun z : lyOk _ => absurd z.2 (Int64.not_le.mpr ((lg_cmp_gt _ _).mp h2))) : ¬ lyOk (J 50 ((40 : Int32) * 1 + nI n).toNatClampNeg))
          rw [hcx] at z
          exact z
        refine GW.weak (GW.eqI ?_ ih) ⟨rfl, rfl, by rw [lyC, if_neg ok], by rw [nI_1], trivial⟩
        rw [lyM, if_neg ok]
      · -- pc 66 .ifCond .gt 16: no
        refine Mt.conseq (m_lies _ _ n 0 (by omega) (by decide) _ (by decide) _ _ _) ?_
        rintro _ _ _ ⟨rfl, rfl, rfl⟩
        have ok : lyOk (J 50 (40 + n)) := by
          have z := ((show lyOk (J 50 ((40 : Int32) * 1 + nI n).toNatClampNeg) from ⟨Int64.not_lt.mp (fun z => h1 ((lg_cmp_lt _ _).mpr z)), Int64.not_lt.mp (fun z => h2 ((lg_cmp_gt _ _).mpr z))⟩) : lyOk (J 50 ((40 : Int32) * 1 + nI n).toNatClampNeg))
          rw [hcx] at z
          exact z
        refine GW.weak (GW.eqI ?_ ih) ⟨rfl, rfl, by rw [lyC, if_pos ok], by rw [nI_1], trivial⟩
        rw [lyM, if_pos ok]
        rw [hcx]
set_option maxRecDepth 100000 in
set_option maxHeartbeats 4000000 in
theorem m_bad1 (sx : Nat × (Nat → Int32)) (I : Mm) (J : Ml) : Mt sx MX4_badSheet [.ref 43, .int 1] I J (fun r I' J' => I = I' ∧ J = J' ∧ ((I 48 1 = 0 ∧ r = some (.int (-1000000006))) ∨ (¬ I 48 1 = 0 ∧ r = some (.int 0)))) := by
  refine Mt.of2 _ rfl (by decide +kernel) (Nat.le_of_ble_eq_true rfl) ?_
  refine GW.run kX4_badSheet (fun _ => false) 44 0 rfl ?_
  refine Mt.conseq (m_isSheet _ _ _ _) ?_
  rintro _ _ _ ⟨rfl, rfl, ⟨h1, rfl⟩ | ⟨h1, rfl⟩⟩
  · -- pc 1 call X4_isSheet true
    refine And.intro (fun _ => ?_) (fun hh => absurd hh (by decide))
    refine And.intro (by unfold vp_in; decide) ?_
    refine And.intro (fun h2 => ?_) (fun h2 => ?_)
    · -- pc 18 .ifCond .ne 9: yes
      exact ⟨trivial, rfl, rfl, Or.inr ⟨h2, rfl⟩⟩
    · -- pc 18 .ifCond .ne 9: no
      exact ⟨trivial, rfl, rfl, Or.inl ⟨h2, rfl⟩⟩
  · -- pc 1 call X4_isSheet false
    exact absurd (by decide) h1
set_option maxRecDepth 100000 in
set_option maxHeartbeats 4000000 in
theorem l_lyC2 (sx : Nat × (Nat → Int32)) (L : Nat) (hL : L ≤ 40) (E : Nat) (hE : E = min 8 L) (N I : Mm) (hI : I 38 2 = nI L) (J : Ml) (Rt : Option Value → Mm → Ml → Prop) (hR : Rt (some (.int (lyC (J 39) E))) (pN 1 (lyN (J 39) N E) I) J) : ∀ m n , n + m = E → GW sx (na_mi MX3_lays) Rt 40 [some (.ref 0), some (.int 2), some (.ref 38), some (.int (lyC (J 39) n)), some (.int (nI n)), none, none] [] (pN 1 (lyN (J 39) N n) I) J := by
  intro m
  induction m with
  | zero =>
    intro n  hn 
    obtain rfl : E = n := by omega
    refine GW.run kX3_lays (fun pc => Nat.beq pc 40) 85 23 rfl ?_
    refine And.intro (fun h1 => ?_) (fun h1 => ?_)
    · -- pc 44 .if_icmp .ge 59: yes
      exact ⟨trivial, hR⟩
    · -- pc 44 .if_icmp .ge 59: no
      refine And.intro (fun h2 => ?_) (fun h2 => ?_)
      · -- pc 53 .if_icmp .ge 50: yes
        exact ⟨trivial, hR⟩
      · -- pc 53 .if_icmp .ge 50: no
        exfalso
        have z1 : ¬ (8 : Int32) ≤ nI E := h1
        have z2 : ¬ I 38 2 ≤ nI E := h2
        rw [hI, nI_leI (by omega) (by omega)] at z2
        rw [show (8 : Int32) = nI 8 from rfl, nI_leI (by omega) (by omega)] at z1
        omega
  | succ m ih =>
    intro n  hn 
    have hz : ¬ (8 : Int32) ≤ nI n := nI_ge (a := n) (b := 8) (by omega) (by omega)
    have hz2 : ¬ I 38 2 ≤ nI n := by rw [hI]; exact nI_ge (by omega) (by omega)
    have ih := ih (n + 1) (by omega)
    have hb : vp_in (nI n) 40 := vp_in_nI (by omega) (by omega)
    have hb8 : vp_in (nI n) 8 := vp_in_nI (by omega) (by omega)
    have hc := nI_clamp (n := n) (by omega)
    refine GW.run kX3_lays (fun pc => Nat.beq pc 40) 85 23 rfl ?_
    refine And.intro (fun hh => absurd hh hz) (fun _ => ?_)
    refine And.intro (fun hh => absurd hh hz2) (fun _ => ?_)
    refine And.intro (hb) ?_
    refine And.intro (fun h1 => ?_) (fun h1 => ?_)
    · -- pc 69 .ifCond .lt 28: yes
      have ok : ¬ lyOk (J 39 n) := by
        have e := hc
        have z := ((fun z : lyOk _ => absurd z.1 (Int64.not_le.mpr ((lg_cmp_lt _ _).mp h1))) : ¬ lyOk (J 39 (nI n).toNatClampNeg))
        rw [e] at z
        exact z
      refine GW.weak (GW.eqI ?_ ih) ⟨rfl, rfl, rfl, by rw [lyC, if_neg ok], by rw [nI_1], trivial⟩
      rw [lyN, if_neg ok]
    · -- pc 69 .ifCond .lt 28: no
      refine And.intro (fun h2 => ?_) (fun h2 => ?_)
      · -- pc 78 .ifCond .gt 19: yes
        have ok : ¬ lyOk (J 39 n) := by
          have e := hc
          have z := ((fun z : lyOk _ => absurd z.2 (Int64.not_le.mpr ((lg_cmp_gt _ _).mp h2))) : ¬ lyOk (J 39 (nI n).toNatClampNeg))
          rw [e] at z
          exact z
        refine GW.weak (GW.eqI ?_ ih) ⟨rfl, rfl, rfl, by rw [lyC, if_neg ok], by rw [nI_1], trivial⟩
        rw [lyN, if_neg ok]
      · -- pc 78 .ifCond .gt 19: no
        refine And.intro (hb8) ?_
        have ok : lyOk (J 39 n) := by
          have e := hc
          have z := ((show lyOk (J 39 (nI n).toNatClampNeg) from ⟨Int64.not_lt.mp (fun z => h1 ((lg_cmp_lt _ _).mpr z)), Int64.not_lt.mp (fun z => h2 ((lg_cmp_gt _ _).mpr z))⟩) : lyOk (J 39 (nI n).toNatClampNeg))
          rw [e] at z
          exact z
        refine GW.weak (GW.eqI ?_ ih) ⟨rfl, rfl, rfl, by rw [lyC, if_pos ok], by rw [nI_1], trivial⟩
        rw [lyN, if_pos ok]
        rw [hc]
        exact pN1_set
set_option maxRecDepth 100000 in
set_option maxHeartbeats 4000000 in
theorem l_lyM2 (sx : Nat × (Nat → Int32)) (L : Nat) (hL : L ≤ 40) (E : Nat) (hE : E = min 8 L) (f : Nat → Int32) (I : Mm) (hI : I 49 2 = nI L) (J : Ml) (Rt : Option Value → Mm → Ml → Prop) (hR : Rt (some (.int (lyC (fun j => J 50 (80 + j)) E))) (sR (lyM (fun j => J 50 (80 + j)) f E) I) J) : ∀ m n , n + m = E → GW sx (na_mi MX4_lays) Rt 21 [some (.ref 43), some (.int 2), none, some (.int (lyC (fun j => J 50 (80 + j)) n)), some (.int (nI n)), none, none] [] (sR (lyM (fun j => J 50 (80 + j)) f n) I) J := by
  intro m
  induction m with
  | zero =>
    intro n  hn 
    obtain rfl : E = n := by omega
    refine GW.run kX4_lays (fun pc => Nat.beq pc 21) 81 14 rfl ?_
    refine And.intro (by unfold vp_in; decide) ?_
    refine And.intro (fun h1 => ?_) (fun h1 => ?_)
    · -- pc 29 .if_icmp .ge 59: yes
      exact ⟨trivial, hR⟩
    · -- pc 29 .if_icmp .ge 59: no
      refine And.intro (fun h2 => ?_) (fun h2 => ?_)
      · -- pc 36 .if_icmp .ge 52: yes
        exact ⟨trivial, hR⟩
      · -- pc 36 .if_icmp .ge 52: no
        exfalso
        have z1 : ¬ (8 : Int32) ≤ nI E := h2
        have z2 : ¬ I 49 2 ≤ nI E := h1
        rw [hI, nI_leI (by omega) (by omega)] at z2
        rw [show (8 : Int32) = nI 8 from rfl, nI_leI (by omega) (by omega)] at z1
        omega
  | succ m ih =>
    intro n  hn 
    have hz2 : ¬ (8 : Int32) ≤ nI n := nI_ge (a := n) (b := 8) (by omega) (by omega)
    have hz : ¬ I 49 2 ≤ nI n := by rw [hI]; exact nI_ge (by omega) (by omega)
    have ih := ih (n + 1) (by omega)
    have hix : (40 : Int32) * 2 + nI n = nI (80 + n) := by rw [show (40 : Int32) * 2 = nI 80 by decide, nI_add]
    have hbx : vp_in ((40 : Int32) * 2 + nI n) 160 := by rw [hix]; exact vp_in_nI (by omega) (by omega)
    have hcx : ((40 : Int32) * 2 + nI n).toNatClampNeg = 80 + n := by rw [hix, nI_clamp (by omega)]
    refine GW.run kX4_lays (fun pc => Nat.beq pc 21) 81 14 rfl ?_
    refine And.intro (by unfold vp_in; decide) ?_
    refine And.intro (fun hh => absurd hh hz) (fun _ => ?_)
    refine And.intro (fun hh => absurd hh hz2) (fun _ => ?_)
    refine And.intro (hbx) ?_
    refine And.intro (fun h1 => ?_) (fun h1 => ?_)
    · -- pc 57 .ifCond .lt 25: yes
      have ok : ¬ lyOk (J 50 (80 + n)) := by
        have z := ((fun z : lyOk _ => absurd z.1 (Int64.not_le.mpr ((lg_cmp_lt _ _).mp h1))) : ¬ lyOk (J 50 ((40 : Int32) * 2 + nI n).toNatClampNeg))
        rw [hcx] at z
        exact z
      refine GW.weak (GW.eqI ?_ ih) ⟨rfl, rfl, by rw [lyC, if_neg ok], by rw [nI_1], trivial⟩
      rw [lyM, if_neg ok]
    · -- pc 57 .ifCond .lt 25: no
      refine And.intro (fun h2 => ?_) (fun h2 => ?_)
      · -- pc 66 .ifCond .gt 16: yes
        have ok : ¬ lyOk (J 50 (80 + n)) := by
          have z := ((fun z : lyOk _ => absurd z.2 (Int64.not_le.mpr ((lg_cmp_gt _ _).mp h2))) : ¬ lyOk (J 50 ((40 : Int32) * 2 + nI n).toNatClampNeg))
          rw [hcx] at z
          exact z
        refine GW.weak (GW.eqI ?_ ih) ⟨rfl, rfl, by rw [lyC, if_neg ok], by rw [nI_1], trivial⟩
        rw [lyM, if_neg ok]
      · -- pc 66 .ifCond .gt 16: no
        refine Mt.conseq (m_lies _ _ n 0 (by omega) (by decide) _ (by decide) _ _ _) ?_
        rintro _ _ _ ⟨rfl, rfl, rfl⟩
        have ok : lyOk (J 50 (80 + n)) := by
          have z := ((show lyOk (J 50 ((40 : Int32) * 2 + nI n).toNatClampNeg) from ⟨Int64.not_lt.mp (fun z => h1 ((lg_cmp_lt _ _).mpr z)), Int64.not_lt.mp (fun z => h2 ((lg_cmp_gt _ _).mpr z))⟩) : lyOk (J 50 ((40 : Int32) * 2 + nI n).toNatClampNeg))
          rw [hcx] at z
          exact z
        refine GW.weak (GW.eqI ?_ ih) ⟨rfl, rfl, by rw [lyC, if_pos ok], by rw [nI_1], trivial⟩
        rw [lyM, if_pos ok]
        rw [hcx]
set_option maxRecDepth 100000 in
set_option maxHeartbeats 4000000 in
theorem m_bad2 (sx : Nat × (Nat → Int32)) (I : Mm) (J : Ml) : Mt sx MX4_badSheet [.ref 43, .int 2] I J (fun r I' J' => I = I' ∧ J = J' ∧ ((I 48 2 = 0 ∧ r = some (.int (-1000000006))) ∨ (¬ I 48 2 = 0 ∧ r = some (.int 0)))) := by
  refine Mt.of2 _ rfl (by decide +kernel) (Nat.le_of_ble_eq_true rfl) ?_
  refine GW.run kX4_badSheet (fun _ => false) 44 0 rfl ?_
  refine Mt.conseq (m_isSheet _ _ _ _) ?_
  rintro _ _ _ ⟨rfl, rfl, ⟨h1, rfl⟩ | ⟨h1, rfl⟩⟩
  · -- pc 1 call X4_isSheet true
    refine And.intro (fun _ => ?_) (fun hh => absurd hh (by decide))
    refine And.intro (by unfold vp_in; decide) ?_
    refine And.intro (fun h2 => ?_) (fun h2 => ?_)
    · -- pc 18 .ifCond .ne 9: yes
      exact ⟨trivial, rfl, rfl, Or.inr ⟨h2, rfl⟩⟩
    · -- pc 18 .ifCond .ne 9: no
      exact ⟨trivial, rfl, rfl, Or.inl ⟨h2, rfl⟩⟩
  · -- pc 1 call X4_isSheet false
    exact absurd (by decide) h1
set_option maxRecDepth 100000 in
set_option maxHeartbeats 4000000 in
theorem l_lyC3 (sx : Nat × (Nat → Int32)) (L : Nat) (hL : L ≤ 40) (E : Nat) (hE : E = min 8 L) (N I : Mm) (hI : I 40 2 = nI L) (J : Ml) (Rt : Option Value → Mm → Ml → Prop) (hR : Rt (some (.int (lyC (J 41) E))) (pN 1 (lyN (J 41) N E) I) J) : ∀ m n , n + m = E → GW sx (na_mi MX3_lays) Rt 40 [some (.ref 0), some (.int 3), some (.ref 40), some (.int (lyC (J 41) n)), some (.int (nI n)), none, none] [] (pN 1 (lyN (J 41) N n) I) J := by
  intro m
  induction m with
  | zero =>
    intro n  hn 
    obtain rfl : E = n := by omega
    refine GW.run kX3_lays (fun pc => Nat.beq pc 40) 85 23 rfl ?_
    refine And.intro (fun h1 => ?_) (fun h1 => ?_)
    · -- pc 44 .if_icmp .ge 59: yes
      exact ⟨trivial, hR⟩
    · -- pc 44 .if_icmp .ge 59: no
      refine And.intro (fun h2 => ?_) (fun h2 => ?_)
      · -- pc 53 .if_icmp .ge 50: yes
        exact ⟨trivial, hR⟩
      · -- pc 53 .if_icmp .ge 50: no
        exfalso
        have z1 : ¬ (8 : Int32) ≤ nI E := h1
        have z2 : ¬ I 40 2 ≤ nI E := h2
        rw [hI, nI_leI (by omega) (by omega)] at z2
        rw [show (8 : Int32) = nI 8 from rfl, nI_leI (by omega) (by omega)] at z1
        omega
  | succ m ih =>
    intro n  hn 
    have hz : ¬ (8 : Int32) ≤ nI n := nI_ge (a := n) (b := 8) (by omega) (by omega)
    have hz2 : ¬ I 40 2 ≤ nI n := by rw [hI]; exact nI_ge (by omega) (by omega)
    have ih := ih (n + 1) (by omega)
    have hb : vp_in (nI n) 40 := vp_in_nI (by omega) (by omega)
    have hb8 : vp_in (nI n) 8 := vp_in_nI (by omega) (by omega)
    have hc := nI_clamp (n := n) (by omega)
    refine GW.run kX3_lays (fun pc => Nat.beq pc 40) 85 23 rfl ?_
    refine And.intro (fun hh => absurd hh hz) (fun _ => ?_)
    refine And.intro (fun hh => absurd hh hz2) (fun _ => ?_)
    refine And.intro (hb) ?_
    refine And.intro (fun h1 => ?_) (fun h1 => ?_)
    · -- pc 69 .ifCond .lt 28: yes
      have ok : ¬ lyOk (J 41 n) := by
        have e := hc
        have z := ((fun z : lyOk _ => absurd z.1 (Int64.not_le.mpr ((lg_cmp_lt _ _).mp h1))) : ¬ lyOk (J 41 (nI n).toNatClampNeg))
        rw [e] at z
        exact z
      refine GW.weak (GW.eqI ?_ ih) ⟨rfl, rfl, rfl, by rw [lyC, if_neg ok], by rw [nI_1], trivial⟩
      rw [lyN, if_neg ok]
    · -- pc 69 .ifCond .lt 28: no
      refine And.intro (fun h2 => ?_) (fun h2 => ?_)
      · -- pc 78 .ifCond .gt 19: yes
        have ok : ¬ lyOk (J 41 n) := by
          have e := hc
          have z := ((fun z : lyOk _ => absurd z.2 (Int64.not_le.mpr ((lg_cmp_gt _ _).mp h2))) : ¬ lyOk (J 41 (nI n).toNatClampNeg))
          rw [e] at z
          exact z
        refine GW.weak (GW.eqI ?_ ih) ⟨rfl, rfl, rfl, by rw [lyC, if_neg ok], by rw [nI_1], trivial⟩
        rw [lyN, if_neg ok]
      · -- pc 78 .ifCond .gt 19: no
        refine And.intro (hb8) ?_
        have ok : lyOk (J 41 n) := by
          have e := hc
          have z := ((show lyOk (J 41 (nI n).toNatClampNeg) from ⟨Int64.not_lt.mp (fun z => h1 ((lg_cmp_lt _ _).mpr z)), Int64.not_lt.mp (fun z => h2 ((lg_cmp_gt _ _).mpr z))⟩) : lyOk (J 41 (nI n).toNatClampNeg))
          rw [e] at z
          exact z
        refine GW.weak (GW.eqI ?_ ih) ⟨rfl, rfl, rfl, by rw [lyC, if_pos ok], by rw [nI_1], trivial⟩
        rw [lyN, if_pos ok]
        rw [hc]
        exact pN1_set
set_option maxRecDepth 100000 in
set_option maxHeartbeats 4000000 in
theorem l_lyM3 (sx : Nat × (Nat → Int32)) (L : Nat) (hL : L ≤ 40) (E : Nat) (hE : E = min 8 L) (f : Nat → Int32) (I : Mm) (hI : I 49 3 = nI L) (J : Ml) (Rt : Option Value → Mm → Ml → Prop) (hR : Rt (some (.int (lyC (fun j => J 50 (120 + j)) E))) (sR (lyM (fun j => J 50 (120 + j)) f E) I) J) : ∀ m n , n + m = E → GW sx (na_mi MX4_lays) Rt 21 [some (.ref 43), some (.int 3), none, some (.int (lyC (fun j => J 50 (120 + j)) n)), some (.int (nI n)), none, none] [] (sR (lyM (fun j => J 50 (120 + j)) f n) I) J := by
  intro m
  induction m with
  | zero =>
    intro n  hn 
    obtain rfl : E = n := by omega
    refine GW.run kX4_lays (fun pc => Nat.beq pc 21) 81 14 rfl ?_
    refine And.intro (by unfold vp_in; decide) ?_
    refine And.intro (fun h1 => ?_) (fun h1 => ?_)
    · -- pc 29 .if_icmp .ge 59: yes
      exact ⟨trivial, hR⟩
    · -- pc 29 .if_icmp .ge 59: no
      refine And.intro (fun h2 => ?_) (fun h2 => ?_)
      · -- pc 36 .if_icmp .ge 52: yes
        exact ⟨trivial, hR⟩
      · -- pc 36 .if_icmp .ge 52: no
        exfalso
        have z1 : ¬ (8 : Int32) ≤ nI E := h2
        have z2 : ¬ I 49 3 ≤ nI E := h1
        rw [hI, nI_leI (by omega) (by omega)] at z2
        rw [show (8 : Int32) = nI 8 from rfl, nI_leI (by omega) (by omega)] at z1
        omega
  | succ m ih =>
    intro n  hn 
    have hz2 : ¬ (8 : Int32) ≤ nI n := nI_ge (a := n) (b := 8) (by omega) (by omega)
    have hz : ¬ I 49 3 ≤ nI n := by rw [hI]; exact nI_ge (by omega) (by omega)
    have ih := ih (n + 1) (by omega)
    have hix : (40 : Int32) * 3 + nI n = nI (120 + n) := by rw [show (40 : Int32) * 3 = nI 120 by decide, nI_add]
    have hbx : vp_in ((40 : Int32) * 3 + nI n) 160 := by rw [hix]; exact vp_in_nI (by omega) (by omega)
    have hcx : ((40 : Int32) * 3 + nI n).toNatClampNeg = 120 + n := by rw [hix, nI_clamp (by omega)]
    refine GW.run kX4_lays (fun pc => Nat.beq pc 21) 81 14 rfl ?_
    refine And.intro (by unfold vp_in; decide) ?_
    refine And.intro (fun hh => absurd hh hz) (fun _ => ?_)
    refine And.intro (fun hh => absurd hh hz2) (fun _ => ?_)
    refine And.intro (hbx) ?_
    refine And.intro (fun h1 => ?_) (fun h1 => ?_)
    · -- pc 57 .ifCond .lt 25: yes
      have ok : ¬ lyOk (J 50 (120 + n)) := by
        have z := ((fun z : lyOk _ => absurd z.1 (Int64.not_le.mpr ((lg_cmp_lt _ _).mp h1))) : ¬ lyOk (J 50 ((40 : Int32) * 3 + nI n).toNatClampNeg))
        rw [hcx] at z
        exact z
      refine GW.weak (GW.eqI ?_ ih) ⟨rfl, rfl, by rw [lyC, if_neg ok], by rw [nI_1], trivial⟩
      rw [lyM, if_neg ok]
    · -- pc 57 .ifCond .lt 25: no
      refine And.intro (fun h2 => ?_) (fun h2 => ?_)
      · -- pc 66 .ifCond .gt 16: yes
        have ok : ¬ lyOk (J 50 (120 + n)) := by
          have z := ((fun z : lyOk _ => absurd z.2 (Int64.not_le.mpr ((lg_cmp_gt _ _).mp h2))) : ¬ lyOk (J 50 ((40 : Int32) * 3 + nI n).toNatClampNeg))
          rw [hcx] at z
          exact z
        refine GW.weak (GW.eqI ?_ ih) ⟨rfl, rfl, by rw [lyC, if_neg ok], by rw [nI_1], trivial⟩
        rw [lyM, if_neg ok]
      · -- pc 66 .ifCond .gt 16: no
        refine Mt.conseq (m_lies _ _ n 0 (by omega) (by decide) _ (by decide) _ _ _) ?_
        rintro _ _ _ ⟨rfl, rfl, rfl⟩
        have ok : lyOk (J 50 (120 + n)) := by
          have z := ((show lyOk (J 50 ((40 : Int32) * 3 + nI n).toNatClampNeg) from ⟨Int64.not_lt.mp (fun z => h1 ((lg_cmp_lt _ _).mpr z)), Int64.not_lt.mp (fun z => h2 ((lg_cmp_gt _ _).mpr z))⟩) : lyOk (J 50 ((40 : Int32) * 3 + nI n).toNatClampNeg))
          rw [hcx] at z
          exact z
        refine GW.weak (GW.eqI ?_ ih) ⟨rfl, rfl, by rw [lyC, if_pos ok], by rw [nI_1], trivial⟩
        rw [lyM, if_pos ok]
        rw [hcx]
set_option maxRecDepth 100000 in
set_option maxHeartbeats 4000000 in
theorem m_bad3 (sx : Nat × (Nat → Int32)) (I : Mm) (J : Ml) : Mt sx MX4_badSheet [.ref 43, .int 3] I J (fun r I' J' => I = I' ∧ J = J' ∧ ((I 48 3 = 0 ∧ r = some (.int (-1000000006))) ∨ (¬ I 48 3 = 0 ∧ r = some (.int 0)))) := by
  refine Mt.of2 _ rfl (by decide +kernel) (Nat.le_of_ble_eq_true rfl) ?_
  refine GW.run kX4_badSheet (fun _ => false) 44 0 rfl ?_
  refine Mt.conseq (m_isSheet _ _ _ _) ?_
  rintro _ _ _ ⟨rfl, rfl, ⟨h1, rfl⟩ | ⟨h1, rfl⟩⟩
  · -- pc 1 call X4_isSheet true
    refine And.intro (fun _ => ?_) (fun hh => absurd hh (by decide))
    refine And.intro (by unfold vp_in; decide) ?_
    refine And.intro (fun h2 => ?_) (fun h2 => ?_)
    · -- pc 18 .ifCond .ne 9: yes
      exact ⟨trivial, rfl, rfl, Or.inr ⟨h2, rfl⟩⟩
    · -- pc 18 .ifCond .ne 9: no
      exact ⟨trivial, rfl, rfl, Or.inl ⟨h2, rfl⟩⟩
  · -- pc 1 call X4_isSheet false
    exact absurd (by decide) h1
set_option maxRecDepth 100000 in
set_option maxHeartbeats 4000000 in
theorem m_badx (sx : Nat × (Nat → Int32)) (s : Int32) (hx : outP s 0 3) (I : Mm) (J : Ml) : Mt sx MX4_badSheet [.ref 43, .int s] I J (na_v I J (-1000000001)) := by
  refine Mt.of2 _ rfl (by decide +kernel) (Nat.le_of_ble_eq_true rfl) ?_
  refine GW.run kX4_badSheet (fun _ => false) 44 0 rfl ?_
  refine Mt.conseq (m_isSheet _ _ _ _) ?_
  rintro _ _ _ ⟨rfl, rfl, ⟨h1, rfl⟩ | ⟨h1, rfl⟩⟩
  · -- pc 1 call X4_isSheet true
    exact (out_in hx h1).elim
  · -- pc 1 call X4_isSheet false
    refine And.intro (fun hh => absurd hh (by decide)) (fun _ => ?_)
    exact ⟨trivial, rfl, rfl, rfl⟩
set_option maxRecDepth 100000 in
set_option maxHeartbeats 4000000 in
theorem pr_lays0 (sx : Nat × (Nat → Int32)) : PrI sx MX3_lays MX4_lays [.int 0] := by
  intro I J hS
  obtain ⟨P, hN, ha, hP8, hP1, hP3, hpl⟩ := hS.nt
  have e73 : I 44 3 = I 1 7 := hP3.trans hP1.symm
  obtain ⟨s1, s2, n, s3, s4, s5, s6⟩ := hS.2.2.2.1 0 (by decide)
  have s45 : I 34 2 = I 49 0 := s4.trans s5.symm
  refine Mt.of2 _ rfl (by decide +kernel) (Nat.le_of_ble_eq_true rfl) ?_
  refine GW.run kX3_lays (fun pc => Nat.beq pc 40) 85 0 rfl ?_
  refine Mt.conseq (c_noSheet _ _ _ _) ?_
  rintro _ _ _ ⟨rfl, rfl, ⟨h1, rfl⟩ | ⟨h1, rfl⟩⟩
  · -- pc 1 call X3_noSheet true
    exact absurd h1 (by decide)
  · -- pc 1 call X3_noSheet false
    refine And.intro (fun _ => ?_) (fun hh => absurd hh (by decide))
    refine And.intro (by unfold vp_in; decide) ?_
    refine Mt.conseq (c_miss0 _ _ _) ?_
    rintro _ _ _ ⟨rfl, rfl, ⟨h2, rfl⟩ | ⟨h2, rfl⟩⟩
    · -- pc 22 call X1_isMissing true
      refine And.intro (fun hh => absurd hh (by decide)) (fun _ => ?_)
      refine Mt.conseq (c_fnd5 _ _ _) ?_
      rintro _ _ _ ⟨rfl, rfl, rfl⟩
      refine ⟨trivial, _, rfl, ?_⟩
      refine Mt.of2 _ rfl (by decide +kernel) (Nat.le_of_ble_eq_true rfl) ?_
      refine GW.run kX4_lays (fun pc => Nat.beq pc 21) 81 0 rfl ?_
      refine Mt.conseq (m_bad0 _ _ _) ?_
      rintro _ _ _ ⟨rfl, rfl, ⟨g1, rfl⟩ | ⟨g1, rfl⟩⟩
      · -- pc 2 call X4_badSheet true
        refine And.intro (fun hh => absurd hh (by decide)) (fun _ => ?_)
        refine Mt.conseq (m_fnd5 _ _ _) ?_
        rintro _ _ _ ⟨rfl, rfl, rfl⟩
        exact ⟨trivial, rfl, hS.found (by decide)⟩
      · -- pc 2 call X4_badSheet false
        exact absurd (show I 48 0 = 0 from s1.symm.trans h2) g1
    · -- pc 22 call X1_isMissing false
      refine And.intro (fun _ => ?_) (fun hh => absurd hh (by decide))
      refine GW.weak (GW.eqI ?_ (l_lyC0 sx n s3 (min 8 n) rfl (gN 1 I) I s4 J _ ?_ (min 8 n) 0 (by omega))) ⟨rfl, rfl, rfl, rfl, rfl, trivial⟩
      · rw [lyN, pN_gN]
      refine ⟨_, rfl, ?_⟩
      refine Mt.of2 _ rfl (by decide +kernel) (Nat.le_of_ble_eq_true rfl) ?_
      refine GW.run kX4_lays (fun pc => Nat.beq pc 21) 81 0 rfl ?_
      refine Mt.conseq (m_bad0 _ _ _) ?_
      rintro _ _ _ ⟨rfl, rfl, ⟨g1, rfl⟩ | ⟨g1, rfl⟩⟩
      · -- pc 2 call X4_badSheet true
        exact absurd (show I 34 1 = 0 from s1.trans g1) h2
      · -- pc 2 call X4_badSheet false
        refine And.intro (fun _ => ?_) (fun hh => absurd hh (by decide))
        have hg := ly_ag (u := J 35) (w := (fun j => J 50 (0 + j))) hP8 ha (min 8 n) (by omega) (fun j hj => (s6 j (by omega)).symm)
        refine GW.weak (GW.eqI (sR_self (pN 1 (lyN (J 35) (gN 1 I) (min 8 n)) I)).symm (l_lyM0 sx n s3 (min 8 n) rfl (I 44) (pN 1 (lyN (J 35) (gN 1 I) (min 8 n)) I) s5 J _ ?_ (min 8 n) 0 (by omega))) ⟨rfl, rfl, rfl, rfl, trivial⟩
        exact ⟨congrArg (fun x => some (Value.int x)) hg.2, hS.night (lyN_ok hN _) hg.1 (lyN_hi (fun a ha => gN_hi ha) _)⟩
set_option maxRecDepth 100000 in
set_option maxHeartbeats 4000000 in
theorem pr_lays1 (sx : Nat × (Nat → Int32)) : PrI sx MX3_lays MX4_lays [.int 1] := by
  intro I J hS
  obtain ⟨P, hN, ha, hP8, hP1, hP3, hpl⟩ := hS.nt
  have e73 : I 44 3 = I 1 7 := hP3.trans hP1.symm
  obtain ⟨s1, s2, n, s3, s4, s5, s6⟩ := hS.2.2.2.1 1 (by decide)
  have s45 : I 36 2 = I 49 1 := s4.trans s5.symm
  refine Mt.of2 _ rfl (by decide +kernel) (Nat.le_of_ble_eq_true rfl) ?_
  refine GW.run kX3_lays (fun pc => Nat.beq pc 40) 85 0 rfl ?_
  refine Mt.conseq (c_noSheet _ _ _ _) ?_
  rintro _ _ _ ⟨rfl, rfl, ⟨h1, rfl⟩ | ⟨h1, rfl⟩⟩
  · -- pc 1 call X3_noSheet true
    exact absurd h1 (by decide)
  · -- pc 1 call X3_noSheet false
    refine And.intro (fun _ => ?_) (fun hh => absurd hh (by decide))
    refine And.intro (by unfold vp_in; decide) ?_
    refine Mt.conseq (c_miss1 _ _ _) ?_
    rintro _ _ _ ⟨rfl, rfl, ⟨h2, rfl⟩ | ⟨h2, rfl⟩⟩
    · -- pc 22 call X1_isMissing true
      refine And.intro (fun hh => absurd hh (by decide)) (fun _ => ?_)
      refine Mt.conseq (c_fnd5 _ _ _) ?_
      rintro _ _ _ ⟨rfl, rfl, rfl⟩
      refine ⟨trivial, _, rfl, ?_⟩
      refine Mt.of2 _ rfl (by decide +kernel) (Nat.le_of_ble_eq_true rfl) ?_
      refine GW.run kX4_lays (fun pc => Nat.beq pc 21) 81 0 rfl ?_
      refine Mt.conseq (m_bad1 _ _ _) ?_
      rintro _ _ _ ⟨rfl, rfl, ⟨g1, rfl⟩ | ⟨g1, rfl⟩⟩
      · -- pc 2 call X4_badSheet true
        refine And.intro (fun hh => absurd hh (by decide)) (fun _ => ?_)
        refine Mt.conseq (m_fnd5 _ _ _) ?_
        rintro _ _ _ ⟨rfl, rfl, rfl⟩
        exact ⟨trivial, rfl, hS.found (by decide)⟩
      · -- pc 2 call X4_badSheet false
        exact absurd (show I 48 1 = 0 from s1.symm.trans h2) g1
    · -- pc 22 call X1_isMissing false
      refine And.intro (fun _ => ?_) (fun hh => absurd hh (by decide))
      refine GW.weak (GW.eqI ?_ (l_lyC1 sx n s3 (min 8 n) rfl (gN 1 I) I s4 J _ ?_ (min 8 n) 0 (by omega))) ⟨rfl, rfl, rfl, rfl, rfl, trivial⟩
      · rw [lyN, pN_gN]
      refine ⟨_, rfl, ?_⟩
      refine Mt.of2 _ rfl (by decide +kernel) (Nat.le_of_ble_eq_true rfl) ?_
      refine GW.run kX4_lays (fun pc => Nat.beq pc 21) 81 0 rfl ?_
      refine Mt.conseq (m_bad1 _ _ _) ?_
      rintro _ _ _ ⟨rfl, rfl, ⟨g1, rfl⟩ | ⟨g1, rfl⟩⟩
      · -- pc 2 call X4_badSheet true
        exact absurd (show I 36 1 = 0 from s1.trans g1) h2
      · -- pc 2 call X4_badSheet false
        refine And.intro (fun _ => ?_) (fun hh => absurd hh (by decide))
        have hg := ly_ag (u := J 37) (w := (fun j => J 50 (40 + j))) hP8 ha (min 8 n) (by omega) (fun j hj => (s6 j (by omega)).symm)
        refine GW.weak (GW.eqI (sR_self (pN 1 (lyN (J 37) (gN 1 I) (min 8 n)) I)).symm (l_lyM1 sx n s3 (min 8 n) rfl (I 44) (pN 1 (lyN (J 37) (gN 1 I) (min 8 n)) I) s5 J _ ?_ (min 8 n) 0 (by omega))) ⟨rfl, rfl, rfl, rfl, trivial⟩
        exact ⟨congrArg (fun x => some (Value.int x)) hg.2, hS.night (lyN_ok hN _) hg.1 (lyN_hi (fun a ha => gN_hi ha) _)⟩
set_option maxRecDepth 100000 in
set_option maxHeartbeats 4000000 in
theorem pr_lays2 (sx : Nat × (Nat → Int32)) : PrI sx MX3_lays MX4_lays [.int 2] := by
  intro I J hS
  obtain ⟨P, hN, ha, hP8, hP1, hP3, hpl⟩ := hS.nt
  have e73 : I 44 3 = I 1 7 := hP3.trans hP1.symm
  obtain ⟨s1, s2, n, s3, s4, s5, s6⟩ := hS.2.2.2.1 2 (by decide)
  have s45 : I 38 2 = I 49 2 := s4.trans s5.symm
  refine Mt.of2 _ rfl (by decide +kernel) (Nat.le_of_ble_eq_true rfl) ?_
  refine GW.run kX3_lays (fun pc => Nat.beq pc 40) 85 0 rfl ?_
  refine Mt.conseq (c_noSheet _ _ _ _) ?_
  rintro _ _ _ ⟨rfl, rfl, ⟨h1, rfl⟩ | ⟨h1, rfl⟩⟩
  · -- pc 1 call X3_noSheet true
    exact absurd h1 (by decide)
  · -- pc 1 call X3_noSheet false
    refine And.intro (fun _ => ?_) (fun hh => absurd hh (by decide))
    refine And.intro (by unfold vp_in; decide) ?_
    refine Mt.conseq (c_miss2 _ _ _) ?_
    rintro _ _ _ ⟨rfl, rfl, ⟨h2, rfl⟩ | ⟨h2, rfl⟩⟩
    · -- pc 22 call X1_isMissing true
      refine And.intro (fun hh => absurd hh (by decide)) (fun _ => ?_)
      refine Mt.conseq (c_fnd5 _ _ _) ?_
      rintro _ _ _ ⟨rfl, rfl, rfl⟩
      refine ⟨trivial, _, rfl, ?_⟩
      refine Mt.of2 _ rfl (by decide +kernel) (Nat.le_of_ble_eq_true rfl) ?_
      refine GW.run kX4_lays (fun pc => Nat.beq pc 21) 81 0 rfl ?_
      refine Mt.conseq (m_bad2 _ _ _) ?_
      rintro _ _ _ ⟨rfl, rfl, ⟨g1, rfl⟩ | ⟨g1, rfl⟩⟩
      · -- pc 2 call X4_badSheet true
        refine And.intro (fun hh => absurd hh (by decide)) (fun _ => ?_)
        refine Mt.conseq (m_fnd5 _ _ _) ?_
        rintro _ _ _ ⟨rfl, rfl, rfl⟩
        exact ⟨trivial, rfl, hS.found (by decide)⟩
      · -- pc 2 call X4_badSheet false
        exact absurd (show I 48 2 = 0 from s1.symm.trans h2) g1
    · -- pc 22 call X1_isMissing false
      refine And.intro (fun _ => ?_) (fun hh => absurd hh (by decide))
      refine GW.weak (GW.eqI ?_ (l_lyC2 sx n s3 (min 8 n) rfl (gN 1 I) I s4 J _ ?_ (min 8 n) 0 (by omega))) ⟨rfl, rfl, rfl, rfl, rfl, trivial⟩
      · rw [lyN, pN_gN]
      refine ⟨_, rfl, ?_⟩
      refine Mt.of2 _ rfl (by decide +kernel) (Nat.le_of_ble_eq_true rfl) ?_
      refine GW.run kX4_lays (fun pc => Nat.beq pc 21) 81 0 rfl ?_
      refine Mt.conseq (m_bad2 _ _ _) ?_
      rintro _ _ _ ⟨rfl, rfl, ⟨g1, rfl⟩ | ⟨g1, rfl⟩⟩
      · -- pc 2 call X4_badSheet true
        exact absurd (show I 38 1 = 0 from s1.trans g1) h2
      · -- pc 2 call X4_badSheet false
        refine And.intro (fun _ => ?_) (fun hh => absurd hh (by decide))
        have hg := ly_ag (u := J 39) (w := (fun j => J 50 (80 + j))) hP8 ha (min 8 n) (by omega) (fun j hj => (s6 j (by omega)).symm)
        refine GW.weak (GW.eqI (sR_self (pN 1 (lyN (J 39) (gN 1 I) (min 8 n)) I)).symm (l_lyM2 sx n s3 (min 8 n) rfl (I 44) (pN 1 (lyN (J 39) (gN 1 I) (min 8 n)) I) s5 J _ ?_ (min 8 n) 0 (by omega))) ⟨rfl, rfl, rfl, rfl, trivial⟩
        exact ⟨congrArg (fun x => some (Value.int x)) hg.2, hS.night (lyN_ok hN _) hg.1 (lyN_hi (fun a ha => gN_hi ha) _)⟩
set_option maxRecDepth 100000 in
set_option maxHeartbeats 4000000 in
theorem pr_lays3 (sx : Nat × (Nat → Int32)) : PrI sx MX3_lays MX4_lays [.int 3] := by
  intro I J hS
  obtain ⟨P, hN, ha, hP8, hP1, hP3, hpl⟩ := hS.nt
  have e73 : I 44 3 = I 1 7 := hP3.trans hP1.symm
  obtain ⟨s1, s2, n, s3, s4, s5, s6⟩ := hS.2.2.2.1 3 (by decide)
  have s45 : I 40 2 = I 49 3 := s4.trans s5.symm
  refine Mt.of2 _ rfl (by decide +kernel) (Nat.le_of_ble_eq_true rfl) ?_
  refine GW.run kX3_lays (fun pc => Nat.beq pc 40) 85 0 rfl ?_
  refine Mt.conseq (c_noSheet _ _ _ _) ?_
  rintro _ _ _ ⟨rfl, rfl, ⟨h1, rfl⟩ | ⟨h1, rfl⟩⟩
  · -- pc 1 call X3_noSheet true
    exact absurd h1 (by decide)
  · -- pc 1 call X3_noSheet false
    refine And.intro (fun _ => ?_) (fun hh => absurd hh (by decide))
    refine And.intro (by unfold vp_in; decide) ?_
    refine Mt.conseq (c_miss3 _ _ _) ?_
    rintro _ _ _ ⟨rfl, rfl, ⟨h2, rfl⟩ | ⟨h2, rfl⟩⟩
    · -- pc 22 call X1_isMissing true
      refine And.intro (fun hh => absurd hh (by decide)) (fun _ => ?_)
      refine Mt.conseq (c_fnd5 _ _ _) ?_
      rintro _ _ _ ⟨rfl, rfl, rfl⟩
      refine ⟨trivial, _, rfl, ?_⟩
      refine Mt.of2 _ rfl (by decide +kernel) (Nat.le_of_ble_eq_true rfl) ?_
      refine GW.run kX4_lays (fun pc => Nat.beq pc 21) 81 0 rfl ?_
      refine Mt.conseq (m_bad3 _ _ _) ?_
      rintro _ _ _ ⟨rfl, rfl, ⟨g1, rfl⟩ | ⟨g1, rfl⟩⟩
      · -- pc 2 call X4_badSheet true
        refine And.intro (fun hh => absurd hh (by decide)) (fun _ => ?_)
        refine Mt.conseq (m_fnd5 _ _ _) ?_
        rintro _ _ _ ⟨rfl, rfl, rfl⟩
        exact ⟨trivial, rfl, hS.found (by decide)⟩
      · -- pc 2 call X4_badSheet false
        exact absurd (show I 48 3 = 0 from s1.symm.trans h2) g1
    · -- pc 22 call X1_isMissing false
      refine And.intro (fun _ => ?_) (fun hh => absurd hh (by decide))
      refine GW.weak (GW.eqI ?_ (l_lyC3 sx n s3 (min 8 n) rfl (gN 1 I) I s4 J _ ?_ (min 8 n) 0 (by omega))) ⟨rfl, rfl, rfl, rfl, rfl, trivial⟩
      · rw [lyN, pN_gN]
      refine ⟨_, rfl, ?_⟩
      refine Mt.of2 _ rfl (by decide +kernel) (Nat.le_of_ble_eq_true rfl) ?_
      refine GW.run kX4_lays (fun pc => Nat.beq pc 21) 81 0 rfl ?_
      refine Mt.conseq (m_bad3 _ _ _) ?_
      rintro _ _ _ ⟨rfl, rfl, ⟨g1, rfl⟩ | ⟨g1, rfl⟩⟩
      · -- pc 2 call X4_badSheet true
        exact absurd (show I 40 1 = 0 from s1.trans g1) h2
      · -- pc 2 call X4_badSheet false
        refine And.intro (fun _ => ?_) (fun hh => absurd hh (by decide))
        have hg := ly_ag (u := J 41) (w := (fun j => J 50 (120 + j))) hP8 ha (min 8 n) (by omega) (fun j hj => (s6 j (by omega)).symm)
        refine GW.weak (GW.eqI (sR_self (pN 1 (lyN (J 41) (gN 1 I) (min 8 n)) I)).symm (l_lyM3 sx n s3 (min 8 n) rfl (I 44) (pN 1 (lyN (J 41) (gN 1 I) (min 8 n)) I) s5 J _ ?_ (min 8 n) 0 (by omega))) ⟨rfl, rfl, rfl, rfl, trivial⟩
        exact ⟨congrArg (fun x => some (Value.int x)) hg.2, hS.night (lyN_ok hN _) hg.1 (lyN_hi (fun a ha => gN_hi ha) _)⟩
set_option maxRecDepth 100000 in
set_option maxHeartbeats 4000000 in
theorem pr_laysx (sx : Nat × (Nat → Int32)) (s : Int32) (hx : outP s 0 3) : PrI sx MX3_lays MX4_lays [.int s] := by
  intro I J hS
  refine Mt.of2 _ rfl (by decide +kernel) (Nat.le_of_ble_eq_true rfl) ?_
  refine GW.run kX3_lays (fun _ => false) 85 0 rfl ?_
  refine Mt.conseq (c_noSheet _ _ _ _) ?_
  rintro _ _ _ ⟨rfl, rfl, ⟨h1, rfl⟩ | ⟨h1, rfl⟩⟩
  · -- pc 1 call X3_noSheet true
    refine And.intro (fun hh => absurd hh (by decide)) (fun _ => ?_)
    refine Mt.conseq (c_fnd0 _ _ _) ?_
    rintro _ _ _ ⟨rfl, rfl, rfl⟩
    refine ⟨trivial, _, rfl, ?_⟩
    refine Mt.of2 _ rfl (by decide +kernel) (Nat.le_of_ble_eq_true rfl) ?_
    refine GW.run kX4_lays (fun _ => false) 81 0 rfl ?_
    refine Mt.conseq (m_badx _ _ hx _ _) ?_
    rintro _ _ _ ⟨rfl, rfl, rfl⟩
    refine And.intro (fun hh => absurd hh (by decide)) (fun _ => ?_)
    refine Mt.conseq (m_fnd0 _ _ _) ?_
    rintro _ _ _ ⟨rfl, rfl, rfl⟩
    exact ⟨trivial, rfl, hS.found (by decide)⟩
  · -- pc 1 call X3_noSheet false
    exact absurd hx h1
theorem pr_lays (sx : Nat × (Nat → Int32)) (s : Int32) : PrI sx MX3_lays MX4_lays [.int s] := by
  by_cases hx : outP s 0 3
  · exact pr_laysx sx s hx
  · obtain ⟨t, ht, rfl⟩ := nout_nI (b := 3) (by decide) hx
    obtain rfl | rfl | rfl | rfl : t = 0 ∨ t = 1 ∨ t = 2 ∨ t = 3 := by omega
    · exact pr_lays0 sx
    · exact pr_lays1 sx
    · exact pr_lays2 sx
    · exact pr_lays3 sx
