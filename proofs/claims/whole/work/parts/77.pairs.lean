/-! PAIRS: sleep -/
def spV (P p : Nat) (N : Mm) (i : Nat) : Nat := wl P (1 <<< (nI p &&& 31)) 60 (na_set N 6 p (nI i))
theorem spV_le (P p : Nat) (N : Mm) (i : Nat) : spV P p N i ≤ 60 := wl_le _ _ _ _
theorem nI_lt2 {a b : Nat} (ha : a ≤ 61) (hb : b ≤ 61) : nI a < nI b ↔ a < b := by
  rw [lt_i, nI_toInt (by omega), nI_toInt (by omega)]
  omega
theorem hi_s (v : Nat → Int32) (a b : Int32) (n : Nat) : hiF v a b (n + 1) = if (hiF v a b n).2 < v n then (nI n, v n) else hiF v a b n := rfl
/-- one more on each side: the same place -/
theorem hi_sh (a : Nat → Nat) (h : ∀ i, a i ≤ 60) : ∀ n, (hiF (fun i => nI (1 + a i)) 0 (-1) (n + 1)).1 = (hiF (fun i => nI (a i)) 0 (-1) (n + 1)).1 ∧ ∃ k, k ≤ 60 ∧ (hiF (fun i => nI (1 + a i)) 0 (-1) (n + 1)).2 = nI (1 + k) ∧ (hiF (fun i => nI (a i)) 0 (-1) (n + 1)).2 = nI k
  | 0 => by
    have h0 := h 0
    have q1 : (-1 : Int32) < nI (1 + a 0) := by rw [lt_i, nI_toInt (by omega)]; have e : (-1 : Int32).toInt = -1 := by decide
                                                omega
    have q2 : (-1 : Int32) < nI (a 0) := by rw [lt_i, nI_toInt (by omega)]; have e : (-1 : Int32).toInt = -1 := by decide
                                            omega
    have b1 : hiF (fun i => nI (1 + a i)) 0 (-1) (0 + 1) = (nI 0, nI (1 + a 0)) := by rw [hi_s]; exact if_pos q1
    have b2 : hiF (fun i => nI (a i)) 0 (-1) (0 + 1) = (nI 0, nI (a 0)) := by rw [hi_s]; exact if_pos q2
    rw [b1, b2]
    exact ⟨rfl, a 0, h0, rfl, rfl⟩
  | n + 1 => by
    obtain ⟨e1, k, hk, e2, e3⟩ := hi_sh a h n
    have hn := h (n + 1)
    rw [hi_s (fun i => nI (1 + a i)) _ _ (n + 1), hi_s (fun i => nI (a i)) _ _ (n + 1), e2, e3]
    by_cases q : k < a (n + 1)
    · rw [if_pos ((nI_lt2 (by omega) (by omega)).mpr (by omega)), if_pos ((nI_lt2 (by omega) (by omega)).mpr q)]
      exact ⟨rfl, _, hn, rfl, rfl⟩
    · rw [if_neg (fun z => q (by have := (nI_lt2 (by omega) (by omega)).mp z; omega)), if_neg (fun z => q ((nI_lt2 (by omega) (by omega)).mp z))]
      exact ⟨e1, k, hk, e2, e3⟩
theorem rg7 {n : Nat} (h : n < 8) : rg 0 7 (nI n) := ⟨by rw [nI_toInt (by omega)]; omega, by rw [nI_toInt (by omega)]; omega⟩
theorem m_un2 (sx : Nat × (Nat → Int32)) (f : Nat → Int32) (P : Nat) (hP : f 3 = nI P) (hP8 : P ≤ 8) (hpl : ∀ p, p < P → vp_in (f (36 + 5 * p + 1)) 8) (set : Int32) (t : Nat → Int32) (I : Mm) (J : Ml) {v : Nat} (hv : un P set 61 f = v) : Mt sx MX4_untilOf [.ref 43, .int set] (sR f (sA 46 t I)) J (fun r' I' J' => (∃ g t, sR g (sA 46 t I) = I' ∧ E76 g f) ∧ J = J' ∧ r' = some (.int (nI v))) :=
  Mt.conseq (m_un sx f P hP hP8 hpl set (sA 46 t I) J) (by
    rintro _ _ _ ⟨⟨g, t2, rfl, h⟩, rfl, rfl⟩
    exact ⟨⟨g, t2, by rw [sA_sA], h⟩, rfl, by rw [hv]⟩)
set_option maxRecDepth 100000 in
set_option maxHeartbeats 4000000 in
theorem l_spC (sx : Nat × (Nat → Int32)) (P : Nat) (hP8 : P ≤ 8) (I : Mm) (hP1 : I 1 7 = nI P) (hN : NOk P (gN 1 I)) (p : Nat) (hp : p < P) (J : Ml) (Rt : Option Value → Mm → Ml → Prop) (hR : ∀ X, Rt (some (.int (hiF (fun i => nI (spV P p (gN 1 I) i)) 0 (-1) 8).1)) (pN 21 X I) J) : ∀ m n X, n + m = 8 → GW sx (na_mi MX3_sleep) Rt 42 [some (.ref 0), some (.int (nI p)), some (.int (hiF (fun i => nI (spV P p (gN 1 I) i)) 0 (-1) n).1), some (.int (hiF (fun i => nI (spV P p (gN 1 I) i)) 0 (-1) n).2), some (.int (nI n)), none, none] [] (pN 21 X I) J := by
  have hbp : vp_in (nI p) 8 := vp_in_nI (by omega) (by omega)
  have hcp := nI_clamp (n := p) (by omega)
  intro m
  induction m with
  | zero =>
    intro n X hn
    obtain rfl : n = 8 := by omega
    have hz : (8 : Int32) ≤ nI 8 := by decide
    refine GW.run kX3_sleep (fun pc => Nat.beq pc 42) 84 25 rfl ?_
    refine And.intro (fun _ => ?_) (fun hh => absurd hz hh)
    exact ⟨trivial, hR X⟩
  | succ m ih =>
    intro n X hn
    have hz : ¬ (8 : Int32) ≤ nI n := nI_ge (a := n) (b := 8) (by omega) (by omega)
    refine GW.run kX3_sleep (fun pc => Nat.beq pc 42) 84 25 rfl ?_
    refine And.intro (fun hh => absurd hh hz) (fun _ => ?_)
    refine Mt.conseq (c_sah2 _ P hP8 I hP1 _ _) ?_
    rintro _ _ _ ⟨⟨M, rfl, h1⟩, rfl, rfl⟩
    have hM2 := Agr.set h1 6 p (nI n)
    have hN6 := hN.p1 (j := p) (rg7 (n := n) (by omega))
    have hok := Agr.ok hM2 hN6
    have ev : wl P (1 <<< (nI p &&& 31)) 60 (na_set M 6 p (nI n)) = spV P p (gN 1 I) n := by
      rw [spV, wl_c _ 60 hM2 hN6.2.1.pl]
    refine And.intro (hbp) ?_
    refine Mt.conseq ((by have h := c_wl sx 21 (Or.inr rfl) (na_set M 6 p (nI n)) P hok.1 hP8 hok.2 (1 <<< (nI p &&& 31)) 60 (by decide) I J; rw [← pN_set (pl := 27) (by decide) rfl, ev] at h; rw [hcp]; exact h)) ?_
    rintro _ _ _ ⟨⟨X2, rfl⟩, rfl, rfl⟩
    refine And.intro (fun h3 => ?_) (fun h3 => ?_)
    · -- pc 79 .if_icmp .le 9: yes
      exact GW.weak (ih (n + 1) X2 (by omega)) ⟨rfl, rfl, by rw [hiF, if_neg (Int32.not_lt.mpr h3)], by rw [hiF, if_neg (Int32.not_lt.mpr h3)], by rw [nI_1], trivial⟩
    · -- pc 79 .if_icmp .le 9: no
      exact GW.weak (ih (n + 1) X2 (by omega)) ⟨rfl, rfl, by rw [hiF, if_pos (Int32.not_le.mp h3)], by rw [hiF, if_pos (Int32.not_le.mp h3)], by rw [nI_1], trivial⟩
set_option maxRecDepth 100000 in
set_option maxHeartbeats 4000000 in
theorem l_spM (sx : Nat × (Nat → Int32)) (f : Nat → Int32) (N : Mm) (P : Nat) (hP8 : P ≤ 8) (hN : NOk P N) (ha : Agr P (vN f) N) (p : Nat) (hp : p < P) (h9 : ¬ N 9 p = 1) (I : Mm) (J : Ml) (Rt : Option Value → Mm → Ml → Prop) (hR : ∀ g t, E76 g f → Rt (some (.int (hiF (fun i => nI (1 + spV P p N i)) 0 (-1) 8).1)) (sR g (sA 46 t I)) J) : ∀ m n g t y, n + m = 8 → E76 g (upd f (36 + 5 * p + 1) y) → GW sx (na_mi MX4_sleep) Rt 47 [some (.ref 43), some (.int (nI p)), some (.int (f (36 + 5 * p + 1))), some (.int (hiF (fun i => nI (1 + spV P p N i)) 0 (-1) n).1), some (.int (hiF (fun i => nI (1 + spV P p N i)) 0 (-1) n).2), some (.int (nI n)), none] [] (sR g (sA 46 t I)) J := by
  intro m
  induction m with
  | zero =>
    intro n g t y hn hg
    obtain rfl : n = 8 := by omega
    have hz : (8 : Int32) ≤ nI 8 := by decide
    refine GW.run kX4_sleep (fun pc => Nat.beq pc 47) 96 29 rfl ?_
    refine And.intro (fun _ => ?_) (fun hh => absurd hz hh)
    refine Mt.conseq (m_puts _ (f (36 + 5 * p + 1)) p 1 (by omega) (by decide) 1 (by decide) _ _ _) ?_
    rintro _ _ _ ⟨rfl, rfl, rfl⟩
    exact ⟨trivial, hR _ _ (E76.back hg)⟩
  | succ m ih =>
    intro n g t y hn hg
    have hz : ¬ (8 : Int32) ≤ nI n := nI_ge (a := n) (b := 8) (by omega) (by omega)
    have hput := hg.put (nI n)
    have hN6 := hN.p1 (j := p) (rg7 (n := n) (by omega))
    have hga : Agr P (vN (upd g (36 + 5 * p + 1) (nI n))) (na_set N 6 p (nI n)) := (hput.agr hP8).trans (agP hP8 ha (w := 1) (by decide) _)
    have hA := Agr.ok hga hN6
    have hval : un P (1 <<< (nI p &&& 31)) 61 (upd g (36 + 5 * p + 1) (nI n)) = 1 + spV P p N n := when_eq hN6 hga (Agr.refl _ _) hp h9
    refine GW.run kX4_sleep (fun pc => Nat.beq pc 47) 96 29 rfl ?_
    refine And.intro (fun hh => absurd hh hz) (fun _ => ?_)
    refine Mt.conseq (m_puts _ (nI n) p 1 (by omega) (by decide) 1 (by decide) _ _ _) ?_
    rintro _ _ _ ⟨rfl, rfl, rfl⟩
    refine Mt.conseq (m_un2 _ (upd g (36 + 5 * p + 1) (nI n)) P hA.1 hP8 hA.2 _ t _ _ hval) ?_
    rintro _ _ _ ⟨⟨g2, t2, rfl, h2⟩, rfl, rfl⟩
    refine And.intro (fun h3 => ?_) (fun h3 => ?_)
    · -- pc 75 .if_icmp .le 8: yes
      refine And.intro (fun h4 => ?_) (fun h4 => ?_)
      · -- pc 89 .if_icmp .le 8: yes
        exact GW.weak (ih (n + 1) g2 t2 (nI n) (by omega) (fun j hj => (h2 j hj).trans (hput j hj))) ⟨rfl, rfl, rfl, by rw [hiF, if_neg (Int32.not_lt.mpr h3)], by rw [hiF, if_neg (Int32.not_lt.mpr h3)], by rw [nI_1], trivial⟩
      · -- pc 89 .if_icmp .le 8: no
        exact absurd h3 h4
    · -- pc 75 .if_icmp .le 8: no
      refine And.intro (fun h5 => ?_) (fun h5 => ?_)
      · -- pc 89 .if_icmp .le 8: yes
        exact absurd h5 h3
      · -- pc 89 .if_icmp .le 8: no
        exact GW.weak (ih (n + 1) g2 t2 (nI n) (by omega) (fun j hj => (h2 j hj).trans (hput j hj))) ⟨rfl, rfl, rfl, by rw [hiF, if_pos (Int32.not_le.mp h3)], by rw [hiF, if_pos (Int32.not_le.mp h3)], by rw [nI_1], trivial⟩
set_option maxRecDepth 100000 in
set_option maxHeartbeats 4000000 in
theorem pr_sleep (sx : Nat × (Nat → Int32)) (one : Int32) : PrI sx MX3_sleep MX4_sleep [.int one] := by
  intro I J hS
  obtain ⟨P, hN, ha, hP8, hP1, hP3, hpl⟩ := hS.nt
  have e73 : I 44 3 = I 1 7 := hP3.trans hP1.symm
  refine Mt.of2 _ rfl (by decide +kernel) (Nat.le_of_ble_eq_true rfl) ?_
  refine GW.run kX3_sleep (fun pc => Nat.beq pc 42) 84 0 rfl ?_
  refine Mt.conseq (c_nobody _ _ _ _) ?_
  rintro _ _ _ ⟨rfl, rfl, ⟨h1, rfl⟩ | ⟨h1, rfl⟩⟩
  · -- pc 2 call X3_nobody true
    refine And.intro (fun hh => absurd hh (by decide)) (fun _ => ?_)
    refine Mt.conseq (c_fnd0 _ _ _) ?_
    rintro _ _ _ ⟨rfl, rfl, rfl⟩
    refine ⟨trivial, _, rfl, ?_⟩
    refine Mt.of2 _ rfl (by decide +kernel) (Nat.le_of_ble_eq_true rfl) ?_
    refine GW.run kX4_sleep (fun pc => Nat.beq pc 47) 96 0 rfl ?_
    refine Mt.conseq ((by have h := m_isOne sx one (I 44) (fnd I 0) J; rw [show sR (I 44) (fnd I 0) = fnd I 0 from sR_self (fnd I 0), e73] at h; exact h)) ?_
    rintro _ _ _ ⟨rfl, rfl, ⟨g1, rfl⟩ | ⟨g1, rfl⟩⟩
    · -- pc 2 call X4_isOne true
      exact (out_in h1 g1).elim
    · -- pc 2 call X4_isOne false
      refine And.intro (fun hh => absurd hh (by decide)) (fun _ => ?_)
      refine Mt.conseq (m_fnd0 _ _ _) ?_
      rintro _ _ _ ⟨rfl, rfl, rfl⟩
      exact ⟨trivial, rfl, hS.found (by decide)⟩
  · -- pc 2 call X3_nobody false
    obtain ⟨p, hp, rfl⟩ := nbd hP1 hP8 h1
    have hbp : vp_in (nI p) 8 := vp_in_nI (by omega) (by omega)
    have hcp := nI_clamp (n := p) (by omega)
    refine And.intro (fun _ => ?_) (fun hh => absurd hh (by decide))
    refine And.intro (hbp) ?_
    refine And.intro (fun h3 => ?_) (fun h3 => ?_)
    · -- pc 25 .if_icmp .ne 10: yes
      refine GW.weak (GW.eqI ?_ (l_spC sx P hP8 I hP1 hN p hp J _ ?_ 8 0 (gN 21 I) rfl)) ⟨rfl, rfl, rfl, rfl, rfl, trivial⟩
      · rw [pN_gN]
      intro X
      refine ⟨_, rfl, ?_⟩
      refine Mt.of2 _ rfl (by decide +kernel) (Nat.le_of_ble_eq_true rfl) ?_
      refine GW.run kX4_sleep (fun pc => Nat.beq pc 47) 96 0 rfl ?_
      refine Mt.conseq ((by have h := m_isOne sx (nI p) (I 44) (pN 21 X I) J; rw [show sR (I 44) (pN 21 X I) = pN 21 X I from sR_self (pN 21 X I), e73] at h; exact h)) ?_
      rintro _ _ _ ⟨rfl, rfl, ⟨g1, rfl⟩ | ⟨g1, rfl⟩⟩
      · -- pc 2 call X4_isOne true
        refine And.intro (fun _ => ?_) (fun hh => absurd hh (by decide))
        refine Mt.conseq ((by have h := m_its sx p 4 (by omega) (by decide) 4 (by decide) (I 44) (pN 21 X I) J; rw [show sR (I 44) (pN 21 X I) = pN 21 X I from sR_self (pN 21 X I)] at h; exact h)) ?_
        rintro _ _ _ ⟨rfl, rfl, rfl⟩
        refine And.intro (fun g3 => ?_) (fun g3 => ?_)
        · -- pc 22 .if_icmp .ne 10: yes
          refine Mt.conseq ((by have h := m_its sx p 1 (by omega) (by decide) 1 (by decide) (I 44) (pN 21 X I) J; rw [show sR (I 44) (pN 21 X I) = pN 21 X I from sR_self (pN 21 X I)] at h; exact h)) ?_
          rintro _ _ _ ⟨rfl, rfl, rfl⟩
          have hc : ¬ I 10 p = 1 := by have q := h3; rw [hcp] at q; exact q
          refine GW.weak (GW.eqI ?_ (l_spM sx (I 44) (gN 1 I) P hP8 hN ha p hp hc (pN 21 X I) J _ ?_ 8 0 (I 44) (I 46) (I 44 (36 + 5 * p + 1)) rfl (by rw [upd_self]; exact fun _ _ => rfl))) ⟨rfl, rfl, rfl, rfl, rfl, rfl, trivial⟩
          · rw [show sA 46 (I 46) (pN 21 X I) = pN 21 X I from sA_self 46 (pN 21 X I), show sR (I 44) (pN 21 X I) = pN 21 X I from sR_self (pN 21 X I)]
          · intro g t hg
            exact ⟨congrArg (fun x => some (Value.int x)) (hi_sh (spV P p (gN 1 I)) (spV_le P p (gN 1 I)) 7).1, hS.junk hg⟩
        · -- pc 22 .if_icmp .ne 10: no
          have e9 : I 44 (36 + 5 * p + 4) = I 10 p := ha.2.2 9 p (by decide) (by decide) hp
          have hc : ¬ I 10 p = 1 := by have q := h3; rw [hcp] at q; exact q
          exact absurd (e9.symm.trans g3) hc
      · -- pc 2 call X4_isOne false
        exact (nout_nin h1 g1).elim
    · -- pc 25 .if_icmp .ne 10: no
      refine Mt.conseq (c_fnd4 _ _ _) ?_
      rintro _ _ _ ⟨rfl, rfl, rfl⟩
      refine ⟨trivial, _, rfl, ?_⟩
      refine Mt.of2 _ rfl (by decide +kernel) (Nat.le_of_ble_eq_true rfl) ?_
      refine GW.run kX4_sleep (fun pc => Nat.beq pc 47) 96 0 rfl ?_
      refine Mt.conseq ((by have h := m_isOne sx (nI p) (I 44) (fnd I 4) J; rw [show sR (I 44) (fnd I 4) = fnd I 4 from sR_self (fnd I 4), e73] at h; exact h)) ?_
      rintro _ _ _ ⟨rfl, rfl, ⟨g1, rfl⟩ | ⟨g1, rfl⟩⟩
      · -- pc 2 call X4_isOne true
        refine And.intro (fun _ => ?_) (fun hh => absurd hh (by decide))
        refine Mt.conseq ((by have h := m_its sx p 4 (by omega) (by decide) 4 (by decide) (I 44) (fnd I 4) J; rw [show sR (I 44) (fnd I 4) = fnd I 4 from sR_self (fnd I 4)] at h; exact h)) ?_
        rintro _ _ _ ⟨rfl, rfl, rfl⟩
        refine And.intro (fun g3 => ?_) (fun g3 => ?_)
        · -- pc 22 .if_icmp .ne 10: yes
          have e9 : I 44 (36 + 5 * p + 4) = I 10 p := ha.2.2 9 p (by decide) (by decide) hp
          have hc : I 10 p = 1 := by have q := h3; rw [hcp] at q; exact q
          exact absurd (e9.trans hc) g3
        · -- pc 22 .if_icmp .ne 10: no
          refine Mt.conseq (m_fnd4 _ _ _) ?_
          rintro _ _ _ ⟨rfl, rfl, rfl⟩
          exact ⟨trivial, rfl, hS.found (by decide)⟩
      · -- pc 2 call X4_isOne false
        exact (nout_nin h1 g1).elim
