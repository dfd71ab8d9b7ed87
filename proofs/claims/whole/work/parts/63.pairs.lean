/-! PAIRS: one of people; when -/
theorem nbd {v x : Int32} {P : Nat} (hx : x = nI P) (hP8 : P ≤ 8) (h : ¬ outP v 0 (x - 1)) : ∃ p, p < P ∧ v = nI p := by
  have h1 : ¬ v < 0 := fun q => h (Or.inl q)
  have h2 : ¬ x - 1 < v := fun q => h (Or.inr q)
  obtain ⟨j, hj, rfl⟩ := nI_of h1
  refine ⟨j, ?_, rfl⟩
  rw [hx, lt_i, nI_toInt hj] at h2
  have e : (nI P - 1).toInt = (P : Int) - 1 := by
    rw [tS (by rw [nI_toInt (by omega), i1]; omega) (by rw [nI_toInt (by omega), i1]; omega), nI_toInt (by omega), i1]
  omega
theorem bit0 : ∀ s, s < 256 → ∀ p, p < 8 → s.testBit p = false → nI s &&& nI (2 ^ p) = 0 := by decide +kernel
theorem stf_one {P : Nat} (hP8 : P ≤ 8) {N : Mm} (h : InvP P N) {p : Nat} (hp : p < P) (h0 : ¬ N 9 p = 1) : stf N P &&& (1 <<< (nI p &&& 31)) = 0 := by
  rw [stf_s hP8 h P (Nat.le_refl _), shl1 p (by omega)]
  exact bit0 _ (s256 hP8 N) p (by omega) (by rw [sN_bit]; simp [h0])
theorem wl_le (P : Nat) (set : Int32) : ∀ (m : Nat) (N : Mm), wl P set m N ≤ m
  | 0, _ => Nat.le_refl _
  | m + 1, N => by
    rw [wl]
    split
    · have := wl_le P set m (hrN P N); omega
    · omega
/-- in how many hours one is stifled: both sides -/
theorem when_eq {P : Nat} {f : Nat → Int32} {N M : Mm} (hN : NOk P N) (ha : Agr P (vN f) N) (hM : Agr P M N) {p : Nat} (hp : p < P) (h0 : ¬ N 9 p = 1) : un P (1 <<< (nI p &&& 31)) 61 f = 1 + wl P (1 <<< (nI p &&& 31)) 60 M := by
  rw [un_wl hN.2.2.2.1 _ 60 ha hN.1 hN.2.1 (stf_one hN.2.2.2.1 hN.2.1 hp h0), wl_c _ 60 hM hN.2.1.pl]
theorem fnd_pN {M I : Mm} {f : Nat} : fnd (pN 21 M I) f = pN 21 M (fnd I f) := by
  funext a
  unfold fnd
  by_cases h : a = 42
  · subst h; rw [na_set_on, pN_out (by omega), pN_out (by omega), na_set_on]
  · rw [na_set_off h]
    by_cases h2 : 21 ≤ a ∧ a ≤ 21 + 9
    · rw [pN_in h2, pN_in h2]
    · rw [pN_out h2, pN_out h2, na_set_off h]
/-- a finding, and something tried out -/
theorem Sim.junkf {I : Mm} {J : Ml} (h : Sim I J) {M : Mm} {g t : Nat → Int32} (hg : E76 g (I 44)) {f : Nat} (hf : f < 7) : Sim (fnM (sR g (sA 46 t (fnd (pN 21 M I) f))) f) J := by
  have h2 := (h.junk (M := M) (t := t) hg).found hf
  refine h2.eq (fun a j _ => ?_) (fun _ _ => rfl)
  congr 2
  funext x
  rw [fnd_pN]
  by_cases h1 : x = 44
  · subst h1; rfl
  · rw [sR_off h1]
    unfold fnd
    by_cases h3 : x = 42
    · subst h3
      rw [sA_off (by decide), pN_out (by omega), na_set_on, na_set_on, sR_off (by decide), sA_off (by decide), pN_out (by omega)]
    · rw [na_set_off h3, sR_off h1]
      by_cases h4 : x = 46
      · subst h4; rw [sA_on, sA_on]
      · rw [sA_off h4, sA_off h4]
        by_cases h5 : 21 ≤ x ∧ x ≤ 21 + 9
        · rw [pN_in h5, pN_in h5]
        · rw [pN_out h5, pN_out h5, na_set_off h3]
set_option maxRecDepth 100000 in
set_option maxHeartbeats 4000000 in
theorem pr_when (sx : Nat × (Nat → Int32)) (one : Int32) : PrI sx MX3_when MX4_when [.int one] := by
  intro I J hS
  obtain ⟨P, hN, ha, hP8, hP1, hP3, hpl⟩ := hS.nt
  have e73 : I 44 3 = I 1 7 := hP3.trans hP1.symm
  refine Mt.of2 _ rfl (by decide +kernel) (Nat.le_of_ble_eq_true rfl) ?_
  refine GW.run kX3_when (fun _ => false) 68 0 rfl ?_
  refine Mt.conseq (c_nobody _ _ _ _) ?_
  rintro _ _ _ ⟨rfl, rfl, ⟨h1, rfl⟩ | ⟨h1, rfl⟩⟩
  · -- pc 2 call X3_nobody true
    refine And.intro (fun hh => absurd hh (by decide)) (fun _ => ?_)
    refine Mt.conseq (c_fnd0 _ _ _) ?_
    rintro _ _ _ ⟨rfl, rfl, rfl⟩
    refine ⟨trivial, _, rfl, ?_⟩
    refine Mt.of2 _ rfl (by decide +kernel) (Nat.le_of_ble_eq_true rfl) ?_
    refine GW.run kX4_when (fun _ => false) 63 0 rfl ?_
    refine Mt.conseq ((by have h := m_isOne sx one (I 44) (fnd I 0) J; rw [show sR (I 44) (fnd I 0) = fnd I 0 from sR_self (fnd I 0), e73] at h; exact h)) ?_
    rintro _ _ _ ⟨rfl, rfl, ⟨g1, rfl⟩ | ⟨g1, rfl⟩⟩
    · -- pc 2 call X4_isOne true
      exact (out_in h1 g1).elim
    · -- pc 2 call X4_isOne false
      refine And.intro (fun hh => absurd hh (by decide)) (fun _ => ?_)
      refine Mt.conseq (m_fnd0 _ _ _) ?_
      rintro _ _ _ ⟨rfl, rfl, rfl⟩
      exact ⟨trivial, rfl, hS.found (by decide)⟩
  · -- pc 2 call X3_nobody false
    obtain ⟨p, hp, rfl⟩ := nbd hP1 hP8 h1
    have hbp : vp_in (nI p) 8 := vp_in_nI (by omega) (by omega)
    have hcp := nI_clamp (n := p) (by omega)
    refine And.intro (fun _ => ?_) (fun hh => absurd hh (by decide))
    refine And.intro (hbp) ?_
    refine And.intro (fun h3 => ?_) (fun h3 => ?_)
    · -- pc 25 .if_icmp .ne 10: yes
      refine Mt.conseq (c_sah _ P hP8 I hP1 _) ?_
      rintro _ _ _ ⟨⟨M, rfl, h4⟩, rfl, rfl⟩
      refine Mt.conseq (c_wl sx 21 (Or.inr rfl) M P (Agr.ok h4 hN).1 hP8 (Agr.ok h4 hN).2 (1 <<< (nI p &&& 31)) 60 (by decide) I J) ?_
      rintro _ _ _ ⟨⟨M2, rfl⟩, rfl, rfl⟩
      refine And.intro (fun h6 => ?_) (fun h6 => ?_)
      · -- pc 51 .if_icmp .ne 12: yes
        refine ⟨trivial, _, rfl, ?_⟩
        refine Mt.of2 _ rfl (by decide +kernel) (Nat.le_of_ble_eq_true rfl) ?_
        refine GW.run kX4_when (fun _ => false) 63 0 rfl ?_
        refine Mt.conseq ((by have h := m_isOne sx (nI p) (I 44) (pN 21 M2 I) J; rw [show sR (I 44) (pN 21 M2 I) = pN 21 M2 I from sR_self (pN 21 M2 I), e73] at h; exact h)) ?_
        rintro _ _ _ ⟨rfl, rfl, ⟨g1, rfl⟩ | ⟨g1, rfl⟩⟩
        · -- pc 2 call X4_isOne true
          refine And.intro (fun _ => ?_) (fun hh => absurd hh (by decide))
          refine Mt.conseq ((by have h := m_its sx p 4 (by omega) (by decide) 4 (by decide) (I 44) (pN 21 M2 I) J; rw [show sR (I 44) (pN 21 M2 I) = pN 21 M2 I from sR_self (pN 21 M2 I)] at h; exact h)) ?_
          rintro _ _ _ ⟨rfl, rfl, rfl⟩
          refine And.intro (fun g3 => ?_) (fun g3 => ?_)
          · -- pc 22 .if_icmp .ne 10: yes
            refine Mt.conseq ((by have h := m_un sx (I 44) P hP3 hP8 hpl (1 <<< (nI p &&& 31)) (pN 21 M2 I) J; rw [show sR (I 44) (pN 21 M2 I) = pN 21 M2 I from sR_self (pN 21 M2 I)] at h; exact h)) ?_
            rintro _ _ _ ⟨⟨_, _, rfl, g4⟩, rfl, rfl⟩
            refine And.intro (fun g5 => ?_) (fun g5 => ?_)
            · -- pc 43 .if_icmp .le 12: yes
              have hc : ¬ I 10 p = 1 := by have q := h3; rw [hcp] at q; exact q
              have hu := when_eq hN ha h4 hp hc
              have hle := wl_le P (1 <<< (nI p &&& 31)) 60 M
              exact ⟨trivial, by rw [hu, Nat.add_comm, nI_1], hS.junk g4⟩
            · -- pc 43 .if_icmp .le 12: no
              refine Mt.conseq (m_fnd3 _ _ _) ?_
              rintro _ _ _ ⟨rfl, rfl, rfl⟩
              have hc : ¬ I 10 p = 1 := by have q := h3; rw [hcp] at q; exact q
              have hu := when_eq hN ha h4 hp hc
              have hle := wl_le P (1 <<< (nI p &&& 31)) 60 M
              have hw : ¬ wl P (1 <<< (nI p &&& 31)) 60 M = 60 := fun q => h6 (by rw [q]; rfl)
              have hm : ¬ 1 + wl P (1 <<< (nI p &&& 31)) 60 M ≤ 60 := fun z => g5 (by rw [hu]; exact (nI_leI (b := 60) (by omega) (by decide)).mpr z)
              omega
          · -- pc 22 .if_icmp .ne 10: no
            refine Mt.conseq (m_fnd4 _ _ _) ?_
            rintro _ _ _ ⟨rfl, rfl, rfl⟩
            have e9 : I 44 (36 + 5 * p + 4) = I 10 p := ha.2.2 9 p (by decide) (by decide) hp
            have hc : ¬ I 10 p = 1 := by have q := h3; rw [hcp] at q; exact q
            exact absurd (e9.symm.trans g3) hc
        · -- pc 2 call X4_isOne false
          exact (nout_nin h1 g1).elim
      · -- pc 51 .if_icmp .ne 12: no
        refine Mt.conseq (c_fnd3 _ _ _) ?_
        rintro _ _ _ ⟨rfl, rfl, rfl⟩
        refine ⟨trivial, _, rfl, ?_⟩
        refine Mt.of2 _ rfl (by decide +kernel) (Nat.le_of_ble_eq_true rfl) ?_
        refine GW.run kX4_when (fun _ => false) 63 0 rfl ?_
        refine Mt.conseq ((by have h := m_isOne sx (nI p) (I 44) (fnd (pN 21 M2 I) 3) J; rw [show sR (I 44) (fnd (pN 21 M2 I) 3) = fnd (pN 21 M2 I) 3 from sR_self (fnd (pN 21 M2 I) 3), e73] at h; exact h)) ?_
        rintro _ _ _ ⟨rfl, rfl, ⟨g1, rfl⟩ | ⟨g1, rfl⟩⟩
        · -- pc 2 call X4_isOne true
          refine And.intro (fun _ => ?_) (fun hh => absurd hh (by decide))
          refine Mt.conseq ((by have h := m_its sx p 4 (by omega) (by decide) 4 (by decide) (I 44) (fnd (pN 21 M2 I) 3) J; rw [show sR (I 44) (fnd (pN 21 M2 I) 3) = fnd (pN 21 M2 I) 3 from sR_self (fnd (pN 21 M2 I) 3)] at h; exact h)) ?_
          rintro _ _ _ ⟨rfl, rfl, rfl⟩
          refine And.intro (fun g3 => ?_) (fun g3 => ?_)
          · -- pc 22 .if_icmp .ne 10: yes
            refine Mt.conseq ((by have h := m_un sx (I 44) P hP3 hP8 hpl (1 <<< (nI p &&& 31)) (fnd (pN 21 M2 I) 3) J; rw [show sR (I 44) (fnd (pN 21 M2 I) 3) = fnd (pN 21 M2 I) 3 from sR_self (fnd (pN 21 M2 I) 3)] at h; exact h)) ?_
            rintro _ _ _ ⟨⟨_, _, rfl, g4⟩, rfl, rfl⟩
            refine And.intro (fun g5 => ?_) (fun g5 => ?_)
            · -- pc 43 .if_icmp .le 12: yes
              have hc : ¬ I 10 p = 1 := by have q := h3; rw [hcp] at q; exact q
              have hu := when_eq hN ha h4 hp hc
              have hle := wl_le P (1 <<< (nI p &&& 31)) 60 M
              have hw : wl P (1 <<< (nI p &&& 31)) 60 M = 60 := by
                have q : nI (wl P (1 <<< (nI p &&& 31)) 60 M) = nI 60 := h6
                exact (nI_eq (by omega) (by omega)).mp q
              have hm : 1 + wl P (1 <<< (nI p &&& 31)) 60 M ≤ 60 := by
                have q := g5
                rw [hu] at q
                exact (nI_leI (b := 60) (by omega) (by decide)).mp q
              omega
            · -- pc 43 .if_icmp .le 12: no
              refine Mt.conseq (m_fnd3 _ _ _) ?_
              rintro _ _ _ ⟨rfl, rfl, rfl⟩
              have hc : ¬ I 10 p = 1 := by have q := h3; rw [hcp] at q; exact q
              have hu := when_eq hN ha h4 hp hc
              have hle := wl_le P (1 <<< (nI p &&& 31)) 60 M
              exact ⟨trivial, rfl, (Sim.junkf hS g4 (by decide))⟩
          · -- pc 22 .if_icmp .ne 10: no
            refine Mt.conseq (m_fnd4 _ _ _) ?_
            rintro _ _ _ ⟨rfl, rfl, rfl⟩
            have e9 : I 44 (36 + 5 * p + 4) = I 10 p := ha.2.2 9 p (by decide) (by decide) hp
            have hc : ¬ I 10 p = 1 := by have q := h3; rw [hcp] at q; exact q
            exact absurd (e9.symm.trans g3) hc
        · -- pc 2 call X4_isOne false
          exact (nout_nin h1 g1).elim
    · -- pc 25 .if_icmp .ne 10: no
      refine Mt.conseq (c_fnd4 _ _ _) ?_
      rintro _ _ _ ⟨rfl, rfl, rfl⟩
      refine ⟨trivial, _, rfl, ?_⟩
      refine Mt.of2 _ rfl (by decide +kernel) (Nat.le_of_ble_eq_true rfl) ?_
      refine GW.run kX4_when (fun _ => false) 63 0 rfl ?_
      refine Mt.conseq ((by have h := m_isOne sx (nI p) (I 44) (fnd I 4) J; rw [show sR (I 44) (fnd I 4) = fnd I 4 from sR_self (fnd I 4), e73] at h; exact h)) ?_
      rintro _ _ _ ⟨rfl, rfl, ⟨g1, rfl⟩ | ⟨g1, rfl⟩⟩
      · -- pc 2 call X4_isOne true
        refine And.intro (fun _ => ?_) (fun hh => absurd hh (by decide))
        refine Mt.conseq ((by have h := m_its sx p 4 (by omega) (by decide) 4 (by decide) (I 44) (fnd I 4) J; rw [show sR (I 44) (fnd I 4) = fnd I 4 from sR_self (fnd I 4)] at h; exact h)) ?_
        rintro _ _ _ ⟨rfl, rfl, rfl⟩
        refine And.intro (fun g3 => ?_) (fun g3 => ?_)
        · -- pc 22 .if_icmp .ne 10: yes
          refine Mt.conseq ((by have h := m_un sx (I 44) P hP3 hP8 hpl (1 <<< (nI p &&& 31)) (fnd I 4) J; rw [show sR (I 44) (fnd I 4) = fnd I 4 from sR_self (fnd I 4)] at h; exact h)) ?_
          rintro _ _ _ ⟨⟨_, _, rfl, g4⟩, rfl, rfl⟩
          refine And.intro (fun g5 => ?_) (fun g5 => ?_)
          · -- pc 43 .if_icmp .le 12: yes
            have e9 : I 44 (36 + 5 * p + 4) = I 10 p := ha.2.2 9 p (by decide) (by decide) hp
            have hc : I 10 p = 1 := by have q := h3; rw [hcp] at q; exact q
            exact absurd (e9.trans hc) g3
          · -- pc 43 .if_icmp .le 12: no
            refine Mt.conseq (m_fnd3 _ _ _) ?_
            rintro _ _ _ ⟨rfl, rfl, rfl⟩
            have e9 : I 44 (36 + 5 * p + 4) = I 10 p := ha.2.2 9 p (by decide) (by decide) hp
            have hc : I 10 p = 1 := by have q := h3; rw [hcp] at q; exact q
            exact absurd (e9.trans hc) g3
        · -- pc 22 .if_icmp .ne 10: no
          refine Mt.conseq (m_fnd4 _ _ _) ?_
          rintro _ _ _ ⟨rfl, rfl, rfl⟩
          exact ⟨trivial, rfl, hS.found (by decide)⟩
      · -- pc 2 call X4_isOne false
        exact (nout_nin h1 g1).elim
