/-! PAIRS: kind (2: the reference, both) -/
theorem sA_sA {a : Nat} {g h : Nat → Int32} {I : Mm} : sA a g (sA a h I) = sA a g I := by
  funext x
  by_cases e : x = a
  · subst e; rw [sA_on, sA_on]
  · rw [sA_off e, sA_off e, sA_off e]
theorem m_so2 (sx : Nat × (Nat → Int32)) (f : Nat → Int32) (P : Nat) (hP : f 3 = nI P) (hP8 : P ≤ 8) (hpl : ∀ p, p < P → vp_in (f (36 + 5 * p + 1)) 8) (K : Nat) (hK : K ≤ 60) (t : Nat → Int32) (I : Mm) (J : Ml) {v : Int32} (hv : btM (stf (vN (itM P K f)) P) 8 = v) : Mt sx MX4_stifledOn [.ref 43, .int (nI K)] (sR f (sA 46 t I)) J (fun r' I' J' => (∃ g t, sR g (sA 46 t I) = I' ∧ E76 g f) ∧ J = J' ∧ r' = some (.int v)) :=
  Mt.conseq (m_so sx f P hP hP8 hpl K hK (sA 46 t I) J) (by
    rintro _ _ _ ⟨⟨g, t2, rfl, h⟩, rfl, rfl⟩
    exact ⟨⟨g, t2, by rw [sA_sA], h⟩, rfl, by rw [hv]⟩)
theorem E76.put {g f : Nat → Int32} {i : Nat} {y : Int32} (h : E76 g (upd f i y)) (z : Int32) : E76 (upd g i z) (upd f i z) := fun j hj => by
  have q := h j hj
  unfold upd at q ⊢
  by_cases e : j = i
  · rw [if_pos e, if_pos e]
  · rw [if_neg e] at q
    rw [if_neg e, if_neg e, q]
theorem E76.back {g f : Nat → Int32} {i : Nat} {y : Int32} (h : E76 g (upd f i y)) : E76 (upd g i (f i)) f := fun j hj => by
  have q := h j hj
  unfold upd at q ⊢
  by_cases e : j = i
  · rw [if_pos e, e]
  · rw [if_neg e] at q
    rw [if_neg e, q]
theorem upd_self (f : Nat → Int32) (i : Nat) : upd f i (f i) = f := by
  funext j
  unfold upd
  by_cases e : j = i
  · rw [if_pos e, e]
  · rw [if_neg e]
theorem rg5 {n : Nat} (h : n < 6) : rg 0 5 (nI n) := ⟨by rw [nI_toInt (by omega)]; omega, by rw [nI_toInt (by omega)]; omega⟩
set_option maxRecDepth 100000 in
set_option maxHeartbeats 4000000 in
theorem l_kdM (sx : Nat × (Nat → Int32)) (f : Nat → Int32) (N : Mm) (P : Nat) (hP8 : P ≤ 8) (hN : NOk P N) (ha : Agr P (vN f) N) (p : Nat) (hp : p < P) (K : Nat) (hK : K ≤ 40) (I : Mm) (J : Ml) (Rt : Option Value → Mm → Ml → Prop) (hR : ∀ g t, E76 g f → Rt (some (.int (loF (kdV P K p N) 0 9 6).1)) (sR g (sA 46 t I)) J) : ∀ m n g t y, n + m = 6 → E76 g (upd f (36 + 5 * p + 0) y) → GW sx (na_mi MX4_kind) Rt 39 [some (.ref 43), some (.int (nI p)), some (.int (nI K)), some (.int (f (36 + 5 * p + 0))), some (.int (loF (kdV P K p N) 0 9 n).1), some (.int (loF (kdV P K p N) 0 9 n).2), some (.int (nI n)), none] [] (sR g (sA 46 t I)) J := by
  intro m
  induction m with
  | zero =>
    intro n g t y hn hg
    obtain rfl : n = 6 := by omega
    have hz : (5 : Int32) < nI 6 := by decide
    refine GW.run kX4_kind (fun pc => Nat.beq pc 39) 87 22 rfl ?_
    refine And.intro (fun _ => ?_) (fun hh => absurd hz hh)
    refine Mt.conseq (m_puts _ (f (36 + 5 * p + 0)) p 0 (by omega) (by decide) 0 (by decide) _ _ _) ?_
    rintro _ _ _ ⟨rfl, rfl, rfl⟩
    exact ⟨trivial, hR _ _ (E76.back hg)⟩
  | succ m ih =>
    intro n g t y hn hg
    have hz : ¬ (5 : Int32) < nI n := by rw [lt_i, nI_toInt (by omega)]; have e : (5 : Int32).toInt = 5 := by decide
                                         omega
    have hput := hg.put (nI n)
    have hN5 := hN.set5 (j := p) (rg5 (n := n) (by omega))
    have hga : Agr P (vN (upd g (36 + 5 * p + 0) (nI n))) (na_set N 5 p (nI n)) := (hput.agr hP8).trans (agP hP8 ha (w := 0) (by decide) _)
    have hA := Agr.ok hga hN5
    have hval : btM (stf (vN (itM P K (upd g (36 + 5 * p + 0) (nI n)))) P) 8 = kdV P K p N n := so_eq hP8 hN5.1 hN5.2.1 hga (Agr.refl _ _)
    refine GW.run kX4_kind (fun pc => Nat.beq pc 39) 87 22 rfl ?_
    refine And.intro (fun hh => absurd hh hz) (fun _ => ?_)
    refine Mt.conseq (m_puts _ (nI n) p 0 (by omega) (by decide) 0 (by decide) _ _ _) ?_
    rintro _ _ _ ⟨rfl, rfl, rfl⟩
    refine Mt.conseq (m_so2 _ (upd g (36 + 5 * p + 0) (nI n)) P hA.1 hP8 hA.2 K (by omega) t _ _ hval) ?_
    rintro _ _ _ ⟨⟨g2, t2, rfl, h2⟩, rfl, rfl⟩
    refine And.intro (fun h3 => ?_) (fun h3 => ?_)
    · -- pc 64 .if_icmp .ge 8: yes
      refine And.intro (fun h4 => ?_) (fun h4 => ?_)
      · -- pc 80 .if_icmp .ge 8: yes
        exact GW.weak (ih (n + 1) g2 t2 (nI n) (by omega) (fun j hj => (h2 j hj).trans (hput j hj))) ⟨rfl, rfl, rfl, rfl, by rw [loF, if_neg (Int32.not_lt.mpr h3)], by rw [loF, if_neg (Int32.not_lt.mpr h3)], by rw [nI_1], trivial⟩
      · -- pc 80 .if_icmp .ge 8: no
        exact absurd h3 h4
    · -- pc 64 .if_icmp .ge 8: no
      refine And.intro (fun h5 => ?_) (fun h5 => ?_)
      · -- pc 80 .if_icmp .ge 8: yes
        exact absurd h5 h3
      · -- pc 80 .if_icmp .ge 8: no
        exact GW.weak (ih (n + 1) g2 t2 (nI n) (by omega) (fun j hj => (h2 j hj).trans (hput j hj))) ⟨rfl, rfl, rfl, rfl, by rw [loF, if_pos (Int32.not_le.mp h3)], by rw [loF, if_pos (Int32.not_le.mp h3)], by rw [nI_1], trivial⟩
set_option maxRecDepth 100000 in
set_option maxHeartbeats 4000000 in
theorem pr_kind (sx : Nat × (Nat → Int32)) (one n : Int32) : PrI sx MX3_kind MX4_kind [.int one, .int n] := by
  intro I J hS
  obtain ⟨P, hN, ha, hP8, hP1, hP3, hpl⟩ := hS.nt
  have e73 : I 44 3 = I 1 7 := hP3.trans hP1.symm
  refine Mt.of2 _ rfl (by decide +kernel) (Nat.le_of_ble_eq_true rfl) ?_
  refine GW.run kX3_kind (fun pc => Nat.beq pc 34) 75 0 rfl ?_
  refine Mt.conseq (c_nobody _ _ _ _) ?_
  rintro _ _ _ ⟨rfl, rfl, ⟨h1, rfl⟩ | ⟨h1, rfl⟩⟩
  · -- pc 2 call X3_nobody true
    refine And.intro (fun _ => ?_) (fun hh => absurd hh (by decide))
    refine Mt.conseq (c_fnd0 _ _ _) ?_
    rintro _ _ _ ⟨rfl, rfl, rfl⟩
    refine ⟨trivial, _, rfl, ?_⟩
    refine Mt.of2 _ rfl (by decide +kernel) (Nat.le_of_ble_eq_true rfl) ?_
    refine GW.run kX4_kind (fun pc => Nat.beq pc 39) 87 0 rfl ?_
    refine Mt.conseq ((by have h := m_isOne sx one (I 44) (fnd I 0) J; rw [show sR (I 44) (fnd I 0) = fnd I 0 from sR_self (fnd I 0), e73] at h; exact h)) ?_
    rintro _ _ _ ⟨rfl, rfl, ⟨g1, rfl⟩ | ⟨g1, rfl⟩⟩
    · -- pc 2 call X4_isOne true
      exact (out_in h1 g1).elim
    · -- pc 2 call X4_isOne false
      refine And.intro (fun _ => ?_) (fun hh => absurd hh (by decide))
      refine Mt.conseq (m_fnd0 _ _ _) ?_
      rintro _ _ _ ⟨rfl, rfl, rfl⟩
      exact ⟨trivial, rfl, hS.found (by decide)⟩
  · -- pc 2 call X3_nobody false
    obtain ⟨p, hp, rfl⟩ := nbd hP1 hP8 h1
    have hbp : vp_in (nI p) 8 := vp_in_nI (by omega) (by omega)
    have hcp := nI_clamp (n := p) (by omega)
    refine And.intro (fun hh => absurd hh (by decide)) (fun _ => ?_)
    refine Mt.conseq (c_outside _ _ _ _ _ _) ?_
    rintro _ _ _ ⟨rfl, rfl, ⟨h3, rfl⟩ | ⟨h3, rfl⟩⟩
    · -- pc 12 call X3_outside true
      refine And.intro (fun hh => absurd hh (by decide)) (fun _ => ?_)
      refine Mt.conseq (c_fnd0 _ _ _) ?_
      rintro _ _ _ ⟨rfl, rfl, rfl⟩
      refine ⟨trivial, _, rfl, ?_⟩
      refine Mt.of2 _ rfl (by decide +kernel) (Nat.le_of_ble_eq_true rfl) ?_
      refine GW.run kX4_kind (fun pc => Nat.beq pc 39) 87 0 rfl ?_
      refine Mt.conseq ((by have h := m_isOne sx (nI p) (I 44) (fnd I 0) J; rw [show sR (I 44) (fnd I 0) = fnd I 0 from sR_self (fnd I 0), e73] at h; exact h)) ?_
      rintro _ _ _ ⟨rfl, rfl, ⟨g1, rfl⟩ | ⟨g1, rfl⟩⟩
      · -- pc 2 call X4_isOne true
        refine And.intro (fun hh => absurd hh (by decide)) (fun _ => ?_)
        refine Mt.conseq (m_isSpan _ _ _ _) ?_
        rintro _ _ _ ⟨rfl, rfl, ⟨g2, rfl⟩ | ⟨g2, rfl⟩⟩
        · -- pc 9 call X4_isSpan true
          exact (out_in h3 g2).elim
        · -- pc 9 call X4_isSpan false
          refine And.intro (fun hh => absurd hh (by decide)) (fun _ => ?_)
          refine Mt.conseq (m_fnd0 _ _ _) ?_
          rintro _ _ _ ⟨rfl, rfl, rfl⟩
          exact ⟨trivial, rfl, hS.found (by decide)⟩
      · -- pc 2 call X4_isOne false
        exact (nout_nin h1 g1).elim
    · -- pc 12 call X3_outside false
      obtain ⟨K, hK, rfl⟩ := nout_nI (b := 40) (by decide) h3
      refine And.intro (fun _ => ?_) (fun hh => absurd hh (by decide))
      refine GW.weak (GW.eqI ?_ (l_kdC sx P hP8 I hP1 hN p hp K hK J _ ?_ 6 0 (gN 21 I) rfl)) ⟨rfl, rfl, rfl, rfl, rfl, rfl, trivial⟩
      · rw [pN_gN]
      intro X
      refine ⟨_, rfl, ?_⟩
      refine Mt.of2 _ rfl (by decide +kernel) (Nat.le_of_ble_eq_true rfl) ?_
      refine GW.run kX4_kind (fun pc => Nat.beq pc 39) 87 0 rfl ?_
      refine Mt.conseq ((by have h := m_isOne sx (nI p) (I 44) (pN 21 X I) J; rw [show sR (I 44) (pN 21 X I) = pN 21 X I from sR_self (pN 21 X I), e73] at h; exact h)) ?_
      rintro _ _ _ ⟨rfl, rfl, ⟨g1, rfl⟩ | ⟨g1, rfl⟩⟩
      · -- pc 2 call X4_isOne true
        refine And.intro (fun hh => absurd hh (by decide)) (fun _ => ?_)
        refine Mt.conseq (m_isSpan _ _ _ _) ?_
        rintro _ _ _ ⟨rfl, rfl, ⟨g2, rfl⟩ | ⟨g2, rfl⟩⟩
        · -- pc 9 call X4_isSpan true
          refine And.intro (fun _ => ?_) (fun hh => absurd hh (by decide))
          refine Mt.conseq ((by have h := m_its sx p 0 (by omega) (by decide) 0 (by decide) (I 44) (pN 21 X I) J; rw [show sR (I 44) (pN 21 X I) = pN 21 X I from sR_self (pN 21 X I)] at h; exact h)) ?_
          rintro _ _ _ ⟨rfl, rfl, rfl⟩
          refine GW.weak (GW.eqI ?_ (l_kdM sx (I 44) (gN 1 I) P hP8 hN ha p hp K hK (pN 21 X I) J _ ?_ 6 0 (I 44) (I 46) (I 44 (36 + 5 * p + 0)) rfl (by rw [upd_self]; exact fun _ _ => rfl))) ⟨rfl, rfl, rfl, rfl, rfl, rfl, rfl, trivial⟩
          · rw [show sA 46 (I 46) (pN 21 X I) = pN 21 X I from sA_self 46 (pN 21 X I), show sR (I 44) (pN 21 X I) = pN 21 X I from sR_self (pN 21 X I)]
          · intro g t hg
            exact ⟨rfl, hS.junk hg⟩
        · -- pc 9 call X4_isSpan false
          exact (nout_nin h3 g2).elim
      · -- pc 2 call X4_isOne false
        exact (nout_nin h1 g1).elim
