/-! PAIRS: shut -/
def shX (N : Mm) (i : Nat) : Int32 := N 0 4 ^^^ (1 <<< (nI i &&& 31))
def shV (P K : Nat) (N : Mm) (i : Nat) : Int32 := bcn (stf (itH P K (na_set N 0 4 (shX N i))) P)
def shB (P K : Nat) (N : Mm) : Int32 := bcn (stf (itH P K N) P)
theorem xbits : ∀ op, op < 128 → ∀ d, d < 7 → 0 ≤ (nI op ^^^ (1 <<< (nI d &&& 31))).toInt ∧ (nI op ^^^ (1 <<< (nI d &&& 31))).toInt ≤ 127 := by decide +kernel
theorem shX_rg {P : Nat} {N : Mm} (h : NOk P N) {n : Nat} (hn : n < 7) : rg 0 127 (shX N n) := by
  obtain ⟨op, hop, eo⟩ := nI_rg (b := 127) (by decide) h.2.2.2.2.1
  rw [shX, eo]
  exact xbits op (by omega) n hn
set_option maxRecDepth 100000 in
set_option maxHeartbeats 4000000 in
theorem l_shC (sx : Nat × (Nat → Int32)) (P : Nat) (hP8 : P ≤ 8) (I : Mm) (hP1 : I 1 7 = nI P) (hN : NOk P (gN 1 I)) (K : Nat) (hK : K ≤ 40) (J : Ml) (Rt : Option Value → Mm → Ml → Prop) (hR : ∀ X, (0 ≤ (loF (shV P K (gN 1 I)) (-1) (shB P K (gN 1 I)) 7).1 → Rt (some (.int (loF (shV P K (gN 1 I)) (-1) (shB P K (gN 1 I)) 7).1)) (pN 21 X I) J) ∧ (¬ 0 ≤ (loF (shV P K (gN 1 I)) (-1) (shB P K (gN 1 I)) 7).1 → Rt (some (.int (-1000000004))) (fnd (pN 21 X I) 3) J)) : ∀ m n X, n + m = 7 → GW sx (na_mi MX3_shut) Rt 31 [some (.ref 0), some (.int (nI K)), some (.int (loF (shV P K (gN 1 I)) (-1) (shB P K (gN 1 I)) n).2), some (.int (loF (shV P K (gN 1 I)) (-1) (shB P K (gN 1 I)) n).1), some (.int (nI n)), none, none] [] (pN 21 X I) J := by
  intro m
  induction m with
  | zero =>
    intro n X hn
    obtain rfl : n = 7 := by omega
    have hz : (7 : Int32) ≤ nI 7 := by decide
    refine GW.run kX3_shut (fun pc => Nat.beq pc 31) 83 18 rfl ?_
    refine And.intro (fun _ => ?_) (fun hh => absurd hz hh)
    refine And.intro (fun h1 => ?_) (fun h1 => ?_)
    · -- pc 85 .ifCond .ge 12: yes
      exact ⟨trivial, (hR X).1 h1⟩
    · -- pc 85 .ifCond .ge 12: no
      refine Mt.conseq (c_fnd3 _ _ _) ?_
      rintro _ _ _ ⟨rfl, rfl, rfl⟩
      exact ⟨trivial, (hR X).2 h1⟩
  | succ m ih =>
    intro n X hn
    have hz : ¬ (7 : Int32) ≤ nI n := nI_ge (a := n) (b := 7) (by omega) (by omega)
    refine GW.run kX3_shut (fun pc => Nat.beq pc 31) 83 18 rfl ?_
    refine And.intro (fun hh => absurd hh hz) (fun _ => ?_)
    refine Mt.conseq (c_sah2 _ P hP8 I hP1 _ _) ?_
    rintro _ _ _ ⟨⟨M, rfl, h1⟩, rfl, rfl⟩
    have e4 : M 0 4 = gN 1 I 0 4 := (h1).1 4 (by decide) (by decide)
    have hM2 := Agr.set h1 0 4 (shX (gN 1 I) n)
    have hN4 := hN.opn (shX_rg hN (n := n) (by omega))
    have hok := Agr.ok hM2 hN4
    have ev : bcn (stf (itH P K (na_set M 0 4 (shX (gN 1 I) n))) P) = shV P K (gN 1 I) n := by
      rw [shV, stf_c (itH_c hM2 hN4.2.1.pl K) P (Nat.le_refl _)]
    refine Mt.conseq ((by have h := c_sa sx 21 (Or.inr rfl) (na_set M 0 4 (shX (gN 1 I) n)) P hok.1 hP8 hok.2 K (by omega) I J; rw [← pN_set (pl := 21) (by decide) rfl, ev, shX, ← e4] at h; exact h)) ?_
    rintro _ _ _ ⟨⟨X2, rfl⟩, rfl, rfl⟩
    refine And.intro (fun h3 => ?_) (fun h3 => ?_)
    · -- pc 69 .if_icmp .ge 9: yes
      exact GW.weak (ih (n + 1) X2 (by omega)) ⟨rfl, rfl, by rw [loF, if_neg (Int32.not_lt.mpr h3)], by rw [loF, if_neg (Int32.not_lt.mpr h3)], by rw [nI_1], trivial⟩
    · -- pc 69 .if_icmp .ge 9: no
      exact GW.weak (ih (n + 1) X2 (by omega)) ⟨rfl, rfl, by rw [loF, if_pos (Int32.not_le.mp h3)], by rw [loF, if_pos (Int32.not_le.mp h3)], by rw [nI_1], trivial⟩
set_option maxRecDepth 100000 in
set_option maxHeartbeats 4000000 in
theorem l_shM (sx : Nat × (Nat → Int32)) (f : Nat → Int32) (N : Mm) (P : Nat) (hP8 : P ≤ 8) (hN : NOk P N) (ha : Agr P (vN f) N) (K : Nat) (hK : K ≤ 40) (I : Mm) (J : Ml) (Rt : Option Value → Mm → Ml → Prop) (hR : ∀ g t, E76 g f → (0 ≤ (loF (shV P K N) (-1) (shB P K N) 7).1 → Rt (some (.int (loF (shV P K N) (-1) (shB P K N) 7).1)) (sR g (sA 46 t I)) J) ∧ (¬ 0 ≤ (loF (shV P K N) (-1) (shB P K N) 7).1 → Rt (some (.int (-1000000004))) (fnM (sR g (sA 46 t I)) 3) J)) : ∀ m n g t y, n + m = 7 → E76 g (upd f 2 y) → GW sx (na_mi MX4_shut) Rt 33 [some (.ref 43), some (.int (nI K)), some (.int (f 2)), some (.int (loF (shV P K N) (-1) (shB P K N) n).1), some (.int (loF (shV P K N) (-1) (shB P K N) n).2), some (.int (nI n)), none] [] (sR g (sA 46 t I)) J := by
  have e2 : f 2 = N 0 4 := ha.1 4 (by decide) (by decide)
  intro m
  induction m with
  | zero =>
    intro n g t y hn hg
    obtain rfl : n = 7 := by omega
    have hz : (7 : Int32) ≤ nI 7 := by decide
    refine GW.run kX4_shut (fun pc => Nat.beq pc 33) 95 20 rfl ?_
    refine And.intro (fun _ => ?_) (fun hh => absurd hz hh)
    refine And.intro (by unfold vp_in; decide) ?_
    refine And.intro (fun h1 => ?_) (fun h1 => ?_)
    · -- pc 103 .ifCond .ge 12: yes
      exact ⟨trivial, by have q := (hR _ t (E76.back hg)).1 h1; rw [← sR_set] at q; exact q⟩
    · -- pc 103 .ifCond .ge 12: no
      refine Mt.conseq (m_fnd3 _ _ _) ?_
      rintro _ _ _ ⟨rfl, rfl, rfl⟩
      exact ⟨trivial, by have q := (hR _ t (E76.back hg)).2 h1; rw [← sR_set] at q; exact q⟩
  | succ m ih =>
    intro n g t y hn hg
    have hz : ¬ (7 : Int32) ≤ nI n := nI_ge (a := n) (b := 7) (by omega) (by omega)
    have hput := hg.put (shX N n)
    have hN5 := hN.opn (shX_rg hN (n := n) (by omega))
    have hga : Agr P (vN (upd g 2 (shX N n))) (na_set N 0 4 (shX N n)) := (hput.agr hP8).trans (agS ha (w := 2) (by decide) _)
    have hA := Agr.ok hga hN5
    have hval : btM (stf (vN (itM P K (upd g 2 (shX N n)))) P) 8 = shV P K N n := so_eq hP8 hN5.1 hN5.2.1 hga (Agr.refl _ _)
    refine GW.run kX4_shut (fun pc => Nat.beq pc 33) 95 20 rfl ?_
    refine And.intro (fun hh => absurd hh hz) (fun _ => ?_)
    refine And.intro (by unfold vp_in; decide) ?_
    refine Mt.conseq ((by have h := m_so2 sx (upd g 2 (shX N n)) P hA.1 hP8 hA.2 K (by omega) t I J hval; rw [← sR_set, shX, ← e2] at h; exact h)) ?_
    rintro _ _ _ ⟨⟨g2, t2, rfl, h1⟩, rfl, rfl⟩
    refine And.intro (fun h2 => ?_) (fun h2 => ?_)
    · -- pc 63 .if_icmp .ge 8: yes
      refine And.intro (fun h3 => ?_) (fun h3 => ?_)
      · -- pc 77 .if_icmp .ge 8: yes
        exact GW.weak (ih (n + 1) g2 t2 (shX N n) (by omega) (fun j hj => (by have q := h1 j hj; rw [e2] at q; exact q.trans (hput j hj)))) ⟨rfl, rfl, rfl, by rw [loF, if_neg (Int32.not_lt.mpr h2)], by rw [loF, if_neg (Int32.not_lt.mpr h2)], by rw [nI_1], trivial⟩
      · -- pc 77 .if_icmp .ge 8: no
        exact absurd h2 h3
    · -- pc 63 .if_icmp .ge 8: no
      refine And.intro (fun h4 => ?_) (fun h4 => ?_)
      · -- pc 77 .if_icmp .ge 8: yes
        exact absurd h4 h2
      · -- pc 77 .if_icmp .ge 8: no
        exact GW.weak (ih (n + 1) g2 t2 (shX N n) (by omega) (fun j hj => (by have q := h1 j hj; rw [e2] at q; exact q.trans (hput j hj)))) ⟨rfl, rfl, rfl, by rw [loF, if_pos (Int32.not_le.mp h2)], by rw [loF, if_pos (Int32.not_le.mp h2)], by rw [nI_1], trivial⟩
set_option maxRecDepth 100000 in
set_option maxHeartbeats 4000000 in
theorem pr_shut (sx : Nat × (Nat → Int32)) (n : Int32) : PrI sx MX3_shut MX4_shut [.int n] := by
  intro I J hS
  obtain ⟨P, hN, ha, hP8, hP1, hP3, hpl⟩ := hS.nt
  have e73 : I 44 3 = I 1 7 := hP3.trans hP1.symm
  refine Mt.of2 _ rfl (by decide +kernel) (Nat.le_of_ble_eq_true rfl) ?_
  refine GW.run kX3_shut (fun pc => Nat.beq pc 31) 83 0 rfl ?_
  refine Mt.conseq (c_outside _ _ _ _ _ _) ?_
  rintro _ _ _ ⟨rfl, rfl, ⟨h1, rfl⟩ | ⟨h1, rfl⟩⟩
  · -- pc 4 call X3_outside true
    refine And.intro (fun hh => absurd hh (by decide)) (fun _ => ?_)
    refine Mt.conseq (c_fnd0 _ _ _) ?_
    rintro _ _ _ ⟨rfl, rfl, rfl⟩
    refine ⟨trivial, _, rfl, ?_⟩
    refine Mt.of2 _ rfl (by decide +kernel) (Nat.le_of_ble_eq_true rfl) ?_
    refine GW.run kX4_shut (fun pc => Nat.beq pc 33) 95 0 rfl ?_
    refine Mt.conseq (m_isSpan _ _ _ _) ?_
    rintro _ _ _ ⟨rfl, rfl, ⟨g1, rfl⟩ | ⟨g1, rfl⟩⟩
    · -- pc 1 call X4_isSpan true
      exact (out_in h1 g1).elim
    · -- pc 1 call X4_isSpan false
      refine And.intro (fun hh => absurd hh (by decide)) (fun _ => ?_)
      refine Mt.conseq (m_fnd0 _ _ _) ?_
      rintro _ _ _ ⟨rfl, rfl, rfl⟩
      exact ⟨trivial, rfl, hS.found (by decide)⟩
  · -- pc 4 call X3_outside false
    obtain ⟨K, hK, rfl⟩ := nout_nI (b := 40) (by decide) h1
    refine And.intro (fun _ => ?_) (fun hh => absurd hh (by decide))
    refine Mt.conseq (c_sah _ P hP8 I hP1 _) ?_
    rintro _ _ _ ⟨⟨M, rfl, h3⟩, rfl, rfl⟩
    have hM := h3
    refine Mt.conseq (c_sa sx 21 (Or.inr rfl) M P (Agr.ok hM hN).1 hP8 (Agr.ok hM hN).2 K (by omega) I J) ?_
    rintro _ _ _ ⟨⟨X0, rfl⟩, rfl, rfl⟩
    have ev0 : shB P K (gN 1 I) = bcn (stf (itH P K M) P) := by rw [shB, stf_c (itH_c hM hN.2.1.pl K) P (Nat.le_refl _)]
    refine GW.weak (l_shC sx P hP8 I hP1 hN K hK J _ ?_ 7 0 X0 rfl) ⟨rfl, rfl, congrArg Value.int ev0, rfl, rfl, trivial⟩
    intro X
    refine ⟨fun hb => ?_, fun hb => ?_⟩
    · refine ⟨_, rfl, ?_⟩
      refine Mt.of2 _ rfl (by decide +kernel) (Nat.le_of_ble_eq_true rfl) ?_
      refine GW.run kX4_shut (fun pc => Nat.beq pc 33) 95 0 rfl ?_
      refine Mt.conseq (m_isSpan _ _ _ _) ?_
      rintro _ _ _ ⟨rfl, rfl, ⟨g1, rfl⟩ | ⟨g1, rfl⟩⟩
      · -- pc 1 call X4_isSpan true
        refine And.intro (fun _ => ?_) (fun hh => absurd hh (by decide))
        refine And.intro (by unfold vp_in; decide) ?_
        refine Mt.conseq ((by have h := m_so sx (I 44) P hP3 hP8 hpl K (by omega) (pN 21 X I) J; rw [show sR (I 44) (pN 21 X I) = pN 21 X I from sR_self (pN 21 X I)] at h; exact h)) ?_
        rintro _ _ _ ⟨⟨g, t, rfl, g2⟩, rfl, rfl⟩
        refine GW.weak (l_shM sx (I 44) (gN 1 I) P hP8 hN ha K hK (pN 21 X I) J _ ?_ 7 0 g t (I 44 2) rfl (by rw [upd_self]; exact g2)) ⟨rfl, rfl, rfl, rfl, congrArg Value.int (so_eq hP8 hN.1 hN.2.1 ha (Agr.refl _ _)).symm, rfl, trivial⟩
        intro g t hg
        exact ⟨fun _ => ⟨rfl, hS.junk hg⟩, fun z => absurd hb z⟩
      · -- pc 1 call X4_isSpan false
        exact (nout_nin h1 g1).elim
    · refine ⟨_, rfl, ?_⟩
      refine Mt.of2 _ rfl (by decide +kernel) (Nat.le_of_ble_eq_true rfl) ?_
      refine GW.run kX4_shut (fun pc => Nat.beq pc 33) 95 0 rfl ?_
      refine Mt.conseq (m_isSpan _ _ _ _) ?_
      rintro _ _ _ ⟨rfl, rfl, ⟨g1, rfl⟩ | ⟨g1, rfl⟩⟩
      · -- pc 1 call X4_isSpan true
        refine And.intro (fun _ => ?_) (fun hh => absurd hh (by decide))
        refine And.intro (by unfold vp_in; decide) ?_
        refine Mt.conseq ((by have h := m_so sx (I 44) P hP3 hP8 hpl K (by omega) (fnd (pN 21 X I) 3) J; rw [show sR (I 44) (fnd (pN 21 X I) 3) = fnd (pN 21 X I) 3 from sR_self (fnd (pN 21 X I) 3)] at h; exact h)) ?_
        rintro _ _ _ ⟨⟨g, t, rfl, g2⟩, rfl, rfl⟩
        refine GW.weak (l_shM sx (I 44) (gN 1 I) P hP8 hN ha K hK (fnd (pN 21 X I) 3) J _ ?_ 7 0 g t (I 44 2) rfl (by rw [upd_self]; exact g2)) ⟨rfl, rfl, rfl, rfl, congrArg Value.int (so_eq hP8 hN.1 hN.2.1 ha (Agr.refl _ _)).symm, rfl, trivial⟩
        intro g t hg
        exact ⟨fun z => absurd z hb, fun _ => ⟨rfl, hS.junkf hg (by decide)⟩⟩
      · -- pc 1 call X4_isSpan false
        exact (nout_nin h1 g1).elim
