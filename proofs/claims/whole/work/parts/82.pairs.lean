/-! PAIRS: leaked, first -/
def lkV (P K r : Nat) (N : Mm) (i : Nat) : Int32 := itH P K (na_set N 4 r (nI i)) 1 r
set_option maxRecDepth 100000 in
set_option maxHeartbeats 4000000 in
theorem l_lkC (sx : Nat × (Nat → Int32)) (P : Nat) (hP8 : P ≤ 8) (I : Mm) (hP1 : I 1 7 = nI P) (hN : NOk P (gN 1 I)) (r : Nat) (hr : r < 8) (K : Nat) (hK : K ≤ 40) (x : Int32) (J : Ml) (Rt : Option Value → Mm → Ml → Prop) (hR : ∀ X, Rt (some (.int (cnF (lkV P K r (gN 1 I)) x 10))) (pN 21 X I) J) : ∀ m n X, n + m = 10 → GW sx (na_mi MX3_leaked) Rt 41 [some (.ref 0), some (.int (nI r)), some (.int (nI K)), some (.int x), some (.int (cnF (lkV P K r (gN 1 I)) x n)), some (.int (nI n)), none] [] (pN 21 X I) J := by
  have hbr : vp_in (nI r) 8 := vp_in_nI (by omega) (by omega)
  have hcr := nI_clamp (n := r) (by omega)
  intro m
  induction m with
  | zero =>
    intro n X hn 
    obtain rfl : n = 10 := by omega
    have hz : (9 : Int32) < nI 10 := by decide
    refine GW.run kX3_leaked (fun pc => Nat.beq pc 41) 76 21 rfl ?_
    refine And.intro (fun _ => ?_) (fun hh => absurd hz hh)
    exact ⟨trivial, hR X⟩
  | succ m ih =>
    intro n X hn 
    have hz : ¬ (9 : Int32) < nI n := nI_nlt (a := 9) (b := n) (by omega) (by omega)
    refine GW.run kX3_leaked (fun pc => Nat.beq pc 41) 76 21 rfl ?_
    refine And.intro (fun hh => absurd hh hz) (fun _ => ?_)
    refine Mt.conseq (c_sah2 _ P hP8 I hP1 _ _) ?_
    rintro _ _ _ ⟨⟨M, rfl, h1⟩, rfl, rfl⟩
    have hM2 := Agr.set h1 4 r (nI n)
    have hN4 := hN.r4 (j := r) (rg9 (n := n) (by omega))
    have hok := Agr.ok hM2 hN4
    have ev : pN 21 (itH P K (na_set M 4 r (nI n))) I 22 (nI r).toNatClampNeg = lkV P K r (gN 1 I) n := by
      rw [hcr]
      exact (itH_c hM2 hN4.2.1.pl K).2.1 1 r (by decide) (by decide) hr
    refine And.intro (hbr) ?_
    refine Mt.conseq ((by have h := c_ph sx 21 (Or.inr rfl) (na_set M 4 r (nI n)) P hok.1 hP8 hok.2 K (by omega) I J; rw [← pN_set (pl := 25) (by decide) rfl] at h; rw [hcr]; exact h)) ?_
    rintro _ _ _ ⟨rfl, rfl, rfl⟩
    refine And.intro (hbr) ?_
    refine And.intro (fun h3 => ?_) (fun h3 => ?_)
    · -- pc 77 .if_icmp .ne 6: yes
      have q := h3
      rw [ev] at q
      exact GW.weak (ih (n + 1) _ (by omega)) ⟨rfl, rfl, rfl, rfl, by rw [cnF, if_neg q], by rw [nI_1], trivial⟩
    · -- pc 77 .if_icmp .ne 6: no
      have q := h3
      rw [ev] at q
      exact GW.weak (ih (n + 1) _ (by omega)) ⟨rfl, rfl, rfl, rfl, by rw [cnF, if_pos q], by rw [nI_1], trivial⟩
set_option maxRecDepth 100000 in
set_option maxHeartbeats 4000000 in
theorem l_lkM (sx : Nat × (Nat → Int32)) (f t : Nat → Int32) (ht : E76 t f) (N : Mm) (P : Nat) (hP8 : P ≤ 8) (hN : NOk P N) (ha : Agr P (vN f) N) (r : Nat) (hr : r < 8) (K : Nat) (hK : K ≤ 40) (x : Int32) (I : Mm) (J : Ml) (Rt : Option Value → Mm → Ml → Prop) (hR : ∀ g, E76 g f → Rt (some (.int (cnF (lkV P K r N) x 10))) (sR g (sA 46 t I)) J) : ∀ m n g, n + m = 10 → E76 g f → GW sx (na_mi MX4_leaked) Rt 47 [some (.ref 43), some (.int (nI r)), some (.int (nI K)), some (.int x), some (.int (cnF (lkV P K r N) x n)), some (.int (nI n))] [] (sR g (sA 46 t I)) J := by
  intro m
  induction m with
  | zero =>
    intro n g hn hg
    obtain rfl : n = 10 := by omega
    have hz : (10 : Int32) ≤ nI 10 := by decide
    refine GW.run kX4_leaked (fun pc => Nat.beq pc 47) 86 24 rfl ?_
    refine And.intro (fun _ => ?_) (fun hh => absurd hz hh)
    exact ⟨trivial, hR g hg⟩
  | succ m ih =>
    intro n g hn hg
    have hz : ¬ (10 : Int32) ≤ nI n := nI_ge (a := n) (b := 10) (by omega) (by omega)
    have hN4 := hN.r4 (j := r) (rg9 (n := n) (by omega))
    have hga : Agr P (vN (upd g (4 + 4 * r + 3) (mx (nI n)))) (na_set N 4 r (nI n)) := by
      rw [mx_nI (by omega)]
      exact agR hP8 ((hg.agr hP8).trans ha) hr (w := 3) (by decide) _
    have hA := Agr.ok hga hN4
    have hval : itM P K (upd g (4 + 4 * r + 3) (mx (nI n))) (4 + 4 * r + 0) = lkV P K r N n := (itM_ag hP8 hga hN4.1 hN4.2.1 K).2.1 1 r (by decide) (by decide) hr
    refine GW.run kX4_leaked (fun pc => Nat.beq pc 47) 86 24 rfl ?_
    refine And.intro (fun hh => absurd hh hz) (fun _ => ?_)
    refine Mt.conseq (m_lies _ (nI n) r 3 (by omega) (by decide) _ (by decide) _ _ _) ?_
    rintro _ _ _ ⟨rfl, rfl, rfl⟩
    refine Mt.conseq (m_ps _ (upd g (4 + 4 * r + 3) (mx (nI n))) P hA.1 hP8 hA.2 K (by omega) _ _) ?_
    rintro _ _ _ ⟨rfl, rfl, rfl⟩
    refine Mt.conseq (m_there _ r 0 (by omega) (by decide) _ (by decide) _ _ _) ?_
    rintro _ _ _ ⟨rfl, rfl, rfl⟩
    refine And.intro (fun h4 => ?_) (fun h4 => ?_)
    · -- pc 76 .if_icmp .ne 7: yes
      refine Mt.conseq (m_rs1 _ _ t f ht _ _) ?_
      rintro _ _ _ ⟨⟨g2, rfl, h5⟩, rfl, rfl⟩
      have q := h4
      rw [hval] at q
      exact GW.weak (ih (n + 1) g2 (by omega) h5) ⟨rfl, rfl, rfl, rfl, by rw [cnF, if_neg q, Int32.add_zero], by rw [nI_1], trivial⟩
    · -- pc 76 .if_icmp .ne 7: no
      refine Mt.conseq (m_rs1 _ _ t f ht _ _) ?_
      rintro _ _ _ ⟨⟨g2, rfl, h6⟩, rfl, rfl⟩
      have q := h4
      rw [hval] at q
      exact GW.weak (ih (n + 1) g2 (by omega) h6) ⟨rfl, rfl, rfl, rfl, by rw [cnF, if_pos q], by rw [nI_1], trivial⟩
set_option maxRecDepth 100000 in
set_option maxHeartbeats 4000000 in
theorem pr_leaked (sx : Nat × (Nat → Int32)) (r n v : Int32) : PrI sx MX3_leaked MX4_leaked [.int r, .int n, .int v] := by
  intro I J hS
  obtain ⟨P, hN, ha, hP8, hP1, hP3, hpl⟩ := hS.nt
  have e73 : I 44 3 = I 1 7 := hP3.trans hP1.symm
  refine Mt.of2 _ rfl (by decide +kernel) (Nat.le_of_ble_eq_true rfl) ?_
  refine GW.run kX3_leaked (fun pc => Nat.beq pc 41) 76 0 rfl ?_
  refine Mt.conseq (c_noRoom _ _ _ _) ?_
  rintro _ _ _ ⟨rfl, rfl, ⟨h1, rfl⟩ | ⟨h1, rfl⟩⟩
  · -- pc 1 call X3_noRoom true
    refine And.intro (fun _ => ?_) (fun hh => absurd hh (by decide))
    refine Mt.conseq (c_fnd0 _ _ _) ?_
    rintro _ _ _ ⟨rfl, rfl, rfl⟩
    refine ⟨trivial, _, rfl, ?_⟩
    refine Mt.of2 _ rfl (by decide +kernel) (Nat.le_of_ble_eq_true rfl) ?_
    refine GW.run kX4_leaked (fun pc => Nat.beq pc 47) 86 0 rfl ?_
    refine Mt.conseq (m_isRoom _ _ _ _) ?_
    rintro _ _ _ ⟨rfl, rfl, ⟨g1, rfl⟩ | ⟨g1, rfl⟩⟩
    · -- pc 1 call X4_isRoom true
      exact (out_in h1 g1).elim
    · -- pc 1 call X4_isRoom false
      refine And.intro (fun _ => ?_) (fun hh => absurd hh (by decide))
      refine Mt.conseq (m_fnd0 _ _ _) ?_
      rintro _ _ _ ⟨rfl, rfl, rfl⟩
      exact ⟨trivial, rfl, hS.found (by decide)⟩
  · -- pc 1 call X3_noRoom false
    obtain ⟨r', hr, rfl⟩ := nout_nI (b := 7) (by decide) h1
    refine And.intro (fun hh => absurd hh (by decide)) (fun _ => ?_)
    refine Mt.conseq (c_outside _ _ _ _ _ _) ?_
    rintro _ _ _ ⟨rfl, rfl, ⟨h3, rfl⟩ | ⟨h3, rfl⟩⟩
    · -- pc 11 call X3_outside true
      refine And.intro (fun _ => ?_) (fun hh => absurd hh (by decide))
      refine Mt.conseq (c_fnd0 _ _ _) ?_
      rintro _ _ _ ⟨rfl, rfl, rfl⟩
      refine ⟨trivial, _, rfl, ?_⟩
      refine Mt.of2 _ rfl (by decide +kernel) (Nat.le_of_ble_eq_true rfl) ?_
      refine GW.run kX4_leaked (fun pc => Nat.beq pc 47) 86 0 rfl ?_
      refine Mt.conseq (m_isRoom _ _ _ _) ?_
      rintro _ _ _ ⟨rfl, rfl, ⟨g1, rfl⟩ | ⟨g1, rfl⟩⟩
      · -- pc 1 call X4_isRoom true
        refine And.intro (fun hh => absurd hh (by decide)) (fun _ => ?_)
        refine Mt.conseq (m_isSpan _ _ _ _) ?_
        rintro _ _ _ ⟨rfl, rfl, ⟨g2, rfl⟩ | ⟨g2, rfl⟩⟩
        · -- pc 8 call X4_isSpan true
          exact (out_in h3 g2).elim
        · -- pc 8 call X4_isSpan false
          refine And.intro (fun _ => ?_) (fun hh => absurd hh (by decide))
          refine Mt.conseq (m_fnd0 _ _ _) ?_
          rintro _ _ _ ⟨rfl, rfl, rfl⟩
          exact ⟨trivial, rfl, hS.found (by decide)⟩
      · -- pc 1 call X4_isRoom false
        exact (nout_nin h1 g1).elim
    · -- pc 11 call X3_outside false
      obtain ⟨K, hK, rfl⟩ := nout_nI (b := 40) (by decide) h3
      refine And.intro (fun hh => absurd hh (by decide)) (fun _ => ?_)
      refine Mt.conseq (c_outside _ _ _ _ _ _) ?_
      rintro _ _ _ ⟨rfl, rfl, ⟨h5, rfl⟩ | ⟨h5, rfl⟩⟩
      · -- pc 22 call X3_outside true
        refine And.intro (fun hh => absurd hh (by decide)) (fun _ => ?_)
        refine Mt.conseq (c_fnd0 _ _ _) ?_
        rintro _ _ _ ⟨rfl, rfl, rfl⟩
        refine ⟨trivial, _, rfl, ?_⟩
        refine Mt.of2 _ rfl (by decide +kernel) (Nat.le_of_ble_eq_true rfl) ?_
        refine GW.run kX4_leaked (fun pc => Nat.beq pc 47) 86 0 rfl ?_
        refine Mt.conseq (m_isRoom _ _ _ _) ?_
        rintro _ _ _ ⟨rfl, rfl, ⟨g1, rfl⟩ | ⟨g1, rfl⟩⟩
        · -- pc 1 call X4_isRoom true
          refine And.intro (fun hh => absurd hh (by decide)) (fun _ => ?_)
          refine Mt.conseq (m_isSpan _ _ _ _) ?_
          rintro _ _ _ ⟨rfl, rfl, ⟨g2, rfl⟩ | ⟨g2, rfl⟩⟩
          · -- pc 8 call X4_isSpan true
            refine And.intro (fun hh => absurd hh (by decide)) (fun _ => ?_)
            refine Mt.conseq (m_in _ _ _ _ _ _) ?_
            rintro _ _ _ ⟨rfl, rfl, ⟨g3, rfl⟩ | ⟨g3, rfl⟩⟩
            · -- pc 19 call X4_in true
              exact (out_in h5 g3).elim
            · -- pc 19 call X4_in false
              refine And.intro (fun hh => absurd hh (by decide)) (fun _ => ?_)
              refine Mt.conseq (m_fnd0 _ _ _) ?_
              rintro _ _ _ ⟨rfl, rfl, rfl⟩
              exact ⟨trivial, rfl, hS.found (by decide)⟩
          · -- pc 8 call X4_isSpan false
            exact (nout_nin h3 g2).elim
        · -- pc 1 call X4_isRoom false
          exact (nout_nin h1 g1).elim
      · -- pc 22 call X3_outside false
        refine And.intro (fun _ => ?_) (fun hh => absurd hh (by decide))
        refine GW.weak (GW.eqI ?_ (l_lkC sx P hP8 I hP1 hN r' (by omega) K hK v J _ (fun X => ?_) 10 0 (gN 21 I) rfl)) ⟨rfl, rfl, rfl, rfl, rfl, rfl, trivial⟩
        · rw [pN_gN]
        refine ⟨_, rfl, ?_⟩
        refine Mt.of2 _ rfl (by decide +kernel) (Nat.le_of_ble_eq_true rfl) ?_
        refine GW.run kX4_leaked (fun pc => Nat.beq pc 47) 86 0 rfl ?_
        refine Mt.conseq (m_isRoom _ _ _ _) ?_
        rintro _ _ _ ⟨rfl, rfl, ⟨g1, rfl⟩ | ⟨g1, rfl⟩⟩
        · -- pc 1 call X4_isRoom true
          refine And.intro (fun hh => absurd hh (by decide)) (fun _ => ?_)
          refine Mt.conseq (m_isSpan _ _ _ _) ?_
          rintro _ _ _ ⟨rfl, rfl, ⟨g2, rfl⟩ | ⟨g2, rfl⟩⟩
          · -- pc 8 call X4_isSpan true
            refine And.intro (fun hh => absurd hh (by decide)) (fun _ => ?_)
            refine Mt.conseq (m_in _ _ _ _ _ _) ?_
            rintro _ _ _ ⟨rfl, rfl, ⟨g3, rfl⟩ | ⟨g3, rfl⟩⟩
            · -- pc 19 call X4_in true
              refine And.intro (fun _ => ?_) (fun hh => absurd hh (by decide))
              refine Mt.conseq ((by have h := m_kp1 sx (I 44) (pN 21 X I) J; rw [show sR (I 44) (pN 21 X I) = pN 21 X I from sR_self (pN 21 X I)] at h; exact h)) ?_
              rintro _ _ _ ⟨⟨t, rfl, g4⟩, rfl, rfl⟩
              have ht := g4
              exact GW.weak (l_lkM sx (I 44) t ht (gN 1 I) P hP8 hN ha r' (by omega) K hK v (pN 21 X I) J _ (fun g hg => ⟨rfl, hS.junk hg⟩) 10 0 (I 44) rfl (fun _ _ => rfl)) ⟨rfl, rfl, rfl, rfl, rfl, rfl, trivial⟩
            · -- pc 19 call X4_in false
              exact (nout_nin h5 g3).elim
          · -- pc 8 call X4_isSpan false
            exact (nout_nin h3 g2).elim
        · -- pc 1 call X4_isRoom false
          exact (nout_nin h1 g1).elim
/-! the lowest of a set -/
def nt4 (a n : Int32) : Int32 := n + (a.toUInt32 >>> ((1 : Int32).toUInt32 &&& Int32.toUInt32 31)).toInt32
def nt3 (a n : Int32) : Int32 := if a ≤ 4 then nt4 a n else nt4 (a.toUInt32 >>> ((2 : Int32).toUInt32 &&& Int32.toUInt32 31)).toInt32 (n + 2)
def nt2 (a n : Int32) : Int32 := if a ≤ 16 then nt3 a n else nt3 (a.toUInt32 >>> ((4 : Int32).toUInt32 &&& Int32.toUInt32 31)).toInt32 (n + 4)
def nt1 (a n : Int32) : Int32 := if a ≤ 256 then nt2 a n else nt2 (a.toUInt32 >>> ((8 : Int32).toUInt32 &&& Int32.toUInt32 31)).toInt32 (n + 8)
def nt0 (a n : Int32) : Int32 := if a ≤ 65536 then nt1 a n else nt1 (a.toUInt32 >>> ((16 : Int32).toUInt32 &&& Int32.toUInt32 31)).toInt32 (n + 16)
def ntzI (x : Int32) : Int32 := if 0 < (x ^^^ -1) &&& (x - 1) then nt0 ((x ^^^ -1) &&& (x - 1)) 1 else ((x ^^^ -1) &&& (x - 1)) &&& 32
def lowb (S : Int32) : Nat := fdB (fun p => decide (hasP S (nI p))) 8 0
theorem ntz_low : ∀ s, s < 256 → 0 < s → ntzI (nI s) = nI (lowb (nI s)) ∧ lowb (nI s) < 8 := by decide +kernel
theorem low_0 : lowb 0 = 8 := by decide +kernel
set_option maxRecDepth 100000 in
set_option maxHeartbeats 4000000 in
theorem c_ntz (sx : Nat × (Nat → Int32)) (x : Int32) (I : Mm) (J : Ml) : Mt sx MJ6_numberOfTrailingZeros_0f7a4 [.int x] I J (na_v I J (ntzI x)) := by
  refine Mt.of2 _ rfl (by decide +kernel) (Nat.le_of_ble_eq_true rfl) ?_
  refine GW.run kJ6_numberOfTrailingZeros_0f7a4 (fun _ => false) 84 0 rfl ?_
  refine And.intro (fun h1 => ?_) (fun h1 => ?_)
  · -- pc 9 .ifCond .gt 8: yes
    refine And.intro (fun h2 => ?_) (fun h2 => ?_)
    · -- pc 23 .if_icmp .le 11: yes
      refine And.intro (fun h3 => ?_) (fun h3 => ?_)
      · -- pc 38 .if_icmp .le 11: yes
        refine And.intro (fun h4 => ?_) (fun h4 => ?_)
        · -- pc 52 .if_icmp .le 10: yes
          refine And.intro (fun h5 => ?_) (fun h5 => ?_)
          · -- pc 64 .if_icmp .le 10: yes
            exact ⟨trivial, rfl, rfl, congrArg (fun x => some (Value.int x)) (by rw [ntzI, if_pos h1, nt0, if_pos h2, nt1, if_pos h3, nt2, if_pos h4, nt3, if_pos h5, nt4])⟩
          · -- pc 64 .if_icmp .le 10: no
            exact ⟨trivial, rfl, rfl, congrArg (fun x => some (Value.int x)) (by rw [ntzI, if_pos h1, nt0, if_pos h2, nt1, if_pos h3, nt2, if_pos h4, nt3, if_neg h5, nt4])⟩
        · -- pc 52 .if_icmp .le 10: no
          refine And.intro (fun h6 => ?_) (fun h6 => ?_)
          · -- pc 64 .if_icmp .le 10: yes
            exact ⟨trivial, rfl, rfl, congrArg (fun x => some (Value.int x)) (by rw [ntzI, if_pos h1, nt0, if_pos h2, nt1, if_pos h3, nt2, if_neg h4, nt3, if_pos h6, nt4])⟩
          · -- pc 64 .if_icmp .le 10: no
            exact ⟨trivial, rfl, rfl, congrArg (fun x => some (Value.int x)) (by rw [ntzI, if_pos h1, nt0, if_pos h2, nt1, if_pos h3, nt2, if_neg h4, nt3, if_neg h6, nt4])⟩
      · -- pc 38 .if_icmp .le 11: no
        refine And.intro (fun h7 => ?_) (fun h7 => ?_)
        · -- pc 52 .if_icmp .le 10: yes
          refine And.intro (fun h8 => ?_) (fun h8 => ?_)
          · -- pc 64 .if_icmp .le 10: yes
            exact ⟨trivial, rfl, rfl, congrArg (fun x => some (Value.int x)) (by rw [ntzI, if_pos h1, nt0, if_pos h2, nt1, if_neg h3, nt2, if_pos h7, nt3, if_pos h8, nt4])⟩
          · -- pc 64 .if_icmp .le 10: no
            exact ⟨trivial, rfl, rfl, congrArg (fun x => some (Value.int x)) (by rw [ntzI, if_pos h1, nt0, if_pos h2, nt1, if_neg h3, nt2, if_pos h7, nt3, if_neg h8, nt4])⟩
        · -- pc 52 .if_icmp .le 10: no
          refine And.intro (fun h9 => ?_) (fun h9 => ?_)
          · -- pc 64 .if_icmp .le 10: yes
            exact ⟨trivial, rfl, rfl, congrArg (fun x => some (Value.int x)) (by rw [ntzI, if_pos h1, nt0, if_pos h2, nt1, if_neg h3, nt2, if_neg h7, nt3, if_pos h9, nt4])⟩
          · -- pc 64 .if_icmp .le 10: no
            exact ⟨trivial, rfl, rfl, congrArg (fun x => some (Value.int x)) (by rw [ntzI, if_pos h1, nt0, if_pos h2, nt1, if_neg h3, nt2, if_neg h7, nt3, if_neg h9, nt4])⟩
    · -- pc 23 .if_icmp .le 11: no
      refine And.intro (fun h10 => ?_) (fun h10 => ?_)
      · -- pc 38 .if_icmp .le 11: yes
        refine And.intro (fun h11 => ?_) (fun h11 => ?_)
        · -- pc 52 .if_icmp .le 10: yes
          refine And.intro (fun h12 => ?_) (fun h12 => ?_)
          · -- pc 64 .if_icmp .le 10: yes
            exact ⟨trivial, rfl, rfl, congrArg (fun x => some (Value.int x)) (by rw [ntzI, if_pos h1, nt0, if_neg h2, nt1, if_pos h10, nt2, if_pos h11, nt3, if_pos h12, nt4])⟩
          · -- pc 64 .if_icmp .le 10: no
            exact ⟨trivial, rfl, rfl, congrArg (fun x => some (Value.int x)) (by rw [ntzI, if_pos h1, nt0, if_neg h2, nt1, if_pos h10, nt2, if_pos h11, nt3, if_neg h12, nt4])⟩
        · -- pc 52 .if_icmp .le 10: no
          refine And.intro (fun h13 => ?_) (fun h13 => ?_)
          · -- pc 64 .if_icmp .le 10: yes
            exact ⟨trivial, rfl, rfl, congrArg (fun x => some (Value.int x)) (by rw [ntzI, if_pos h1, nt0, if_neg h2, nt1, if_pos h10, nt2, if_neg h11, nt3, if_pos h13, nt4])⟩
          · -- pc 64 .if_icmp .le 10: no
            exact ⟨trivial, rfl, rfl, congrArg (fun x => some (Value.int x)) (by rw [ntzI, if_pos h1, nt0, if_neg h2, nt1, if_pos h10, nt2, if_neg h11, nt3, if_neg h13, nt4])⟩
      · -- pc 38 .if_icmp .le 11: no
        refine And.intro (fun h14 => ?_) (fun h14 => ?_)
        · -- pc 52 .if_icmp .le 10: yes
          refine And.intro (fun h15 => ?_) (fun h15 => ?_)
          · -- pc 64 .if_icmp .le 10: yes
            exact ⟨trivial, rfl, rfl, congrArg (fun x => some (Value.int x)) (by rw [ntzI, if_pos h1, nt0, if_neg h2, nt1, if_neg h10, nt2, if_pos h14, nt3, if_pos h15, nt4])⟩
          · -- pc 64 .if_icmp .le 10: no
            exact ⟨trivial, rfl, rfl, congrArg (fun x => some (Value.int x)) (by rw [ntzI, if_pos h1, nt0, if_neg h2, nt1, if_neg h10, nt2, if_pos h14, nt3, if_neg h15, nt4])⟩
        · -- pc 52 .if_icmp .le 10: no
          refine And.intro (fun h16 => ?_) (fun h16 => ?_)
          · -- pc 64 .if_icmp .le 10: yes
            exact ⟨trivial, rfl, rfl, congrArg (fun x => some (Value.int x)) (by rw [ntzI, if_pos h1, nt0, if_neg h2, nt1, if_neg h10, nt2, if_neg h14, nt3, if_pos h16, nt4])⟩
          · -- pc 64 .if_icmp .le 10: no
            exact ⟨trivial, rfl, rfl, congrArg (fun x => some (Value.int x)) (by rw [ntzI, if_pos h1, nt0, if_neg h2, nt1, if_neg h10, nt2, if_neg h14, nt3, if_neg h16, nt4])⟩
  · -- pc 9 .ifCond .gt 8: no
    exact ⟨trivial, rfl, rfl, congrArg (fun x => some (Value.int x)) (by rw [ntzI, if_neg h1])⟩
/-- who is stifled first within m hours -/
def fsS (P : Nat) : Nat → Mm → Int32
  | 0, _ => 0
  | m + 1, N => if hrW P N = 0 then fsS P m (hrN P N) else hrW P N
theorem fsS_c {P : Nat} : ∀ (m : Nat) {M N : Mm}, Agr P M N → (∀ p, p < P → vp_in (N 6 p) 8) → fsS P m M = fsS P m N
  | 0, M, N, h, hpl => rfl
  | m + 1, M, N, h, hpl => by rw [fsS, fsS, hrW_c h hpl, fsS_c m (hrN_c h hpl) (by rw [hrN_keep (by decide)]; exact hpl)]
theorem fsS_255 {P : Nat} (hP8 : P ≤ 8) : ∀ (m : Nat) {N : Mm}, InvR N → InvP P N → fsS P m N &&& 255 = fsS P m N
  | 0, N, hr, h => by rw [fsS]; decide
  | m + 1, N, hr, h => by
    rw [fsS]
    split
    · exact fsS_255 hP8 m (hrN_inv hP8 hr h).1 (hrN_inv hP8 hr h).2
    · exact (hrW_wo hP8 hr h).2
theorem fsS_s {P : Nat} (hP8 : P ≤ 8) (m : Nat) {N : Mm} (hr : InvR N) (h : InvP P N) : ∃ s, s < 256 ∧ fsS P m N = nI s := by
  obtain ⟨j, hj, e⟩ := pk_andE (fsS P m N) (m := 255) 8 (by decide)
  exact ⟨j, hj, (fsS_255 hP8 m hr h).symm.trans e⟩
/-- the reference goes on until one of a set is stifled -/
def fsE (P : Nat) (w : Int32) : Nat → (Nat → Int32) → (Nat → Int32)
  | 0, f => f
  | m + 1, f => if stf (vN f) P &&& w = 0 then fsE P w m (hrM P f) else f
theorem fsE_3 (P : Nat) (w : Int32) : ∀ (m : Nat) (f : Nat → Int32), fsE P w m f 3 = f 3
  | 0, f => rfl
  | m + 1, f => by
    rw [fsE]
    split
    · rw [fsE_3 P w m, hrM_3]
    · rfl
theorem fs_eq {P : Nat} (hP8 : P ≤ 8) {w : Int32} : ∀ (m : Nat) {f : Nat → Int32} {N : Mm}, Agr P (vN f) N → InvR N → InvP P N → stf N P &&& w = 0 → wo N P = w → stf (vN (fsE P w m f)) P &&& w = fsS P m N
  | 0, f, N, ha, hr, h, h0, hw => by
    rw [fsE, fsS, stf_c ha P (Nat.le_refl _)]
    exact h0
  | m + 1, f, N, ha, hr, h, h0, hw => by
    have hg := hrM_ag hP8 ha hr h
    have hi := hrN_inv hP8 hr h
    have hx := (hrW_wo hP8 hr h).1
    rw [hw] at hx
    rw [fsE, stf_c ha P (Nat.le_refl _), if_pos h0, fsS]
    by_cases hc : hrW P N = 0
    · rw [if_pos hc]
      have e : stf (hrN P N) P = stf N P := by rw [stf_hr hP8 hr h, hc, or0]
      exact fs_eq hP8 m hg hi.1 hi.2 (by rw [e]; exact h0) (by rw [wo, e]; exact hw)
    · rw [if_neg hc]
      have e : stf (vN (hrM P f)) P &&& w = hrW P N := by rw [stf_c hg P (Nat.le_refl _), stf_hr hP8 hr h, or_and, h0, hx, zor]
      cases m with
      | zero => rw [fsE]; exact e
      | succ m =>
        rw [fsE, if_neg (by rw [e]; exact hc)]
        exact e
set_option maxRecDepth 100000 in
set_option maxHeartbeats 4000000 in
theorem l_fsC (sx : Nat × (Nat → Int32)) (P : Nat) (hP8 : P ≤ 8) (S : Int32) (I : Mm) (J : Ml) (Rt : Option Value → Mm → Ml → Prop) (hR1 : ∀ X, S = 0 → Rt (some (.int (-1000000004))) (fnd (pN 21 X I) 3) J) (hR2 : ∀ X x, x = S → ¬ x = 0 → Rt (some (.int (ntzI x))) (pN 21 X I) J) : ∀ m n N, n + m = 60 → N 0 7 = nI P → (∀ p, p < P → vp_in (N 6 p) 8) → fsS P m N = S → GW sx (na_mi MX3_first) Rt 7 [some (.ref 0), some (.ref 21), some (.int (nI n)), none] [] (pN 21 N I) J := by
  intro m
  induction m with
  | zero =>
    intro n N hn hP hpl hw
    obtain rfl : n = 60 := by omega
    have hz : (60 : Int32) ≤ nI 60 := by decide
    refine GW.run kX3_first (fun pc => Nat.beq pc 7) 52 5 rfl ?_
    refine And.intro (fun _ => ?_) (fun hh => absurd hz hh)
    refine Mt.conseq (c_fnd3 _ _ _) ?_
    rintro _ _ _ ⟨rfl, rfl, rfl⟩
    exact ⟨trivial, hR1 N hw.symm⟩
  | succ m ih =>
    intro n N hn hP hpl hw
    have hz : ¬ (60 : Int32) ≤ nI n := nI_ge (a := n) (b := 60) (by omega) (by omega)
    refine GW.run kX3_first (fun pc => Nat.beq pc 7) 52 5 rfl ?_
    refine And.intro (fun hh => absurd hh hz) (fun _ => ?_)
    refine Mt.conseq (c_hr _ 21 (Or.inr rfl) N P hP hP8 hpl _ _) ?_
    rintro _ _ _ ⟨rfl, rfl, rfl⟩
    refine And.intro (fun h2 => ?_) (fun h2 => ?_)
    · -- pc 19 .ifCond .eq 8: yes
      rw [fsS, if_pos h2] at hw
      exact GW.weak (ih (n + 1) (hrN P N) (by omega) (by rw [hrN_0 (by decide)]; exact hP) (by rw [hrN_keep (by decide)]; exact hpl) hw) ⟨rfl, rfl, by rw [nI_1], trivial⟩
    · -- pc 19 .ifCond .eq 8: no
      refine Mt.conseq (c_ntz _ _ _ _) ?_
      rintro _ _ _ ⟨rfl, rfl, rfl⟩
      rw [fsS, if_neg h2] at hw
      exact ⟨trivial, hR2 _ _ hw h2⟩
set_option maxRecDepth 100000 in
set_option maxHeartbeats 4000000 in
theorem l_fsM (sx : Nat × (Nat → Int32)) (P : Nat) (hP8 : P ≤ 8) (w : Int32) (F : Nat → Int32) (I : Mm) (J : Ml) (Rt : Option Value → Mm → Ml → Prop) (hR : GW sx (na_mi MX4_first) Rt 41 [some (.ref 43), some (.int w), none, none] [] (sR F I) J) : ∀ m n f, n + m = 60 → f 3 = nI P → (∀ p, p < P → vp_in (f (36 + 5 * p + 1)) 8) → fsE P w m f = F → GW sx (na_mi MX4_first) Rt 16 [some (.ref 43), some (.int w), some (.int (nI n)), none] [] (sR f I) J := by
  intro m
  induction m with
  | zero =>
    intro n f hn hP hpl hw
    obtain rfl : n = 60 := by omega
    have hz : (60 : Int32) ≤ nI 60 := by decide
    refine GW.run kX4_first (fun pc => Nat.beq pc 16 || Nat.beq pc 41) 82 10 rfl ?_
    refine And.intro (fun _ => ?_) (fun hh => absurd hz hh)
    obtain rfl := hw
    exact GW.weak hR ⟨rfl, rfl, trivial⟩
  | succ m ih =>
    intro n f hn hP hpl hw
    have hz : ¬ (60 : Int32) ≤ nI n := nI_ge (a := n) (b := 60) (by omega) (by omega)
    refine GW.run kX4_first (fun pc => Nat.beq pc 16 || Nat.beq pc 41) 82 10 rfl ?_
    refine And.intro (fun hh => absurd hh hz) (fun _ => ?_)
    refine Mt.conseq (m_stf _ f P hP hP8 _ _) ?_
    rintro _ _ _ ⟨rfl, rfl, rfl⟩
    refine And.intro (fun h2 => ?_) (fun h2 => ?_)
    · -- pc 28 .ifCond .ne 13: yes
      rw [fsE, if_neg h2] at hw
      obtain rfl := hw
      exact GW.weak hR ⟨rfl, rfl, trivial⟩
    · -- pc 28 .ifCond .ne 13: no
      refine Mt.conseq (m_hour _ f P hP hP8 hpl _ _) ?_
      rintro _ _ _ ⟨rfl, rfl, rfl⟩
      rw [fsE, if_pos h2] at hw
      exact GW.weak (ih (n + 1) (hrM P f) (by omega) (by rw [hrM_3]; exact hP) (fun p hp => by rw [hrM_pl P f hpl]; exact hpl p hp) hw) ⟨rfl, rfl, by rw [nI_1], trivial⟩
set_option maxRecDepth 100000 in
set_option maxHeartbeats 4000000 in
theorem l_fpM (sx : Nat × (Nat → Int32)) (S : Int32) (W : Nat) (I : Mm) (J : Ml) (Rt : Option Value → Mm → Ml → Prop) (hR : GW sx (na_mi MX4_first) Rt 79 [some (.ref 43), none, none, some (.int (nI W))] [] I J) : ∀ m n , n + m = 8 → fdB (fun p => decide (hasP S (nI p))) m n = W → GW sx (na_mi MX4_first) Rt 59 [some (.ref 43), none, some (.int S), some (.int (nI n))] [] I J := by
  intro m
  induction m with
  | zero =>
    intro n  hn hw
    obtain rfl : n = 8 := by omega
    have hz : (8 : Int32) ≤ nI 8 := by decide
    refine GW.run kX4_first (fun pc => Nat.beq pc 59 || Nat.beq pc 79) 82 34 rfl ?_
    refine And.intro (fun _ => ?_) (fun hh => absurd hz hh)
    obtain rfl : 8 = W := hw
    exact GW.weak hR ⟨rfl, rfl, trivial⟩
  | succ m ih =>
    intro n  hn hw
    have hz : ¬ (8 : Int32) ≤ nI n := nI_ge (a := n) (b := 8) (by omega) (by omega)
    refine GW.run kX4_first (fun pc => Nat.beq pc 59 || Nat.beq pc 79) 82 34 rfl ?_
    refine And.intro (fun hh => absurd hh hz) (fun _ => ?_)
    refine Mt.conseq (m_has _ _ _ _ _) ?_
    rintro _ _ _ ⟨rfl, rfl, ⟨h1, rfl⟩ | ⟨h1, rfl⟩⟩
    · -- pc 67 call X4_has true
      refine And.intro (fun _ => ?_) (fun hh => absurd hh (by decide))
      rw [fdB, if_pos (decide_eq_true h1)] at hw
      obtain rfl := hw
      exact GW.weak hR ⟨rfl, rfl, trivial⟩
    · -- pc 67 call X4_has false
      refine And.intro (fun hh => absurd hh (by decide)) (fun _ => ?_)
      rw [fdB, if_neg (fun q => h1 (of_decide_eq_true q))] at hw
      exact GW.weak (ih (n + 1) (by omega) hw) ⟨rfl, rfl, by rw [nI_1], trivial⟩
set_option maxRecDepth 100000 in
set_option maxHeartbeats 4000000 in
theorem pr_first (sx : Nat × (Nat → Int32)) : PrI sx MX3_first MX4_first [] := by
  intro I J hS
  obtain ⟨P, hN, ha, hP8, hP1, hP3, hpl⟩ := hS.nt
  have e73 : I 44 3 = I 1 7 := hP3.trans hP1.symm
  refine Mt.of2 _ rfl (by decide +kernel) (Nat.le_of_ble_eq_true rfl) ?_
  refine GW.run kX3_first (fun pc => Nat.beq pc 7) 52 0 rfl ?_
  refine Mt.conseq (c_sah _ P hP8 I hP1 _) ?_
  rintro _ _ _ ⟨⟨M, rfl, h1⟩, rfl, rfl⟩
  obtain ⟨S, hW⟩ : ∃ S, fsS P 60 M = S := ⟨_, rfl⟩
  have hW2 : fsS P 60 (gN 1 I) = S := by rw [← hW, fsS_c 60 h1 hN.2.1.pl]
  obtain ⟨s, hs, es⟩ := fsS_s hP8 60 hN.1 hN.2.1
  rw [hW2] at es
  refine GW.weak (l_fsC sx P hP8 S I J _ (fun X hb => ?_) (fun X x hx hb => ?_) 60 0 M rfl (Agr.ok h1 hN).1 (Agr.ok h1 hN).2 hW) ⟨rfl, rfl, rfl, trivial⟩
  · refine ⟨_, rfl, ?_⟩
    refine Mt.of2 _ rfl (by decide +kernel) (Nat.le_of_ble_eq_true rfl) ?_
    refine GW.run kX4_first (fun pc => Nat.beq pc 16) 82 0 rfl ?_
    refine Mt.conseq ((by have h := m_wo sx (I 44) P hP3 hP8 (fnd (pN 21 X I) 3) J; rw [show sR (I 44) (fnd (pN 21 X I) 3) = fnd (pN 21 X I) 3 from sR_self (fnd (pN 21 X I) 3)] at h; exact h)) ?_
    rintro _ _ _ ⟨rfl, rfl, rfl⟩
    refine Mt.conseq ((by have h := m_kp1 sx (I 44) (fnd (pN 21 X I) 3) J; rw [show sR (I 44) (fnd (pN 21 X I) 3) = fnd (pN 21 X I) 3 from sR_self (fnd (pN 21 X I) 3)] at h; exact h)) ?_
    rintro _ _ _ ⟨⟨t, rfl, g2⟩, rfl, rfl⟩
    have ht := g2
    have hset : stf (vN (fsE P (wo (vN (I 44)) P) 60 (I 44))) P &&& wo (vN (I 44)) P = S := by
      rw [← hW2]
      exact fs_eq hP8 60 ha hN.1 hN.2.1 (by rw [wo_c ha]; exact stf_wo hP8 hN.2.1) (wo_c ha).symm
    have hl : lowb S = 8 := by rw [hb]; exact low_0
    refine GW.weak (l_fsM sx P hP8 (wo (vN (I 44)) P) _ (sA 46 t (fnd (pN 21 X I) 3)) J _ ?_ 60 0 (I 44) rfl hP3 hpl rfl) ⟨rfl, rfl, rfl, trivial⟩
    refine GW.run kX4_first (fun pc => Nat.beq pc 59) 82 22 rfl ?_
    refine Mt.conseq (m_stf _ (fsE P (wo (vN (I 44)) P) 60 (I 44)) P (by rw [fsE_3]; exact hP3) hP8 _ _) ?_
    rintro _ _ _ ⟨rfl, rfl, rfl⟩
    refine Mt.conseq (m_rs1 _ _ t (I 44) ht _ _) ?_
    rintro _ _ _ ⟨⟨g2, rfl, e2⟩, rfl, rfl⟩
    have hg2 := e2
    refine GW.weak (l_fpM sx S (lowb S) _ J _ ?_ 8 0 rfl rfl) ⟨rfl, congrArg Value.int hset.symm, rfl, trivial⟩
    refine GW.run kX4_first (fun _ => false) 82 43 rfl ?_
    refine And.intro (fun e1 => ?_) (fun e1 => ?_)
    · -- pc 82 .if_icmp .ne 12: yes
      exact absurd (show nI (lowb S) = 8 by rw [hl]; rfl) e1
    · -- pc 82 .if_icmp .ne 12: no
      refine Mt.conseq (m_fnd3 _ _ _) ?_
      rintro _ _ _ ⟨rfl, rfl, rfl⟩
      exact ⟨trivial, rfl, hS.junkf hg2 (by decide)⟩
  · refine ⟨_, rfl, ?_⟩
    refine Mt.of2 _ rfl (by decide +kernel) (Nat.le_of_ble_eq_true rfl) ?_
    refine GW.run kX4_first (fun pc => Nat.beq pc 16) 82 0 rfl ?_
    refine Mt.conseq ((by have h := m_wo sx (I 44) P hP3 hP8 (pN 21 X I) J; rw [show sR (I 44) (pN 21 X I) = pN 21 X I from sR_self (pN 21 X I)] at h; exact h)) ?_
    rintro _ _ _ ⟨rfl, rfl, rfl⟩
    refine Mt.conseq ((by have h := m_kp1 sx (I 44) (pN 21 X I) J; rw [show sR (I 44) (pN 21 X I) = pN 21 X I from sR_self (pN 21 X I)] at h; exact h)) ?_
    rintro _ _ _ ⟨⟨t, rfl, g2⟩, rfl, rfl⟩
    have ht := g2
    have hset : stf (vN (fsE P (wo (vN (I 44)) P) 60 (I 44))) P &&& wo (vN (I 44)) P = S := by
      rw [← hW2]
      exact fs_eq hP8 60 ha hN.1 hN.2.1 (by rw [wo_c ha]; exact stf_wo hP8 hN.2.1) (wo_c ha).symm
    subst hx
    have hl : ntzI x = nI (lowb x) ∧ lowb x < 8 := by
      rw [es]
      refine ntz_low s hs ?_
      rcases Nat.eq_zero_or_pos s with q | q
      · subst q; exact absurd es hb
      · exact q
    refine GW.weak (l_fsM sx P hP8 (wo (vN (I 44)) P) _ (sA 46 t (pN 21 X I)) J _ ?_ 60 0 (I 44) rfl hP3 hpl rfl) ⟨rfl, rfl, rfl, trivial⟩
    refine GW.run kX4_first (fun pc => Nat.beq pc 59) 82 22 rfl ?_
    refine Mt.conseq (m_stf _ (fsE P (wo (vN (I 44)) P) 60 (I 44)) P (by rw [fsE_3]; exact hP3) hP8 _ _) ?_
    rintro _ _ _ ⟨rfl, rfl, rfl⟩
    refine Mt.conseq (m_rs1 _ _ t (I 44) ht _ _) ?_
    rintro _ _ _ ⟨⟨g2, rfl, e2⟩, rfl, rfl⟩
    have hg2 := e2
    refine GW.weak (l_fpM sx x (lowb x) _ J _ ?_ 8 0 rfl rfl) ⟨rfl, congrArg Value.int hset.symm, rfl, trivial⟩
    refine GW.run kX4_first (fun _ => false) 82 43 rfl ?_
    refine And.intro (fun e1 => ?_) (fun e1 => ?_)
    · -- pc 82 .if_icmp .ne 12: yes
      exact ⟨trivial, congrArg (fun x => some (Value.int x)) (hl.1).symm, hS.junk hg2⟩
    · -- pc 82 .if_icmp .ne 12: no
      refine Mt.conseq (m_fnd3 _ _ _) ?_
      rintro _ _ _ ⟨rfl, rfl, rfl⟩
      exact absurd ((nI_eq (by omega) (by omega)).mp (show nI (lowb x) = nI 8 from e1)) (by omega)
