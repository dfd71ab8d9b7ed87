/-! PAIRS: swept, sweeps -/
/-- how many below n have the number x -/
def cnF (u : Nat → Int32) (x : Int32) : Nat → Int32
  | 0 => 0
  | n + 1 => if u n = x then cnF u x n + 1 else cnF u x n
/-- the first from n on, m at most -/
def fdB (c : Nat → Bool) : Nat → Nat → Nat
  | 0, n => n
  | m + 1, n => if c n = true then n else fdB c m (n + 1)
theorem fdB_le (c : Nat → Bool) : ∀ m n, fdB c m n ≤ n + m
  | 0, n => Nat.le_refl _
  | m + 1, n => by
    rw [fdB]
    have := fdB_le c m (n + 1)
    split <;> omega
set_option maxRecDepth 100000 in
set_option maxHeartbeats 4000000 in
theorem l_swC (sx : Nat × (Nat → Int32)) (x : Int32) (I : Mm) (J : Ml) (Rt : Option Value → Mm → Ml → Prop) (hR : Rt (some (.int (cnF (fun s => fri (gN 1 I) (nI s) 8) x 256))) I J) : ∀ m n , n + m = 256 → GW sx (na_mi MX3_swept) Rt 21 [some (.ref 0), some (.int x), some (.int (cnF (fun s => fri (gN 1 I) (nI s) 8) x n)), some (.int (nI n))] [] I J := by
  intro m
  induction m with
  | zero =>
    intro n  hn 
    obtain rfl : n = 256 := by omega
    have hz : (256 : Int32) ≤ nI 256 := by decide
    refine GW.run kX3_swept (fun pc => Nat.beq pc 21) 57 13 rfl ?_
    refine And.intro (fun _ => ?_) (fun hh => absurd hz hh)
    exact ⟨trivial, hR⟩
  | succ m ih =>
    intro n  hn 
    have hz : ¬ (256 : Int32) ≤ nI n := nI_ge (a := n) (b := 256) (by omega) (by omega)
    have ih := ih (n + 1) (by omega)
    refine GW.run kX3_swept (fun pc => Nat.beq pc 21) 57 13 rfl ?_
    refine And.intro (fun hh => absurd hh hz) (fun _ => ?_)
    refine Mt.conseq ((by have h := c_fri sx 1 (Or.inl rfl) (gN 1 I) (nI n) I J; rw [pN_gN] at h; exact h)) ?_
    rintro _ _ _ ⟨rfl, rfl, rfl⟩
    refine And.intro (fun h2 => ?_) (fun h2 => ?_)
    · -- pc 37 .if_icmp .ne 6: yes
      exact GW.weak ih ⟨rfl, rfl, by rw [cnF, if_neg h2], by rw [nI_1], trivial⟩
    · -- pc 37 .if_icmp .ne 6: no
      exact GW.weak ih ⟨rfl, rfl, by rw [cnF, if_pos h2], by rw [nI_1], trivial⟩
set_option maxRecDepth 100000 in
set_option maxHeartbeats 4000000 in
theorem l_swM (sx : Nat × (Nat → Int32)) (x : Int32) (f : Nat → Int32) (I : Mm) (J : Ml) (Rt : Option Value → Mm → Ml → Prop) (hR : Rt (some (.int (cnF (fun s => fri (vN f) (nI s) 8) x 256))) (sR f I) J) : ∀ m n , n + m = 256 → GW sx (na_mi MX4_swept) Rt 21 [some (.ref 43), some (.int x), some (.int (cnF (fun s => fri (vN f) (nI s) 8) x n)), some (.int (nI n))] [] (sR f I) J := by
  intro m
  induction m with
  | zero =>
    intro n  hn 
    obtain rfl : n = 256 := by omega
    have hz : (256 : Int32) ≤ nI 256 := by decide
    refine GW.run kX4_swept (fun pc => Nat.beq pc 21) 61 13 rfl ?_
    refine And.intro (fun _ => ?_) (fun hh => absurd hz hh)
    exact ⟨trivial, hR⟩
  | succ m ih =>
    intro n  hn 
    have hz : ¬ (256 : Int32) ≤ nI n := nI_ge (a := n) (b := 256) (by omega) (by omega)
    have ih := ih (n + 1) (by omega)
    refine GW.run kX4_swept (fun pc => Nat.beq pc 21) 61 13 rfl ?_
    refine And.intro (fun hh => absurd hh hz) (fun _ => ?_)
    refine Mt.conseq (m_fr _ f (nI n) _ _) ?_
    rintro _ _ _ ⟨rfl, rfl, rfl⟩
    refine And.intro (fun h2 => ?_) (fun h2 => ?_)
    · -- pc 35 .if_icmp .ne 7: yes
      exact GW.weak ih ⟨rfl, rfl, by rw [cnF, if_neg h2, Int32.add_zero], by rw [nI_1], trivial⟩
    · -- pc 35 .if_icmp .ne 7: no
      exact GW.weak ih ⟨rfl, rfl, by rw [cnF, if_pos h2], by rw [nI_1], trivial⟩
set_option maxRecDepth 100000 in
set_option maxHeartbeats 4000000 in
theorem pr_swept (sx : Nat × (Nat → Int32)) (v : Int32) : PrI sx MX3_swept MX4_swept [.int v] := by
  intro I J hS
  obtain ⟨P, hN, ha, hP8, hP1, hP3, hpl⟩ := hS.nt
  have e73 : I 44 3 = I 1 7 := hP3.trans hP1.symm
  refine Mt.of2 _ rfl (by decide +kernel) (Nat.le_of_ble_eq_true rfl) ?_
  refine GW.run kX3_swept (fun pc => Nat.beq pc 21) 57 0 rfl ?_
  refine Mt.conseq (c_outside _ _ _ _ _ _) ?_
  rintro _ _ _ ⟨rfl, rfl, ⟨h1, rfl⟩ | ⟨h1, rfl⟩⟩
  · -- pc 4 call X3_outside true
    refine And.intro (fun hh => absurd hh (by decide)) (fun _ => ?_)
    refine Mt.conseq (c_fnd0 _ _ _) ?_
    rintro _ _ _ ⟨rfl, rfl, rfl⟩
    refine ⟨trivial, _, rfl, ?_⟩
    refine Mt.of2 _ rfl (by decide +kernel) (Nat.le_of_ble_eq_true rfl) ?_
    refine GW.run kX4_swept (fun pc => Nat.beq pc 21) 61 0 rfl ?_
    refine Mt.conseq (m_in _ _ _ _ _ _) ?_
    rintro _ _ _ ⟨rfl, rfl, ⟨g1, rfl⟩ | ⟨g1, rfl⟩⟩
    · -- pc 4 call X4_in true
      exact (out_in h1 g1).elim
    · -- pc 4 call X4_in false
      refine And.intro (fun hh => absurd hh (by decide)) (fun _ => ?_)
      refine Mt.conseq (m_fnd0 _ _ _) ?_
      rintro _ _ _ ⟨rfl, rfl, rfl⟩
      exact ⟨trivial, rfl, hS.found (by decide)⟩
  · -- pc 4 call X3_outside false
    refine And.intro (fun _ => ?_) (fun hh => absurd hh (by decide))
    refine GW.weak (l_swC sx v I J _ ?_ 256 0 rfl) ⟨rfl, rfl, rfl, rfl, trivial⟩
    refine ⟨_, rfl, ?_⟩
    refine Mt.of2 _ rfl (by decide +kernel) (Nat.le_of_ble_eq_true rfl) ?_
    refine GW.run kX4_swept (fun pc => Nat.beq pc 21) 61 0 rfl ?_
    refine Mt.conseq (m_in _ _ _ _ _ _) ?_
    rintro _ _ _ ⟨rfl, rfl, ⟨g1, rfl⟩ | ⟨g1, rfl⟩⟩
    · -- pc 4 call X4_in true
      refine And.intro (fun _ => ?_) (fun hh => absurd hh (by decide))
      refine GW.weak (GW.eqI (sR_self I).symm (l_swM sx v (I 44) I J _ ?_ 256 0 rfl)) ⟨rfl, rfl, rfl, rfl, trivial⟩
      exact ⟨by rw [show (fun s : Nat => fri (vN (I 44)) (nI s) 8) = (fun s : Nat => fri (gN 1 I) (nI s) 8) from funext fun s => fri_c ha (nI s) 8 (by decide)], by rw [sR_self]; exact hS⟩
    · -- pc 4 call X4_in false
      exact (nout_nin h1 g1).elim
set_option maxRecDepth 100000 in
set_option maxHeartbeats 4000000 in
theorem l_wsC (sx : Nat × (Nat → Int32)) (x : Int32) (W : Nat) (I : Mm) (J : Ml) (Rt : Option Value → Mm → Ml → Prop) (hR1 : W < 256 → Rt (some (.int (nI W))) I J) (hR2 : W = 256 → Rt (some (.int (-1000000004))) (fnd I 3) J) : ∀ m n , n + m = 256 → fdB (fun s => decide (fri (gN 1 I) (nI s) 8 = x)) m n = W → GW sx (na_mi MX3_sweeps) Rt 19 [some (.ref 0), some (.int x), some (.int (nI n))] [] I J := by
  intro m
  induction m with
  | zero =>
    intro n  hn hw
    obtain rfl : n = 256 := by omega
    have hz : (256 : Int32) ≤ nI 256 := by decide
    refine GW.run kX3_sweeps (fun pc => Nat.beq pc 19) 58 11 rfl ?_
    refine And.intro (fun _ => ?_) (fun hh => absurd hz hh)
    refine Mt.conseq (c_fnd3 _ _ _) ?_
    rintro _ _ _ ⟨rfl, rfl, rfl⟩
    exact ⟨trivial, hR2 hw.symm⟩
  | succ m ih =>
    intro n  hn hw
    have hz : ¬ (256 : Int32) ≤ nI n := nI_ge (a := n) (b := 256) (by omega) (by omega)
    refine GW.run kX3_sweeps (fun pc => Nat.beq pc 19) 58 11 rfl ?_
    refine And.intro (fun hh => absurd hh hz) (fun _ => ?_)
    refine Mt.conseq ((by have h := c_fri sx 1 (Or.inl rfl) (gN 1 I) (nI n) I J; rw [pN_gN] at h; exact h)) ?_
    rintro _ _ _ ⟨rfl, rfl, rfl⟩
    refine And.intro (fun h2 => ?_) (fun h2 => ?_)
    · -- pc 35 .if_icmp .ne 5: yes
      rw [fdB, if_neg (fun q => h2 (of_decide_eq_true q))] at hw
      exact GW.weak (ih (n + 1) (by omega) hw) ⟨rfl, rfl, by rw [nI_1], trivial⟩
    · -- pc 35 .if_icmp .ne 5: no
      rw [fdB, if_pos (decide_eq_true h2)] at hw
      obtain rfl := hw
      exact ⟨trivial, hR1 (by omega)⟩
set_option maxRecDepth 100000 in
set_option maxHeartbeats 4000000 in
theorem l_wsM (sx : Nat × (Nat → Int32)) (x : Int32) (W : Nat) (f : Nat → Int32) (I : Mm) (J : Ml) (Rt : Option Value → Mm → Ml → Prop) (hR : GW sx (na_mi MX4_sweeps) Rt 41 [some (.ref 43), some (.int x), some (.int (nI W))] [] (sR f I) J) : ∀ m n , n + m = 256 → fdB (fun s => decide (fri (vN f) (nI s) 8 = x)) m n = W → GW sx (na_mi MX4_sweeps) Rt 19 [some (.ref 43), some (.int x), some (.int (nI n))] [] (sR f I) J := by
  intro m
  induction m with
  | zero =>
    intro n  hn hw
    obtain rfl : n = 256 := by omega
    have hz : (256 : Int32) ≤ nI 256 := by decide
    refine GW.run kX4_sweeps (fun pc => Nat.beq pc 19 || Nat.beq pc 41) 60 11 rfl ?_
    refine And.intro (fun _ => ?_) (fun hh => absurd hz hh)
    obtain rfl : 256 = W := hw
    exact GW.weak hR ⟨rfl, rfl, rfl, trivial⟩
  | succ m ih =>
    intro n  hn hw
    have hz : ¬ (256 : Int32) ≤ nI n := nI_ge (a := n) (b := 256) (by omega) (by omega)
    refine GW.run kX4_sweeps (fun pc => Nat.beq pc 19 || Nat.beq pc 41) 60 11 rfl ?_
    refine And.intro (fun hh => absurd hh hz) (fun _ => ?_)
    refine Mt.conseq (m_fr _ f (nI n) _ _) ?_
    rintro _ _ _ ⟨rfl, rfl, rfl⟩
    refine And.intro (fun h2 => ?_) (fun h2 => ?_)
    · -- pc 32 .if_icmp .eq 9: yes
      rw [fdB, if_pos (decide_eq_true h2)] at hw
      obtain rfl := hw
      exact GW.weak hR ⟨rfl, rfl, rfl, trivial⟩
    · -- pc 32 .if_icmp .eq 9: no
      rw [fdB, if_neg (fun q => h2 (of_decide_eq_true q))] at hw
      exact GW.weak (ih (n + 1) (by omega) hw) ⟨rfl, rfl, by rw [nI_1], trivial⟩
set_option maxRecDepth 100000 in
set_option maxHeartbeats 4000000 in
theorem pr_sweeps (sx : Nat × (Nat → Int32)) (v : Int32) : PrI sx MX3_sweeps MX4_sweeps [.int v] := by
  intro I J hS
  obtain ⟨P, hN, ha, hP8, hP1, hP3, hpl⟩ := hS.nt
  have e73 : I 44 3 = I 1 7 := hP3.trans hP1.symm
  refine Mt.of2 _ rfl (by decide +kernel) (Nat.le_of_ble_eq_true rfl) ?_
  refine GW.run kX3_sweeps (fun pc => Nat.beq pc 19) 58 0 rfl ?_
  refine Mt.conseq (c_outside _ _ _ _ _ _) ?_
  rintro _ _ _ ⟨rfl, rfl, ⟨h1, rfl⟩ | ⟨h1, rfl⟩⟩
  · -- pc 4 call X3_outside true
    refine And.intro (fun hh => absurd hh (by decide)) (fun _ => ?_)
    refine Mt.conseq (c_fnd0 _ _ _) ?_
    rintro _ _ _ ⟨rfl, rfl, rfl⟩
    refine ⟨trivial, _, rfl, ?_⟩
    refine Mt.of2 _ rfl (by decide +kernel) (Nat.le_of_ble_eq_true rfl) ?_
    refine GW.run kX4_sweeps (fun pc => Nat.beq pc 19) 60 0 rfl ?_
    refine Mt.conseq (m_in _ _ _ _ _ _) ?_
    rintro _ _ _ ⟨rfl, rfl, ⟨g1, rfl⟩ | ⟨g1, rfl⟩⟩
    · -- pc 4 call X4_in true
      exact (out_in h1 g1).elim
    · -- pc 4 call X4_in false
      refine And.intro (fun hh => absurd hh (by decide)) (fun _ => ?_)
      refine Mt.conseq (m_fnd0 _ _ _) ?_
      rintro _ _ _ ⟨rfl, rfl, rfl⟩
      exact ⟨trivial, rfl, hS.found (by decide)⟩
  · -- pc 4 call X3_outside false
    refine And.intro (fun _ => ?_) (fun hh => absurd hh (by decide))
    obtain ⟨W, hW⟩ : ∃ W, fdB (fun s => decide (fri (gN 1 I) (nI s) 8 = v)) 256 0 = W := ⟨_, rfl⟩
    have hW2 : fdB (fun s => decide (fri (vN (I 44)) (nI s) 8 = v)) 256 0 = W := by rw [← hW, show (fun s : Nat => decide (fri (vN (I 44)) (nI s) 8 = v)) = (fun s : Nat => decide (fri (gN 1 I) (nI s) 8 = v)) from funext fun s => by rw [fri_c ha (nI s) 8 (by decide)]]
    refine GW.weak (l_wsC sx v W I J _ (fun hb => ?_) (fun hb => ?_) 256 0 rfl hW) ⟨rfl, rfl, rfl, trivial⟩
    · refine ⟨_, rfl, ?_⟩
      refine Mt.of2 _ rfl (by decide +kernel) (Nat.le_of_ble_eq_true rfl) ?_
      refine GW.run kX4_sweeps (fun pc => Nat.beq pc 19) 60 0 rfl ?_
      refine Mt.conseq (m_in _ _ _ _ _ _) ?_
      rintro _ _ _ ⟨rfl, rfl, ⟨g1, rfl⟩ | ⟨g1, rfl⟩⟩
      · -- pc 4 call X4_in true
        refine And.intro (fun _ => ?_) (fun hh => absurd hh (by decide))
        refine GW.weak (GW.eqI (show I = sR (I 44) (I) from (sR_self (I)).symm) (l_wsM sx v W (I 44) (I) J _ ?_ 256 0 rfl hW2)) ⟨rfl, rfl, rfl, trivial⟩
        refine GW.run kX4_sweeps (fun _ => false) 60 21 rfl ?_
        refine And.intro (fun e1 => ?_) (fun e1 => ?_)
        · -- pc 45 .if_icmp .ne 12: yes
          exact ⟨trivial, rfl, by rw [sR_self]; exact hS⟩
        · -- pc 45 .if_icmp .ne 12: no
          refine Mt.conseq (m_fnd3 _ _ _) ?_
          rintro _ _ _ ⟨rfl, rfl, rfl⟩
          exact absurd ((nI_eq (by omega) (by omega)).mp (show nI W = nI 256 from e1)) (by omega)
      · -- pc 4 call X4_in false
        exact (nout_nin h1 g1).elim
    · refine ⟨_, rfl, ?_⟩
      refine Mt.of2 _ rfl (by decide +kernel) (Nat.le_of_ble_eq_true rfl) ?_
      refine GW.run kX4_sweeps (fun pc => Nat.beq pc 19) 60 0 rfl ?_
      refine Mt.conseq (m_in _ _ _ _ _ _) ?_
      rintro _ _ _ ⟨rfl, rfl, ⟨g1, rfl⟩ | ⟨g1, rfl⟩⟩
      · -- pc 4 call X4_in true
        refine And.intro (fun _ => ?_) (fun hh => absurd hh (by decide))
        refine GW.weak (GW.eqI (show fnd I 3 = sR (I 44) (fnd I 3) from (sR_self (fnd I 3)).symm) (l_wsM sx v W (I 44) (fnd I 3) J _ ?_ 256 0 rfl hW2)) ⟨rfl, rfl, rfl, trivial⟩
        refine GW.run kX4_sweeps (fun _ => false) 60 21 rfl ?_
        refine And.intro (fun e1 => ?_) (fun e1 => ?_)
        · -- pc 45 .if_icmp .ne 12: yes
          exact absurd (by rw [hb]; rfl) e1
        · -- pc 45 .if_icmp .ne 12: no
          refine Mt.conseq (m_fnd3 _ _ _) ?_
          rintro _ _ _ ⟨rfl, rfl, rfl⟩
          exact ⟨trivial, rfl, by rw [show sR (I 44) (fnd I 3) = fnd I 3 from sR_self (fnd I 3)]; exact hS.found (by decide)⟩
      · -- pc 4 call X4_in false
        exact (nout_nin h1 g1).elim
