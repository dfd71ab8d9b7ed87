/-! PAIRS: doors -/
/-- the first greatest above b -/
def hiF (v : Nat → Int32) (a b : Int32) : Nat → Int32 × Int32
  | 0 => (a, b)
  | n + 1 => if (hiF v a b n).2 < v n then (nI n, v n) else hiF v a b n
def dsV (P : Nat) (N : Mm) (i : Nat) : Int32 := nI (wl P 255 60 (na_set N 0 4 (nI i)))
theorem rg127 {n : Nat} (h : n < 128) : rg 0 127 (nI n) := ⟨by rw [nI_toInt (by omega)]; omega, by rw [nI_toInt (by omega)]; omega⟩
theorem m_wf2 (sx : Nat × (Nat → Int32)) (f : Nat → Int32) (P : Nat) (hP : f 3 = nI P) (hP8 : P ≤ 8) (hpl : ∀ p, p < P → vp_in (f (36 + 5 * p + 1)) 8) (t : Nat → Int32) (I : Mm) (J : Ml) {v : Int32} (hv : nI (un P (wo (vN f) P) 61 f) - 1 = v) : Mt sx MX4_wellFor [.ref 43] (sR f (sA 46 t I)) J (fun r' I' J' => (∃ g t, sR g (sA 46 t I) = I' ∧ E76 g f) ∧ J = J' ∧ r' = some (.int v)) :=
  Mt.conseq (m_wf sx f P hP hP8 hpl (sA 46 t I) J) (by
    rintro _ _ _ ⟨⟨g, t2, rfl, h⟩, rfl, rfl⟩
    exact ⟨⟨g, t2, by rw [sA_sA], h⟩, rfl, by rw [hv]⟩)
set_option maxRecDepth 100000 in
set_option maxHeartbeats 4000000 in
theorem l_dsC (sx : Nat × (Nat → Int32)) (P : Nat) (hP8 : P ≤ 8) (I : Mm) (hP1 : I 1 7 = nI P) (hN : NOk P (gN 1 I)) (J : Ml) (Rt : Option Value → Mm → Ml → Prop) (hR : ∀ X, Rt (some (.int (hiF (dsV P (gN 1 I)) 0 (-1) 128).1)) (pN 21 X I) J) : ∀ m n X, n + m = 128 → GW sx (na_mi MX3_doors) Rt 6 [some (.ref 0), some (.int (hiF (dsV P (gN 1 I)) 0 (-1) n).1), some (.int (hiF (dsV P (gN 1 I)) 0 (-1) n).2), some (.int (nI n)), none, none] [] (pN 21 X I) J := by
  intro m
  induction m with
  | zero =>
    intro n X hn
    obtain rfl : n = 128 := by omega
    have hz : (128 : Int32) ≤ nI 128 := by decide
    refine GW.run kX3_doors (fun pc => Nat.beq pc 6) 61 6 rfl ?_
    refine And.intro (fun _ => ?_) (fun hh => absurd hz hh)
    exact ⟨trivial, hR X⟩
  | succ m ih =>
    intro n X hn
    have hz : ¬ (128 : Int32) ≤ nI n := nI_ge (a := n) (b := 128) (by omega) (by omega)
    refine GW.run kX3_doors (fun pc => Nat.beq pc 6) 61 6 rfl ?_
    refine And.intro (fun hh => absurd hh hz) (fun _ => ?_)
    refine Mt.conseq (c_sah2 _ P hP8 I hP1 _ _) ?_
    rintro _ _ _ ⟨⟨M, rfl, h1⟩, rfl, rfl⟩
    have hM2 := Agr.set h1 0 4 (nI n)
    have hok : na_set M 0 4 (nI n) 0 7 = nI P := (Agr.ok h1 hN).1
    have hpl2 : ∀ q, q < P → vp_in (na_set M 0 4 (nI n) 6 q) 8 := (Agr.ok h1 hN).2
    have ev : nI (wl P 255 60 (na_set M 0 4 (nI n))) = dsV P (gN 1 I) n := by
      rw [dsV, wl_c 255 60 hM2 hN.2.1.pl]
    refine Mt.conseq ((by have h := c_wl sx 21 (Or.inr rfl) (na_set M 0 4 (nI n)) P hok hP8 hpl2 255 60 (by decide) I J; rw [← pN_set (pl := 21) (by decide) rfl, ev] at h; exact h)) ?_
    rintro _ _ _ ⟨⟨X2, rfl⟩, rfl, rfl⟩
    refine And.intro (fun h3 => ?_) (fun h3 => ?_)
    · -- pc 40 .if_icmp .le 8: yes
      exact GW.weak (ih (n + 1) X2 (by omega)) ⟨rfl, by rw [hiF, if_neg (Int32.not_lt.mpr h3)], by rw [hiF, if_neg (Int32.not_lt.mpr h3)], by rw [nI_1], trivial⟩
    · -- pc 40 .if_icmp .le 8: no
      exact GW.weak (ih (n + 1) X2 (by omega)) ⟨rfl, by rw [hiF, if_pos (Int32.not_le.mp h3)], by rw [hiF, if_pos (Int32.not_le.mp h3)], by rw [nI_1], trivial⟩
set_option maxRecDepth 100000 in
set_option maxHeartbeats 4000000 in
theorem l_dsM (sx : Nat × (Nat → Int32)) (f : Nat → Int32) (N : Mm) (P : Nat) (hP8 : P ≤ 8) (hN : NOk P N) (ha : Agr P (vN f) N) (I : Mm) (J : Ml) (Rt : Option Value → Mm → Ml → Prop) (hR : ∀ g t, E76 g f → Rt (some (.int (hiF (dsV P N) 0 (-1) 128).1)) (sR g (sA 46 t I)) J) : ∀ m n g t y, n + m = 128 → E76 g (upd f 2 y) → GW sx (na_mi MX4_doors) Rt 14 [some (.ref 43), some (.int (f 2)), some (.int (hiF (dsV P N) 0 (-1) n).1), some (.int (hiF (dsV P N) 0 (-1) n).2), some (.int (nI n)), none] [] (sR g (sA 46 t I)) J := by
  intro m
  induction m with
  | zero =>
    intro n g t y hn hg
    obtain rfl : n = 128 := by omega
    have hz : (128 : Int32) ≤ nI 128 := by decide
    refine GW.run kX4_doors (fun pc => Nat.beq pc 14) 75 11 rfl ?_
    refine And.intro (fun _ => ?_) (fun hh => absurd hz hh)
    refine And.intro (by unfold vp_in; decide) ?_
    exact ⟨trivial, by have q := hR _ t (E76.back hg); rw [← sR_set] at q; exact q⟩
  | succ m ih =>
    intro n g t y hn hg
    have hz : ¬ (128 : Int32) ≤ nI n := nI_ge (a := n) (b := 128) (by omega) (by omega)
    have hput := hg.put (nI n)
    have hN5 := hN.opn (rg127 (n := n) (by omega))
    have hga : Agr P (vN (upd g 2 (nI n))) (na_set N 0 4 (nI n)) := (hput.agr hP8).trans (agS ha (w := 2) (by decide) _)
    have hA := Agr.ok hga hN5
    have hval : nI (un P (wo (vN (upd g 2 (nI n))) P) 61 (upd g 2 (nI n))) - 1 = dsV P N n := by
      rw [well_eq hN5 hga (Agr.refl _ _), Nat.add_comm, nI_pred]
      rfl
    refine GW.run kX4_doors (fun pc => Nat.beq pc 14) 75 11 rfl ?_
    refine And.intro (fun hh => absurd hh hz) (fun _ => ?_)
    refine And.intro (by unfold vp_in; decide) ?_
    refine Mt.conseq ((by have h := m_wf2 sx (upd g 2 (nI n)) P hA.1 hP8 hA.2 t I J hval; rw [← sR_set] at h; exact h)) ?_
    rintro _ _ _ ⟨⟨g2, t2, rfl, h1⟩, rfl, rfl⟩
    refine And.intro (fun h2 => ?_) (fun h2 => ?_)
    · -- pc 39 .if_icmp .le 8: yes
      refine And.intro (fun h3 => ?_) (fun h3 => ?_)
      · -- pc 52 .if_icmp .le 8: yes
        exact GW.weak (ih (n + 1) g2 t2 (nI n) (by omega) (fun j hj => (h1 j hj).trans (hput j hj))) ⟨rfl, rfl, by rw [hiF, if_neg (Int32.not_lt.mpr h2)], by rw [hiF, if_neg (Int32.not_lt.mpr h2)], by rw [nI_1], trivial⟩
      · -- pc 52 .if_icmp .le 8: no
        exact absurd h2 h3
    · -- pc 39 .if_icmp .le 8: no
      refine And.intro (fun h4 => ?_) (fun h4 => ?_)
      · -- pc 52 .if_icmp .le 8: yes
        exact absurd h4 h2
      · -- pc 52 .if_icmp .le 8: no
        exact GW.weak (ih (n + 1) g2 t2 (nI n) (by omega) (fun j hj => (h1 j hj).trans (hput j hj))) ⟨rfl, rfl, by rw [hiF, if_pos (Int32.not_le.mp h2)], by rw [hiF, if_pos (Int32.not_le.mp h2)], by rw [nI_1], trivial⟩
set_option maxRecDepth 100000 in
set_option maxHeartbeats 4000000 in
theorem pr_doors (sx : Nat × (Nat → Int32)) : PrI sx MX3_doors MX4_doors [] := by
  intro I J hS
  obtain ⟨P, hN, ha, hP8, hP1, hP3, hpl⟩ := hS.nt
  have e73 : I 44 3 = I 1 7 := hP3.trans hP1.symm
  refine Mt.of2 _ rfl (by decide +kernel) (Nat.le_of_ble_eq_true rfl) ?_
  refine GW.run kX3_doors (fun pc => Nat.beq pc 6) 61 0 rfl ?_
  refine GW.weak (GW.eqI ?_ (l_dsC sx P hP8 I hP1 hN J _ ?_ 128 0 (gN 21 I) rfl)) ⟨rfl, rfl, rfl, rfl, trivial⟩
  · rw [pN_gN]
  intro X
  refine ⟨_, rfl, ?_⟩
  refine Mt.of2 _ rfl (by decide +kernel) (Nat.le_of_ble_eq_true rfl) ?_
  refine GW.run kX4_doors (fun pc => Nat.beq pc 14) 75 0 rfl ?_
  refine And.intro (by unfold vp_in; decide) ?_
  refine GW.weak (GW.eqI ?_ (l_dsM sx (I 44) (gN 1 I) P hP8 hN ha (pN 21 X I) J _ ?_ 128 0 (I 44) (I 46) (I 44 2) rfl (by rw [upd_self]; exact fun _ _ => rfl))) ⟨rfl, rfl, rfl, rfl, rfl, trivial⟩
  · rw [show sA 46 (I 46) (pN 21 X I) = pN 21 X I from sA_self 46 (pN 21 X I), show sR (I 44) (pN 21 X I) = pN 21 X I from sR_self (pN 21 X I)]
  · intro g t hg
    exact ⟨rfl, hS.junk hg⟩
