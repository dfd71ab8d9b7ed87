/-! PAIRS: text -/
theorem srt0 {k : Nat} (hk : k < 5) : srtI k = 0 ↔ k = 3 := by
  obtain rfl | rfl | rfl | rfl | rfl : k = 0 ∨ k = 1 ∨ k = 2 ∨ k = 3 ∨ k = 4 := by omega
  all_goals decide
theorem srt3 {k : Nat} (hk : k < 5) : srtI k = 3 ↔ (k = 2 ∨ k = 4) := by
  obtain rfl | rfl | rfl | rfl | rfl : k = 0 ∨ k = 1 ∨ k = 2 ∨ k = 3 ∨ k = 4 := by omega
  all_goals decide
theorem tb_2 {x : Int32} (h : tb x = 2) : x = 59 := by
  unfold tb at h
  split at h
  · cases h
  · split at h
    · cases h
    · split at h
      · rename_i q; exact q
      · cases h
/-- the sign: both sides -/
theorem sgn_iff {B : Nat → Int32} {L e : Nat} : tK B L e = 2 ↔ (srtI (tK B L e) = 3 ∧ vaE B L e = 59) := by
  refine ⟨fun h => ?_, fun h => ?_⟩
  · refine ⟨by rw [h]; rfl, ?_⟩
    rw [vaE, h, if_neg (by decide), if_neg (by decide)]
    unfold tK at h
    split at h
    · cases h
    · exact tb_2 h
  · obtain ⟨h1, h2⟩ := h
    rcases (srt3 (tK_5 B L e)).mp h1 with q | q
    · exact q
    · exfalso
      rw [vaE, q, if_neg (by decide), if_neg (by decide)] at h2
      unfold tK at q
      split at q
      · cases q
      · rw [h2] at q
        exact absurd q (by decide)
theorem ti_end {B : Nat → Int32} {L e : Nat} {N : Mm} (h : tK B L e = 3) : tiR B L e N = .inl e := by
  have n : ∀ i, ¬ Wd B L i e := fun i z => by have := z.1; omega
  rw [tiR, if_neg (n 0), if_neg (n 1), if_neg (n 2), if_neg (n 3), if_neg (n 4), if_neg (n 5), tiB, if_neg (n 8), if_neg (n 13), if_neg (n 14), if_neg (n 15), if_neg (n 16)]
theorem tK_end {B : Nat → Int32} {L e : Nat} (h : L ≤ e) : tK B L e = 3 := by
  have : L ≤ tSt B L e := Nat.le_trans h (by unfold tSt; exact (sk_b B (L - e) e).1)
  rw [tK, if_pos this]
theorem tK2_lt {B : Nat → Int32} {L e : Nat} (he : e ≤ L) (h : tK B L e = 2) : e < tE B L e := by
  have h1 := tSt_b (B := B) he
  have h2 := tE_b (B := B) he
  by_cases q : tSt B L e < L
  · have := h2.2.2 q; omega
  · rw [tK, if_pos (by omega)] at h
    cases h
theorem neg1 {s : Nat} (h : s ≤ 120) : (-1 : Int32) - nI s < 0 := by
  have em : (-1 : Int32).toInt = -1 := by decide
  rw [lt_i, tS (by rw [em, nI_toInt (by omega)]; omega) (by rw [em, nI_toInt (by omega)]; omega), em, nI_toInt (by omega), i0]
  omega
/-- what the reference leaves: its row, the tape empty, its own numbers anyhow -/
def TxE (I : Mm) (Y : Mm) (f : Nat → Int32) : Prop := Y 44 = f ∧ (∀ a j, a ≠ 44 → (a ≠ 43 ∨ (j ≠ 4 ∧ j ≠ 5 ∧ j ≠ 6 ∧ j ≠ 7 ∧ j ≠ 9 ∧ j ≠ 10)) → Y a j = I a j) ∧ Y 43 4 = 0
theorem mS_get (B : Nat → Int32) (L : Nat) (I : Mm) (f : Nat → Int32) (e : Nat) (g : Int32) {a j : Nat} (h : a ≠ 44) (h2 : a ≠ 43 ∨ (j ≠ 4 ∧ j ≠ 5 ∧ j ≠ 6 ∧ j ≠ 7 ∧ j ≠ 9 ∧ j ≠ 10)) : mS B L I f e g a j = I a j := by
  rw [mS, sR_off h, mT, mdT_get]
  by_cases q : a = 43
  · subst q
    rw [if_pos rfl, if_neg (by omega), if_neg (by omega), if_neg (by omega), if_neg (by omega), if_neg (by omega)]
  · rw [if_neg q]
theorem TxE.ok {B : Nat → Int32} {L : Nat} {I : Mm} {f : Nat → Int32} {e : Nat} {g : Int32} : TxE I (na_set (na_set (mS B L I f e 1) 43 10 g) 43 4 0) f := by
  refine ⟨rfl, fun a j h1 h2 => ?_, rfl⟩
  rw [na_set_get, if_neg (by omega), na_set_get, if_neg (by omega)]
  exact mS_get B L I f e 1 h1 h2
theorem sR_seta {f : Nat → Int32} {I : Mm} {a j : Nat} {v : Int32} (h : a ≠ 44) : na_set (sR f I) a j v = sR f (na_set I a j v) := by
  funext x
  by_cases q : x = 44
  · subst q
    rw [na_set_off (Ne.symm h)]
    rfl
  · rw [sR_off q]
    by_cases q2 : x = a
    · subst q2
      funext y
      rw [na_set_get, na_set_get, sR_off q]
    · rw [na_set_off q2, na_set_off q2, sR_off q]
theorem TxE.er {B : Nat → Int32} {L : Nat} {I : Mm} {f : Nat → Int32} {e : Nat} {g h : Int32} {F : Nat → Int32} : TxE I (sR F (na_set (na_set (mT B L I e g) 43 10 h) 43 4 0)) F := by
  refine ⟨rfl, fun a j h1 h2 => ?_, rfl⟩
  rw [sR_off h1, na_set_get, if_neg (by omega), na_set_get, if_neg (by omega)]
  have q := mS_get B L I f e g h1 h2
  rw [mS, sR_off h1] at q
  exact q
set_option maxRecDepth 100000 in
set_option maxHeartbeats 4000000 in
theorem l_txE0 (sx : Nat × (Nat → Int32)) (B : Nat → Int32) (L : Nat) (I : Mm) (f : Nat → Int32) (e : Nat) (he : e ≤ L) (x : Int32) (J : Ml) (Rt : Option Value → Mm → Ml → Prop) (hE : ∀ Y g, E76 g (I 53) → TxE I Y g → Rt (some (.int (-1 - nI (tSt B L e)))) Y (jS B L J e)) : GW sx (na_mi MX4_text) Rt 23 [some (.ref 43), some (.int x), some (.int 0)] [] (mS B L I f e 0) (jS B L J e) := by
  refine GW.run kX4_text (fun _ => false) 97 15 rfl ?_
  refine And.intro (fun _ => ?_) (fun hh => absurd hh (by decide))
  refine And.intro (fun _ => ?_) (fun hh => absurd (show (0 : Int32) = 0 from rfl) hh)
  refine And.intro (by first | exact Or.inl rfl | exact Or.inr rfl) ?_
  refine And.intro (fun hh => absurd (show (0 : Int32) = 0 from rfl) hh) (fun _ => ?_)
  refine Mt.conseq (Mt.eqI (show na_set (na_set (mS B L I f e 0) 43 10 0) 43 4 0 = sR f (na_set (na_set (mT B L I e 0) 43 10 0) 43 4 0) by rw [mS, sR_seta (by decide), sR_seta (by decide)]) (m_rs53 _ _ _ _)) ?_
  rintro _ _ _ ⟨rfl, rfl, rfl⟩
  exact ⟨trivial, hE _ (mv 76 (I 53) f) (mv_E _ _) (TxE.er (f := f) (g := 0))⟩
set_option maxRecDepth 100000 in
set_option maxHeartbeats 4000000 in
theorem l_txE1 (sx : Nat × (Nat → Int32)) (B : Nat → Int32) (L : Nat) (I : Mm) (f : Nat → Int32) (e : Nat) (he : e ≤ L) (x : Int32) (J : Ml) (Rt : Option Value → Mm → Ml → Prop) (hE : ¬ tK B L e = 3 → ∀ Y g, E76 g (I 53) → TxE I Y g → Rt (some (.int (-1 - nI (tSt B L e)))) Y (jS B L J e)) (hK : tK B L e = 3 → ∀ Y, TxE I Y f → Rt (some (.int x)) Y (jS B L J e)) : GW sx (na_mi MX4_text) Rt 23 [some (.ref 43), some (.int x), some (.int 0)] [] (mS B L I f e 1) (jS B L J e) := by
  refine GW.run kX4_text (fun _ => false) 97 15 rfl ?_
  refine And.intro (fun _ => ?_) (fun hh => absurd hh (by decide))
  refine And.intro (fun hh => absurd hh (show ¬ (1 : Int32) = 0 by decide)) (fun _ => ?_)
  refine And.intro (fun h1 => ?_) (fun h1 => ?_)
  · -- pc 83 .ifCond .ne 7: yes
    refine And.intro (by first | exact Or.inl rfl | exact Or.inr rfl) ?_
    refine And.intro (fun hh => absurd (show (0 : Int32) = 0 from rfl) hh) (fun _ => ?_)
    refine Mt.conseq (Mt.eqI (show na_set (na_set (mS B L I f e 1) 43 10 0) 43 4 0 = sR f (na_set (na_set (mT B L I e 1) 43 10 0) 43 4 0) by rw [mS, sR_seta (by decide), sR_seta (by decide)]) (m_rs53 _ _ _ _)) ?_
    rintro _ _ _ ⟨rfl, rfl, rfl⟩
    exact ⟨trivial, hE (fun z => h1 ((srt0 (tK_5 B L e)).mpr z)) _ (mv 76 (I 53) f) (mv_E _ _) (TxE.er (f := f) (g := 1))⟩
  · -- pc 83 .ifCond .ne 7: no
    refine And.intro (by first | exact Or.inl rfl | exact Or.inr rfl) ?_
    refine And.intro (fun _ => ?_) (fun hh => absurd hh (show ¬ (1 : Int32) = 0 by decide))
    exact ⟨trivial, hK ((srt0 (tK_5 B L e)).mp h1) _ TxE.ok⟩
set_option maxRecDepth 100000 in
set_option maxHeartbeats 4000000 in
theorem l_txt (sx : Nat × (Nat → Int32)) (B : Nat → Int32) (L : Nat) (hL1 : L ≤ 120) (hr : ∀ j, j < L → rg 0 255 (B j)) (I : Mm) (hL : I 43 4 = nI L) (hB : ∀ j, j < L → I 47 j = B j) (R : TR) (J : Ml) (Rt : Option Value → Mm → Ml → Prop) (hR1 : ∀ Y f N P k e, R = .inr (k, N) → NOk P N → Agr P (vN f) N → TxE I Y f → Rt (some (.int (nI k))) Y (jS B L J e)) (hR2 : ∀ Y g e, R = .inl e → e ≤ L → E76 g (I 53) → TxE I Y g → Rt (some (.int (-1 - nI (tSt B L e)))) Y (jS B L J e)) : ∀ m n e N P f so be va w, n + m = 120 → e ≤ L → n ≤ e → NOk P N → Agr P (vN f) N → plR B L m e N (n + 1) = R → GW sx (na_mi MX4_text) Rt 23 [some (.ref 43), some (.int (nI n)), some (.int 1)] [] (sR f (mdT I so be (nI e) va 1)) (jW J w) := by
  intro m
  induction m with
  | zero =>
    intro n e N P f so be va w hn he hne hN ha hw
    obtain rfl : n = 120 := by omega
    have hz : ¬ (1 : Int32) = 0 := by decide
    have hend : tiR B L e N = .inl e := ti_end (tK_end (by omega))
    refine GW.run kX4_text (fun pc => Nat.beq pc 23) 97 15 rfl ?_
    refine And.intro (fun hh => absurd hh hz) (fun _ => ?_)
    refine Mt.conseq (Mt.eqI mdT_sR.symm (m_adv _ B L hL1 hr (sR f I) hL hB e he so be va 1 w J)) ?_
    rintro _ _ _ ⟨rfl, rfl, rfl⟩
    refine Mt.conseq (Mt.eqI mT_sR (m_witem _ B L hL1 hr I hL hB N P hN f ha e he J)) ?_
    rintro _ _ _ ⟨rfl, ⟨eZ, NZ, fZ, PZ, h2, heZ, hNZ, haZ, rfl, rfl⟩ | ⟨eZ, fZ, h2, heZ, rfl, rfl⟩⟩
    · -- pc 32 call X4_wantItem ok
      exact absurd (hend.symm.trans h2) (fun z => by cases z)
    · -- pc 32 call X4_wantItem er
      refine And.intro (fun _ => ?_) (fun hh => absurd (show (0 : Int32) = 0 from rfl) hh)
      have hRe : R = .inl eZ := by
        have q := hend.symm.trans h2
        rw [← hw, plR]
        exact q
      exact GW.weak (l_txE0 sx B L I fZ eZ heZ _ J Rt (fun Y g h1 h2 => hR2 Y g eZ hRe heZ h1 h2)) ⟨rfl, rfl, rfl, trivial⟩
  | succ m ih =>
    intro n e N P f so be va w hn he hne hN ha hw
    have hz : ¬ (1 : Int32) = 0 := by decide
    refine GW.run kX4_text (fun pc => Nat.beq pc 23) 97 15 rfl ?_
    refine And.intro (fun hh => absurd hh hz) (fun _ => ?_)
    refine Mt.conseq (Mt.eqI mdT_sR.symm (m_adv _ B L hL1 hr (sR f I) hL hB e he so be va 1 w J)) ?_
    rintro _ _ _ ⟨rfl, rfl, rfl⟩
    refine Mt.conseq (Mt.eqI mT_sR (m_witem _ B L hL1 hr I hL hB N P hN f ha e he J)) ?_
    rintro _ _ _ ⟨rfl, ⟨eZ, NZ, fZ, PZ, h2, heZ, hNZ, haZ, rfl, rfl⟩ | ⟨eZ, fZ, h2, heZ, rfl, rfl⟩⟩
    · -- pc 32 call X4_wantItem ok
      refine And.intro (fun hh => absurd hh (show ¬ (1 : Int32) = 0 by decide)) (fun _ => ?_)
      refine And.intro (fun h3 => ?_) (fun h3 => ?_)
      · -- pc 50 .if_icmp .ne 16: yes
        have k2 : ¬ tK B L eZ = 2 := fun z => h3 (sgn_iff.mp z).1
        rw [plR, bindR_ok h2] at hw
        exact GW.weak (l_txE1 sx B L I fZ eZ heZ (nI (n + 1)) J Rt (fun k3 Y g h1 h2 => hR2 Y g eZ (by rw [← hw, if_neg k3, if_neg k2]) heZ h1 h2) (fun k3 Y h2 => hR1 Y fZ NZ PZ (n + 1) eZ (by rw [← hw, if_pos k3]) hNZ haZ h2)) ⟨rfl, by rw [nI_1], rfl, trivial⟩
      · -- pc 50 .if_icmp .ne 16: no
        refine And.intro (fun h4 => ?_) (fun h4 => ?_)
        · -- pc 59 .if_icmp .ne 7: yes
          have k2 : ¬ tK B L eZ = 2 := fun z => h4 (sgn_iff.mp z).2
          rw [plR, bindR_ok h2] at hw
          exact GW.weak (l_txE1 sx B L I fZ eZ heZ (nI (n + 1)) J Rt (fun k3 Y g h1 h2 => hR2 Y g eZ (by rw [← hw, if_neg k3, if_neg k2]) heZ h1 h2) (fun k3 Y h2 => hR1 Y fZ NZ PZ (n + 1) eZ (by rw [← hw, if_pos k3]) hNZ haZ h2)) ⟨rfl, by rw [nI_1], rfl, trivial⟩
        · -- pc 59 .if_icmp .ne 7: no
          have k2 : tK B L eZ = 2 := sgn_iff.mpr ⟨h3, h4⟩
          rw [plR, bindR_ok h2, if_neg (by omega), if_pos k2] at hw
          have hti := tiR_ok he ⟨P, hN⟩ h2
          have hlt := tK2_lt heZ k2
          exact GW.weak (ih (n + 1) (tE B L eZ) NZ PZ fZ _ _ _ _ (by omega) (tE_le heZ) (by omega) hNZ haZ hw) ⟨rfl, by rw [nI_1], rfl, trivial⟩
    · -- pc 32 call X4_wantItem er
      refine And.intro (fun _ => ?_) (fun hh => absurd (show (0 : Int32) = 0 from rfl) hh)
      have hRe : R = .inl eZ := by
        rw [← hw, plR, bindR_er h2]
      exact GW.weak (l_txE0 sx B L I fZ eZ heZ _ J Rt (fun Y g h1 h2 => hR2 Y g eZ hRe heZ h1 h2)) ⟨rfl, rfl, rfl, trivial⟩
theorem m_kp2 (sx : Nat × (Nat → Int32)) (f : Nat → Int32) (I : Mm) (J : Ml) : Mt sx MX4_moveAll [.ref 43, .int 1, .ref 53] (sR f I) J (fun r' I' J' => (∃ t, sR f (sA 53 t I) = I' ∧ E76 t f) ∧ J = J' ∧ r' = none) :=
  Mt.conseq (m_kp53 sx f I J) (by
    rintro _ _ _ ⟨rfl, rfl, rfl⟩
    exact ⟨⟨_, rfl, mv_E _ _⟩, rfl, rfl⟩)
/-- behind a text -/
theorem Sim.text {I Y : Mm} {J J' : Ml} (h : Sim I J) (hn : Nt 1 44 Y) (e : ∀ a j, ¬ (1 ≤ a ∧ a ≤ 10) → a ≠ 44 → ¬ jk a j → ¬ (a = 31 ∧ j = 1) → ¬ (a = 43 ∧ j = 4) → Y a j = I a j) (h31 : Y 31 1 = 0) (h43 : Y 43 4 = 0) (eJ : ∀ a, a ≠ 51 → a ≠ 43 → J' a = J a) : Sim Y J' := by
  have ea : ∀ a, ¬ (1 ≤ a ∧ a ≤ 10) → a ≠ 44 → (∀ j, ¬ jk a j) → a ≠ 31 → a ≠ 43 → Y a = I a := fun a h1 h2 h3 h4 h5 => funext fun j => e a j h1 h2 (h3 j) (by omega) (by omega)
  obtain ⟨h1, ⟨h2, h2'⟩, -, h4, h5⟩ := h
  refine ⟨hn, ⟨?_, ?_⟩, ⟨0, by decide, h31, h43, fun j hj => by omega⟩, fun s hs => ?_, fun k hk => ?_⟩
  · rw [e 0 3 (by omega) (by omega) (by unfold jk; omega) (by omega) (by omega), e 43 17 (by omega) (by omega) (by unfold jk; omega) (by omega) (by omega)]; exact h2
  · rw [e 0 3 (by omega) (by omega) (by unfold jk; omega) (by omega) (by omega)]
    rcases h2' with q | ⟨q, q2⟩
    · exact Or.inl q
    · exact Or.inr ⟨q, q2.eq (fun a q1 q2 => ea a (by omega) (by omega) (fun j q => by unfold jk at q; omega) (by omega) (by omega)) (ea 52 (by omega) (by omega) (fun j q => by unfold jk at q; omega) (by omega) (by omega))⟩
  · obtain ⟨s1, s2, n, s3, s4, s5, s6⟩ := h4 s hs
    unfold Sh
    rw [e (34 + 2 * s) 1 (by omega) (by omega) (by unfold jk; omega) (by omega) (by omega), e 48 s (by omega) (by omega) (by unfold jk; omega) (by omega) (by omega), e (34 + 2 * s) 2 (by omega) (by omega) (by unfold jk; omega) (by omega) (by omega), e 49 s (by omega) (by omega) (by unfold jk; omega) (by omega) (by omega), eJ (35 + 2 * s) (by omega) (by omega), eJ 50 (by decide) (by decide)]
    exact ⟨s1, s2, n, s3, s4, s5, s6⟩
  · rw [e 42 k (by omega) (by omega) (by unfold jk; omega) (by omega) (by omega), e 45 k (by omega) (by omega) (by unfold jk; omega) (by omega) (by omega)]; exact h5 k hk
theorem jS_off {B : Nat → Int32} {L e a : Nat} {J : Ml} (h : a ≠ 43) : jS B L J e a = J a := by
  funext j
  unfold jS jW
  rw [na_setL_get, if_neg (by omega)]
theorem yS_off {I N : Mm} {L e a j : Nat} {x : Int32} (h1 : ¬ (21 ≤ a ∧ a ≤ 30)) (h2 : a ≠ 31 ∨ (j ≠ 2 ∧ j ≠ 3 ∧ j ≠ 4 ∧ j ≠ 5)) : yS I N L e x a j = I a j := by
  rw [yS, pN_out (by omega), clT_get]
  by_cases q : a = 31
  · subst q
    rw [if_pos rfl, if_neg (by omega), if_neg (by omega), if_neg (by omega), if_neg (by omega)]
  · rw [if_neg q]
set_option maxRecDepth 100000 in
set_option maxHeartbeats 4000000 in
theorem pr_text (sx : Nat × (Nat → Int32)) : PrI sx MX3_text MX4_text [] := by
  intro I J hS
  obtain ⟨P, hN, ha, hP8, hP1, hP3, hpl⟩ := hS.nt
  have e73 : I 44 3 = I 1 7 := hP3.trans hP1.symm
  obtain ⟨L, t1, t2, t3, t4⟩ := hS.2.2.1
  refine Mt.of2 _ rfl (by decide +kernel) (Nat.le_of_ble_eq_true rfl) ?_
  refine GW.run kX3_text (fun _ => false) 49 0 rfl ?_
  refine Mt.conseq (c_sah _ P hP8 I hP1 _) ?_
  rintro _ _ _ ⟨⟨M, rfl, h1⟩, rfl, rfl⟩
  have hM := h1
  have hMO := hN.agr h1
  refine Mt.conseq (c_tell _ L t1 I t2 M ⟨P, hMO⟩ _) ?_
  rintro _ _ _ ⟨rfl, ⟨e1, N1, x1, k1, hR, hk1, hk2, he1, ⟨P1, hN1⟩, rfl, rfl⟩ | ⟨e1, N1, x1, hR, he1, rfl, rfl⟩⟩
  · -- pc 8 call X2_tell ok
    refine And.intro (fun hh => absurd hh (nI_pos (by omega))) (fun _ => ?_)
    refine Mt.conseq (c_bec_1_21 _ P1 hN1.2.2.2.1 (yS I N1 L e1 x1) hN1.2.2.1 _) ?_
    rintro _ _ _ ⟨⟨M2, rfl, h3⟩, rfl, rfl⟩
    have hM2 := h3
    refine ⟨trivial, _, rfl, ?_⟩
    refine Mt.of2 _ rfl (by decide +kernel) (Nat.le_of_ble_eq_true rfl) ?_
    refine GW.run kX4_text (fun pc => Nat.beq pc 23) 97 0 rfl ?_
    refine Mt.conseq ((by have h := m_kp2 sx (I 44) (na_set (pN 1 M2 (yS I N1 L e1 x1)) 31 1 0) J; rw [show sR (I 44) (na_set (pN 1 M2 (yS I N1 L e1 x1)) 31 1 0) = na_set (pN 1 M2 (yS I N1 L e1 x1)) 31 1 0 from sR_self (na_set (pN 1 M2 (yS I N1 L e1 x1)) 31 1 0)] at h; exact h)) ?_
    rintro _ _ _ ⟨⟨t, rfl, g1⟩, rfl, rfl⟩
    have ht := g1
    refine And.intro (by first | exact Or.inl rfl | exact Or.inr rfl) ?_
    have hm : na_set (na_set (sR (I 44) (sA 53 t (na_set (pN 1 M2 (yS I N1 L e1 x1)) 31 1 0))) 43 7 0) 43 10 1 = sR (I 44) (mdT (sA 53 t (na_set (pN 1 M2 (yS I N1 L e1 x1)) 31 1 0)) ((sA 53 t (na_set (pN 1 M2 (yS I N1 L e1 x1)) 31 1 0)) 43 5) ((sA 53 t (na_set (pN 1 M2 (yS I N1 L e1 x1)) 31 1 0)) 43 6) (nI 0) ((sA 53 t (na_set (pN 1 M2 (yS I N1 L e1 x1)) 31 1 0)) 43 9) 1) := by
      have q := md_self (sR (I 44) (sA 53 t (na_set (pN 1 M2 (yS I N1 L e1 x1)) 31 1 0)))
      conv => lhs; rw [← q]
      rw [md_7, md_10, mdT_sR]
      rfl
    have off : ∀ a j, ¬ (1 ≤ a ∧ a ≤ 10) → a ≠ 44 → ¬ jk a j → ¬ (a = 31 ∧ j = 1) → (sA 53 t (na_set (pN 1 M2 (yS I N1 L e1 x1)) 31 1 0)) a j = I a j := fun a j h1 h2 h3 h4 => by
      unfold jk at h3
      rw [sA_off (by omega), na_set_get, if_neg (by omega), pN_out (by omega), yS_off (by omega) (by omega)]
    refine GW.weak (GW.eqIJ hm (jW_self J).symm (l_txt sx (I 32) L t1 (fun j hj => (t4 j hj).2) (sA 53 t (na_set (pN 1 M2 (yS I N1 L e1 x1)) 31 1 0)) t3 (fun j hj => (t4 j hj).1.symm) (plR (I 32) L 120 0 M 1) J _ ?_ ?_ 120 0 0 M P (I 44) _ _ _ _ rfl (Nat.zero_le _) (Nat.zero_le _) hMO (ha.trans hM.symm) rfl)) ⟨rfl, rfl, rfl, trivial⟩
    · intro Y f N P2 k e hk hNk hak hY
      have hq := hR.symm.trans hk
      cases hq
      obtain rfl : P2 = P1 := by
        have h1 := hNk.2.2.2.1
        have h2 := hN1.2.2.2.1
        exact (nI_eq (by omega) (by omega)).mp (hNk.2.2.1.symm.trans hN1.2.2.1)
      have hg : Agr P2 (gN 1 Y) N1 := by
        have e1 : gN 1 Y = gN 1 (pN 1 M2 (yS I N1 L e1 x1)) := gN_eq fun a q1 q2 => funext fun j => (hY.2.1 a j (by omega) (by omega)).trans (by rw [sA_off (by omega), na_set_get, if_neg (by omega)])
        rw [e1]
        exact gN_pN.trans (hM2.trans gN_pN)
      refine ⟨rfl, hS.text ⟨P2, hN1.agr hg, ?_⟩ (fun a j h1 h2 h3 h4 h5 => (hY.2.1 a j h2 (by unfold jk at h3; omega)).trans (off a j h1 h2 h3 h4)) ?_ hY.2.2 (fun a h1 h2 => jS_off h2)⟩
      · rw [hY.1]
        exact hak.trans hg.symm
      · exact (hY.2.1 31 1 (by decide) (by omega)).trans (by rw [sA_off (by decide), na_set_get, if_pos ⟨rfl, rfl⟩])
    · intro Y g e hk
      exact absurd (hR.symm.trans hk) (fun z => by cases z)
  · -- pc 8 call X2_tell er
    refine And.intro (fun _ => ?_) (fun hh => absurd (neg1 (by have := (tSt_b (B := I 32) he1).2; omega)) hh)
    refine ⟨trivial, _, rfl, ?_⟩
    refine Mt.of2 _ rfl (by decide +kernel) (Nat.le_of_ble_eq_true rfl) ?_
    refine GW.run kX4_text (fun pc => Nat.beq pc 23) 97 0 rfl ?_
    refine Mt.conseq ((by have h := m_kp2 sx (I 44) (na_set (yS I N1 L e1 x1) 31 1 0) J; rw [show sR (I 44) (na_set (yS I N1 L e1 x1) 31 1 0) = na_set (yS I N1 L e1 x1) 31 1 0 from sR_self (na_set (yS I N1 L e1 x1) 31 1 0)] at h; exact h)) ?_
    rintro _ _ _ ⟨⟨t, rfl, g1⟩, rfl, rfl⟩
    have ht := g1
    refine And.intro (by first | exact Or.inl rfl | exact Or.inr rfl) ?_
    have hm : na_set (na_set (sR (I 44) (sA 53 t (na_set (yS I N1 L e1 x1) 31 1 0))) 43 7 0) 43 10 1 = sR (I 44) (mdT (sA 53 t (na_set (yS I N1 L e1 x1) 31 1 0)) ((sA 53 t (na_set (yS I N1 L e1 x1) 31 1 0)) 43 5) ((sA 53 t (na_set (yS I N1 L e1 x1) 31 1 0)) 43 6) (nI 0) ((sA 53 t (na_set (yS I N1 L e1 x1) 31 1 0)) 43 9) 1) := by
      have q := md_self (sR (I 44) (sA 53 t (na_set (yS I N1 L e1 x1) 31 1 0)))
      conv => lhs; rw [← q]
      rw [md_7, md_10, mdT_sR]
      rfl
    have off : ∀ a j, ¬ (1 ≤ a ∧ a ≤ 10) → a ≠ 44 → ¬ jk a j → ¬ (a = 31 ∧ j = 1) → (sA 53 t (na_set (yS I N1 L e1 x1) 31 1 0)) a j = I a j := fun a j h1 h2 h3 h4 => by
      unfold jk at h3
      rw [sA_off (by omega), na_set_get, if_neg (by omega), yS_off (by omega) (by omega)]
    refine GW.weak (GW.eqIJ hm (jW_self J).symm (l_txt sx (I 32) L t1 (fun j hj => (t4 j hj).2) (sA 53 t (na_set (yS I N1 L e1 x1) 31 1 0)) t3 (fun j hj => (t4 j hj).1.symm) (plR (I 32) L 120 0 M 1) J _ ?_ ?_ 120 0 0 M P (I 44) _ _ _ _ rfl (Nat.zero_le _) (Nat.zero_le _) hMO (ha.trans hM.symm) rfl)) ⟨rfl, rfl, rfl, trivial⟩
    · intro Y f N P2 k e hk
      exact absurd (hR.symm.trans hk) (fun z => by cases z)
    · intro Y g e hk hel hg hY
      have hq := hR.symm.trans hk
      cases hq
      have hgE : E76 g (I 44) := fun j hj => (hg j hj).trans (by show t j = I 44 j; exact ht j hj)
      have e1 : gN 1 Y = gN 1 I := gN_eq fun a q1 q2 => funext fun j => (hY.2.1 a j (by omega) (by omega)).trans (by rw [sA_off (by omega), na_set_get, if_neg (by omega), yS_off (by omega) (by omega)])
      refine ⟨rfl, hS.text ⟨P, by rw [e1]; exact hN, ?_⟩ (fun a j h1 h2 h3 h4 h5 => (hY.2.1 a j h2 (by unfold jk at h3; omega)).trans (off a j h1 h2 h3 h4)) ?_ hY.2.2 (fun a h1 h2 => jS_off h2)⟩
      · rw [e1, hY.1]
        exact (hgE.agr hP8).trans ha
      · exact (hY.2.1 31 1 (by decide) (by omega)).trans (by rw [sA_off (by decide), na_set_get, if_pos ⟨rfl, rfl⟩])
