/-! PAIRS: fire, leaked -/
theorem or_z {a b : Int32} (h : a ||| b = 0) : a = 0 ∧ b = 0 := by
  have h2 := congrArg Int32.toBitVec h
  rw [Int32.toBitVec_or] at h2
  have h3 := BitVec.or_eq_zero_iff.mp h2
  exact ⟨Int32.toBitVec_inj.1 h3.1, Int32.toBitVec_inj.1 h3.2⟩
theorem itH_in (P : Nat) : ∀ (n : Nat) (N : Mm), itH P (n + 1) N = itH P n (hrN P N)
  | 0, N => rfl
  | n + 1, N => by rw [itH, itH_in P n N]; rfl
/-- whoever is stifled stays so -/
theorem stf_mono {P : Nat} (hP8 : P ≤ 8) {N : Mm} (hr : InvR N) (h : InvP P N) : ∀ n, ∃ x, stf (itH P n N) P = stf N P ||| x
  | 0 => ⟨0, (or0 _).symm⟩
  | n + 1 => by
    obtain ⟨x, hx⟩ := stf_mono hP8 hr h n
    have hi := itH_inv hP8 hr h n
    exact ⟨x ||| hrW P (itH P n N), by rw [itH, stf_hr hP8 hi.1 hi.2, hx, or_asc]⟩
theorem well_iff {P : Nat} (hP8 : P ≤ 8) (s : Int32) : ∀ (K : Nat) {N : Mm}, InvR N → InvP P N → stf N P &&& s = 0 → (wl P s K N = K ↔ stf (itH P K N) P &&& s = 0)
  | 0, N, hr, h, h0 => ⟨fun _ => h0, fun _ => rfl⟩
  | K + 1, N, hr, h, h0 => by
    have hi := hrN_inv hP8 hr h
    rw [wl, itH_in]
    by_cases hc : hrW P N &&& s = 0
    · rw [if_pos hc, ← well_iff hP8 s K hi.1 hi.2 (by rw [stf_hr hP8 hr h, or_and, h0, hc, or0])]
      omega
    · rw [if_neg hc]
      refine ⟨fun q => by omega, fun q => ?_⟩
      obtain ⟨x, hx⟩ := stf_mono hP8 hi.1 hi.2 K
      rw [hx, stf_hr hP8 hr h, or_and, or_and] at q
      exact absurd (or_z (or_z q).1).2 hc
/-- is it well for K hours: both sides -/
theorem iw_iff {P K : Nat} {f : Nat → Int32} {N : Mm} (hN : NOk P N) (ha : Agr P (vN f) N) : stf (vN (itM P K f)) P &&& wo (vN f) P = 0 ↔ wl P 255 K N = K := by
  have hP8 := hN.2.2.2.1
  rw [stf_c (itM_ag hP8 ha hN.1 hN.2.1 K) P (Nat.le_refl _), wo_c ha, wl_all hP8 K hN.1 hN.2.1 rfl]
  exact (well_iff hP8 _ K hN.1 hN.2.1 (stf_wo hP8 hN.2.1)).symm
theorem m_iw2 (sx : Nat × (Nat → Int32)) (f : Nat → Int32) (P : Nat) (hP : f 3 = nI P) (hP8 : P ≤ 8) (hpl : ∀ p, p < P → vp_in (f (36 + 5 * p + 1)) 8) (K : Nat) (hK : K ≤ 60) (t : Nat → Int32) (I : Mm) (J : Ml) {C : Prop} (hv : stf (vN (itM P K f)) P &&& wo (vN f) P = 0 ↔ C) : Mt sx MX4_isWell [.ref 43, .int (nI K)] (sR f (sA 46 t I)) J (fun r' I' J' => (∃ g t, sR g (sA 46 t I) = I' ∧ E76 g f) ∧ J = J' ∧ ((C ∧ r' = some (.int 1)) ∨ (¬ C ∧ r' = some (.int 0)))) :=
  Mt.conseq (m_iw sx f P hP hP8 hpl K hK (sA 46 t I) J) (by
    rw [hv]
    rintro _ _ _ ⟨⟨g, t2, rfl, h⟩, rfl, h3⟩
    exact ⟨⟨g, t2, by rw [sA_sA], h⟩, rfl, h3⟩)
theorem mx_nI {n : Nat} (h : n ≤ 9999) : mx (nI n) = nI n := mx_id (by rw [nI_toInt (by omega)]; omega)
theorem rg99 {n : Nat} (h : n < 100) : rg 0 99 (nI n) := ⟨by rw [nI_toInt (by omega)]; omega, by rw [nI_toInt (by omega)]; omega⟩
theorem rg9 {n : Nat} (h : n < 10) : rg 0 9 (nI n) := ⟨by rw [nI_toInt (by omega)]; omega, by rw [nI_toInt (by omega)]; omega⟩
def fiV (P K r : Nat) (N : Mm) (i : Nat) : Nat := wl P 255 K (na_set N 3 r (nI i))
theorem fiV_le (P K r : Nat) (N : Mm) (i : Nat) : fiV P K r N i ≤ K := wl_le _ _ _ _
set_option maxRecDepth 100000 in
set_option maxHeartbeats 4000000 in
theorem l_fiC (sx : Nat × (Nat → Int32)) (P : Nat) (hP8 : P ≤ 8) (I : Mm) (hP1 : I 1 7 = nI P) (hN : NOk P (gN 1 I)) (r : Nat) (hr : r < 8) (K : Nat) (hK : K ≤ 40) (W : Nat) (J : Ml) (Rt : Option Value → Mm → Ml → Prop) (hR1 : ∀ X, W < 100 → Rt (some (.int (nI W))) (pN 21 X I) J) (hR2 : ∀ X, W = 100 → Rt (some (.int (-1000000004))) (fnd (pN 21 X I) 3) J) : ∀ m n X, n + m = 100 → fdB (fun i => decide (fiV P K r (gN 1 I) i = K)) m n = W → GW sx (na_mi MX3_fire) Rt 26 [some (.ref 0), some (.int (nI r)), some (.int (nI K)), some (.int (nI n)), none] [] (pN 21 X I) J := by
  have hbr : vp_in (nI r) 8 := vp_in_nI (by omega) (by omega)
  have hcr := nI_clamp (n := r) (by omega)
  intro m
  induction m with
  | zero =>
    intro n X hn hw
    obtain rfl : n = 100 := by omega
    have hz : (99 : Int32) < nI 100 := by decide
    refine GW.run kX3_fire (fun pc => Nat.beq pc 26) 69 14 rfl ?_
    refine And.intro (fun _ => ?_) (fun hh => absurd hz hh)
    refine Mt.conseq (c_fnd3 _ _ _) ?_
    rintro _ _ _ ⟨rfl, rfl, rfl⟩
    exact ⟨trivial, hR2 X hw.symm⟩
  | succ m ih =>
    intro n X hn hw
    have hz : ¬ (99 : Int32) < nI n := nI_nlt (a := 99) (b := n) (by omega) (by omega)
    refine GW.run kX3_fire (fun pc => Nat.beq pc 26) 69 14 rfl ?_
    refine And.intro (fun hh => absurd hh hz) (fun _ => ?_)
    refine Mt.conseq (c_sah2 _ P hP8 I hP1 _ _) ?_
    rintro _ _ _ ⟨⟨M, rfl, h1⟩, rfl, rfl⟩
    have hM2 := Agr.set h1 3 r (nI n)
    have hN3 := hN.r3 (j := r) (rg99 (n := n) (by omega))
    have hok := Agr.ok hM2 hN3
    have ev : wl P 255 K (na_set M 3 r (nI n)) = fiV P K r (gN 1 I) n := by
      rw [fiV, wl_c 255 K hM2 hN3.2.1.pl]
    refine And.intro (hbr) ?_
    refine Mt.conseq ((by have h := c_wl sx 21 (Or.inr rfl) (na_set M 3 r (nI n)) P hok.1 hP8 hok.2 255 K (by omega) I J; rw [← pN_set (pl := 24) (by decide) rfl, ev] at h; rw [hcr]; exact h)) ?_
    rintro _ _ _ ⟨⟨X2, rfl⟩, rfl, rfl⟩
    refine And.intro (fun h3 => ?_) (fun h3 => ?_)
    · -- pc 56 .if_icmp .ne 5: yes
      rw [fdB, if_neg (fun q => h3 (congrArg nI (of_decide_eq_true q)))] at hw
      exact GW.weak (ih (n + 1) X2 (by omega) hw) ⟨rfl, rfl, rfl, by rw [nI_1], trivial⟩
    · -- pc 56 .if_icmp .ne 5: no
      have hle := fiV_le P K r (gN 1 I) n
      have he := (nI_eq (by omega) (by omega)).mp h3
      rw [fdB, if_pos (decide_eq_true he)] at hw
      obtain rfl := hw
      exact ⟨trivial, hR1 X2 (by omega)⟩
set_option maxRecDepth 100000 in
set_option maxHeartbeats 4000000 in
theorem l_fiE (sx : Nat × (Nat → Int32)) (f : Nat → Int32) (N : Mm) (P : Nat) (hP8 : P ≤ 8) (hN : NOk P N) (ha : Agr P (vN f) N) (r : Nat) (hr : r < 8) (K : Nat) (hK : K ≤ 40) (W : Nat) (I : Mm) (hW : W ≤ 100) (J : Ml) (Rt : Option Value → Mm → Ml → Prop) (hR1 : ∀ g t, E76 g f → W < 100 → Rt (some (.int (nI W))) (sR g (sA 46 t I)) J) (hR2 : ∀ g t, E76 g f → W = 100 → Rt (some (.int (-1000000004))) (fnM (sR g (sA 46 t I)) 3) J) : ∀ g t y, E76 g (upd f (4 + 4 * r + 2) y) → GW sx (na_mi MX4_fire) Rt 68 [some (.ref 43), some (.int (nI r)), some (.int (nI K)), some (.int (f (4 + 4 * r + 2))), some (.int (nI W))] [] (sR g (sA 46 t I)) J := by
  intro g t y hg
  have e3 : f (4 + 4 * r + 2) = N 3 r := ha.2.1 3 r (by decide) (by decide) hr
  have hm : mx (f (4 + 4 * r + 2)) = f (4 + 4 * r + 2) := mx_id (by rw [e3]; have := (hN.1 r hr).2.2.1.2; omega)
  refine GW.run kX4_fire (fun _ => false) 80 36 rfl ?_
  refine Mt.conseq (m_lies _ (f (4 + 4 * r + 2)) r 2 (by omega) (by decide) _ (by decide) _ _ _) ?_
  rintro _ _ _ ⟨rfl, rfl, rfl⟩
  refine And.intro (fun h2 => ?_) (fun h2 => ?_)
  · -- pc 79 .if_icmp .le 12: yes
    have hE : E76 (upd g (4 + 4 * r + 2) (mx (f (4 + 4 * r + 2)))) f := by rw [hm]; exact E76.back hg
    have hl : W < 100 := by
      have q : nI W ≤ 99 := h2
      rw [le_i, nI_toInt (by omega)] at q
      have e9 : (99 : Int32).toInt = 99 := by decide
      omega
    exact ⟨trivial, hR1 _ t hE hl⟩
  · -- pc 79 .if_icmp .le 12: no
    refine Mt.conseq (m_fnd3 _ _ _) ?_
    rintro _ _ _ ⟨rfl, rfl, rfl⟩
    have hE : E76 (upd g (4 + 4 * r + 2) (mx (f (4 + 4 * r + 2)))) f := by rw [hm]; exact E76.back hg
    have hl : W = 100 := by
      have q : ¬ nI W ≤ 99 := h2
      rw [le_i, nI_toInt (by omega)] at q
      have e9 : (99 : Int32).toInt = 99 := by decide
      omega
    exact ⟨trivial, hR2 _ t hE hl⟩
set_option maxRecDepth 100000 in
set_option maxHeartbeats 4000000 in
theorem l_fiM (sx : Nat × (Nat → Int32)) (f : Nat → Int32) (N : Mm) (P : Nat) (hP8 : P ≤ 8) (hN : NOk P N) (ha : Agr P (vN f) N) (r : Nat) (hr : r < 8) (K : Nat) (hK : K ≤ 40) (W : Nat) (I : Mm) (J : Ml) (Rt : Option Value → Mm → Ml → Prop) (hR1 : ∀ g t, E76 g f → W < 100 → Rt (some (.int (nI W))) (sR g (sA 46 t I)) J) (hR2 : ∀ g t, E76 g f → W = 100 → Rt (some (.int (-1000000004))) (fnM (sR g (sA 46 t I)) 3) J) : ∀ m n g t, n + m = 100 → E76 g (upd f (4 + 4 * r + 2) (nI n)) → fdB (fun i => decide (fiV P K r N i = K)) m n = W → GW sx (na_mi MX4_fire) Rt 39 [some (.ref 43), some (.int (nI r)), some (.int (nI K)), some (.int (f (4 + 4 * r + 2))), some (.int (nI n))] [] (sR g (sA 46 t I)) J := by
  intro m
  induction m with
  | zero =>
    intro n g t hn hg hw
    obtain rfl : n = 100 := by omega
    have hz : (99 : Int32) < nI 100 := by decide
    refine GW.run kX4_fire (fun pc => Nat.beq pc 39 || Nat.beq pc 68) 80 22 rfl ?_
    refine And.intro (fun _ => ?_) (fun hh => absurd hz hh)
    obtain rfl : 100 = W := hw
    exact GW.weak (l_fiE sx f N P hP8 hN ha r hr K hK 100 I (by omega) J Rt hR1 hR2 g t _ hg) ⟨rfl, rfl, rfl, rfl, rfl, trivial⟩
  | succ m ih =>
    intro n g t hn hg hw
    have hz : ¬ (99 : Int32) < nI n := nI_nlt (a := 99) (b := n) (by omega) (by omega)
    have hN3 := hN.r3 (j := r) (rg99 (n := n) (by omega))
    have hga : Agr P (vN g) (na_set N 3 r (nI n)) := (hg.agr hP8).trans (agR hP8 ha hr (w := 2) (by decide) _)
    have hA := Agr.ok hga hN3
    have hval : stf (vN (itM P K g)) P &&& wo (vN g) P = 0 ↔ fiV P K r N n = K := iw_iff hN3 hga
    refine GW.run kX4_fire (fun pc => Nat.beq pc 39 || Nat.beq pc 68) 80 22 rfl ?_
    refine And.intro (fun hh => absurd hh hz) (fun _ => ?_)
    refine Mt.conseq (m_iw2 _ g P hA.1 hP8 hA.2 K (by omega) t _ _ hval) ?_
    rintro _ _ _ ⟨⟨g2, t2, rfl, h1⟩, rfl, ⟨hw1, rfl⟩ | ⟨hw1, rfl⟩⟩
    · -- pc 48 call X4_isWell true
      refine And.intro (fun _ => ?_) (fun hh => absurd hh (by decide))
      rw [fdB, if_pos (decide_eq_true hw1)] at hw
      obtain rfl := hw
      exact GW.weak (l_fiE sx f N P hP8 hN ha r hr K hK n I (by omega) J Rt hR1 hR2 g2 t2 _ (fun j hj => (h1 j hj).trans (hg j hj))) ⟨rfl, rfl, rfl, rfl, rfl, trivial⟩
    · -- pc 48 call X4_isWell false
      refine And.intro (fun hh => absurd hh (by decide)) (fun _ => ?_)
      refine Mt.conseq ((by rw [nI_1]; exact m_lies _ (nI (n + 1)) r 2 (by omega) (by decide) _ (by decide) _ _ _)) ?_
      rintro _ _ _ ⟨rfl, rfl, rfl⟩
      rw [fdB, if_neg (fun q => hw1 (of_decide_eq_true q))] at hw
      have hE : E76 (upd g2 (4 + 4 * r + 2) (mx (nI (n + 1)))) (upd f (4 + 4 * r + 2) (nI (n + 1))) := by
        rw [mx_nI (by omega)]
        exact E76.put (fun j hj => (h1 j hj).trans (hg j hj)) _
      exact GW.weak (ih (n + 1) _ t2 (by omega) hE hw) ⟨rfl, rfl, rfl, rfl, by rw [nI_1], trivial⟩
set_option maxRecDepth 100000 in
set_option maxHeartbeats 4000000 in
theorem pr_fire (sx : Nat × (Nat → Int32)) (r n : Int32) : PrI sx MX3_fire MX4_fire [.int r, .int n] := by
  intro I J hS
  obtain ⟨P, hN, ha, hP8, hP1, hP3, hpl⟩ := hS.nt
  have e73 : I 44 3 = I 1 7 := hP3.trans hP1.symm
  refine Mt.of2 _ rfl (by decide +kernel) (Nat.le_of_ble_eq_true rfl) ?_
  refine GW.run kX3_fire (fun pc => Nat.beq pc 26) 69 0 rfl ?_
  refine Mt.conseq (c_noRoom _ _ _ _) ?_
  rintro _ _ _ ⟨rfl, rfl, ⟨h1, rfl⟩ | ⟨h1, rfl⟩⟩
  · -- pc 1 call X3_noRoom true
    refine And.intro (fun _ => ?_) (fun hh => absurd hh (by decide))
    refine Mt.conseq (c_fnd0 _ _ _) ?_
    rintro _ _ _ ⟨rfl, rfl, rfl⟩
    refine ⟨trivial, _, rfl, ?_⟩
    refine Mt.of2 _ rfl (by decide +kernel) (Nat.le_of_ble_eq_true rfl) ?_
    refine GW.run kX4_fire (fun pc => Nat.beq pc 39) 80 0 rfl ?_
    refine Mt.conseq (m_isRoom _ _ _ _) ?_
    rintro _ _ _ ⟨rfl, rfl, ⟨g1, rfl⟩ | ⟨g1, rfl⟩⟩
    · -- pc 1 call X4_isRoom true
      exact (out_in h1 g1).elim
    · -- pc 1 call X4_isRoom false
      refine And.intro (fun _ => ?_) (fun hh => absurd hh (by decide))
      refine Mt.conseq (m_fnd0 _ _ _) ?_
      rintro _ _ _ ⟨rfl, rfl, rfl⟩
      exact ⟨trivial, rfl, hS.found (by decide)⟩
  · -- pc 1 call X3_noRoom false
    obtain ⟨r', hr, rfl⟩ := nout_nI (b := 7) (by decide) h1
    refine And.intro (fun hh => absurd hh (by decide)) (fun _ => ?_)
    refine Mt.conseq (c_outside _ _ _ _ _ _) ?_
    rintro _ _ _ ⟨rfl, rfl, ⟨h3, rfl⟩ | ⟨h3, rfl⟩⟩
    · -- pc 11 call X3_outside true
      refine And.intro (fun hh => absurd hh (by decide)) (fun _ => ?_)
      refine Mt.conseq (c_fnd0 _ _ _) ?_
      rintro _ _ _ ⟨rfl, rfl, rfl⟩
      refine ⟨trivial, _, rfl, ?_⟩
      refine Mt.of2 _ rfl (by decide +kernel) (Nat.le_of_ble_eq_true rfl) ?_
      refine GW.run kX4_fire (fun pc => Nat.beq pc 39) 80 0 rfl ?_
      refine Mt.conseq (m_isRoom _ _ _ _) ?_
      rintro _ _ _ ⟨rfl, rfl, ⟨g1, rfl⟩ | ⟨g1, rfl⟩⟩
      · -- pc 1 call X4_isRoom true
        refine And.intro (fun hh => absurd hh (by decide)) (fun _ => ?_)
        refine Mt.conseq (m_isSpan _ _ _ _) ?_
        rintro _ _ _ ⟨rfl, rfl, ⟨g2, rfl⟩ | ⟨g2, rfl⟩⟩
        · -- pc 8 call X4_isSpan true
          exact (out_in h3 g2).elim
        · -- pc 8 call X4_isSpan false
          refine And.intro (fun hh => absurd hh (by decide)) (fun _ => ?_)
          refine Mt.conseq (m_fnd0 _ _ _) ?_
          rintro _ _ _ ⟨rfl, rfl, rfl⟩
          exact ⟨trivial, rfl, hS.found (by decide)⟩
      · -- pc 1 call X4_isRoom false
        exact (nout_nin h1 g1).elim
    · -- pc 11 call X3_outside false
      obtain ⟨K, hK, rfl⟩ := nout_nI (b := 40) (by decide) h3
      refine And.intro (fun _ => ?_) (fun hh => absurd hh (by decide))
      obtain ⟨W, hW⟩ : ∃ W, fdB (fun i => decide (fiV P K r' (gN 1 I) i = K)) 100 0 = W := ⟨_, rfl⟩
      refine GW.weak (GW.eqI ?_ (l_fiC sx P hP8 I hP1 hN r' (by omega) K hK W J _ (fun X hb => ?_) (fun X hb => ?_) 100 0 (gN 21 I) rfl hW)) ⟨rfl, rfl, rfl, rfl, trivial⟩
      · rw [pN_gN]
      · refine ⟨_, rfl, ?_⟩
        refine Mt.of2 _ rfl (by decide +kernel) (Nat.le_of_ble_eq_true rfl) ?_
        refine GW.run kX4_fire (fun pc => Nat.beq pc 39) 80 0 rfl ?_
        refine Mt.conseq (m_isRoom _ _ _ _) ?_
        rintro _ _ _ ⟨rfl, rfl, ⟨g1, rfl⟩ | ⟨g1, rfl⟩⟩
        · -- pc 1 call X4_isRoom true
          refine And.intro (fun hh => absurd hh (by decide)) (fun _ => ?_)
          refine Mt.conseq (m_isSpan _ _ _ _) ?_
          rintro _ _ _ ⟨rfl, rfl, ⟨g2, rfl⟩ | ⟨g2, rfl⟩⟩
          · -- pc 8 call X4_isSpan true
            refine And.intro (fun _ => ?_) (fun hh => absurd hh (by decide))
            refine Mt.conseq ((by have h := m_there sx r' 2 (by omega) (by decide) 2 (by decide) (I 44) (pN 21 X I) J; rw [show sR (I 44) (pN 21 X I) = pN 21 X I from sR_self (pN 21 X I)] at h; exact h)) ?_
            rintro _ _ _ ⟨rfl, rfl, rfl⟩
            refine Mt.conseq ((by have h := m_lies sx 0 r' 2 (by omega) (by decide) 2 (by decide) (I 44) (pN 21 X I) J; rw [show sR (I 44) (pN 21 X I) = pN 21 X I from sR_self (pN 21 X I)] at h; exact h)) ?_
            rintro _ _ _ ⟨rfl, rfl, rfl⟩
            refine GW.weak (GW.eqI ?_ (l_fiM sx (I 44) (gN 1 I) P hP8 hN ha r' (by omega) K hK W (pN 21 X I) J _ (fun g t hg hl => ?_) (fun g t hg hl => ?_) 100 0 (upd (I 44) (4 + 4 * r' + 2) (mx 0)) (I 46) rfl (fun _ _ => rfl) hW)) ⟨rfl, rfl, rfl, rfl, rfl, trivial⟩
            · rw [show sA 46 (I 46) (pN 21 X I) = pN 21 X I from sA_self 46 (pN 21 X I)]
            · exact ⟨rfl, hS.junk hg⟩
            · exact absurd hl (by omega)
          · -- pc 8 call X4_isSpan false
            exact (nout_nin h3 g2).elim
        · -- pc 1 call X4_isRoom false
          exact (nout_nin h1 g1).elim
      · refine ⟨_, rfl, ?_⟩
        refine Mt.of2 _ rfl (by decide +kernel) (Nat.le_of_ble_eq_true rfl) ?_
        refine GW.run kX4_fire (fun pc => Nat.beq pc 39) 80 0 rfl ?_
        refine Mt.conseq (m_isRoom _ _ _ _) ?_
        rintro _ _ _ ⟨rfl, rfl, ⟨g1, rfl⟩ | ⟨g1, rfl⟩⟩
        · -- pc 1 call X4_isRoom true
          refine And.intro (fun hh => absurd hh (by decide)) (fun _ => ?_)
          refine Mt.conseq (m_isSpan _ _ _ _) ?_
          rintro _ _ _ ⟨rfl, rfl, ⟨g2, rfl⟩ | ⟨g2, rfl⟩⟩
          · -- pc 8 call X4_isSpan true
            refine And.intro (fun _ => ?_) (fun hh => absurd hh (by decide))
            refine Mt.conseq ((by have h := m_there sx r' 2 (by omega) (by decide) 2 (by decide) (I 44) (fnd (pN 21 X I) 3) J; rw [show sR (I 44) (fnd (pN 21 X I) 3) = fnd (pN 21 X I) 3 from sR_self (fnd (pN 21 X I) 3)] at h; exact h)) ?_
            rintro _ _ _ ⟨rfl, rfl, rfl⟩
            refine Mt.conseq ((by have h := m_lies sx 0 r' 2 (by omega) (by decide) 2 (by decide) (I 44) (fnd (pN 21 X I) 3) J; rw [show sR (I 44) (fnd (pN 21 X I) 3) = fnd (pN 21 X I) 3 from sR_self (fnd (pN 21 X I) 3)] at h; exact h)) ?_
            rintro _ _ _ ⟨rfl, rfl, rfl⟩
            refine GW.weak (GW.eqI ?_ (l_fiM sx (I 44) (gN 1 I) P hP8 hN ha r' (by omega) K hK W (fnd (pN 21 X I) 3) J _ (fun g t hg hl => ?_) (fun g t hg hl => ?_) 100 0 (upd (I 44) (4 + 4 * r' + 2) (mx 0)) (I 46) rfl (fun _ _ => rfl) hW)) ⟨rfl, rfl, rfl, rfl, rfl, trivial⟩
            · rw [show sA 46 (I 46) (fnd (pN 21 X I) 3) = fnd (pN 21 X I) 3 from sA_self 46 (fnd (pN 21 X I) 3)]
            · exact absurd hl (by omega)
            · exact ⟨rfl, hS.junkf hg (by decide)⟩
          · -- pc 8 call X4_isSpan false
            exact (nout_nin h3 g2).elim
        · -- pc 1 call X4_isRoom false
          exact (nout_nin h1 g1).elim
