/-! PAIRS: fires -/
def tfV (P K a b : Nat) (N : Mm) (s v : Nat) : Nat := wl P 255 K (na_set (na_set N 3 a (nI v)) 3 b (nI (s - v)))
theorem tfV_le (P K a b : Nat) (N : Mm) (s v : Nat) : tfV P K a b N s v ≤ K := wl_le _ _ _ _
/-- one of m from n on -/
def anB (c : Nat → Bool) : Nat → Nat → Bool
  | 0, _ => false
  | m + 1, n => if c n = true then true else anB c m (n + 1)
def tfT (P K a b : Nat) (N : Mm) (s : Nat) : Bool := anB (fun v => decide (tfV P K a b N s v = K)) (min s 20 + 1 - (s - 20)) (s - 20)
theorem jmin20 {s : Nat} (h : s ≤ 40) : jmin (nI s) 20 = nI (min s 20) := by
  apply Int32.toInt_inj.mp
  rw [jmin_toInt, nI_toInt (by omega), nI_toInt (by omega), i20]
  omega
set_option maxRecDepth 100000 in
set_option maxHeartbeats 4000000 in
theorem l_tfC (sx : Nat × (Nat → Int32)) (P : Nat) (hP8 : P ≤ 8) (I : Mm) (hP1 : I 1 7 = nI P) (hN : NOk P (gN 1 I)) (a b : Nat) (ha8 : a < 8) (hb8 : b < 8) (K : Nat) (hK : K ≤ 40) (s : Nat) (hs : s ≤ 40) (h : Nat) (hh : h = min s 20) (T : Bool) (J : Ml) (Rt : Option Value → Mm → Ml → Prop) (hR1 : ∀ X, T = true → Rt (some (.int 1)) (pN 21 X I) J) (hR2 : ∀ X, T = false → Rt (some (.int 0)) (pN 21 X I) J) : ∀ m n X, n + m = h + 1 → anB (fun v => decide (tfV P K a b (gN 1 I) s v = K)) m n = T → GW sx (na_mi MX3_twoFiresDo) Rt 14 [some (.ref 0), some (.int (nI a)), some (.int (nI b)), some (.int (nI s)), some (.int (nI K)), some (.int (nI h)), some (.int (nI n)), none] [] (pN 21 X I) J := by
  have hba : vp_in (nI a) 8 := vp_in_nI (by omega) (by omega)
  have hca := nI_clamp (n := a) (by omega)
  have hbb : vp_in (nI b) 8 := vp_in_nI (by omega) (by omega)
  have hcb := nI_clamp (n := b) (by omega)
  intro m
  induction m with
  | zero =>
    intro n X hn hw
    obtain rfl : h + 1 = n := by omega
    have hz : nI h < nI (h + 1) := nI_lt (by omega) (by omega)
    refine GW.run kX3_twoFiresDo (fun pc => Nat.beq pc 14) 68 8 rfl ?_
    refine And.intro (fun _ => ?_) (fun hh => absurd hz hh)
    exact ⟨na_nl_b0, hR2 X hw.symm⟩
  | succ m ih =>
    intro n X hn hw
    have hz : ¬ nI h < nI n := nI_nlt (by omega) (by omega)
    refine GW.run kX3_twoFiresDo (fun pc => Nat.beq pc 14) 68 8 rfl ?_
    refine And.intro (fun hh => absurd hh hz) (fun _ => ?_)
    refine Mt.conseq (c_sah2 _ P hP8 I hP1 _ _) ?_
    rintro _ _ _ ⟨⟨M, rfl, h1⟩, rfl, rfl⟩
    have hM2 := Agr.set (Agr.set h1 3 a (nI n)) 3 b (nI (s - n))
    have hN3 := (hN.r3 (j := a) (rg99 (n := n) (by omega))).r3 (j := b) (rg99 (n := s - n) (by omega))
    have hok := Agr.ok hM2 hN3
    have hsub : nI s - nI n = nI (s - n) := pk_sub (by omega)
    have ev : wl P 255 K (na_set (na_set M 3 a (nI n)) 3 b (nI (s - n))) = tfV P K a b (gN 1 I) s n := by
      rw [tfV, wl_c 255 K hM2 hN3.2.1.pl]
    refine And.intro (hba) ?_
    refine And.intro (hbb) ?_
    refine Mt.conseq ((by have h := c_wl sx 21 (Or.inr rfl) (na_set (na_set M 3 a (nI n)) 3 b (nI (s - n))) P hok.1 hP8 hok.2 255 K (by omega) I J; rw [← pN_set (pl := 24) (by decide) rfl, ← pN_set (pl := 24) (by decide) rfl, ev] at h; rw [hca, hcb, hsub]; exact h)) ?_
    rintro _ _ _ ⟨⟨X2, rfl⟩, rfl, rfl⟩
    refine And.intro (fun h3 => ?_) (fun h3 => ?_)
    · -- pc 59 .if_icmp .ne 5: yes
      rw [anB, if_neg (fun q => h3 (congrArg nI (of_decide_eq_true q)))] at hw
      exact GW.weak (ih (n + 1) X2 (by omega) hw) ⟨rfl, rfl, rfl, rfl, rfl, rfl, by rw [nI_1], trivial⟩
    · -- pc 59 .if_icmp .ne 5: no
      have hle := tfV_le P K a b (gN 1 I) s n
      have he := (nI_eq (by omega) (by omega)).mp h3
      rw [anB, if_pos (decide_eq_true he)] at hw
      exact ⟨na_nl_b1, hR1 X2 hw.symm⟩
set_option maxRecDepth 100000 in
set_option maxHeartbeats 4000000 in
theorem c_tf (sx : Nat × (Nat → Int32)) (P : Nat) (hP8 : P ≤ 8) (I : Mm) (hP1 : I 1 7 = nI P) (hN : NOk P (gN 1 I)) (a b : Nat) (ha8 : a < 8) (hb8 : b < 8) (K : Nat) (hK : K ≤ 40) (s : Nat) (hs : s ≤ 40) (X : Mm) (J : Ml) : Mt sx MX3_twoFiresDo [.ref 0, .int (nI a), .int (nI b), .int (nI s), .int (nI K)] (pN 21 X I) J (fun r I' J' => (∃ X, pN 21 X I = I') ∧ J = J' ∧ ((tfT P K a b (gN 1 I) s = true ∧ r = some (.int 1)) ∨ (tfT P K a b (gN 1 I) s = false ∧ r = some (.int 0)))) := by
  refine Mt.of2 _ rfl (by decide +kernel) (Nat.le_of_ble_eq_true rfl) ?_
  refine GW.run kX3_twoFiresDo (fun pc => Nat.beq pc 14) 68 0 rfl ?_
  refine GW.weak (l_tfC sx P hP8 I hP1 hN a b ha8 hb8 K hK s hs (min s 20) rfl _ J _ (fun X hb => ⟨⟨X, rfl⟩, rfl, Or.inl ⟨hb, rfl⟩⟩) (fun X hb => ⟨⟨X, rfl⟩, rfl, Or.inr ⟨hb, rfl⟩⟩) (min s 20 + 1 - (s - 20)) (s - 20) X (by omega) rfl) ⟨rfl, rfl, rfl, rfl, rfl, congrArg Value.int (jmin20 hs).symm, ?_, trivial⟩
  show Value.int (nI (s - 20)) = Value.int (nI s - jmin (nI s) 20)
  rw [jmin20 hs, pk_sub (by omega)]
  congr 2
  omega
set_option maxRecDepth 100000 in
set_option maxHeartbeats 4000000 in
theorem l_foC (sx : Nat × (Nat → Int32)) (P : Nat) (hP8 : P ≤ 8) (I : Mm) (hP1 : I 1 7 = nI P) (hN : NOk P (gN 1 I)) (a b : Nat) (ha8 : a < 8) (hb8 : b < 8) (K : Nat) (hK : K ≤ 40) (W : Nat) (J : Ml) (Rt : Option Value → Mm → Ml → Prop) (hR1 : ∀ X, W < 41 → Rt (some (.int (nI W))) (pN 21 X I) J) (hR2 : ∀ X, W = 41 → Rt (some (.int (-1000000004))) (fnd (pN 21 X I) 3) J) : ∀ m n X, n + m = 41 → fdB (tfT P K a b (gN 1 I)) m n = W → GW sx (na_mi MX3_fires) Rt 39 [some (.ref 0), some (.int (nI a)), some (.int (nI b)), some (.int (nI K)), some (.int (nI n))] [] (pN 21 X I) J := by
  intro m
  induction m with
  | zero =>
    intro n X hn hw
    obtain rfl : n = 41 := by omega
    have hz : (40 : Int32) < nI 41 := by decide
    refine GW.run kX3_fires (fun pc => Nat.beq pc 39) 68 20 rfl ?_
    refine And.intro (fun _ => ?_) (fun hh => absurd hz hh)
    refine Mt.conseq (c_fnd3 _ _ _) ?_
    rintro _ _ _ ⟨rfl, rfl, rfl⟩
    exact ⟨trivial, hR2 X hw.symm⟩
  | succ m ih =>
    intro n X hn hw
    have hz : ¬ (40 : Int32) < nI n := nI_nlt (a := 40) (b := n) (by omega) (by omega)
    refine GW.run kX3_fires (fun pc => Nat.beq pc 39) 68 20 rfl ?_
    refine And.intro (fun hh => absurd hh hz) (fun _ => ?_)
    refine Mt.conseq (c_tf _ P hP8 I hP1 hN a b ha8 hb8 K hK n (by omega) _ _) ?_
    rintro _ _ _ ⟨⟨X2, rfl⟩, rfl, ⟨hw1, rfl⟩ | ⟨hw1, rfl⟩⟩
    · -- pc 52 call X3_twoFiresDo true
      refine And.intro (fun hh => absurd hh (by decide)) (fun _ => ?_)
      rw [fdB, if_pos hw1] at hw
      obtain rfl := hw
      exact ⟨trivial, hR1 X2 (by omega)⟩
    · -- pc 52 call X3_twoFiresDo false
      refine And.intro (fun _ => ?_) (fun hh => absurd hh (by decide))
      rw [fdB, if_neg (by rw [hw1]; decide)] at hw
      exact GW.weak (ih (n + 1) X2 (by omega) hw) ⟨rfl, rfl, rfl, rfl, by rw [nI_1], trivial⟩
/-- the row but for two fires -/
def EE (g f : Nat → Int32) (i k : Nat) : Prop := ∃ y z, E76 g (upd (upd f i y) k z)
theorem EE.put {g f : Nat → Int32} {i k : Nat} (h : EE g f i k) (y z : Int32) : E76 (upd (upd g i y) k z) (upd (upd f i y) k z) := by
  obtain ⟨y', z', h⟩ := h
  intro j hj
  have q := h j hj
  simp only [upd] at q ⊢
  by_cases h1 : j = k
  · rw [if_pos h1, if_pos h1]
  · rw [if_neg h1, if_neg h1]
    by_cases h2 : j = i
    · rw [if_pos h2, if_pos h2]
    · rw [if_neg h2, if_neg h2]
      rw [if_neg h1, if_neg h2] at q
      exact q
theorem EE.back {g f : Nat → Int32} {i k : Nat} (h : EE g f i k) : E76 (upd (upd g i (f i)) k (f k)) f := by
  have q := h.put (f i) (f k)
  rw [upd_self, upd_self] at q
  exact q
set_option maxRecDepth 100000 in
set_option maxHeartbeats 4000000 in
theorem l_foE (sx : Nat × (Nat → Int32)) (f : Nat → Int32) (N : Mm) (P : Nat) (hP8 : P ≤ 8) (hN : NOk P N) (ha : Agr P (vN f) N) (a b : Nat) (ha8 : a < 8) (hb8 : b < 8) (K : Nat) (hK : K ≤ 40) (I : Mm) (J : Ml) (Rt : Option Value → Mm → Ml → Prop) (L : Int32) (hR1 : ∀ g t, E76 g f → 0 ≤ L → Rt (some (.int L)) (sR g (sA 46 t I)) J) (hR2 : ∀ g t, E76 g f → ¬ 0 ≤ L → Rt (some (.int (-1000000004))) (fnM (sR g (sA 46 t I)) 3) J) : ∀ g t, EE g f (4 + 4 * a + 2) (4 + 4 * b + 2) → GW sx (na_mi MX4_fires) Rt 152 [some (.ref 43), some (.int (nI a)), some (.int (nI b)), some (.int (nI K)), some (.int (f (4 + 4 * a + 2))), some (.int (f (4 + 4 * b + 2))), some (.int L), none, none] [] (sR g (sA 46 t I)) J := by
  intro g t hg
  have e3 : ∀ r, r < 8 → mx (f (4 + 4 * r + 2)) = f (4 + 4 * r + 2) := fun r hr => mx_id (by rw [show f (4 + 4 * r + 2) = N 3 r from ha.2.1 3 r (by decide) (by decide) hr]; have := (hN.1 r hr).2.2.1.2; omega)
  refine GW.run kX4_fires (fun _ => false) 124 76 rfl ?_
  refine Mt.conseq (m_lies _ (f (4 + 4 * a + 2)) a 2 (by omega) (by decide) _ (by decide) _ _ _) ?_
  rintro _ _ _ ⟨rfl, rfl, rfl⟩
  refine Mt.conseq (m_lies _ (f (4 + 4 * b + 2)) b 2 (by omega) (by decide) _ (by decide) _ _ _) ?_
  rintro _ _ _ ⟨rfl, rfl, rfl⟩
  refine And.intro (fun h3 => ?_) (fun h3 => ?_)
  · -- pc 170 .ifCond .ge 12: yes
    have hE : E76 (upd (upd g (4 + 4 * a + 2) (mx (f (4 + 4 * a + 2)))) (4 + 4 * b + 2) (mx (f (4 + 4 * b + 2)))) f := by rw [e3 a ha8, e3 b hb8]; exact hg.back
    exact ⟨trivial, hR1 _ t hE h3⟩
  · -- pc 170 .ifCond .ge 12: no
    refine Mt.conseq (m_fnd3 _ _ _) ?_
    rintro _ _ _ ⟨rfl, rfl, rfl⟩
    have hE : E76 (upd (upd g (4 + 4 * a + 2) (mx (f (4 + 4 * a + 2)))) (4 + 4 * b + 2) (mx (f (4 + 4 * b + 2)))) f := by rw [e3 a ha8, e3 b hb8]; exact hg.back
    exact ⟨trivial, hR2 _ t hE h3⟩
set_option maxRecDepth 100000 in
set_option maxHeartbeats 4000000 in
theorem l_foF (sx : Nat × (Nat → Int32)) (f : Nat → Int32) (N : Mm) (P : Nat) (hP8 : P ≤ 8) (hN : NOk P N) (ha : Agr P (vN f) N) (a b : Nat) (ha8 : a < 8) (hb8 : b < 8) (K : Nat) (hK : K ≤ 40) (I : Mm) (J : Ml) (Rt : Option Value → Mm → Ml → Prop) (s : Nat) (hs : s ≤ 40) (hR : ∀ g t, E76 g f → Rt (some (.int (nI s))) (sR g (sA 46 t I)) J) : ∀ g t, EE g f (4 + 4 * a + 2) (4 + 4 * b + 2) → GW sx (na_mi MX4_fires) Rt 146 [some (.ref 43), some (.int (nI a)), some (.int (nI b)), some (.int (nI K)), some (.int (f (4 + 4 * a + 2))), some (.int (f (4 + 4 * b + 2))), some (.int (nI s)), some (.int (nI s)), none] [] (sR g (sA 46 t I)) J := by
  intro g t hg
  have hs0 : 0 ≤ nI s := nI_pos' (by omega)
  refine GW.run kX4_fires (fun pc => Nat.beq pc 152) 124 74 rfl ?_
  refine And.intro (fun h1 => ?_) (fun h1 => ?_)
  · -- pc 59 .if_icmp .gt 93: yes
    exact GW.weak (l_foE sx f N P hP8 hN ha a b ha8 hb8 K hK I J Rt (nI s) (fun g t h _ => hR g t h) (fun g t h z => absurd hs0 z) g t hg) ⟨rfl, rfl, rfl, rfl, rfl, rfl, rfl, trivial⟩
  · -- pc 59 .if_icmp .gt 93: no
    refine And.intro (fun _ => ?_) (fun hh => absurd hs0 hh)
    exact GW.weak (l_foE sx f N P hP8 hN ha a b ha8 hb8 K hK I J Rt (nI s) (fun g t h _ => hR g t h) (fun g t h z => absurd hs0 z) g t hg) ⟨rfl, rfl, rfl, rfl, rfl, rfl, rfl, trivial⟩
set_option maxRecDepth 100000 in
set_option maxHeartbeats 4000000 in
theorem l_foG (sx : Nat × (Nat → Int32)) (f : Nat → Int32) (N : Mm) (P : Nat) (hP8 : P ≤ 8) (hN : NOk P N) (ha : Agr P (vN f) N) (a b : Nat) (ha8 : a < 8) (hb8 : b < 8) (K : Nat) (hK : K ≤ 40) (I : Mm) (J : Ml) (Rt : Option Value → Mm → Ml → Prop) (s : Nat) (hs : s ≤ 40) (hR : ∀ g t, E76 g f → Rt (some (.int (nI s))) (sR g (sA 46 t I)) J) : ∀ g t v, EE g f (4 + 4 * a + 2) (4 + 4 * b + 2) → GW sx (na_mi MX4_fires) Rt 85 [some (.ref 43), some (.int (nI a)), some (.int (nI b)), some (.int (nI K)), some (.int (f (4 + 4 * a + 2))), some (.int (f (4 + 4 * b + 2))), some (.int (nI s)), some (.int (nI s)), some (.int v)] [] (sR g (sA 46 t I)) J := by
  intro g t v hg
  have hs0 : 0 ≤ nI s := nI_pos' (by omega)
  refine GW.run kX4_fires (fun pc => Nat.beq pc 146) 124 44 rfl ?_
  refine And.intro (fun h1 => ?_) (fun h1 => ?_)
  · -- pc 89 .if_icmp .gt 57: yes
    exact GW.weak (l_foF sx f N P hP8 hN ha a b ha8 hb8 K hK I J Rt s hs hR g t hg) ⟨rfl, rfl, rfl, rfl, rfl, rfl, rfl, rfl, trivial⟩
  · -- pc 89 .if_icmp .gt 57: no
    refine And.intro (fun h2 => ?_) (fun h2 => ?_)
    · -- pc 96 .if_icmp .gt 50: yes
      exact GW.weak (l_foF sx f N P hP8 hN ha a b ha8 hb8 K hK I J Rt s hs hR g t hg) ⟨rfl, rfl, rfl, rfl, rfl, rfl, rfl, rfl, trivial⟩
    · -- pc 96 .if_icmp .gt 50: no
      refine And.intro (fun _ => ?_) (fun hh => absurd hs0 hh)
      exact GW.weak (l_foF sx f N P hP8 hN ha a b ha8 hb8 K hK I J Rt s hs hR g t hg) ⟨rfl, rfl, rfl, rfl, rfl, rfl, rfl, rfl, trivial⟩
set_option maxRecDepth 100000 in
set_option maxHeartbeats 4000000 in
theorem l_foI (sx : Nat × (Nat → Int32)) (f : Nat → Int32) (N : Mm) (P : Nat) (hP8 : P ≤ 8) (hN : NOk P N) (ha : Agr P (vN f) N) (a b : Nat) (ha8 : a < 8) (hb8 : b < 8) (K : Nat) (hK : K ≤ 40) (I : Mm) (J : Ml) (Rt : Option Value → Mm → Ml → Prop) (s : Nat) (hs : s ≤ 40) (h : Nat) (hh : h = min s 20) (T : Bool) (hT : T = true → ∀ g t, E76 g f → Rt (some (.int (nI s))) (sR g (sA 46 t I)) J) (hF : T = false → ∀ g t, EE g f (4 + 4 * a + 2) (4 + 4 * b + 2) → GW sx (na_mi MX4_fires) Rt 146 [some (.ref 43), some (.int (nI a)), some (.int (nI b)), some (.int (nI K)), some (.int (f (4 + 4 * a + 2))), some (.int (f (4 + 4 * b + 2))), some (.int (-1)), some (.int (nI s)), none] [] (sR g (sA 46 t I)) J) : ∀ m n g t, n + m = h + 1 → EE g f (4 + 4 * a + 2) (4 + 4 * b + 2) → anB (fun v => decide (tfV P K a b N s v = K)) m n = T → GW sx (na_mi MX4_fires) Rt 85 [some (.ref 43), some (.int (nI a)), some (.int (nI b)), some (.int (nI K)), some (.int (f (4 + 4 * a + 2))), some (.int (f (4 + 4 * b + 2))), some (.int (-1)), some (.int (nI s)), some (.int (nI n))] [] (sR g (sA 46 t I)) J := by
  intro m
  induction m with
  | zero =>
    intro n g t hn hg hw
    obtain rfl : h + 1 = n := by omega
    refine GW.run kX4_fires (fun pc => Nat.beq pc 85 || Nat.beq pc 146) 124 44 rfl ?_
    refine And.intro (fun h1 => ?_) (fun h1 => ?_)
    · -- pc 89 .if_icmp .gt 57: yes
      exact GW.weak (hF hw.symm g t hg) ⟨rfl, rfl, rfl, rfl, rfl, rfl, rfl, rfl, trivial⟩
    · -- pc 89 .if_icmp .gt 57: no
      refine And.intro (fun h2 => ?_) (fun h2 => ?_)
      · -- pc 96 .if_icmp .gt 50: yes
        exact GW.weak (hF hw.symm g t hg) ⟨rfl, rfl, rfl, rfl, rfl, rfl, rfl, rfl, trivial⟩
      · -- pc 96 .if_icmp .gt 50: no
        exfalso
        have q1 : ¬ (20 : Int32) < nI (h + 1) := h1
        have q2 : ¬ nI s < nI (h + 1) := h2
        rw [lt_i, nI_toInt (by omega), i20] at q1
        rw [nI_ltI (by omega) (by omega)] at q2
        omega
  | succ m ih =>
    intro n g t hn hg hw
    have hz : ¬ (20 : Int32) < nI n := nI_nlt (a := 20) (b := n) (by omega) (by omega)
    have hz2 : ¬ nI s < nI n := nI_nlt (by omega) (by omega)
    have hm1 : ¬ (0 : Int32) ≤ -1 := by decide
    have hu : (upd (upd g (4 + 4 * a + 2) (mx (nI n))) (4 + 4 * b + 2) (mx (nI s - nI n))) = upd (upd g (4 + 4 * a + 2) (nI n)) (4 + 4 * b + 2) (nI (s - n)) := by rw [mx_nI (by omega), pk_sub (by omega), mx_nI (by omega)]
    have hN3 := (hN.r3 (j := a) (rg99 (n := n) (by omega))).r3 (j := b) (rg99 (n := s - n) (by omega))
    have hga : Agr P (vN (upd (upd g (4 + 4 * a + 2) (mx (nI n))) (4 + 4 * b + 2) (mx (nI s - nI n)))) (na_set (na_set N 3 a (nI n)) 3 b (nI (s - n))) := by
      rw [hu]
      exact ((hg.put _ _).agr hP8).trans (agR hP8 (agR hP8 ha ha8 (w := 2) (by decide) _) hb8 (w := 2) (by decide) _)
    have hA := Agr.ok hga hN3
    have hval : stf (vN (itM P K (upd (upd g (4 + 4 * a + 2) (mx (nI n))) (4 + 4 * b + 2) (mx (nI s - nI n))))) P &&& wo (vN (upd (upd g (4 + 4 * a + 2) (mx (nI n))) (4 + 4 * b + 2) (mx (nI s - nI n)))) P = 0 ↔ tfV P K a b N s n = K := iw_iff hN3 hga
    have hEE : ∀ g2, E76 g2 (upd (upd g (4 + 4 * a + 2) (mx (nI n))) (4 + 4 * b + 2) (mx (nI s - nI n))) → EE g2 f (4 + 4 * a + 2) (4 + 4 * b + 2) := fun g2 h2 => ⟨nI n, nI (s - n), fun j hj => (h2 j hj).trans (by rw [hu]; exact hg.put _ _ j hj)⟩
    refine GW.run kX4_fires (fun pc => Nat.beq pc 85 || Nat.beq pc 146) 124 44 rfl ?_
    refine And.intro (fun hh => absurd hh hz) (fun _ => ?_)
    refine And.intro (fun hh => absurd hh hz2) (fun _ => ?_)
    refine And.intro (fun hh => absurd hh hm1) (fun _ => ?_)
    refine Mt.conseq (m_lies _ (nI n) a 2 (by omega) (by decide) _ (by decide) _ _ _) ?_
    rintro _ _ _ ⟨rfl, rfl, rfl⟩
    refine Mt.conseq (m_lies _ (nI s - nI n) b 2 (by omega) (by decide) _ (by decide) _ _ _) ?_
    rintro _ _ _ ⟨rfl, rfl, rfl⟩
    refine Mt.conseq (m_iw2 _ (upd (upd g (4 + 4 * a + 2) (mx (nI n))) (4 + 4 * b + 2) (mx (nI s - nI n))) P hA.1 hP8 hA.2 K (by omega) t _ _ hval) ?_
    rintro _ _ _ ⟨⟨g2, t2, rfl, h3⟩, rfl, ⟨hw1, rfl⟩ | ⟨hw1, rfl⟩⟩
    · -- pc 125 call X4_isWell true
      refine And.intro (fun hh => absurd hh (by decide)) (fun _ => ?_)
      exact GW.weak (l_foG sx f N P hP8 hN ha a b ha8 hb8 K hK I J Rt s hs (hT (by rw [← hw, anB, if_pos (decide_eq_true hw1)])) g2 t2 (nI n + 1) (hEE g2 h3)) ⟨rfl, rfl, rfl, rfl, rfl, rfl, rfl, rfl, rfl, trivial⟩
    · -- pc 125 call X4_isWell false
      refine And.intro (fun _ => ?_) (fun hh => absurd hh (by decide))
      rw [anB, if_neg (fun q => hw1 (of_decide_eq_true q))] at hw
      exact GW.weak (ih (n + 1) g2 t2 (by omega) (hEE g2 h3) hw) ⟨rfl, rfl, rfl, rfl, rfl, rfl, rfl, rfl, by rw [nI_1], trivial⟩
set_option maxRecDepth 100000 in
set_option maxHeartbeats 4000000 in
theorem l_foM (sx : Nat × (Nat → Int32)) (f : Nat → Int32) (N : Mm) (P : Nat) (hP8 : P ≤ 8) (hN : NOk P N) (ha : Agr P (vN f) N) (a b : Nat) (ha8 : a < 8) (hb8 : b < 8) (K : Nat) (hK : K ≤ 40) (I : Mm) (J : Ml) (Rt : Option Value → Mm → Ml → Prop) (W : Nat) (hR1 : ∀ g t, E76 g f → W < 41 → Rt (some (.int (nI W))) (sR g (sA 46 t I)) J) (hR2 : ∀ g t, E76 g f → W = 41 → Rt (some (.int (-1000000004))) (fnM (sR g (sA 46 t I)) 3) J) : ∀ m n g t, n + m = 41 → EE g f (4 + 4 * a + 2) (4 + 4 * b + 2) → fdB (tfT P K a b N) m n = W → GW sx (na_mi MX4_fires) Rt 55 [some (.ref 43), some (.int (nI a)), some (.int (nI b)), some (.int (nI K)), some (.int (f (4 + 4 * a + 2))), some (.int (f (4 + 4 * b + 2))), some (.int (-1)), some (.int (nI n)), none] [] (sR g (sA 46 t I)) J := by
  intro m
  induction m with
  | zero =>
    intro n g t hn hg hw
    obtain rfl : n = 41 := by omega
    have hz : (40 : Int32) < nI 41 := by decide
    refine GW.run kX4_fires (fun pc => Nat.beq pc 55 || Nat.beq pc 85 || Nat.beq pc 152) 124 30 rfl ?_
    refine And.intro (fun _ => ?_) (fun hh => absurd hz hh)
    exact GW.weak (l_foE sx f N P hP8 hN ha a b ha8 hb8 K hK I J Rt (-1) (fun _ _ _ z => absurd z (by decide)) (fun g t h _ => hR2 g t h hw.symm) g t hg) ⟨rfl, rfl, rfl, rfl, rfl, rfl, rfl, trivial⟩
  | succ m ih =>
    intro n g t hn hg hw
    have hz : ¬ (40 : Int32) < nI n := nI_nlt (a := 40) (b := n) (by omega) (by omega)
    have hm1 : ¬ (0 : Int32) ≤ -1 := by decide
    refine GW.run kX4_fires (fun pc => Nat.beq pc 55 || Nat.beq pc 85 || Nat.beq pc 152) 124 30 rfl ?_
    refine And.intro (fun hh => absurd hh hz) (fun _ => ?_)
    refine And.intro (fun hh => absurd hh hm1) (fun _ => ?_)
    refine And.intro (fun h1 => ?_) (fun h1 => ?_)
    · -- pc 71 .if_icmp .le 11: yes
      refine GW.weak (l_foI sx f N P hP8 hN ha a b ha8 hb8 K hK I J Rt n (by omega) (min n 20) rfl (tfT P K a b N n) (fun hT => ?_) (fun hF => ?_) (min n 20 + 1 - (n - 20)) (n - 20) g t (by omega) hg rfl) ⟨rfl, rfl, rfl, rfl, rfl, rfl, rfl, rfl, (by
        have q : nI n ≤ 20 := h1
        rw [le_i, nI_toInt (by omega), i20] at q
        rw [show n - 20 = 0 by omega]
        rfl), trivial⟩
      · rw [fdB, if_pos hT] at hw
        obtain rfl := hw
        exact fun g t h => hR1 g t h (by omega)
      · rw [fdB, if_neg (by rw [hF]; decide)] at hw
        intro g t hg
        refine GW.run kX4_fires (fun pc => Nat.beq pc 55) 124 74 rfl ?_
        exact GW.weak (ih (n + 1) g t (by omega) hg hw) ⟨rfl, rfl, rfl, rfl, rfl, rfl, rfl, by rw [nI_1], trivial⟩
    · -- pc 71 .if_icmp .le 11: no
      refine GW.weak (l_foI sx f N P hP8 hN ha a b ha8 hb8 K hK I J Rt n (by omega) (min n 20) rfl (tfT P K a b N n) (fun hT => ?_) (fun hF => ?_) (min n 20 + 1 - (n - 20)) (n - 20) g t (by omega) hg rfl) ⟨rfl, rfl, rfl, rfl, rfl, rfl, rfl, rfl, (by
        have q : ¬ nI n ≤ 20 := h1
        rw [le_i, nI_toInt (by omega), i20] at q
        rw [← pk_sub (by omega)]
        rfl), trivial⟩
      · rw [fdB, if_pos hT] at hw
        obtain rfl := hw
        exact fun g t h => hR1 g t h (by omega)
      · rw [fdB, if_neg (by rw [hF]; decide)] at hw
        intro g t hg
        refine GW.run kX4_fires (fun pc => Nat.beq pc 55) 124 74 rfl ?_
        exact GW.weak (ih (n + 1) g t (by omega) hg hw) ⟨rfl, rfl, rfl, rfl, rfl, rfl, rfl, by rw [nI_1], trivial⟩
set_option maxRecDepth 100000 in
set_option maxHeartbeats 4000000 in
theorem pr_fires (sx : Nat × (Nat → Int32)) (a b n : Int32) : PrI sx MX3_fires MX4_fires [.int a, .int b, .int n] := by
  intro I J hS
  obtain ⟨P, hN, ha, hP8, hP1, hP3, hpl⟩ := hS.nt
  have e73 : I 44 3 = I 1 7 := hP3.trans hP1.symm
  refine Mt.of2 _ rfl (by decide +kernel) (Nat.le_of_ble_eq_true rfl) ?_
  refine GW.run kX3_fires (fun pc => Nat.beq pc 39) 68 0 rfl ?_
  refine Mt.conseq (c_noRoom _ _ _ _) ?_
  rintro _ _ _ ⟨rfl, rfl, ⟨h1, rfl⟩ | ⟨h1, rfl⟩⟩
  · -- pc 1 call X3_noRoom true
    refine And.intro (fun _ => ?_) (fun hh => absurd hh (by decide))
    refine Mt.conseq (c_fnd0 _ _ _) ?_
    rintro _ _ _ ⟨rfl, rfl, rfl⟩
    refine ⟨trivial, _, rfl, ?_⟩
    refine Mt.of2 _ rfl (by decide +kernel) (Nat.le_of_ble_eq_true rfl) ?_
    refine GW.run kX4_fires (fun pc => Nat.beq pc 55) 124 0 rfl ?_
    refine Mt.conseq (m_isRoom _ _ _ _) ?_
    rintro _ _ _ ⟨rfl, rfl, ⟨g1, rfl⟩ | ⟨g1, rfl⟩⟩
    · -- pc 1 call X4_isRoom true
      exact (out_in h1 g1).elim
    · -- pc 1 call X4_isRoom false
      refine And.intro (fun _ => ?_) (fun hh => absurd hh (by decide))
      refine Mt.conseq (m_fnd0 _ _ _) ?_
      rintro _ _ _ ⟨rfl, rfl, rfl⟩
      exact ⟨trivial, rfl, hS.found (by decide)⟩
  · -- pc 1 call X3_noRoom false
    obtain ⟨a', ha8, rfl⟩ := nout_nI (b := 7) (by decide) h1
    refine And.intro (fun hh => absurd hh (by decide)) (fun _ => ?_)
    refine Mt.conseq (c_noRoom _ _ _ _) ?_
    rintro _ _ _ ⟨rfl, rfl, ⟨h3, rfl⟩ | ⟨h3, rfl⟩⟩
    · -- pc 8 call X3_noRoom true
      refine And.intro (fun _ => ?_) (fun hh => absurd hh (by decide))
      refine Mt.conseq (c_fnd0 _ _ _) ?_
      rintro _ _ _ ⟨rfl, rfl, rfl⟩
      refine ⟨trivial, _, rfl, ?_⟩
      refine Mt.of2 _ rfl (by decide +kernel) (Nat.le_of_ble_eq_true rfl) ?_
      refine GW.run kX4_fires (fun pc => Nat.beq pc 55) 124 0 rfl ?_
      refine Mt.conseq (m_isRoom _ _ _ _) ?_
      rintro _ _ _ ⟨rfl, rfl, ⟨g1, rfl⟩ | ⟨g1, rfl⟩⟩
      · -- pc 1 call X4_isRoom true
        refine And.intro (fun hh => absurd hh (by decide)) (fun _ => ?_)
        refine Mt.conseq (m_isRoom _ _ _ _) ?_
        rintro _ _ _ ⟨rfl, rfl, ⟨g2, rfl⟩ | ⟨g2, rfl⟩⟩
        · -- pc 8 call X4_isRoom true
          exact (out_in h3 g2).elim
        · -- pc 8 call X4_isRoom false
          refine And.intro (fun _ => ?_) (fun hh => absurd hh (by decide))
          refine Mt.conseq (m_fnd0 _ _ _) ?_
          rintro _ _ _ ⟨rfl, rfl, rfl⟩
          exact ⟨trivial, rfl, hS.found (by decide)⟩
      · -- pc 1 call X4_isRoom false
        exact (nout_nin h1 g1).elim
    · -- pc 8 call X3_noRoom false
      obtain ⟨b', hb8, rfl⟩ := nout_nI (b := 7) (by decide) h3
      refine And.intro (fun hh => absurd hh (by decide)) (fun _ => ?_)
      refine And.intro (fun h5 => ?_) (fun h5 => ?_)
      · -- pc 16 .if_icmp .eq 13: yes
        refine Mt.conseq (c_fnd0 _ _ _) ?_
        rintro _ _ _ ⟨rfl, rfl, rfl⟩
        refine ⟨trivial, _, rfl, ?_⟩
        refine Mt.of2 _ rfl (by decide +kernel) (Nat.le_of_ble_eq_true rfl) ?_
        refine GW.run kX4_fires (fun pc => Nat.beq pc 55) 124 0 rfl ?_
        refine Mt.conseq (m_isRoom _ _ _ _) ?_
        rintro _ _ _ ⟨rfl, rfl, ⟨g1, rfl⟩ | ⟨g1, rfl⟩⟩
        · -- pc 1 call X4_isRoom true
          refine And.intro (fun hh => absurd hh (by decide)) (fun _ => ?_)
          refine Mt.conseq (m_isRoom _ _ _ _) ?_
          rintro _ _ _ ⟨rfl, rfl, ⟨g2, rfl⟩ | ⟨g2, rfl⟩⟩
          · -- pc 8 call X4_isRoom true
            refine And.intro (fun hh => absurd hh (by decide)) (fun _ => ?_)
            refine And.intro (fun g3 => ?_) (fun g3 => ?_)
            · -- pc 16 .if_icmp .eq 10: yes
              refine Mt.conseq (m_fnd0 _ _ _) ?_
              rintro _ _ _ ⟨rfl, rfl, rfl⟩
              exact ⟨trivial, rfl, hS.found (by decide)⟩
            · -- pc 16 .if_icmp .eq 10: no
              exact absurd h5 g3
          · -- pc 8 call X4_isRoom false
            exact (nout_nin h3 g2).elim
        · -- pc 1 call X4_isRoom false
          exact (nout_nin h1 g1).elim
      · -- pc 16 .if_icmp .eq 13: no
        refine Mt.conseq (c_outside _ _ _ _ _ _) ?_
        rintro _ _ _ ⟨rfl, rfl, ⟨h7, rfl⟩ | ⟨h7, rfl⟩⟩
        · -- pc 23 call X3_outside true
          refine And.intro (fun hh => absurd hh (by decide)) (fun _ => ?_)
          refine Mt.conseq (c_fnd0 _ _ _) ?_
          rintro _ _ _ ⟨rfl, rfl, rfl⟩
          refine ⟨trivial, _, rfl, ?_⟩
          refine Mt.of2 _ rfl (by decide +kernel) (Nat.le_of_ble_eq_true rfl) ?_
          refine GW.run kX4_fires (fun pc => Nat.beq pc 55) 124 0 rfl ?_
          refine Mt.conseq (m_isRoom _ _ _ _) ?_
          rintro _ _ _ ⟨rfl, rfl, ⟨g1, rfl⟩ | ⟨g1, rfl⟩⟩
          · -- pc 1 call X4_isRoom true
            refine And.intro (fun hh => absurd hh (by decide)) (fun _ => ?_)
            refine Mt.conseq (m_isRoom _ _ _ _) ?_
            rintro _ _ _ ⟨rfl, rfl, ⟨g2, rfl⟩ | ⟨g2, rfl⟩⟩
            · -- pc 8 call X4_isRoom true
              refine And.intro (fun hh => absurd hh (by decide)) (fun _ => ?_)
              refine And.intro (fun g3 => ?_) (fun g3 => ?_)
              · -- pc 16 .if_icmp .eq 10: yes
                exact absurd g3 h5
              · -- pc 16 .if_icmp .eq 10: no
                refine Mt.conseq (m_isSpan _ _ _ _) ?_
                rintro _ _ _ ⟨rfl, rfl, ⟨g4, rfl⟩ | ⟨g4, rfl⟩⟩
                · -- pc 20 call X4_isSpan true
                  exact (out_in h7 g4).elim
                · -- pc 20 call X4_isSpan false
                  refine And.intro (fun hh => absurd hh (by decide)) (fun _ => ?_)
                  refine Mt.conseq (m_fnd0 _ _ _) ?_
                  rintro _ _ _ ⟨rfl, rfl, rfl⟩
                  exact ⟨trivial, rfl, hS.found (by decide)⟩
            · -- pc 8 call X4_isRoom false
              exact (nout_nin h3 g2).elim
          · -- pc 1 call X4_isRoom false
            exact (nout_nin h1 g1).elim
        · -- pc 23 call X3_outside false
          obtain ⟨K, hK, rfl⟩ := nout_nI (b := 40) (by decide) h7
          refine And.intro (fun _ => ?_) (fun hh => absurd hh (by decide))
          obtain ⟨W, hW⟩ : ∃ W, fdB (tfT P K a' b' (gN 1 I)) 41 0 = W := ⟨_, rfl⟩
          refine GW.weak (GW.eqI ?_ (l_foC sx P hP8 I hP1 hN a' b' (by omega) (by omega) K hK W J _ (fun X hb => ?_) (fun X hb => ?_) 41 0 (gN 21 I) rfl hW)) ⟨rfl, rfl, rfl, rfl, rfl, trivial⟩
          · rw [pN_gN]
          · refine ⟨_, rfl, ?_⟩
            refine Mt.of2 _ rfl (by decide +kernel) (Nat.le_of_ble_eq_true rfl) ?_
            refine GW.run kX4_fires (fun pc => Nat.beq pc 55) 124 0 rfl ?_
            refine Mt.conseq (m_isRoom _ _ _ _) ?_
            rintro _ _ _ ⟨rfl, rfl, ⟨g1, rfl⟩ | ⟨g1, rfl⟩⟩
            · -- pc 1 call X4_isRoom true
              refine And.intro (fun hh => absurd hh (by decide)) (fun _ => ?_)
              refine Mt.conseq (m_isRoom _ _ _ _) ?_
              rintro _ _ _ ⟨rfl, rfl, ⟨g2, rfl⟩ | ⟨g2, rfl⟩⟩
              · -- pc 8 call X4_isRoom true
                refine And.intro (fun hh => absurd hh (by decide)) (fun _ => ?_)
                refine And.intro (fun g3 => ?_) (fun g3 => ?_)
                · -- pc 16 .if_icmp .eq 10: yes
                  exact absurd g3 h5
                · -- pc 16 .if_icmp .eq 10: no
                  refine Mt.conseq (m_isSpan _ _ _ _) ?_
                  rintro _ _ _ ⟨rfl, rfl, ⟨g4, rfl⟩ | ⟨g4, rfl⟩⟩
                  · -- pc 20 call X4_isSpan true
                    refine And.intro (fun _ => ?_) (fun hh => absurd hh (by decide))
                    refine Mt.conseq ((by have h := m_there sx a' 2 (by omega) (by decide) 2 (by decide) (I 44) (pN 21 X I) J; rw [show sR (I 44) (pN 21 X I) = pN 21 X I from sR_self (pN 21 X I)] at h; exact h)) ?_
                    rintro _ _ _ ⟨rfl, rfl, rfl⟩
                    refine Mt.conseq ((by have h := m_there sx b' 2 (by omega) (by decide) 2 (by decide) (I 44) (pN 21 X I) J; rw [show sR (I 44) (pN 21 X I) = pN 21 X I from sR_self (pN 21 X I)] at h; exact h)) ?_
                    rintro _ _ _ ⟨rfl, rfl, rfl⟩
                    refine GW.weak (GW.eqI ?_ (l_foM sx (I 44) (gN 1 I) P hP8 hN ha a' b' (by omega) (by omega) K hK (pN 21 X I) J _ W (fun g t hg hl => ?_) (fun g t hg hl => ?_) 41 0 (I 44) (I 46) rfl ⟨I 44 (4 + 4 * a' + 2), I 44 (4 + 4 * b' + 2), by rw [upd_self, upd_self]; exact fun _ _ => rfl⟩ hW)) ⟨rfl, rfl, rfl, rfl, rfl, rfl, rfl, rfl, trivial⟩
                    · rw [show sA 46 (I 46) (pN 21 X I) = pN 21 X I from sA_self 46 (pN 21 X I), show sR (I 44) (pN 21 X I) = pN 21 X I from sR_self (pN 21 X I)]
                    · exact ⟨rfl, hS.junk hg⟩
                    · exact absurd hl (by omega)
                  · -- pc 20 call X4_isSpan false
                    exact (nout_nin h7 g4).elim
              · -- pc 8 call X4_isRoom false
                exact (nout_nin h3 g2).elim
            · -- pc 1 call X4_isRoom false
              exact (nout_nin h1 g1).elim
          · refine ⟨_, rfl, ?_⟩
            refine Mt.of2 _ rfl (by decide +kernel) (Nat.le_of_ble_eq_true rfl) ?_
            refine GW.run kX4_fires (fun pc => Nat.beq pc 55) 124 0 rfl ?_
            refine Mt.conseq (m_isRoom _ _ _ _) ?_
            rintro _ _ _ ⟨rfl, rfl, ⟨g1, rfl⟩ | ⟨g1, rfl⟩⟩
            · -- pc 1 call X4_isRoom true
              refine And.intro (fun hh => absurd hh (by decide)) (fun _ => ?_)
              refine Mt.conseq (m_isRoom _ _ _ _) ?_
              rintro _ _ _ ⟨rfl, rfl, ⟨g2, rfl⟩ | ⟨g2, rfl⟩⟩
              · -- pc 8 call X4_isRoom true
                refine And.intro (fun hh => absurd hh (by decide)) (fun _ => ?_)
                refine And.intro (fun g3 => ?_) (fun g3 => ?_)
                · -- pc 16 .if_icmp .eq 10: yes
                  exact absurd g3 h5
                · -- pc 16 .if_icmp .eq 10: no
                  refine Mt.conseq (m_isSpan _ _ _ _) ?_
                  rintro _ _ _ ⟨rfl, rfl, ⟨g4, rfl⟩ | ⟨g4, rfl⟩⟩
                  · -- pc 20 call X4_isSpan true
                    refine And.intro (fun _ => ?_) (fun hh => absurd hh (by decide))
                    refine Mt.conseq ((by have h := m_there sx a' 2 (by omega) (by decide) 2 (by decide) (I 44) (fnd (pN 21 X I) 3) J; rw [show sR (I 44) (fnd (pN 21 X I) 3) = fnd (pN 21 X I) 3 from sR_self (fnd (pN 21 X I) 3)] at h; exact h)) ?_
                    rintro _ _ _ ⟨rfl, rfl, rfl⟩
                    refine Mt.conseq ((by have h := m_there sx b' 2 (by omega) (by decide) 2 (by decide) (I 44) (fnd (pN 21 X I) 3) J; rw [show sR (I 44) (fnd (pN 21 X I) 3) = fnd (pN 21 X I) 3 from sR_self (fnd (pN 21 X I) 3)] at h; exact h)) ?_
                    rintro _ _ _ ⟨rfl, rfl, rfl⟩
                    refine GW.weak (GW.eqI ?_ (l_foM sx (I 44) (gN 1 I) P hP8 hN ha a' b' (by omega) (by omega) K hK (fnd (pN 21 X I) 3) J _ W (fun g t hg hl => ?_) (fun g t hg hl => ?_) 41 0 (I 44) (I 46) rfl ⟨I 44 (4 + 4 * a' + 2), I 44 (4 + 4 * b' + 2), by rw [upd_self, upd_self]; exact fun _ _ => rfl⟩ hW)) ⟨rfl, rfl, rfl, rfl, rfl, rfl, rfl, rfl, trivial⟩
                    · rw [show sA 46 (I 46) (fnd (pN 21 X I) 3) = fnd (pN 21 X I) 3 from sA_self 46 (fnd (pN 21 X I) 3), show sR (I 44) (fnd (pN 21 X I) 3) = fnd (pN 21 X I) 3 from sR_self (fnd (pN 21 X I) 3)]
                    · exact absurd hl (by omega)
                    · exact ⟨rfl, hS.junkf hg (by decide)⟩
                  · -- pc 20 call X4_isSpan false
                    exact (nout_nin h7 g4).elim
              · -- pc 8 call X4_isRoom false
                exact (nout_nin h3 g2).elim
            · -- pc 1 call X4_isRoom false
              exact (nout_nin h1 g1).elim
