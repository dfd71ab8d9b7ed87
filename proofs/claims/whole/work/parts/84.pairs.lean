/-! PAIRS: share -/
def orF : Nat → Int32 := na_lst [1, 1, 2, 6, 24, 120, 720]
def prG : Nat → Int64
  | 0 => 1
  | n + 1 => prG n * (nI (n + 2)).toInt64
def pcn (n : Nat) : Nat := (bcn (nI n)).toNatClampNeg
theorem pc_b : ∀ n, n < 64 → bcn (nI n) = nI (pcn n) ∧ pcn n ≤ 6 := by decide +kernel
theorem pc_k0 : ∀ k, k ≤ 6 → ∀ p, p < 6 → ∀ n, n < 64 → (n < 2 ^ k ∧ p < k ∧ ¬ hasP (nI n) (nI p)) → pcn n + 1 ≤ k := by decide +kernel
theorem pc_k : ∀ k, k ≤ 6 → ∀ n, n < 64 → n < 2 ^ k → ∀ p, p < k → ¬ hasP (nI n) (nI p) → pcn n + 1 ≤ k := fun k hk n hn h2 p hp h => pc_k0 k hk p (by omega) n hn ⟨h2, hp, h⟩
theorem pr_or : ∀ j, j ≤ 6 → prG (j - 1) = (orF j).toInt64 ∧ ¬ prG (j - 1) = 0 ∧ ¬ orF j = 0 := by decide +kernel
theorem pr_720 : ∀ k, k ≤ 6 → 1 ≤ k → (orF (6 : Int32).toNatClampNeg / orF k).toInt64 = 720 / prG (k - 1) := by decide +kernel
theorem has_or : ∀ n, n < 64 → ∀ p, p < 8 → ∀ q, q < 8 → (hasP (nI n ||| (1 <<< (nI p &&& 31))) (nI q) ↔ (q = p ∨ hasP (nI n) (nI q))) := by decide +kernel
/-- the greatest breath of a set -/
theorem gre_b {P : Nat} (hP8 : P ≤ 8) {N : Mm} (h : InvP P N) (S : Int32) : ∀ q, q ≤ P → rg 0 48 (gre N P S q)
  | 0, _ => ⟨by rw [gre, i0]; omega, by rw [gre, i0]; omega⟩
  | q + 1, hq => by
    obtain ⟨b1, b2⟩ := brt_b hP8 h (p := q) (by omega)
    obtain ⟨g1, g2⟩ := gre_b hP8 h S q (by omega)
    rw [gre]
    split
    · constructor <;> rw [jmax_toInt] <;> omega
    · exact ⟨g1, g2⟩
theorem grM_gre {P : Nat} (hP8 : P ≤ 8) {N : Mm} (h : InvP P N) (S : Int32) : ∀ q, q ≤ P → grM N P S q = gre N P S q
  | 0, _ => rfl
  | q + 1, hq => by
    obtain ⟨b1, b2⟩ := brt_b hP8 h (p := q) (by omega)
    obtain ⟨g1, g2⟩ := gre_b hP8 h S q (by omega)
    rw [grM, gre, grM_gre hP8 h S q (by omega)]
    by_cases hc : hasP S (nI q)
    · rw [if_pos hc, if_pos hc]
      rfl
    · rw [if_neg hc, if_neg hc, if_neg (fun z => by rw [lt_i, i0] at z; omega)]
theorem gre_or {P : Nat} (hP8 : P ≤ 8) {N : Mm} (h : InvP P N) {n p : Nat} (hn : n < 64) (hp : p < P) : ∀ q, q ≤ P → (gre N P (nI n ||| (1 <<< (nI p &&& 31))) q).toInt = if p < q then max (gre N P (nI n) q).toInt (brt N P p).toInt else (gre N P (nI n) q).toInt
  | 0, _ => by rw [if_neg (by omega)]; rfl
  | q + 1, hq => by
    have ih := gre_or hP8 h hn hp q (by omega)
    have ho := has_or n hn p (by omega) q (by omega)
    obtain ⟨g1, g2⟩ := gre_b hP8 h (nI n) q (by omega)
    rw [gre, gre]
    by_cases e : q = p
    · subst e
      rw [if_pos (ho.mpr (Or.inl rfl)), if_pos (by omega), jmax_toInt, ih, if_neg (by omega)]
      split
      · rw [jmax_toInt]; omega
      · rfl
    · by_cases hc : hasP (nI n) (nI q)
      · rw [if_pos (ho.mpr (Or.inr hc)), if_pos hc, jmax_toInt, jmax_toInt, ih]
        by_cases l : p < q
        · rw [if_pos l, if_pos (by omega)]; omega
        · rw [if_neg l, if_neg (by omega)]
      · rw [if_neg (fun z => (ho.mp z).elim e hc), if_neg hc, ih]
        by_cases l : p < q
        · rw [if_pos l, if_pos (by omega)]
        · rw [if_neg l, if_neg (by omega)]
theorem more_eq {P : Nat} {f : Nat → Int32} {N : Mm} (hN : NOk P N) (ha : Agr P (vN f) N) {n p : Nat} (hn : n < 64) (hp : p < P) : grM (vN f) P (nI n ||| (1 <<< (nI p &&& 31))) P - grM (vN f) P (nI n) P = jmax 0 (brt N P p - gre N P (nI n) P) := by
  have hP8 := hN.2.2.2.1
  have h := hN.2.1
  rw [grM_c ha _ P (Nat.le_refl _), grM_c ha _ P (Nat.le_refl _), grM_gre hP8 h _ P (Nat.le_refl _), grM_gre hP8 h _ P (Nat.le_refl _)]
  have ho := gre_or hP8 h hn hp P (Nat.le_refl _)
  rw [if_pos hp] at ho
  obtain ⟨g1, g2⟩ := gre_b hP8 h (nI n) P (Nat.le_refl _)
  obtain ⟨b1, b2⟩ := brt_b hP8 h hp
  apply Int32.toInt_inj.mp
  rw [jmax_toInt, i0, tS (by omega) (by omega), tS (by omega) (by omega), ho]
  omega
def shI (P p k : Nat) (N : Mm) (n : Nat) : Int64 := (jmax 0 (brt N P p - gre N P (nI n) P)).toInt64 * (orF (pcn n)).toInt64 * (orF (k - 1 - pcn n)).toInt64
def shF (P p k : Nat) (N : Mm) : Nat → Int64
  | 0 => 0
  | n + 1 => if hasP (nI n) (nI p) then shF P p k N n else shF P p k N n + shI P p k N n
set_option maxRecDepth 100000 in
set_option maxHeartbeats 4000000 in
theorem l_prM (sx : Nat × (Nat → Int32)) (q : Nat) (hq : q < 8) (I : Mm) (J : Ml) (Rt : Option Value → Mm → Ml → Prop) (hR : Rt (some (.long (prG q))) I J) : ∀ m n , n + m = q → GW sx (na_mi MX4_product) Rt 4 [some (.int (nI (q + 1))), some (.long (prG n)), none, some (.int (nI (n + 2)))] [] I J := by
  intro m
  induction m with
  | zero =>
    intro n  hn 
    obtain rfl : q = n := by omega
    have hz : nI (q + 1) < nI (q + 2) := nI_lt (by omega) (by omega)
    refine GW.run kX4_product (fun pc => Nat.beq pc 4) 46 4 rfl ?_
    refine And.intro (fun _ => ?_) (fun hh => absurd hz hh)
    exact hR
  | succ m ih =>
    intro n  hn 
    have hz : ¬ nI (q + 1) < nI (n + 2) := nI_nlt (by omega) (by omega)
    have ih := ih (n + 1) (by omega)
    refine GW.run kX4_product (fun pc => Nat.beq pc 4) 46 4 rfl ?_
    refine And.intro (fun hh => absurd hh hz) (fun _ => ?_)
    exact GW.weak ih ⟨rfl, rfl, by rw [nI_1], trivial⟩
set_option maxRecDepth 100000 in
set_option maxHeartbeats 4000000 in
theorem m_prod (sx : Nat × (Nat → Int32)) (j : Nat) (hj : j ≤ 8) (I : Mm) (J : Ml) : Mt sx MX4_product [.int (nI j)] I J (fun r I' J' => I = I' ∧ J = J' ∧ r = some (.long (prG (j - 1)))) := by
  refine Mt.of2 _ rfl (by decide +kernel) (Nat.le_of_ble_eq_true rfl) ?_
  cases j with
  | zero =>
    refine GW.run kX4_product (fun _ => false) 46 0 rfl ?_
    refine And.intro (fun _ => ?_) (fun hh => absurd (by decide) hh)
    exact ⟨rfl, rfl, rfl⟩
  | succ q =>
    refine GW.run kX4_product (fun pc => Nat.beq pc 4) 46 0 rfl ?_
    exact GW.weak (l_prM sx q (by omega) I J _ ⟨rfl, rfl, rfl⟩ q 0 (by omega)) ⟨rfl, rfl, rfl, trivial⟩
set_option maxRecDepth 100000 in
set_option maxHeartbeats 4000000 in
theorem l_shrC (sx : Nat × (Nat → Int32)) (P : Nat) (hP8 : P ≤ 8) (N : Mm) (hPN : N 0 7 = nI P) (p k : Nat) (hp : p < k) (hk : k ≤ 6) (B : Nat) (hB : (1 : Int32) <<< (nI k &&& 31) = nI B) (hB6 : B = 2 ^ k) (hB64 : B ≤ 64) (I : Mm) (J : Ml) (Rt : Option Value → Mm → Ml → Prop) (hR : Rt (some (.long (shF P p k N B * (orF (6 : Int32).toNatClampNeg / orF k).toInt64))) (pN 1 N I) J) : ∀ m n , n + m = B → GW sx (na_mi MX3_share) Rt 55 [some (.ref 0), some (.int (nI p)), some (.int (nI k)), some (.int (brt N P p)), some (.long (shF P p k N n)), none, some (.int (nI n)), none, none] [] (pN 1 N I) J := by
  intro m
  induction m with
  | zero =>
    intro n  hn 
    obtain rfl : B = n := by omega
    have hz : (1 : Int32) <<< (nI k &&& 31) ≤ nI B := by rw [hB]; exact Int32.le_refl _
    have hbk : vp_in (nI k) 7 := vp_in_nI (by omega) (by omega)
    have hck := nI_clamp (n := k) (by omega)
    have hdv : ¬ orF (nI k).toNatClampNeg = 0 := by rw [hck]; exact (pr_or k hk).2.2
    rw [← hck] at hR
    rw [hck] at hR
    refine GW.run kX3_share (fun pc => Nat.beq pc 55) 114 31 rfl ?_
    refine And.intro (fun _ => ?_) (fun hh => absurd hz hh)
    refine And.intro (by unfold vp_in; decide) ?_
    refine And.intro (hbk) ?_
    refine And.intro (hdv) ?_
    have q := hR
    rw [← hck] at q
    rw [show shF P p (nI k).toNatClampNeg N B = shF P p k N B by rw [hck]] at q
    exact q
  | succ m ih =>
    intro n  hn 
    have hz : ¬ (1 : Int32) <<< (nI k &&& 31) ≤ nI n := by rw [hB]; exact nI_ge (by omega) (by omega)
    have ih := ih (n + 1) (by omega)
    have hpb := pc_b n (by omega)
    have hcb : (bcn (nI n)).toNatClampNeg = pcn n := rfl
    have hb1 : vp_in (bcn (nI n)) 7 := by rw [hpb.1]; exact vp_in_nI (by omega) (by omega)
    have hk1 : nI k - 1 = nI (k - 1) := by
      obtain ⟨q, rfl⟩ : ∃ q, k = q + 1 := ⟨k - 1, by omega⟩
      rw [nI_pred]
      rfl
    have hpk : ¬ hasP (nI n) (nI p) → pcn n + 1 ≤ k := pc_k k hk n (by omega) (by omega) p hp
    have hk2 : ¬ hasP (nI n) (nI p) → nI k - 1 - bcn (nI n) = nI (k - 1 - pcn n) := fun z => by have := hpk z; rw [hk1, hpb.1, pk_sub (by omega)]
    have hb2 : ¬ hasP (nI n) (nI p) → vp_in (nI k - 1 - bcn (nI n)) 7 := fun z => by rw [hk2 z]; exact vp_in_nI (by omega) (by omega)
    have hinc : ¬ hasP (nI n) (nI p) → shF P p k N (n + 1) = shF P p k N n + (jmax 0 (brt N P p - gre N P (nI n) P)).toInt64 * (orF (bcn (nI n)).toNatClampNeg).toInt64 * (orF (nI k - 1 - bcn (nI n)).toNatClampNeg).toInt64 := fun z => by
      rw [shF, if_neg z, shI, hk2 z, nI_clamp (by omega)]
      rfl
    refine GW.run kX3_share (fun pc => Nat.beq pc 55) 114 31 rfl ?_
    refine And.intro (fun hh => absurd hh hz) (fun _ => ?_)
    refine Mt.conseq (c_has _ _ _ _ _) ?_
    rintro _ _ _ ⟨rfl, rfl, ⟨h1, rfl⟩ | ⟨h1, rfl⟩⟩
    · -- pc 66 call X3_has true
      refine And.intro (fun _ => ?_) (fun hh => absurd hh (by decide))
      exact GW.weak ih ⟨rfl, rfl, rfl, rfl, by rw [shF, if_pos h1], by rw [nI_1], trivial⟩
    · -- pc 66 call X3_has false
      refine And.intro (fun hh => absurd hh (by decide)) (fun _ => ?_)
      refine Mt.conseq (c_gre _ 1 (Or.inl rfl) N P hPN hP8 (nI n) _ _) ?_
      rintro _ _ _ ⟨rfl, rfl, rfl⟩
      refine Mt.conseq (c_bcn _ _ _ _) ?_
      rintro _ _ _ ⟨rfl, rfl, rfl⟩
      refine And.intro (hb1) ?_
      refine And.intro (hb2 h1) ?_
      have e := hinc h1
      exact GW.weak ih ⟨rfl, rfl, rfl, rfl, congrArg Value.long e, by rw [nI_1], trivial⟩
set_option maxRecDepth 100000 in
set_option maxHeartbeats 4000000 in
theorem l_shrM (sx : Nat × (Nat → Int32)) (f : Nat → Int32) (N : Mm) (P : Nat) (hP8 : P ≤ 8) (hN : NOk P N) (ha : Agr P (vN f) N) (hP3 : f 3 = nI P) (p k : Nat) (hp : p < k) (hk : k ≤ 6) (hkP : k ≤ P) (B : Nat) (hB : (1 : Int32) <<< (nI k &&& 31) = nI B) (hB6 : B = 2 ^ k) (hB64 : B ≤ 64) (I : Mm) (J : Ml) (Rt : Option Value → Mm → Ml → Prop) (hR : Rt (some (.long (shF P p k N B * (720 / prG (k - 1))))) (sR f I) J) : ∀ m n , n + m = B → GW sx (na_mi MX4_share) Rt 44 [some (.ref 43), some (.int (nI p)), some (.int (nI k)), some (.long (shF P p k N n)), none, some (.int (nI n)), none] [] (sR f I) J := by
  intro m
  induction m with
  | zero =>
    intro n  hn 
    obtain rfl : B = n := by omega
    have hz : (1 : Int32) <<< (nI k &&& 31) ≤ nI B := by rw [hB]; exact Int32.le_refl _
    refine GW.run kX4_share (fun pc => Nat.beq pc 44) 112 27 rfl ?_
    refine And.intro (fun _ => ?_) (fun hh => absurd hz hh)
    refine Mt.conseq (m_prod _ k (by omega) _ _) ?_
    rintro _ _ _ ⟨rfl, rfl, rfl⟩
    refine And.intro ((pr_or k hk).2.1) ?_
    exact hR
  | succ m ih =>
    intro n  hn 
    have hz : ¬ (1 : Int32) <<< (nI k &&& 31) ≤ nI n := by rw [hB]; exact nI_ge (by omega) (by omega)
    have ih := ih (n + 1) (by omega)
    have hpb := pc_b n (by omega)
    have hbt : btM (nI n) 8 = nI (pcn n) := by rw [← bcn_bt n (by omega)]; exact hpb.1
    have hk1 : nI k - 1 = nI (k - 1) := by
      obtain ⟨q, rfl⟩ : ∃ q, k = q + 1 := ⟨k - 1, by omega⟩
      rw [nI_pred]
      rfl
    have hpk : ¬ hasP (nI n) (nI p) → pcn n + 1 ≤ k := pc_k k hk n (by omega) (by omega) p hp
    have hk2 : ¬ hasP (nI n) (nI p) → nI k - 1 - btM (nI n) 8 = nI (k - 1 - pcn n) := fun z => by have := hpk z; rw [hk1, hbt, pk_sub (by omega)]
    have hinc : ¬ hasP (nI n) (nI p) → shF P p k N (n + 1) = shF P p k N n + (grM (vN f) P (nI n ||| (1 <<< (nI p &&& 31))) P - grM (vN f) P (nI n) P).toInt64 * prG (pcn n - 1) * prG (k - 1 - pcn n - 1) := fun z => by
      rw [shF, if_neg z, shI, more_eq hN ha (by omega) (by omega), (pr_or (pcn n) (by omega)).1, (pr_or (k - 1 - pcn n) (by omega)).1]
    have hinc0 : hasP (nI n) (nI p) → shF P p k N (n + 1) = shF P p k N n + (0 : Int32).toInt64 * prG (pcn n - 1) * 0 := fun z => by
      rw [shF, if_pos z, Int64.mul_zero, Int64.add_zero]
    refine GW.run kX4_share (fun pc => Nat.beq pc 44) 112 27 rfl ?_
    refine And.intro (fun hh => absurd hh hz) (fun _ => ?_)
    refine Mt.conseq (m_has _ _ _ _ _) ?_
    rintro _ _ _ ⟨rfl, rfl, ⟨h1, rfl⟩ | ⟨h1, rfl⟩⟩
    · -- pc 55 call X4_has true
      refine And.intro (fun hh => absurd hh (by decide)) (fun _ => ?_)
      refine Mt.conseq (m_bits _ _ _ _) ?_
      rintro _ _ _ ⟨rfl, rfl, rfl⟩
      refine Mt.conseq ((by rw [hbt]; exact m_prod _ (pcn n) (by omega) _ _)) ?_
      rintro _ _ _ ⟨rfl, rfl, rfl⟩
      refine Mt.conseq (m_has _ _ _ _ _) ?_
      rintro _ _ _ ⟨rfl, rfl, ⟨h4, rfl⟩ | ⟨h4, rfl⟩⟩
      · -- pc 100 call X4_has true
        refine And.intro (fun hh => absurd hh (by decide)) (fun _ => ?_)
        exact GW.weak ih ⟨rfl, rfl, rfl, congrArg Value.long (hinc0 h1), by rw [nI_1], trivial⟩
      · -- pc 100 call X4_has false
        exact absurd h1 h4
    · -- pc 55 call X4_has false
      refine And.intro (fun _ => ?_) (fun hh => absurd hh (by decide))
      refine Mt.conseq (m_gr _ f P hP3 hP8 _ _ _) ?_
      rintro _ _ _ ⟨rfl, rfl, rfl⟩
      refine Mt.conseq (m_gr _ f P hP3 hP8 _ _ _) ?_
      rintro _ _ _ ⟨rfl, rfl, rfl⟩
      refine Mt.conseq (m_bits _ _ _ _) ?_
      rintro _ _ _ ⟨rfl, rfl, rfl⟩
      refine Mt.conseq ((by rw [hbt]; exact m_prod _ (pcn n) (by omega) _ _)) ?_
      rintro _ _ _ ⟨rfl, rfl, rfl⟩
      refine Mt.conseq (m_has _ _ _ _ _) ?_
      rintro _ _ _ ⟨rfl, rfl, ⟨h9, rfl⟩ | ⟨h9, rfl⟩⟩
      · -- pc 100 call X4_has true
        exact absurd h9 h1
      · -- pc 100 call X4_has false
        refine And.intro (fun _ => ?_) (fun hh => absurd hh (by decide))
        refine Mt.conseq (m_bits _ _ _ _) ?_
        rintro _ _ _ ⟨rfl, rfl, rfl⟩
        refine Mt.conseq ((by rw [hk2 h1]; exact m_prod _ (k - 1 - pcn n) (by omega) _ _)) ?_
        rintro _ _ _ ⟨rfl, rfl, rfl⟩
        exact GW.weak ih ⟨rfl, rfl, rfl, congrArg Value.long (hinc h1), by rw [nI_1], trivial⟩
theorem nout16 {v : Int32} (h : ¬ outP v 1 6) : ∃ K, 1 ≤ K ∧ K ≤ 6 ∧ v = nI K := by
  obtain ⟨h1, h2⟩ := nout_rg (a := 1) (b := 6) (by decide) (by decide) h
  obtain ⟨K, hK, e⟩ := nI_rg (b := 6) (by decide) ⟨by omega, h2⟩
  refine ⟨K, ?_, hK, e⟩
  rw [e, nI_toInt (by omega)] at h1
  omega
theorem two6 : ∀ k, k ≤ 6 → (1 : Int32) <<< (nI k &&& 31) = nI (2 ^ k) ∧ 2 ^ k ≤ 64 := by decide
set_option maxRecDepth 100000 in
set_option maxHeartbeats 4000000 in
theorem pr_share (sx : Nat × (Nat → Int32)) (one k : Int32) : PrL sx MX3_share MX4_share [.int one, .int k] := by
  intro I J hS
  obtain ⟨P, hN, ha, hP8, hP1, hP3, hpl⟩ := hS.nt
  have e73 : I 44 3 = I 1 7 := hP3.trans hP1.symm
  refine Mt.of2 _ rfl (by decide +kernel) (Nat.le_of_ble_eq_true rfl) ?_
  refine GW.run kX3_share (fun pc => Nat.beq pc 55) 114 0 rfl ?_
  refine Mt.conseq (c_outside _ _ _ _ _ _) ?_
  rintro _ _ _ ⟨rfl, rfl, ⟨h1, rfl⟩ | ⟨h1, rfl⟩⟩
  · -- pc 4 call X3_outside true
    refine And.intro (fun _ => ?_) (fun hh => absurd hh (by decide))
    refine Mt.conseq (c_fnd0 _ _ _) ?_
    rintro _ _ _ ⟨rfl, rfl, rfl⟩
    refine ⟨_, rfl, ?_⟩
    refine Mt.of2 _ rfl (by decide +kernel) (Nat.le_of_ble_eq_true rfl) ?_
    refine GW.run kX4_share (fun pc => Nat.beq pc 44) 112 0 rfl ?_
    refine Mt.conseq (m_in _ _ _ _ _ _) ?_
    rintro _ _ _ ⟨rfl, rfl, ⟨g1, rfl⟩ | ⟨g1, rfl⟩⟩
    · -- pc 4 call X4_in true
      exact (out_in h1 g1).elim
    · -- pc 4 call X4_in false
      refine And.intro (fun _ => ?_) (fun hh => absurd hh (by decide))
      refine Mt.conseq (m_fnd0 _ _ _) ?_
      rintro _ _ _ ⟨rfl, rfl, rfl⟩
      exact ⟨rfl, hS.found (by decide)⟩
  · -- pc 4 call X3_outside false
    obtain ⟨kk, hk1, hk6, rfl⟩ := nout16 h1
    refine And.intro (fun hh => absurd hh (by decide)) (fun _ => ?_)
    refine Mt.conseq (c_outside _ _ _ _ _ _) ?_
    rintro _ _ _ ⟨rfl, rfl, ⟨h3, rfl⟩ | ⟨h3, rfl⟩⟩
    · -- pc 15 call X3_outside true
      refine And.intro (fun _ => ?_) (fun hh => absurd hh (by decide))
      refine Mt.conseq (c_fnd0 _ _ _) ?_
      rintro _ _ _ ⟨rfl, rfl, rfl⟩
      refine ⟨_, rfl, ?_⟩
      refine Mt.of2 _ rfl (by decide +kernel) (Nat.le_of_ble_eq_true rfl) ?_
      refine GW.run kX4_share (fun pc => Nat.beq pc 44) 112 0 rfl ?_
      refine Mt.conseq (m_in _ _ _ _ _ _) ?_
      rintro _ _ _ ⟨rfl, rfl, ⟨g1, rfl⟩ | ⟨g1, rfl⟩⟩
      · -- pc 4 call X4_in true
        refine And.intro (fun hh => absurd hh (by decide)) (fun _ => ?_)
        refine And.intro (by unfold vp_in; decide) ?_
        refine And.intro (fun g2 => ?_) (fun g2 => ?_)
        · -- pc 17 .if_icmp .gt 14: yes
          refine Mt.conseq (m_fnd0 _ _ _) ?_
          rintro _ _ _ ⟨rfl, rfl, rfl⟩
          exact ⟨rfl, hS.found (by decide)⟩
        · -- pc 17 .if_icmp .gt 14: no
          refine Mt.conseq (m_in _ _ _ _ _ _) ?_
          rintro _ _ _ ⟨rfl, rfl, ⟨g4, rfl⟩ | ⟨g4, rfl⟩⟩
          · -- pc 25 call X4_in true
            exact (out_in h3 g4).elim
          · -- pc 25 call X4_in false
            refine And.intro (fun hh => absurd hh (by decide)) (fun _ => ?_)
            refine Mt.conseq (m_fnd0 _ _ _) ?_
            rintro _ _ _ ⟨rfl, rfl, rfl⟩
            exact ⟨rfl, hS.found (by decide)⟩
      · -- pc 4 call X4_in false
        exact (nout_nin h1 g1).elim
    · -- pc 15 call X3_outside false
      obtain ⟨p, hp, rfl⟩ := nbd (P := kk) rfl (by omega) h3
      refine And.intro (fun hh => absurd hh (by decide)) (fun _ => ?_)
      refine And.intro (fun h5 => ?_) (fun h5 => ?_)
      · -- pc 29 .if_icmp .le 11: yes
        refine Mt.conseq ((by have h := c_brt sx 1 (Or.inl rfl) (gN 1 I) P hP1 hP8 p (by omega) I J; rw [pN_gN] at h; exact h)) ?_
        rintro _ _ _ ⟨rfl, rfl, rfl⟩
        have hkP : kk ≤ P := by
          have q : nI kk ≤ I 1 7 := h5
          rw [hP1, nI_leI (by omega) (by omega)] at q
          exact q
        have h2 := two6 kk hk6
        refine GW.weak (GW.eqI ?_ (l_shrC sx P hP8 (gN 1 I) hP1 p kk hp hk6 (2 ^ kk) h2.1 rfl h2.2 I J _ ?_ (2 ^ kk) 0 (by omega))) ⟨rfl, rfl, rfl, rfl, rfl, rfl, trivial⟩
        · rw [pN_gN]
        rw [pN_gN]
        refine ⟨_, rfl, ?_⟩
        refine Mt.of2 _ rfl (by decide +kernel) (Nat.le_of_ble_eq_true rfl) ?_
        refine GW.run kX4_share (fun pc => Nat.beq pc 44) 112 0 rfl ?_
        refine Mt.conseq (m_in _ _ _ _ _ _) ?_
        rintro _ _ _ ⟨rfl, rfl, ⟨g1, rfl⟩ | ⟨g1, rfl⟩⟩
        · -- pc 4 call X4_in true
          refine And.intro (fun hh => absurd hh (by decide)) (fun _ => ?_)
          refine And.intro (by unfold vp_in; decide) ?_
          refine And.intro (fun g2 => ?_) (fun g2 => ?_)
          · -- pc 17 .if_icmp .gt 14: yes
            exact absurd (show nI kk ≤ I 1 7 from h5) (Int32.not_le.mpr (show I 1 7 < nI kk by rw [← e73]; exact g2))
          · -- pc 17 .if_icmp .gt 14: no
            refine Mt.conseq (m_in _ _ _ _ _ _) ?_
            rintro _ _ _ ⟨rfl, rfl, ⟨g3, rfl⟩ | ⟨g3, rfl⟩⟩
            · -- pc 25 call X4_in true
              refine And.intro (fun _ => ?_) (fun hh => absurd hh (by decide))
              refine GW.weak (GW.eqI (sR_self I).symm (l_shrM sx (I 44) (gN 1 I) P hP8 hN ha hP3 p kk hp hk6 hkP (2 ^ kk) h2.1 rfl h2.2 I J _ ?_ (2 ^ kk) 0 (by omega))) ⟨rfl, rfl, rfl, rfl, rfl, trivial⟩
              exact ⟨by rw [pr_720 kk hk6 hk1], by rw [sR_self]; exact hS⟩
            · -- pc 25 call X4_in false
              exact (nout_nin h3 g3).elim
        · -- pc 4 call X4_in false
          exact (nout_nin h1 g1).elim
      · -- pc 29 .if_icmp .le 11: no
        refine Mt.conseq (c_fnd0 _ _ _) ?_
        rintro _ _ _ ⟨rfl, rfl, rfl⟩
        refine ⟨_, rfl, ?_⟩
        refine Mt.of2 _ rfl (by decide +kernel) (Nat.le_of_ble_eq_true rfl) ?_
        refine GW.run kX4_share (fun pc => Nat.beq pc 44) 112 0 rfl ?_
        refine Mt.conseq (m_in _ _ _ _ _ _) ?_
        rintro _ _ _ ⟨rfl, rfl, ⟨g1, rfl⟩ | ⟨g1, rfl⟩⟩
        · -- pc 4 call X4_in true
          refine And.intro (fun hh => absurd hh (by decide)) (fun _ => ?_)
          refine And.intro (by unfold vp_in; decide) ?_
          refine And.intro (fun g2 => ?_) (fun g2 => ?_)
          · -- pc 17 .if_icmp .gt 14: yes
            refine Mt.conseq (m_fnd0 _ _ _) ?_
            rintro _ _ _ ⟨rfl, rfl, rfl⟩
            exact ⟨rfl, hS.found (by decide)⟩
          · -- pc 17 .if_icmp .gt 14: no
            exact absurd (show nI kk ≤ I 1 7 by rw [← e73]; exact Int32.not_lt.mp g2) h5
        · -- pc 4 call X4_in false
          exact (nout_nin h1 g1).elim
