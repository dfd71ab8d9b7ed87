/-! THE REFERENCE: hours tried out -/
/-- row a is g -/
def sA (a : Nat) (g : Nat → Int32) (I : Mm) : Mm := fun x => bif Nat.beq x a then g else I x
theorem sA_on {a : Nat} {g : Nat → Int32} {I : Mm} : sA a g I a = g := by
  unfold sA
  rw [show Nat.beq a a = true from Nat.beq_refl a]
  rfl
theorem sA_off {a x : Nat} {g : Nat → Int32} {I : Mm} (h : x ≠ a) : sA a g I x = I x := by
  unfold sA
  rw [na_beqF h]
  rfl
theorem sA_set {a : Nat} {g : Nat → Int32} {I : Mm} {j : Nat} {v : Int32} : na_set (sA a g I) a j v = sA a (upd g j v) I := by
  funext x
  by_cases h : x = a
  · subst h; rw [na_set_on, sA_on, sA_on]
  · rw [na_set_off h, sA_off h, sA_off h]
theorem sA_self (a : Nat) (I : Mm) : sA a (I a) I = I := by
  funext x
  by_cases h : x = a
  · subst h; rw [sA_on]
  · rw [sA_off h]
/-- the first n of f, then g -/
def mv (n : Nat) (f g : Nat → Int32) : Nat → Int32 := fun j => if j < n then f j else g j
theorem mv_0 (f g : Nat → Int32) : mv 0 f g = g := by funext j; simp [mv]
theorem mv_s (n : Nat) (f g : Nat → Int32) : upd (mv n f g) n (f n) = mv (n + 1) f g := by
  funext j
  simp only [upd, mv]
  by_cases h : j = n
  · subst h; rw [if_pos rfl, if_pos (by omega)]
  · rw [if_neg h]
    by_cases h2 : j < n
    · rw [if_pos h2, if_pos (by omega)]
    · rw [if_neg h2, if_neg (by omega)]
def E76 (g f : Nat → Int32) : Prop := ∀ j, j < 76 → g j = f j
theorem mv_E (f g : Nat → Int32) : E76 (mv 76 f g) f := fun j h => if_pos h
set_option maxRecDepth 100000 in
set_option maxHeartbeats 4000000 in
theorem l_mv46_1 (sx : Nat × (Nat → Int32)) (I : Mm) (J : Ml) (Rt : Option Value → Mm → Ml → Prop) (hR : Rt none (sA 46 (mv 76 (I 44) (I 46)) I) J) : ∀ m n, n + m = 76 → GW sx (na_mi MX4_moveAll) Rt 2 [some (.ref 43), some (.int 1), some (.ref 46), some (.int (nI n))] [] (sA 46 (mv n (I 44) (I 46)) I) J := by
  intro m
  induction m with
  | zero =>
    intro n hn
    obtain rfl : n = 76 := by omega
    have hz : (76 : Int32) ≤ nI 76 := by decide
    refine GW.run kX4_moveAll (fun pc => Nat.beq pc 2) 55 2 rfl ?_
    refine And.intro (fun _ => ?_) (fun hh => absurd hz hh)
    exact hR
  | succ m ih =>
    intro n hn
    have hz : ¬ (76 : Int32) ≤ nI n := nI_ge (a := n) (b := 76) (by omega) (by omega)
    have hb7 : vp_in (nI n) 76 := vp_in_nI (by omega) (by omega)
    have hc := nI_clamp (n := n) (by omega)
    have ih := ih (n + 1) (by omega)
    refine GW.run kX4_moveAll (fun pc => Nat.beq pc 2) 55 2 rfl ?_
    refine And.intro (fun hh => absurd hh hz) (fun _ => ?_)
    refine And.intro (fun hh => absurd hh (by decide)) (fun _ => ?_)
    refine And.intro (hb7) ?_
    refine And.intro (hb7) ?_
    refine GW.weak (GW.eqI ?_ ih) ⟨rfl, rfl, rfl, by rw [nI_1], trivial⟩
    rw [← mv_s, ← sA_set, hc]
    rfl
set_option maxRecDepth 100000 in
set_option maxHeartbeats 4000000 in
theorem m_mv46_1 (sx : Nat × (Nat → Int32)) (I : Mm) (J : Ml) : Mt sx MX4_moveAll [.ref 43, .int 1, .ref 46] I J (fun r' I' J' => (sA 46 (mv 76 (I 44) (I 46)) I) = I' ∧ J = J' ∧ r' = none) := by
  refine Mt.of2 _ rfl (by decide +kernel) (Nat.le_of_ble_eq_true rfl) ?_
  refine GW.run kX4_moveAll (fun pc => Nat.beq pc 2) 55 0 rfl ?_
  refine GW.eqI ?_ (l_mv46_1 sx I J _ ⟨rfl, rfl, rfl⟩ 76 0 rfl)
  rw [mv_0, sA_self]
set_option maxRecDepth 100000 in
set_option maxHeartbeats 4000000 in
theorem l_mv46_0 (sx : Nat × (Nat → Int32)) (I : Mm) (J : Ml) (Rt : Option Value → Mm → Ml → Prop) (hR : Rt none (sA 44 (mv 76 (I 46) (I 44)) I) J) : ∀ m n, n + m = 76 → GW sx (na_mi MX4_moveAll) Rt 2 [some (.ref 43), some (.int 0), some (.ref 46), some (.int (nI n))] [] (sA 44 (mv n (I 46) (I 44)) I) J := by
  intro m
  induction m with
  | zero =>
    intro n hn
    obtain rfl : n = 76 := by omega
    have hz : (76 : Int32) ≤ nI 76 := by decide
    refine GW.run kX4_moveAll (fun pc => Nat.beq pc 2) 55 2 rfl ?_
    refine And.intro (fun _ => ?_) (fun hh => absurd hz hh)
    exact hR
  | succ m ih =>
    intro n hn
    have hz : ¬ (76 : Int32) ≤ nI n := nI_ge (a := n) (b := 76) (by omega) (by omega)
    have hb7 : vp_in (nI n) 76 := vp_in_nI (by omega) (by omega)
    have hc := nI_clamp (n := n) (by omega)
    have ih := ih (n + 1) (by omega)
    refine GW.run kX4_moveAll (fun pc => Nat.beq pc 2) 55 2 rfl ?_
    refine And.intro (fun hh => absurd hh hz) (fun _ => ?_)
    refine And.intro (fun _ => ?_) (fun hh => absurd hh (by decide))
    refine And.intro (hb7) ?_
    refine And.intro (hb7) ?_
    refine GW.weak (GW.eqI ?_ ih) ⟨rfl, rfl, rfl, by rw [nI_1], trivial⟩
    rw [← mv_s, ← sA_set, hc]
    rfl
set_option maxRecDepth 100000 in
set_option maxHeartbeats 4000000 in
theorem m_mv46_0 (sx : Nat × (Nat → Int32)) (I : Mm) (J : Ml) : Mt sx MX4_moveAll [.ref 43, .int 0, .ref 46] I J (fun r' I' J' => (sA 44 (mv 76 (I 46) (I 44)) I) = I' ∧ J = J' ∧ r' = none) := by
  refine Mt.of2 _ rfl (by decide +kernel) (Nat.le_of_ble_eq_true rfl) ?_
  refine GW.run kX4_moveAll (fun pc => Nat.beq pc 2) 55 0 rfl ?_
  refine GW.eqI ?_ (l_mv46_0 sx I J _ ⟨rfl, rfl, rfl⟩ 76 0 rfl)
  rw [mv_0, sA_self]
set_option maxRecDepth 100000 in
set_option maxHeartbeats 4000000 in
theorem l_mv52_1 (sx : Nat × (Nat → Int32)) (I : Mm) (J : Ml) (Rt : Option Value → Mm → Ml → Prop) (hR : Rt none (sA 52 (mv 76 (I 44) (I 52)) I) J) : ∀ m n, n + m = 76 → GW sx (na_mi MX4_moveAll) Rt 2 [some (.ref 43), some (.int 1), some (.ref 52), some (.int (nI n))] [] (sA 52 (mv n (I 44) (I 52)) I) J := by
  intro m
  induction m with
  | zero =>
    intro n hn
    obtain rfl : n = 76 := by omega
    have hz : (76 : Int32) ≤ nI 76 := by decide
    refine GW.run kX4_moveAll (fun pc => Nat.beq pc 2) 55 2 rfl ?_
    refine And.intro (fun _ => ?_) (fun hh => absurd hz hh)
    exact hR
  | succ m ih =>
    intro n hn
    have hz : ¬ (76 : Int32) ≤ nI n := nI_ge (a := n) (b := 76) (by omega) (by omega)
    have hb7 : vp_in (nI n) 76 := vp_in_nI (by omega) (by omega)
    have hc := nI_clamp (n := n) (by omega)
    have ih := ih (n + 1) (by omega)
    refine GW.run kX4_moveAll (fun pc => Nat.beq pc 2) 55 2 rfl ?_
    refine And.intro (fun hh => absurd hh hz) (fun _ => ?_)
    refine And.intro (fun hh => absurd hh (by decide)) (fun _ => ?_)
    refine And.intro (hb7) ?_
    refine And.intro (hb7) ?_
    refine GW.weak (GW.eqI ?_ ih) ⟨rfl, rfl, rfl, by rw [nI_1], trivial⟩
    rw [← mv_s, ← sA_set, hc]
    rfl
set_option maxRecDepth 100000 in
set_option maxHeartbeats 4000000 in
theorem m_mv52_1 (sx : Nat × (Nat → Int32)) (I : Mm) (J : Ml) : Mt sx MX4_moveAll [.ref 43, .int 1, .ref 52] I J (fun r' I' J' => (sA 52 (mv 76 (I 44) (I 52)) I) = I' ∧ J = J' ∧ r' = none) := by
  refine Mt.of2 _ rfl (by decide +kernel) (Nat.le_of_ble_eq_true rfl) ?_
  refine GW.run kX4_moveAll (fun pc => Nat.beq pc 2) 55 0 rfl ?_
  refine GW.eqI ?_ (l_mv52_1 sx I J _ ⟨rfl, rfl, rfl⟩ 76 0 rfl)
  rw [mv_0, sA_self]
set_option maxRecDepth 100000 in
set_option maxHeartbeats 4000000 in
theorem l_mv52_0 (sx : Nat × (Nat → Int32)) (I : Mm) (J : Ml) (Rt : Option Value → Mm → Ml → Prop) (hR : Rt none (sA 44 (mv 76 (I 52) (I 44)) I) J) : ∀ m n, n + m = 76 → GW sx (na_mi MX4_moveAll) Rt 2 [some (.ref 43), some (.int 0), some (.ref 52), some (.int (nI n))] [] (sA 44 (mv n (I 52) (I 44)) I) J := by
  intro m
  induction m with
  | zero =>
    intro n hn
    obtain rfl : n = 76 := by omega
    have hz : (76 : Int32) ≤ nI 76 := by decide
    refine GW.run kX4_moveAll (fun pc => Nat.beq pc 2) 55 2 rfl ?_
    refine And.intro (fun _ => ?_) (fun hh => absurd hz hh)
    exact hR
  | succ m ih =>
    intro n hn
    have hz : ¬ (76 : Int32) ≤ nI n := nI_ge (a := n) (b := 76) (by omega) (by omega)
    have hb7 : vp_in (nI n) 76 := vp_in_nI (by omega) (by omega)
    have hc := nI_clamp (n := n) (by omega)
    have ih := ih (n + 1) (by omega)
    refine GW.run kX4_moveAll (fun pc => Nat.beq pc 2) 55 2 rfl ?_
    refine And.intro (fun hh => absurd hh hz) (fun _ => ?_)
    refine And.intro (fun _ => ?_) (fun hh => absurd hh (by decide))
    refine And.intro (hb7) ?_
    refine And.intro (hb7) ?_
    refine GW.weak (GW.eqI ?_ ih) ⟨rfl, rfl, rfl, by rw [nI_1], trivial⟩
    rw [← mv_s, ← sA_set, hc]
    rfl
set_option maxRecDepth 100000 in
set_option maxHeartbeats 4000000 in
theorem m_mv52_0 (sx : Nat × (Nat → Int32)) (I : Mm) (J : Ml) : Mt sx MX4_moveAll [.ref 43, .int 0, .ref 52] I J (fun r' I' J' => (sA 44 (mv 76 (I 52) (I 44)) I) = I' ∧ J = J' ∧ r' = none) := by
  refine Mt.of2 _ rfl (by decide +kernel) (Nat.le_of_ble_eq_true rfl) ?_
  refine GW.run kX4_moveAll (fun pc => Nat.beq pc 2) 55 0 rfl ?_
  refine GW.eqI ?_ (l_mv52_0 sx I J _ ⟨rfl, rfl, rfl⟩ 76 0 rfl)
  rw [mv_0, sA_self]
set_option maxRecDepth 100000 in
set_option maxHeartbeats 4000000 in
theorem l_mv53_1 (sx : Nat × (Nat → Int32)) (I : Mm) (J : Ml) (Rt : Option Value → Mm → Ml → Prop) (hR : Rt none (sA 53 (mv 76 (I 44) (I 53)) I) J) : ∀ m n, n + m = 76 → GW sx (na_mi MX4_moveAll) Rt 2 [some (.ref 43), some (.int 1), some (.ref 53), some (.int (nI n))] [] (sA 53 (mv n (I 44) (I 53)) I) J := by
  intro m
  induction m with
  | zero =>
    intro n hn
    obtain rfl : n = 76 := by omega
    have hz : (76 : Int32) ≤ nI 76 := by decide
    refine GW.run kX4_moveAll (fun pc => Nat.beq pc 2) 55 2 rfl ?_
    refine And.intro (fun _ => ?_) (fun hh => absurd hz hh)
    exact hR
  | succ m ih =>
    intro n hn
    have hz : ¬ (76 : Int32) ≤ nI n := nI_ge (a := n) (b := 76) (by omega) (by omega)
    have hb7 : vp_in (nI n) 76 := vp_in_nI (by omega) (by omega)
    have hc := nI_clamp (n := n) (by omega)
    have ih := ih (n + 1) (by omega)
    refine GW.run kX4_moveAll (fun pc => Nat.beq pc 2) 55 2 rfl ?_
    refine And.intro (fun hh => absurd hh hz) (fun _ => ?_)
    refine And.intro (fun hh => absurd hh (by decide)) (fun _ => ?_)
    refine And.intro (hb7) ?_
    refine And.intro (hb7) ?_
    refine GW.weak (GW.eqI ?_ ih) ⟨rfl, rfl, rfl, by rw [nI_1], trivial⟩
    rw [← mv_s, ← sA_set, hc]
    rfl
set_option maxRecDepth 100000 in
set_option maxHeartbeats 4000000 in
theorem m_mv53_1 (sx : Nat × (Nat → Int32)) (I : Mm) (J : Ml) : Mt sx MX4_moveAll [.ref 43, .int 1, .ref 53] I J (fun r' I' J' => (sA 53 (mv 76 (I 44) (I 53)) I) = I' ∧ J = J' ∧ r' = none) := by
  refine Mt.of2 _ rfl (by decide +kernel) (Nat.le_of_ble_eq_true rfl) ?_
  refine GW.run kX4_moveAll (fun pc => Nat.beq pc 2) 55 0 rfl ?_
  refine GW.eqI ?_ (l_mv53_1 sx I J _ ⟨rfl, rfl, rfl⟩ 76 0 rfl)
  rw [mv_0, sA_self]
set_option maxRecDepth 100000 in
set_option maxHeartbeats 4000000 in
theorem l_mv53_0 (sx : Nat × (Nat → Int32)) (I : Mm) (J : Ml) (Rt : Option Value → Mm → Ml → Prop) (hR : Rt none (sA 44 (mv 76 (I 53) (I 44)) I) J) : ∀ m n, n + m = 76 → GW sx (na_mi MX4_moveAll) Rt 2 [some (.ref 43), some (.int 0), some (.ref 53), some (.int (nI n))] [] (sA 44 (mv n (I 53) (I 44)) I) J := by
  intro m
  induction m with
  | zero =>
    intro n hn
    obtain rfl : n = 76 := by omega
    have hz : (76 : Int32) ≤ nI 76 := by decide
    refine GW.run kX4_moveAll (fun pc => Nat.beq pc 2) 55 2 rfl ?_
    refine And.intro (fun _ => ?_) (fun hh => absurd hz hh)
    exact hR
  | succ m ih =>
    intro n hn
    have hz : ¬ (76 : Int32) ≤ nI n := nI_ge (a := n) (b := 76) (by omega) (by omega)
    have hb7 : vp_in (nI n) 76 := vp_in_nI (by omega) (by omega)
    have hc := nI_clamp (n := n) (by omega)
    have ih := ih (n + 1) (by omega)
    refine GW.run kX4_moveAll (fun pc => Nat.beq pc 2) 55 2 rfl ?_
    refine And.intro (fun hh => absurd hh hz) (fun _ => ?_)
    refine And.intro (fun _ => ?_) (fun hh => absurd hh (by decide))
    refine And.intro (hb7) ?_
    refine And.intro (hb7) ?_
    refine GW.weak (GW.eqI ?_ ih) ⟨rfl, rfl, rfl, by rw [nI_1], trivial⟩
    rw [← mv_s, ← sA_set, hc]
    rfl
set_option maxRecDepth 100000 in
set_option maxHeartbeats 4000000 in
theorem m_mv53_0 (sx : Nat × (Nat → Int32)) (I : Mm) (J : Ml) : Mt sx MX4_moveAll [.ref 43, .int 0, .ref 53] I J (fun r' I' J' => (sA 44 (mv 76 (I 53) (I 44)) I) = I' ∧ J = J' ∧ r' = none) := by
  refine Mt.of2 _ rfl (by decide +kernel) (Nat.le_of_ble_eq_true rfl) ?_
  refine GW.run kX4_moveAll (fun pc => Nat.beq pc 2) 55 0 rfl ?_
  refine GW.eqI ?_ (l_mv53_0 sx I J _ ⟨rfl, rfl, rfl⟩ 76 0 rfl)
  rw [mv_0, sA_self]
def itM (P : Nat) : Nat → (Nat → Int32) → (Nat → Int32)
  | 0, f => f
  | n + 1, f => hrM P (itM P n f)
theorem itM_3 (P : Nat) (f : Nat → Int32) : ∀ n, itM P n f 3 = f 3
  | 0 => rfl
  | n + 1 => by rw [itM, hrM_3, itM_3 P f n]
theorem itM_pl (P : Nat) (f : Nat → Int32) (hpl : ∀ p, p < P → vp_in (f (36 + 5 * p + 1)) 8) (q : Nat) : ∀ n, itM P n f (36 + 5 * q + 1) = f (36 + 5 * q + 1)
  | 0 => rfl
  | n + 1 => by rw [itM, hrM_pl P _ (fun p hp => by rw [itM_pl P f hpl p n]; exact hpl p hp) q, itM_pl P f hpl q n]
set_option maxRecDepth 100000 in
set_option maxHeartbeats 4000000 in
theorem l_mps (sx : Nat × (Nat → Int32)) (f : Nat → Int32) (P : Nat) (hP : f 3 = nI P) (hP8 : P ≤ 8) (hpl : ∀ p, p < P → vp_in (f (36 + 5 * p + 1)) 8) (K : Nat) (hK : K ≤ 60) (I : Mm) (J : Ml) (Rt : Option Value → Mm → Ml → Prop) (hR : Rt none (sR (itM P K f) I) J) : ∀ m n, n + m = K → GW sx (na_mi MX4_passes) Rt 2 [some (.ref 43), some (.int (nI K)), some (.int (nI n))] [] (sR (itM P n f) I) J := by
  intro m
  induction m with
  | zero =>
    intro n hn
    obtain rfl : K = n := by omega
    have hz : nI K ≤ nI K := Int32.le_refl _
    refine GW.run kX4_passes (fun pc => Nat.beq pc 2) 40 2 rfl ?_
    refine And.intro (fun _ => ?_) (fun hh => absurd hz hh)
    exact hR
  | succ m ih =>
    intro n hn
    have hz : ¬ nI K ≤ nI n := nI_ge (by omega) (by omega)
    have hc := nI_clamp (n := n) (by omega)
    have ih := ih (n + 1) (by omega)
    refine GW.run kX4_passes (fun pc => Nat.beq pc 2) 40 2 rfl ?_
    refine And.intro (fun hh => absurd hh hz) (fun _ => ?_)
    refine Mt.conseq (m_hour _ (itM P n f) P (by rw [itM_3]; exact hP) hP8 (fun p hp => by rw [itM_pl P f hpl p n]; exact hpl p hp) _ _) ?_
    rintro _ _ _ ⟨rfl, rfl, rfl⟩
    exact GW.weak ih ⟨rfl, rfl, by rw [nI_1], trivial⟩
set_option maxRecDepth 100000 in
set_option maxHeartbeats 4000000 in
theorem m_ps (sx : Nat × (Nat → Int32)) (f : Nat → Int32) (P : Nat) (hP : f 3 = nI P) (hP8 : P ≤ 8) (hpl : ∀ p, p < P → vp_in (f (36 + 5 * p + 1)) 8) (K : Nat) (hK : K ≤ 60) (I : Mm) (J : Ml) : Mt sx MX4_passes [.ref 43, .int (nI K)] (sR f I) J (fun r' I' J' => sR (itM P K f) I = I' ∧ J = J' ∧ r' = none) := by
  refine Mt.of2 _ rfl (by decide +kernel) (Nat.le_of_ble_eq_true rfl) ?_
  refine GW.run kX4_passes (fun pc => Nat.beq pc 2) 40 0 rfl ?_
  exact l_mps sx f P hP hP8 hpl K hK I J _ ⟨rfl, rfl, rfl⟩ K 0 (by omega)
/-- in how many hours one of a set is stifled first, m at most -/
def un (P : Nat) (set : Int32) : Nat → (Nat → Int32) → Nat
  | 0, _ => 0
  | m + 1, f => if stf (vN f) P &&& set = 0 then 1 + un P set m (hrM P f) else 0
