/-! PAIRS: goes -/
/-- the row behind a, moved up to b -/
def lvS (f : Nat → Int32) (a b : Nat) : Nat → Int32 := fun j => if a ≤ j ∧ j < b then f (j + 5) else f j
def lvM (f : Nat → Int32) (P p : Nat) : Nat → Int32 := upd (lvS f (36 + 5 * p) (36 + 5 * (P - 1))) 3 (f 3 - 1)
theorem lvS_0 (f : Nat → Int32) (a : Nat) : lvS f a a = f := by
  funext j
  unfold lvS
  rw [if_neg (by omega)]
theorem lvS_s {f : Nat → Int32} {a n : Nat} (h : a ≤ n) : upd (lvS f a n) n (lvS f a n (n + 5)) = lvS f a (n + 1) := by
  funext j
  simp only [upd, lvS]
  by_cases e : j = n
  · subst e; rw [if_pos rfl, if_neg (by omega), if_pos (by omega)]
  · rw [if_neg e]
    by_cases h2 : a ≤ j ∧ j < n
    · rw [if_pos h2, if_pos (by omega)]
    · rw [if_neg h2, if_neg (by omega)]
theorem lvS_3 (f : Nat → Int32) (p b : Nat) : lvS f (36 + 5 * p) b 3 = f 3 := by
  unfold lvS
  rw [if_neg (by omega)]
theorem lvB {x : Int32} {P : Nat} (h : x = nI P) (h1 : 1 ≤ P) : (36 : Int32) + 5 * (x - 1) = nI (36 + 5 * (P - 1)) := by
  obtain ⟨q, rfl⟩ : ∃ q, P = q + 1 := ⟨P - 1, by omega⟩
  rw [h, nI_pred, show (36 : Int32) = nI 36 from rfl, show (5 : Int32) = nI 5 from rfl, nI_mul, nI_add]
  rfl
set_option maxRecDepth 100000 in
set_option maxHeartbeats 4000000 in
theorem l_lv (sx : Nat × (Nat → Int32)) (f : Nat → Int32) (P : Nat) (hP : f 3 = nI P) (hP8 : P ≤ 8) (p : Nat) (hp : p < P) (I : Mm) (J : Ml) (Rt : Option Value → Mm → Ml → Prop) (hR : Rt none (sR (upd (lvS f (36 + 5 * p) (36 + 5 * (P - 1))) 3 (f 3 - 1)) I) J) : ∀ m n, n + m = 36 + 5 * (P - 1) → 36 + 5 * p ≤ n → GW sx (na_mi MX4_leaves) Rt 7 [some (.ref 43), some (.int (nI p)), some (.int (nI n))] [] (sR (lvS f (36 + 5 * p) n) I) J := by
  intro m
  induction m with
  | zero =>
    intro n hn h0
    obtain rfl : n = 36 + 5 * (P - 1) := by omega
    have hz : (36 : Int32) + 5 * (lvS f (36 + 5 * p) (36 + 5 * (P - 1)) 3 - 1) ≤ nI (36 + 5 * (P - 1)) := by rw [lvS_3, lvB hP (by omega)]; exact Int32.le_refl _
    refine GW.run kX4_leaves (fun pc => Nat.beq pc 7) 69 6 rfl ?_
    refine And.intro (by unfold vp_in; decide) ?_
    refine And.intro (fun _ => ?_) (fun hh => absurd hz hh)
    refine And.intro (by unfold vp_in; decide) ?_
    refine And.intro (by unfold vp_in; decide) ?_
    have q := hR
    rw [← lvS_3 f p (36 + 5 * (P - 1)), ← sR_set] at q
    exact q
  | succ m ih =>
    intro n hn h0
    have hz : ¬ (36 : Int32) + 5 * (lvS f (36 + 5 * p) n 3 - 1) ≤ nI n := by rw [lvS_3, lvB hP (by omega)]; exact nI_ge (by omega) (by omega)
    have hb7 : vp_in (nI n) 76 := vp_in_nI (by omega) (by omega)
    have e5 : nI n + 5 = nI (n + 5) := by rw [show (5 : Int32) = nI 5 from rfl, nI_add]
    have hb5 : vp_in (nI n + 5) 76 := by rw [e5]; exact vp_in_nI (by omega) (by omega)
    have hc := nI_clamp (n := n) (by omega)
    have hc5 : n + 5 = (nI n + 5).toNatClampNeg := by rw [e5, nI_clamp (by omega)]
    have ih := ih (n + 1) (by omega) (by omega)
    refine GW.run kX4_leaves (fun pc => Nat.beq pc 7) 69 6 rfl ?_
    refine And.intro (by unfold vp_in; decide) ?_
    refine And.intro (fun hh => absurd hh hz) (fun _ => ?_)
    refine And.intro (hb5) ?_
    refine And.intro (hb7) ?_
    refine GW.weak (GW.eqI ?_ ih) ⟨rfl, rfl, by rw [nI_1], trivial⟩
    rw [← lvS_s h0, ← sR_set, hc]
    exact congrArg (fun x => na_set (sR (lvS f (36 + 5 * p) n) I) 44 n (lvS f (36 + 5 * p) n x)) hc5.symm
set_option maxRecDepth 100000 in
set_option maxHeartbeats 4000000 in
theorem m_lv (sx : Nat × (Nat → Int32)) (f : Nat → Int32) (P : Nat) (hP : f 3 = nI P) (hP8 : P ≤ 8) (p : Nat) (hp : p < P) (I : Mm) (J : Ml) : Mt sx MX4_leaves [.ref 43, .int (nI p)] (sR f I) J (fun r' I' J' => sR (lvM f P p) I = I' ∧ J = J' ∧ r' = none) := by
  refine Mt.of2 _ rfl (by decide +kernel) (Nat.le_of_ble_eq_true rfl) ?_
  refine GW.run kX4_leaves (fun pc => Nat.beq pc 7) 69 0 rfl ?_
  refine GW.weak (GW.eqI ?_ (l_lv sx f P hP hP8 p hp I J _ ⟨rfl, rfl, rfl⟩ (5 * (P - 1) - 5 * p) (36 + 5 * p) (by omega) (Nat.le_refl _))) ⟨rfl, rfl, ?_, trivial⟩
  · rw [lvS_0]
  · have e := ixP p 0
    rw [show (36 : Int32) + 5 * nI p + nI 0 = 36 + 5 * nI p from Int32.add_zero _] at e
    exact congrArg Value.int e.symm
theorem rm_it (P p : Nat) (N : Mm) : ∀ n k, itN (rmR P p) n N k = if 5 ≤ k ∧ k < 5 + n then va_cpy (N k) (N k) (p + 1) p (P - p - 1) else N k
  | 0, k => by rw [itN, if_neg (by omega)]
  | n + 1, k => by
    rw [itN, rmR]
    by_cases e : k = 5 + n
    · subst e
      rw [na_cpI_on, rm_it P p N n, if_neg (by omega), if_pos (by omega)]
    · rw [na_cpI_off e, rm_it P p N n k]
      by_cases h : 5 ≤ k ∧ k < 5 + n
      · rw [if_pos h, if_pos (by omega)]
      · rw [if_neg h, if_neg (by omega)]
theorem rm_off {P p k : Nat} {N : Mm} (h1 : k ≠ 0) (h2 : ¬ (5 ≤ k ∧ k < 10)) : rmN2 N P p k = N k := by rw [rmN2, na_set_off h1, rm_it, if_neg (by omega)]
theorem rm_on {P p k q : Nat} {N : Mm} (hp : p < P) (h2 : 5 ≤ k ∧ k < 10) (hq : q < P - 1) : rmN2 N P p k q = N k (if p ≤ q then q + 1 else q) := by
  rw [rmN2, na_set_off (by omega), rm_it, if_pos (by omega), va_cpy]
  by_cases h : p ≤ q
  · rw [if_pos (by omega), if_pos h]
    congr 1
    omega
  · rw [if_neg (by omega), if_neg h]
theorem rm_0 {P p j : Nat} {N : Mm} (hj : j ≠ 7) : rmN2 N P p 0 j = N 0 j := by
  rw [rmN2, na_set_get, if_neg (by omega), rm_it, if_neg (by omega)]
theorem rm_07 {P p : Nat} {N : Mm} : rmN2 N P p 0 7 = N 0 7 - 1 := by rw [rmN2, na_set_get, if_pos ⟨rfl, rfl⟩]
theorem rm_hi {P p : Nat} {N : Mm} (h : ∀ a, 10 ≤ a → N a = fun _ => 0) : ∀ a, 10 ≤ a → rmN2 N P p a = fun _ => 0 := fun a ha => by rw [rm_off (by omega) (by omega)]; exact h a ha
theorem rm_ok {P p : Nat} {N : Mm} (h : NOk P N) (hp : p < P) : NOk (P - 1) (rmN2 N P p) := by
  refine ⟨fun r hr => ?_, fun q hq => ?_, ?_, by have := h.2.2.2.1; omega, ?_, ?_, ?_⟩
  · rw [rm_off (by decide) (by decide), rm_off (by decide) (by decide), rm_off (by decide) (by decide), rm_off (by decide) (by decide)]
    exact h.1 r hr
  · rw [rm_on hp (by decide) hq, rm_on hp (by decide) hq, rm_on hp (by decide) hq, rm_on hp (by decide) hq, rm_on hp (by decide) hq]
    exact h.2.1 _ (by split <;> omega)
  · rw [rm_07, h.2.2.1]
    obtain ⟨q, rfl⟩ : ∃ q, P = q + 1 := ⟨P - 1, by omega⟩
    rw [nI_pred]
    rfl
  · rw [rm_0 (by decide)]; exact h.2.2.2.2.1
  · rw [rm_0 (by decide)]; exact h.2.2.2.2.2.1
  · rw [rm_0 (by decide)]; exact h.2.2.2.2.2.2
theorem lv_lo {f : Nat → Int32} {P p j : Nat} (h : j < 36) (h3 : j ≠ 3) : lvM f P p j = f j := by
  unfold lvM upd lvS
  rw [if_neg h3, if_neg (by omega)]
theorem lv_on {f : Nat → Int32} {P p q w : Nat} (hp : p < P) (hq : q < P - 1) (hw : w < 5) : lvM f P p (36 + 5 * q + w) = f (36 + 5 * (if p ≤ q then q + 1 else q) + w) := by
  unfold lvM upd lvS
  rw [if_neg (by omega)]
  by_cases h : p ≤ q
  · rw [if_pos (by omega), if_pos h]
    congr 1
    omega
  · rw [if_neg (by omega), if_neg h]
theorem rm_ag {P p : Nat} {f : Nat → Int32} {N : Mm} (hp : p < P) (h : Agr P (vN f) N) : Agr (P - 1) (vN (lvM f P p)) (rmN2 N P p) := by
  refine ⟨fun b h1 h2 => ?_, fun a b h1 h2 h3 => ?_, fun a b h1 h2 h3 => ?_⟩
  · have e := h.1 b h1 h2
    obtain rfl | rfl | rfl | rfl : b = 4 ∨ b = 5 ∨ b = 6 ∨ b = 7 := by omega
    · rw [rm_0 (by decide)]; exact (lv_lo (by decide) (by decide)).trans e
    · rw [rm_0 (by decide)]; exact (lv_lo (by decide) (by decide)).trans e
    · rw [rm_0 (by decide)]; exact (lv_lo (by decide) (by decide)).trans e
    · rw [rm_07]; exact congrArg (fun x : Int32 => x - 1) e
  · have e := h.2.1 a b h1 h2 h3
    rw [rm_off (by omega) (by omega)]
    obtain rfl | rfl | rfl | rfl : a = 1 ∨ a = 2 ∨ a = 3 ∨ a = 4 := by omega
    all_goals exact (lv_lo (by omega) (by omega)).trans e
  · have e := h.2.2 a (if p ≤ b then b + 1 else b) h1 h2 (by split <;> omega)
    rw [rm_on hp ⟨h1, h2⟩ h3]
    obtain rfl | rfl | rfl | rfl | rfl : a = 5 ∨ a = 6 ∨ a = 7 ∨ a = 8 ∨ a = 9 := by omega
    all_goals exact (lv_on hp h3 (by decide)).trans e
set_option maxRecDepth 100000 in
set_option maxHeartbeats 4000000 in
theorem pr_goes (sx : Nat × (Nat → Int32)) (one : Int32) : PrI sx MX3_goes MX4_goes [.int one] := by
  intro I J hS
  obtain ⟨P, hN, ha, hP8, hP1, hP3, hpl⟩ := hS.nt
  have e73 : I 44 3 = I 1 7 := hP3.trans hP1.symm
  refine Mt.of2 _ rfl (by decide +kernel) (Nat.le_of_ble_eq_true rfl) ?_
  refine GW.run kX3_goes (fun _ => false) 50 0 rfl ?_
  refine Mt.conseq (c_nobody _ _ _ _) ?_
  rintro _ _ _ ⟨rfl, rfl, ⟨h1, rfl⟩ | ⟨h1, rfl⟩⟩
  · -- pc 2 call X3_nobody true
    refine And.intro (fun hh => absurd hh (by decide)) (fun _ => ?_)
    refine Mt.conseq (c_fnd0 _ _ _) ?_
    rintro _ _ _ ⟨rfl, rfl, rfl⟩
    refine ⟨trivial, _, rfl, ?_⟩
    refine Mt.of2 _ rfl (by decide +kernel) (Nat.le_of_ble_eq_true rfl) ?_
    refine GW.run kX4_goes (fun _ => false) 48 0 rfl ?_
    refine Mt.conseq ((by have h := m_isOne sx one (I 44) (fnd I 0) J; rw [show sR (I 44) (fnd I 0) = fnd I 0 from sR_self (fnd I 0), e73] at h; exact h)) ?_
    rintro _ _ _ ⟨rfl, rfl, ⟨g1, rfl⟩ | ⟨g1, rfl⟩⟩
    · -- pc 2 call X4_isOne true
      exact (out_in h1 g1).elim
    · -- pc 2 call X4_isOne false
      refine And.intro (fun hh => absurd hh (by decide)) (fun _ => ?_)
      refine Mt.conseq (m_fnd0 _ _ _) ?_
      rintro _ _ _ ⟨rfl, rfl, rfl⟩
      exact ⟨trivial, rfl, hS.found (by decide)⟩
  · -- pc 2 call X3_nobody false
    obtain ⟨p, hp, rfl⟩ := nbd hP1 hP8 h1
    have hbp : vp_in (nI p) 8 := vp_in_nI (by omega) (by omega)
    have hcp := nI_clamp (n := p) (by omega)
    refine And.intro (fun _ => ?_) (fun hh => absurd hh (by decide))
    refine And.intro (hbp) ?_
    refine Mt.conseq ((by have h := c_rm sx 1 (Or.inl rfl) (gN 1 I) P hP1 hP8 p hp I J; rw [pN_gN] at h; exact h)) ?_
    rintro _ _ _ ⟨rfl, rfl, rfl⟩
    refine ⟨trivial, _, rfl, ?_⟩
    refine Mt.of2 _ rfl (by decide +kernel) (Nat.le_of_ble_eq_true rfl) ?_
    refine GW.run kX4_goes (fun _ => false) 48 0 rfl ?_
    refine Mt.conseq ((by have h := m_isOne sx (nI p) (I 44) (pN 1 (rmN2 (gN 1 I) P p) I) J; rw [show sR (I 44) (pN 1 (rmN2 (gN 1 I) P p) I) = pN 1 (rmN2 (gN 1 I) P p) I from sR_self (pN 1 (rmN2 (gN 1 I) P p) I), e73] at h; exact h)) ?_
    rintro _ _ _ ⟨rfl, rfl, ⟨g1, rfl⟩ | ⟨g1, rfl⟩⟩
    · -- pc 2 call X4_isOne true
      refine And.intro (fun _ => ?_) (fun hh => absurd hh (by decide))
      refine Mt.conseq ((by have h := m_its sx p 3 (by omega) (by decide) 3 (by decide) (I 44) (pN 1 (rmN2 (gN 1 I) P p) I) J; rw [show sR (I 44) (pN 1 (rmN2 (gN 1 I) P p) I) = pN 1 (rmN2 (gN 1 I) P p) I from sR_self (pN 1 (rmN2 (gN 1 I) P p) I)] at h; exact h)) ?_
      rintro _ _ _ ⟨rfl, rfl, rfl⟩
      refine Mt.conseq ((by have h := m_lv sx (I 44) P hP3 hP8 p hp (pN 1 (rmN2 (gN 1 I) P p) I) J; rw [show sR (I 44) (pN 1 (rmN2 (gN 1 I) P p) I) = pN 1 (rmN2 (gN 1 I) P p) I from sR_self (pN 1 (rmN2 (gN 1 I) P p) I)] at h; exact h)) ?_
      rintro _ _ _ ⟨rfl, rfl, rfl⟩
      refine ⟨trivial, ?_, hS.night (rm_ok hN hp) (rm_ag hp ha) (rm_hi fun a ha => gN_hi ha)⟩
      rw [hcp]
      exact congrArg (fun x => some (Value.int x)) (ha.2.2 8 p (by decide) (by decide) hp)
    · -- pc 2 call X4_isOne false
      exact (nout_nin h1 g1).elim
