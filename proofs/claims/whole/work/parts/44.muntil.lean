/-! THE REFERENCE: until, well, stifled on -/
theorem sA_sR {a : Nat} (h : a ≠ 44) {g f : Nat → Int32} {I : Mm} : sA a g (sR f I) = sR f (sA a g I) := by
  funext x
  by_cases h1 : x = 44
  · subst h1; rw [sA_off (Ne.symm h)]; rfl
  · rw [sR_off h1]
    by_cases h2 : x = a
    · subst h2; rw [sA_on, sA_on]
    · rw [sA_off h2, sA_off h2, sR_off h1]
theorem sA44 {g f : Nat → Int32} {I : Mm} : sA 44 g (sR f I) = sR g I := sR_sR
theorem m_kp46 (sx : Nat × (Nat → Int32)) (f : Nat → Int32) (I : Mm) (J : Ml) : Mt sx MX4_moveAll [.ref 43, .int 1, .ref 46] (sR f I) J (fun r' I' J' => sR f (sA 46 (mv 76 f (I 46)) I) = I' ∧ J = J' ∧ r' = none) := by
  have h := m_mv46_1 sx (sR f I) J
  rw [sR_44, sR_off (by decide), sA_sR (by decide)] at h
  exact h
theorem m_rs46 (sx : Nat × (Nat → Int32)) (f : Nat → Int32) (I : Mm) (J : Ml) : Mt sx MX4_moveAll [.ref 43, .int 0, .ref 46] (sR f I) J (fun r' I' J' => sR (mv 76 (I 46) f) I = I' ∧ J = J' ∧ r' = none) := by
  have h := m_mv46_0 sx (sR f I) J
  rw [sR_44, sR_off (by decide), sA44] at h
  exact h
theorem m_kp52 (sx : Nat × (Nat → Int32)) (f : Nat → Int32) (I : Mm) (J : Ml) : Mt sx MX4_moveAll [.ref 43, .int 1, .ref 52] (sR f I) J (fun r' I' J' => sR f (sA 52 (mv 76 f (I 52)) I) = I' ∧ J = J' ∧ r' = none) := by
  have h := m_mv52_1 sx (sR f I) J
  rw [sR_44, sR_off (by decide), sA_sR (by decide)] at h
  exact h
theorem m_rs52 (sx : Nat × (Nat → Int32)) (f : Nat → Int32) (I : Mm) (J : Ml) : Mt sx MX4_moveAll [.ref 43, .int 0, .ref 52] (sR f I) J (fun r' I' J' => sR (mv 76 (I 52) f) I = I' ∧ J = J' ∧ r' = none) := by
  have h := m_mv52_0 sx (sR f I) J
  rw [sR_44, sR_off (by decide), sA44] at h
  exact h
theorem m_kp53 (sx : Nat × (Nat → Int32)) (f : Nat → Int32) (I : Mm) (J : Ml) : Mt sx MX4_moveAll [.ref 43, .int 1, .ref 53] (sR f I) J (fun r' I' J' => sR f (sA 53 (mv 76 f (I 53)) I) = I' ∧ J = J' ∧ r' = none) := by
  have h := m_mv53_1 sx (sR f I) J
  rw [sR_44, sR_off (by decide), sA_sR (by decide)] at h
  exact h
theorem m_rs53 (sx : Nat × (Nat → Int32)) (f : Nat → Int32) (I : Mm) (J : Ml) : Mt sx MX4_moveAll [.ref 43, .int 0, .ref 53] (sR f I) J (fun r' I' J' => sR (mv 76 (I 53) f) I = I' ∧ J = J' ∧ r' = none) := by
  have h := m_mv53_0 sx (sR f I) J
  rw [sR_44, sR_off (by decide), sA44] at h
  exact h
set_option maxRecDepth 100000 in
set_option maxHeartbeats 4000000 in
theorem l_un (sx : Nat × (Nat → Int32)) (P : Nat) (hP8 : P ≤ 8) (set : Int32) (T : Nat → Int32) (I : Mm) (J : Ml) (W : Nat) (Rt : Option Value → Mm → Ml → Prop) (hR : ∀ f', Rt (some (.int (nI W))) (sR (mv 76 T f') (sA 46 T I)) J) : ∀ m n f, n + m = 61 → f 3 = nI P → (∀ p, p < P → vp_in (f (36 + 5 * p + 1)) 8) → n + un P set m f = W → GW sx (na_mi MX4_untilOf) Rt 11 [some (.ref 43), some (.int set), some (.int (nI n))] [] (sR f (sA 46 T I)) J := by
  intro m
  induction m with
  | zero =>
    intro n f hn hP hpl hw
    obtain rfl : n = 61 := by omega
    have hz : (60 : Int32) < nI 61 := by decide
    refine GW.run kX4_untilOf (fun pc => Nat.beq pc 11) 56 7 rfl ?_
    refine And.intro (fun _ => ?_) (fun hh => absurd hz hh)
    refine Mt.conseq (m_rs46 _ _ _ _) ?_
    rintro _ _ _ ⟨rfl, rfl, rfl⟩
    rw [un] at hw
    obtain rfl : 61 = W := by omega
    exact ⟨trivial, hR _⟩
  | succ m ih =>
    intro n f hn hP hpl hw
    have hz : ¬ (60 : Int32) < nI n := nI_nlt (a := 60) (b := n) (by omega) (by omega)
    refine GW.run kX4_untilOf (fun pc => Nat.beq pc 11) 56 7 rfl ?_
    refine And.intro (fun hh => absurd hh hz) (fun _ => ?_)
    refine Mt.conseq (m_stf _ f P hP hP8 _ _) ?_
    rintro _ _ _ ⟨rfl, rfl, rfl⟩
    refine And.intro (fun h2 => ?_) (fun h2 => ?_)
    · -- pc 23 .ifCond .ne 13: yes
      refine Mt.conseq (m_rs46 _ _ _ _) ?_
      rintro _ _ _ ⟨rfl, rfl, rfl⟩
      rw [un, if_neg h2] at hw
      obtain rfl : n = W := by omega
      exact ⟨trivial, hR _⟩
    · -- pc 23 .ifCond .ne 13: no
      refine Mt.conseq (m_hour _ f P hP hP8 hpl _ _) ?_
      rintro _ _ _ ⟨rfl, rfl, rfl⟩
      exact GW.weak (ih (n + 1) (hrM P f) (by omega) (by rw [hrM_3]; exact hP) (fun p hp => by rw [hrM_pl P f hpl]; exact hpl p hp) (by rw [un, if_pos h2] at hw; omega)) ⟨rfl, rfl, by rw [nI_1], trivial⟩
set_option maxRecDepth 100000 in
set_option maxHeartbeats 4000000 in
theorem m_un (sx : Nat × (Nat → Int32)) (f : Nat → Int32) (P : Nat) (hP : f 3 = nI P) (hP8 : P ≤ 8) (hpl : ∀ p, p < P → vp_in (f (36 + 5 * p + 1)) 8) (set : Int32) (I : Mm) (J : Ml) : Mt sx MX4_untilOf [.ref 43, .int set] (sR f I) J (fun r' I' J' => (∃ g t, sR g (sA 46 t I) = I' ∧ E76 g f) ∧ J = J' ∧ r' = some (.int (nI (un P set 61 f)))) := by
  refine Mt.of2 _ rfl (by decide +kernel) (Nat.le_of_ble_eq_true rfl) ?_
  refine GW.run kX4_untilOf (fun pc => Nat.beq pc 11) 56 0 rfl ?_
  refine Mt.conseq (m_kp46 _ _ _ _) ?_
  rintro _ _ _ ⟨rfl, rfl, rfl⟩
  exact l_un sx P hP8 set _ I J (un P set 61 f) _ (fun f' => ⟨⟨_, _, rfl, fun j hj => (mv_E _ _ j hj).trans (mv_E _ _ j hj)⟩, rfl, rfl⟩) 61 0 f rfl hP hpl (by omega)
def wo (N : Mm) (P : Nat) : Int32 := ((1 <<< (nI P &&& 31)) - 1) &&& (stf N P ^^^ -1)
set_option maxRecDepth 100000 in
set_option maxHeartbeats 4000000 in
theorem m_wo (sx : Nat × (Nat → Int32)) (f : Nat → Int32) (P : Nat) (hP : f 3 = nI P) (hP8 : P ≤ 8) (I : Mm) (J : Ml) : Mt sx MX4_wellOnes [.ref 43] (sR f I) J (na_v (sR f I) J (wo (vN f) P)) := by
  refine Mt.of2 _ rfl (by decide +kernel) (Nat.le_of_ble_eq_true rfl) ?_
  refine GW.run kX4_wellOnes (fun _ => false) 44 0 rfl ?_
  refine And.intro (by unfold vp_in; decide) ?_
  refine Mt.conseq (m_stf _ f P hP hP8 _ _) ?_
  rintro _ _ _ ⟨rfl, rfl, rfl⟩
  exact ⟨trivial, rfl, rfl, by rw [wo, ← hP]; rfl⟩
set_option maxRecDepth 100000 in
set_option maxHeartbeats 4000000 in
theorem m_wf (sx : Nat × (Nat → Int32)) (f : Nat → Int32) (P : Nat) (hP : f 3 = nI P) (hP8 : P ≤ 8) (hpl : ∀ p, p < P → vp_in (f (36 + 5 * p + 1)) 8) (I : Mm) (J : Ml) : Mt sx MX4_wellFor [.ref 43] (sR f I) J (fun r' I' J' => (∃ g t, sR g (sA 46 t I) = I' ∧ E76 g f) ∧ J = J' ∧ r' = some (.int (nI (un P (wo (vN f) P) 61 f) - 1))) := by
  refine Mt.of2 _ rfl (by decide +kernel) (Nat.le_of_ble_eq_true rfl) ?_
  refine GW.run kX4_wellFor (fun _ => false) 37 0 rfl ?_
  refine Mt.conseq (m_wo _ f P hP hP8 _ _) ?_
  rintro _ _ _ ⟨rfl, rfl, rfl⟩
  refine Mt.conseq (m_un _ f P hP hP8 hpl _ _ _) ?_
  rintro _ _ _ ⟨⟨_, _, rfl, h2⟩, rfl, rfl⟩
  exact ⟨trivial, ⟨_, _, rfl, h2⟩, rfl, rfl⟩
set_option maxRecDepth 100000 in
set_option maxHeartbeats 4000000 in
theorem m_so (sx : Nat × (Nat → Int32)) (f : Nat → Int32) (P : Nat) (hP : f 3 = nI P) (hP8 : P ≤ 8) (hpl : ∀ p, p < P → vp_in (f (36 + 5 * p + 1)) 8) (K : Nat) (hK : K ≤ 60) (I : Mm) (J : Ml) : Mt sx MX4_stifledOn [.ref 43, .int (nI K)] (sR f I) J (fun r' I' J' => (∃ g t, sR g (sA 46 t I) = I' ∧ E76 g f) ∧ J = J' ∧ r' = some (.int (btM (stf (vN (itM P K f)) P) 8))) := by
  refine Mt.of2 _ rfl (by decide +kernel) (Nat.le_of_ble_eq_true rfl) ?_
  refine GW.run kX4_stifledOn (fun _ => false) 49 0 rfl ?_
  refine Mt.conseq (m_kp46 _ _ _ _) ?_
  rintro _ _ _ ⟨rfl, rfl, rfl⟩
  refine Mt.conseq (m_ps _ f P hP hP8 hpl K hK _ _) ?_
  rintro _ _ _ ⟨rfl, rfl, rfl⟩
  refine Mt.conseq (m_stf _ (itM P K f) P (by rw [itM_3]; exact hP) hP8 _ _) ?_
  rintro _ _ _ ⟨rfl, rfl, rfl⟩
  refine Mt.conseq (m_bits _ _ _ _) ?_
  rintro _ _ _ ⟨rfl, rfl, rfl⟩
  refine Mt.conseq (m_rs46 _ _ _ _) ?_
  rintro _ _ _ ⟨rfl, rfl, rfl⟩
  exact ⟨trivial, ⟨_, _, rfl, fun j hj => (mv_E _ _ j hj).trans (mv_E _ _ j hj)⟩, rfl, rfl⟩
set_option maxRecDepth 100000 in
set_option maxHeartbeats 4000000 in
theorem m_iw (sx : Nat × (Nat → Int32)) (f : Nat → Int32) (P : Nat) (hP : f 3 = nI P) (hP8 : P ≤ 8) (hpl : ∀ p, p < P → vp_in (f (36 + 5 * p + 1)) 8) (K : Nat) (hK : K ≤ 60) (I : Mm) (J : Ml) : Mt sx MX4_isWell [.ref 43, .int (nI K)] (sR f I) J (fun r' I' J' => (∃ g t, sR g (sA 46 t I) = I' ∧ E76 g f) ∧ J = J' ∧ (((stf (vN (itM P K f)) P &&& wo (vN f) P = 0) ∧ r' = some (.int 1)) ∨ (¬ (stf (vN (itM P K f)) P &&& wo (vN f) P = 0) ∧ r' = some (.int 0)))) := by
  refine Mt.of2 _ rfl (by decide +kernel) (Nat.le_of_ble_eq_true rfl) ?_
  refine GW.run kX4_isWell (fun _ => false) 57 0 rfl ?_
  refine Mt.conseq (m_wo _ f P hP hP8 _ _) ?_
  rintro _ _ _ ⟨rfl, rfl, rfl⟩
  refine Mt.conseq (m_kp46 _ _ _ _) ?_
  rintro _ _ _ ⟨rfl, rfl, rfl⟩
  refine Mt.conseq (m_ps _ f P hP hP8 hpl K hK _ _) ?_
  rintro _ _ _ ⟨rfl, rfl, rfl⟩
  refine Mt.conseq (m_stf _ (itM P K f) P (by rw [itM_3]; exact hP) hP8 _ _) ?_
  rintro _ _ _ ⟨rfl, rfl, rfl⟩
  refine And.intro (fun h5 => ?_) (fun h5 => ?_)
  · -- pc 25 .ifCond .ne 7: yes
    refine Mt.conseq (m_rs46 _ _ _ _) ?_
    rintro _ _ _ ⟨rfl, rfl, rfl⟩
    exact ⟨na_nl_b0, ⟨_, _, rfl, fun j hj => (mv_E _ _ j hj).trans (mv_E _ _ j hj)⟩, rfl, Or.inr ⟨h5, rfl⟩⟩
  · -- pc 25 .ifCond .ne 7: no
    refine Mt.conseq (m_rs46 _ _ _ _) ?_
    rintro _ _ _ ⟨rfl, rfl, rfl⟩
    exact ⟨na_nl_b1, ⟨_, _, rfl, fun j hj => (mv_E _ _ j hj).trans (mv_E _ _ j hj)⟩, rfl, Or.inl ⟨h5, rfl⟩⟩
def opM (f : Nat → Int32) (d v : Int32) : Nat → Int32 := upd f 2 ((f 2 &&& ((1 <<< (d &&& 31)) ^^^ -1)) ||| (v <<< (d &&& 31)))
set_option maxRecDepth 100000 in
set_option maxHeartbeats 4000000 in
theorem m_op (sx : Nat × (Nat → Int32)) (d v : Int32) (f : Nat → Int32) (I : Mm) (J : Ml) : Mt sx MX4_opens [.ref 43, .int d, .int v] (sR f I) J (fun r' I' J' => sR (opM f d v) I = I' ∧ J = J' ∧ r' = none) := by
  refine Mt.of2 _ rfl (by decide +kernel) (Nat.le_of_ble_eq_true rfl) ?_
  refine GW.run kX4_opens (fun _ => false) 49 0 rfl ?_
  refine And.intro (by unfold vp_in; decide) ?_
  refine And.intro (by unfold vp_in; decide) ?_
  exact ⟨sR_set.symm, rfl, rfl⟩
def adM (f : Nat → Int32) (P : Nat) (kd rm nd : Int32) : Nat → Int32 :=
  upd (upd (upd (upd (upd (upd f (36 + 5 * P + 0) kd) (36 + 5 * P + 1) rm) (36 + 5 * P + 2) nd) (36 + 5 * P + 3) 0) (36 + 5 * P + 4) 0) 3 (f 3 + 1)
set_option maxRecDepth 100000 in
set_option maxHeartbeats 4000000 in
theorem m_ad (sx : Nat × (Nat → Int32)) (kd rm nd : Int32) (f : Nat → Int32) (P : Nat) (hP : f 3 = nI P) (hP7 : P < 8) (I : Mm) (J : Ml) : Mt sx MX4_addOne [.ref 43, .int kd, .int rm, .int nd] (sR f I) J (fun r' I' J' => sR (adM f P kd rm nd) I = I' ∧ J = J' ∧ r' = none) := by
  have hpu : ∀ (g : Nat → Int32) (v : Int32) (w : Nat) (hw : w < 5) (x : Int32) (hx : x = nI w), Mt sx MX4_puts [.ref 43, .int (f 3), .int x, .int v] (sR g I) J (fun r I' J' => sR (upd g (36 + 5 * P + w) v) I = I' ∧ J = J' ∧ r = none) := by
    intro g v w hw x hx
    rw [hP]
    exact m_puts sx v P w (by omega) hw x hx g I J
  refine Mt.of2 _ rfl (by decide +kernel) (Nat.le_of_ble_eq_true rfl) ?_
  refine GW.run kX4_addOne (fun _ => false) 69 0 rfl ?_
  refine And.intro (by unfold vp_in; decide) ?_
  refine Mt.conseq (hpu _ _ 0 (by decide) _ (by decide)) ?_
  rintro _ _ _ ⟨rfl, rfl, rfl⟩
  refine Mt.conseq (hpu _ _ 1 (by decide) _ (by decide)) ?_
  rintro _ _ _ ⟨rfl, rfl, rfl⟩
  refine Mt.conseq (hpu _ _ 2 (by decide) _ (by decide)) ?_
  rintro _ _ _ ⟨rfl, rfl, rfl⟩
  refine Mt.conseq (hpu _ _ 3 (by decide) _ (by decide)) ?_
  rintro _ _ _ ⟨rfl, rfl, rfl⟩
  refine Mt.conseq (hpu _ _ 4 (by decide) _ (by decide)) ?_
  rintro _ _ _ ⟨rfl, rfl, rfl⟩
  refine And.intro (by unfold vp_in; decide) ?_
  refine And.intro (by unfold vp_in; decide) ?_
  refine ⟨?_, rfl, rfl⟩
  refine Eq.trans ?_ sR_set.symm
  congr 1
  rw [adM]
  congr 1
  rw [sR_44]
  show f 3 + 1 = upd (upd (upd (upd (upd f _ _) _ _) _ _) _ _) _ _ 3 + 1
  rw [upd_ne (by omega), upd_ne (by omega), upd_ne (by omega), upd_ne (by omega), upd_ne (by omega)]
