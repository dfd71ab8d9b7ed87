/-! HOURS; ROWS; PEOPLE COME AND GO -/
def itH (P : Nat) : Nat → Mm → Mm
  | 0, N => N
  | n + 1, N => hrN P (itH P n N)
theorem itH_keep {k : Nat} (h : k ≠ 0 ∧ k ≠ 1 ∧ k ≠ 2 ∧ k ≠ 8 ∧ k ≠ 9) (P : Nat) (N : Mm) : ∀ n, itH P n N k = N k
  | 0 => rfl
  | n + 1 => by rw [itH, hrN_keep h, itH_keep h P N n]
theorem itH_0 {j : Nat} (h : j ≠ 6) (P : Nat) (N : Mm) : ∀ n, itH P n N 0 j = N 0 j
  | 0 => rfl
  | n + 1 => by rw [itH, hrN_0 h, itH_0 h P N n]
/-- for how many hours of m nobody of a set becomes stifled -/
def wl (P : Nat) (set : Int32) : Nat → Mm → Nat
  | 0, _ => 0
  | m + 1, N => if hrW P N &&& set = 0 then 1 + wl P set m (hrN P N) else 0
set_option maxRecDepth 100000 in
set_option maxHeartbeats 4000000 in
theorem l_ph (sx : Nat × (Nat → Int32)) (nb : Nat) (hnb : nb = 1 ∨ nb = 21) (N : Mm) (P : Nat) (hP : N 0 7 = nI P) (hP8 : P ≤ 8) (hpl : ∀ p, p < P → vp_in (N 6 p) 8) (K : Nat) (hK : K ≤ 60) (I : Mm) (J : Ml) (Rt : Option Value → Mm → Ml → Prop) (hR : Rt none (pN nb (itH P K N) I) J) : ∀ m n, n + m = K → GW sx (na_mi MX0_passHours) Rt 2 [some (.ref nb), some (.int (nI K)), some (.int (nI n))] [] (pN nb (itH P n N) I) J := by
  have hnb2 := hnb
  intro m
  induction m with
  | zero =>
    intro n hn
    obtain rfl : K = n := by omega
    have hz : nI K ≤ nI K := Int32.le_refl _
    rcases hnb with rfl | rfl
    all_goals
      refine GW.run kX0_passHours (fun pc => Nat.beq pc 2) 41 2 rfl ?_
      refine And.intro (fun _ => ?_) (fun hh => absurd hz hh)
      exact hR
  | succ m ih =>
    intro n hn
    have hz : ¬ nI K ≤ nI n := nI_ge (by omega) (by omega)
    have hc := nI_clamp (n := n) (by omega)
    have ih := ih (n + 1) (by omega)
    rcases hnb with rfl | rfl
    all_goals
      refine GW.run kX0_passHours (fun pc => Nat.beq pc 2) 41 2 rfl ?_
      refine And.intro (fun hh => absurd hh hz) (fun _ => ?_)
      refine Mt.conseq (c_hr _ _ hnb2 (itH P n N) P (by rw [itH_0 (by decide)]; exact hP) hP8 (by rw [itH_keep (by decide)]; exact hpl) _ _) ?_
      rintro _ _ _ ⟨rfl, rfl, rfl⟩
      exact GW.weak ih ⟨rfl, rfl, by rw [nI_1], trivial⟩
set_option maxRecDepth 100000 in
set_option maxHeartbeats 4000000 in
theorem c_ph (sx : Nat × (Nat → Int32)) (nb : Nat) (hnb : nb = 1 ∨ nb = 21) (N : Mm) (P : Nat) (hP : N 0 7 = nI P) (hP8 : P ≤ 8) (hpl : ∀ p, p < P → vp_in (N 6 p) 8) (K : Nat) (hK : K ≤ 60) (I : Mm) (J : Ml) : Mt sx MX0_passHours [.ref nb, .int (nI K)] (pN nb N I) J (fun r I' J' => pN nb (itH P K N) I = I' ∧ J = J' ∧ r = none) := by
  refine Mt.of2 _ rfl (by decide +kernel) (Nat.le_of_ble_eq_true rfl) ?_
  have hnb2 := hnb
  rcases hnb with rfl | rfl
  all_goals
    refine GW.run kX0_passHours (fun pc => Nat.beq pc 2) 41 0 rfl ?_
    exact l_ph sx _ hnb2 N P hP hP8 hpl K hK I J _ ⟨rfl, rfl, rfl⟩ K 0 (by omega)
set_option maxRecDepth 100000 in
set_option maxHeartbeats 4000000 in
theorem l_wl (sx : Nat × (Nat → Int32)) (nb : Nat) (hnb : nb = 1 ∨ nb = 21) (P : Nat) (hP8 : P ≤ 8) (set : Int32) (K : Nat) (hK : K ≤ 60) (I : Mm) (J : Ml) (W : Nat) (Rt : Option Value → Mm → Ml → Prop) (hR : ∀ M, Rt (some (.int (nI W))) (pN nb M I) J) : ∀ m n N, n + m = K → N 0 7 = nI P → (∀ p, p < P → vp_in (N 6 p) 8) → n + wl P set m N = W → GW sx (na_mi MX0_wellHours) Rt 2 [some (.ref nb), some (.int set), some (.int (nI K)), some (.int (nI n))] [] (pN nb N I) J := by
  have hnb2 := hnb
  intro m
  induction m with
  | zero =>
    intro n N hn hP hpl hw
    obtain rfl : K = n := by omega
    have hz : nI K ≤ nI K := Int32.le_refl _
    rcases hnb with rfl | rfl
    all_goals
      refine GW.run kX0_wellHours (fun pc => Nat.beq pc 2) 46 2 rfl ?_
      refine And.intro (fun _ => ?_) (fun hh => absurd hz hh)
      refine ⟨trivial, ?_⟩
      rw [wl] at hw
      obtain rfl : K = W := by omega
      exact hR _
  | succ m ih =>
    intro n N hn hP hpl hw
    have hz : ¬ nI K ≤ nI n := nI_ge (by omega) (by omega)
    rcases hnb with rfl | rfl
    all_goals
      refine GW.run kX0_wellHours (fun pc => Nat.beq pc 2) 46 2 rfl ?_
      refine And.intro (fun hh => absurd hh hz) (fun _ => ?_)
      refine Mt.conseq (c_hr _ _ hnb2 N P hP hP8 hpl _ _) ?_
      rintro _ _ _ ⟨rfl, rfl, rfl⟩
      refine And.intro (fun h2 => ?_) (fun h2 => ?_)
      · -- pc 13 .ifCond .eq 5: yes
        exact GW.weak (ih (n + 1) (hrN P N) (by omega) (by rw [hrN_0 (by decide)]; exact hP) (by rw [hrN_keep (by decide)]; exact hpl) (by rw [wl, if_pos h2] at hw; omega)) ⟨rfl, rfl, rfl, by rw [nI_1], trivial⟩
      · -- pc 13 .ifCond .eq 5: no
        refine ⟨trivial, ?_⟩
        rw [wl, if_neg h2] at hw
        obtain rfl : n = W := by omega
        exact hR _
set_option maxRecDepth 100000 in
set_option maxHeartbeats 4000000 in
theorem c_wl (sx : Nat × (Nat → Int32)) (nb : Nat) (hnb : nb = 1 ∨ nb = 21) (N : Mm) (P : Nat) (hP : N 0 7 = nI P) (hP8 : P ≤ 8) (hpl : ∀ p, p < P → vp_in (N 6 p) 8) (set : Int32) (K : Nat) (hK : K ≤ 60) (I : Mm) (J : Ml) : Mt sx MX0_wellHours [.ref nb, .int set, .int (nI K)] (pN nb N I) J (fun r I' J' => (∃ M, pN nb M I = I') ∧ J = J' ∧ r = some (.int (nI (wl P set K N)))) := by
  refine Mt.of2 _ rfl (by decide +kernel) (Nat.le_of_ble_eq_true rfl) ?_
  have hnb2 := hnb
  rcases hnb with rfl | rfl
  all_goals
    refine GW.run kX0_wellHours (fun pc => Nat.beq pc 2) 46 0 rfl ?_
    exact l_wl sx _ hnb2 P hP8 set K hK I J (wl P set K N) _ (fun M => ⟨⟨M, rfl⟩, rfl, rfl⟩) K 0 N (by omega) hP hpl (by omega)
def bcn (x0 : Int32) : Int32 :=
  let u := fun (x y : Int32) => (x.toUInt32 >>> (y.toUInt32 &&& Int32.toUInt32 31)).toInt32
  let x1 := x0 - (u x0 1 &&& 1431655765)
  let x2 := (x1 &&& 858993459) + (u x1 2 &&& 858993459)
  let x3 := (x2 + u x2 4) &&& 252645135
  let x4 := x3 + u x3 8
  let x5 := x4 + u x4 16
  x5 &&& 63
set_option maxRecDepth 100000 in
set_option maxHeartbeats 4000000 in
theorem c_bcn (sx : Nat × (Nat → Int32)) (x : Int32) (I : Mm) (J : Ml) : Mt sx MJ6_bitCount_0f7a4 [.int x] I J (na_v I J (bcn x)) := by
  refine Mt.of2 _ rfl (by decide +kernel) (Nat.le_of_ble_eq_true rfl) ?_
  refine GW.run kJ6_bitCount_0f7a4 (fun _ => false) 72 0 rfl ?_
  exact ⟨trivial, rfl, rfl, rfl⟩
set_option maxRecDepth 100000 in
set_option maxHeartbeats 4000000 in
theorem c_sa (sx : Nat × (Nat → Int32)) (nb : Nat) (hnb : nb = 1 ∨ nb = 21) (N : Mm) (P : Nat) (hP : N 0 7 = nI P) (hP8 : P ≤ 8) (hpl : ∀ p, p < P → vp_in (N 6 p) 8) (K : Nat) (hK : K ≤ 60) (I : Mm) (J : Ml) : Mt sx MX0_stifledAfter [.ref nb, .int (nI K)] (pN nb N I) J (fun r I' J' => (∃ M, pN nb M I = I') ∧ J = J' ∧ r = some (.int (bcn (stf (itH P K N) P)))) := by
  refine Mt.of2 _ rfl (by decide +kernel) (Nat.le_of_ble_eq_true rfl) ?_
  have hnb2 := hnb
  rcases hnb with rfl | rfl
  all_goals
    refine GW.run kX0_stifledAfter (fun _ => false) 37 0 rfl ?_
    refine Mt.conseq (c_ph _ _ hnb2 N P hP hP8 hpl K hK _ _) ?_
    rintro _ _ _ ⟨rfl, rfl, rfl⟩
    refine Mt.conseq (c_stf _ _ hnb2 (itH P K N) P (by rw [itH_0 (by decide)]; exact hP) hP8 _ _) ?_
    rintro _ _ _ ⟨rfl, rfl, rfl⟩
    refine Mt.conseq (c_bcn _ _ _ _) ?_
    rintro _ _ _ ⟨rfl, rfl, rfl⟩
    exact ⟨trivial, ⟨_, rfl⟩, rfl, rfl⟩
set_option maxRecDepth 100000 in
set_option maxHeartbeats 4000000 in
theorem c_ror (sx : Nat × (Nat → Int32)) (nb : Nat) (hnb : nb = 1 ∨ nb = 11 ∨ nb = 21) (w : Nat) (hw : w < 4) (x : Int32) (hx : x = nI w) (I : Mm) (J : Ml) : Mt sx MX0_rowOfRooms [.ref nb, .int x] I J (fun r I' J' => I = I' ∧ J = J' ∧ r = some (.ref (nb + 1 + w))) := by
  refine Mt.of2 _ rfl (by decide +kernel) (Nat.le_of_ble_eq_true rfl) ?_
  subst hx
  obtain rfl | rfl | rfl | rfl : w = 0 ∨ w = 1 ∨ w = 2 ∨ w = 3 := by omega
  · rcases hnb with rfl | rfl | rfl
    all_goals
      refine GW.run kX0_rowOfRooms (fun _ => false) 44 0 rfl ?_
      refine And.intro (fun hh => absurd hh (by decide)) (And.intro (fun _ => ?_) (And.intro (fun hh => absurd hh (by decide)) (And.intro (fun hh => absurd hh (by decide)) (trivial))))
      exact ⟨rfl, rfl, rfl⟩
  · rcases hnb with rfl | rfl | rfl
    all_goals
      refine GW.run kX0_rowOfRooms (fun _ => false) 44 0 rfl ?_
      refine And.intro (fun hh => absurd hh (by decide)) (And.intro (fun hh => absurd hh (by decide)) (And.intro (fun _ => ?_) (And.intro (fun hh => absurd hh (by decide)) (trivial))))
      exact ⟨rfl, rfl, rfl⟩
  · rcases hnb with rfl | rfl | rfl
    all_goals
      refine GW.run kX0_rowOfRooms (fun _ => false) 44 0 rfl ?_
      refine And.intro (fun hh => absurd hh (by decide)) (And.intro (fun hh => absurd hh (by decide)) (And.intro (fun hh => absurd hh (by decide)) (And.intro (fun _ => ?_) (trivial))))
      exact ⟨rfl, rfl, rfl⟩
  · rcases hnb with rfl | rfl | rfl
    all_goals
      refine GW.run kX0_rowOfRooms (fun _ => false) 44 0 rfl ?_
      refine And.intro (fun _ => ?_) (And.intro (fun hh => absurd hh (by decide)) (And.intro (fun hh => absurd hh (by decide)) (And.intro (fun hh => absurd hh (by decide)) (trivial))))
      exact ⟨rfl, rfl, rfl⟩

set_option maxRecDepth 100000 in
set_option maxHeartbeats 4000000 in
theorem c_rop (sx : Nat × (Nat → Int32)) (nb : Nat) (hnb : nb = 1 ∨ nb = 11 ∨ nb = 21) (w : Nat) (hw : w < 5) (x : Int32) (hx : x = nI w) (I : Mm) (J : Ml) : Mt sx MX0_rowOfPeople [.ref nb, .int x] I J (fun r I' J' => I = I' ∧ J = J' ∧ r = some (.ref (nb + 5 + w))) := by
  refine Mt.of2 _ rfl (by decide +kernel) (Nat.le_of_ble_eq_true rfl) ?_
  subst hx
  obtain rfl | rfl | rfl | rfl | rfl : w = 0 ∨ w = 1 ∨ w = 2 ∨ w = 3 ∨ w = 4 := by omega
  · rcases hnb with rfl | rfl | rfl
    all_goals
      refine GW.run kX0_rowOfPeople (fun _ => false) 47 0 rfl ?_
      refine And.intro (fun hh => absurd hh (by decide)) (And.intro (fun _ => ?_) (And.intro (fun hh => absurd hh (by decide)) (And.intro (fun hh => absurd hh (by decide)) (And.intro (fun hh => absurd hh (by decide)) (trivial)))))
      exact ⟨rfl, rfl, rfl⟩
  · rcases hnb with rfl | rfl | rfl
    all_goals
      refine GW.run kX0_rowOfPeople (fun _ => false) 47 0 rfl ?_
      refine And.intro (fun hh => absurd hh (by decide)) (And.intro (fun hh => absurd hh (by decide)) (And.intro (fun _ => ?_) (And.intro (fun hh => absurd hh (by decide)) (And.intro (fun hh => absurd hh (by decide)) (trivial)))))
      exact ⟨rfl, rfl, rfl⟩
  · rcases hnb with rfl | rfl | rfl
    all_goals
      refine GW.run kX0_rowOfPeople (fun _ => false) 47 0 rfl ?_
      refine And.intro (fun hh => absurd hh (by decide)) (And.intro (fun hh => absurd hh (by decide)) (And.intro (fun hh => absurd hh (by decide)) (And.intro (fun _ => ?_) (And.intro (fun hh => absurd hh (by decide)) (trivial)))))
      exact ⟨rfl, rfl, rfl⟩
  · rcases hnb with rfl | rfl | rfl
    all_goals
      refine GW.run kX0_rowOfPeople (fun _ => false) 47 0 rfl ?_
      refine And.intro (fun hh => absurd hh (by decide)) (And.intro (fun hh => absurd hh (by decide)) (And.intro (fun hh => absurd hh (by decide)) (And.intro (fun hh => absurd hh (by decide)) (And.intro (fun _ => ?_) (trivial)))))
      exact ⟨rfl, rfl, rfl⟩
  · rcases hnb with rfl | rfl | rfl
    all_goals
      refine GW.run kX0_rowOfPeople (fun _ => false) 47 0 rfl ?_
      refine And.intro (fun _ => ?_) (And.intro (fun hh => absurd hh (by decide)) (And.intro (fun hh => absurd hh (by decide)) (And.intro (fun hh => absurd hh (by decide)) (And.intro (fun hh => absurd hh (by decide)) (trivial)))))
      exact ⟨rfl, rfl, rfl⟩

set_option maxRecDepth 100000 in
set_option maxHeartbeats 4000000 in
theorem c_full (sx : Nat × (Nat → Int32)) (nb : Nat) (hnb : nb = 1 ∨ nb = 21) (N I : Mm) (J : Ml) : Mt sx MX0_isFull [.ref nb] (pN nb N I) J (na_b (pN nb N I) J (8 ≤ N 0 7)) := by
  refine Mt.of2 _ rfl (by decide +kernel) (Nat.le_of_ble_eq_true rfl) ?_
  have hnb2 := hnb
  rcases hnb with rfl | rfl
  all_goals
    refine GW.run kX0_isFull (fun _ => false) 38 0 rfl ?_
    refine And.intro (fun h1 => ?_) (fun h1 => ?_)
    · -- pc 6 .if_icmp .lt 7: yes
      exact ⟨na_nl_b0, rfl, rfl, Or.inr ⟨fun q => absurd q (Int32.not_le.mpr h1), rfl⟩⟩
    · -- pc 6 .if_icmp .lt 7: no
      exact ⟨na_nl_b1, rfl, rfl, Or.inl ⟨Int32.not_lt.mp h1, rfl⟩⟩
def tdW (N : Mm) (d : Int32) : Int32 := (N 0 4 >>> (d &&& 31)) &&& 1
def tdN (N : Mm) (d v : Int32) : Mm := na_set N 0 4 (N 0 4 ^^^ ((tdW N d ^^^ v) <<< (d &&& 31)))
set_option maxRecDepth 100000 in
set_option maxHeartbeats 4000000 in
theorem c_td (sx : Nat × (Nat → Int32)) (nb : Nat) (hnb : nb = 1 ∨ nb = 21) (d v : Int32) (N I : Mm) (J : Ml) : Mt sx MX0_turnDoor [.ref nb, .int d, .int v] (pN nb N I) J (fun r I' J' => pN nb (tdN N d v) I = I' ∧ J = J' ∧ r = some (.int (tdW N d))) := by
  refine Mt.of2 _ rfl (by decide +kernel) (Nat.le_of_ble_eq_true rfl) ?_
  have hnb2 := hnb
  rcases hnb with rfl | rfl
  all_goals
    refine GW.run kX0_turnDoor (fun _ => false) 49 0 rfl ?_
    refine ⟨trivial, ?_, rfl, rfl⟩
    simp only [pNg_1_0, pNs_1_0, pNg_1_1, pNs_1_1, pNg_1_2, pNs_1_2, pNg_1_3, pNs_1_3, pNg_1_4, pNs_1_4, pNg_1_5, pNs_1_5, pNg_1_6, pNs_1_6, pNg_1_7, pNs_1_7, pNg_1_8, pNs_1_8, pNg_1_9, pNs_1_9, pNg_21_0, pNs_21_0, pNg_21_1, pNs_21_1, pNg_21_2, pNs_21_2, pNg_21_3, pNs_21_3, pNg_21_4, pNs_21_4, pNg_21_5, pNs_21_5, pNg_21_6, pNs_21_6, pNg_21_7, pNs_21_7, pNg_21_8, pNs_21_8, pNg_21_9, pNs_21_9, na_h1, na_h2, na_h0, List.tail_cons]
    rfl
def adN (N : Mm) (P : Nat) (kd rm nd : Int32) : Mm := na_set (na_set (na_set (na_set (na_set (na_set N 5 P kd) 6 P rm) 7 P nd) 8 P 0) 9 P 0) 0 7 (nI (P + 1))
set_option maxRecDepth 100000 in
set_option maxHeartbeats 4000000 in
theorem c_add (sx : Nat × (Nat → Int32)) (nb : Nat) (hnb : nb = 1 ∨ nb = 21) (kd rm nd : Int32) (N : Mm) (P : Nat) (hP : N 0 7 = nI P) (hP7 : P < 8) (I : Mm) (J : Ml) : Mt sx MX0_add [.ref nb, .int kd, .int rm, .int nd] (pN nb N I) J (fun r I' J' => pN nb (adN N P kd rm nd) I = I' ∧ J = J' ∧ r = some (.int (nI P))) := by
  refine Mt.of2 _ rfl (by decide +kernel) (Nat.le_of_ble_eq_true rfl) ?_
  have hnb2 := hnb
  rcases hnb with rfl | rfl
  all_goals
    have hb : vp_in (N 0 7) 8 := by rw [hP]; exact vp_in_nI (by omega) (by omega)
    have hc := nI_clamp (n := P) (by omega)
    refine GW.run kX0_add (fun _ => false) 66 0 rfl ?_
    refine And.intro (hb) ?_
    refine And.intro (hb) ?_
    refine And.intro (hb) ?_
    refine And.intro (hb) ?_
    refine And.intro (hb) ?_
    refine ⟨trivial, ?_, rfl, ?_⟩
    · simp only [pNg_1_0, pNs_1_0, pNg_1_1, pNs_1_1, pNg_1_2, pNs_1_2, pNg_1_3, pNs_1_3, pNg_1_4, pNs_1_4, pNg_1_5, pNs_1_5, pNg_1_6, pNs_1_6, pNg_1_7, pNs_1_7, pNg_1_8, pNs_1_8, pNg_1_9, pNs_1_9, pNg_21_0, pNs_21_0, pNg_21_1, pNs_21_1, pNg_21_2, pNs_21_2, pNg_21_3, pNs_21_3, pNg_21_4, pNs_21_4, pNg_21_5, pNs_21_5, pNg_21_6, pNs_21_6, pNg_21_7, pNs_21_7, pNg_21_8, pNs_21_8, pNg_21_9, pNs_21_9, na_h1, na_h2, na_h0, List.tail_cons]
      simp only [na_set_off, ne_eq, Nat.reduceEqDiff, not_false_eq_true, hP, hc, nI_1, adN]
      try rfl
    · rw [show pN _ N I _ _ = N 0 7 from rfl, hP]
