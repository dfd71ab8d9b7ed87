/-! AN HOUR OF A NIGHT -/
/-- one of people breathes -/
def breR (P : Nat) (N : Mm) (p : Nat) : Mm :=
  if N 1 (N 6 p).toNatClampNeg < brt N P p then na_set (na_set (na_set N 1 (N 6 p).toNatClampNeg 0) 9 p 1) 8 p (jmin 999 (N 8 p + 1))
  else na_set (na_set N 1 (N 6 p).toNatClampNeg (N 1 (N 6 p).toNatClampNeg - brt N P p)) 8 p (jmin 999 (N 8 p + 1))
def newR (P : Nat) (N : Mm) : Nat → Int32
  | 0 => 0
  | p + 1 => if itN (breR P) p N 1 (itN (breR P) p N 6 p).toNatClampNeg < brt (itN (breR P) p N) P p then newR P N p ||| (1 <<< (nI p &&& 31)) else newR P N p
theorem breR_keep (P : Nat) (N : Mm) (p : Nat) {k : Nat} (h : k ≠ 1 ∧ k ≠ 8 ∧ k ≠ 9) : breR P N p k = N k := by
  unfold breR
  split <;> simp [na_set_off, h.1, h.2.1, h.2.2]
theorem itB_keep (P : Nat) (N : Mm) {k : Nat} (h : k ≠ 1 ∧ k ≠ 8 ∧ k ≠ 9) : ∀ n, itN (breR P) n N k = N k
  | 0 => rfl
  | n + 1 => by rw [itN, breR_keep P _ n h, itB_keep P N h n]
set_option maxRecDepth 100000 in
set_option maxHeartbeats 4000000 in
theorem l_bre (sx : Nat × (Nat → Int32)) (nb : Nat) (hnb : nb = 1 ∨ nb = 21) (N : Mm) (P : Nat) (hP : N 0 7 = nI P) (hP8 : P ≤ 8) (hpl : ∀ p, p < P → vp_in (N 6 p) 8) (I : Mm) (J : Ml) (Rt : Option Value → Mm → Ml → Prop) (hR : Rt (some (.int (newR P N P))) (pN nb (itN (breR P) P N) I) J) : ∀ m n, n + m = P → GW sx (na_mi MX0_breathe) Rt 4 [some (.ref nb), some (.int (newR P N n)), some (.int (nI n)), none, none] [] (pN nb (itN (breR P) n N) I) J := by
  have hnb2 := hnb
  intro m
  induction m with
  | zero =>
    intro n hn
    obtain rfl : P = n := by omega
    have hz : itN (breR P) P N 0 7 ≤ nI P := by rw [itB_keep P N (by decide), hP]; exact Int32.le_refl _
    rcases hnb with rfl | rfl
    all_goals
      refine GW.run kX0_breathe (fun pc => Nat.beq pc 4) 94 4 rfl ?_
      refine And.intro (fun _ => ?_) (fun hh => absurd hz hh)
      exact ⟨trivial, hR⟩
  | succ m ih =>
    intro n hn
    have hz : ¬ itN (breR P) n N 0 7 ≤ nI n := by rw [itB_keep P N (by decide), hP]; exact nI_ge (by omega) (by omega)
    have hb : vp_in (nI n) 8 := vp_in_nI (by omega) (by omega)
    have hc := nI_clamp (n := n) (by omega)
    have ih := ih (n + 1) (by omega)
    have hk6 : itN (breR P) n N 6 = N 6 := itB_keep P N (by decide) n
    have hbr : vp_in (itN (breR P) n N 6 (nI n).toNatClampNeg) 8 := by rw [hk6, hc]; exact hpl n (by omega)
    rcases hnb with rfl | rfl
    all_goals
      refine GW.run kX0_breathe (fun pc => Nat.beq pc 4) 94 4 rfl ?_
      refine And.intro (fun hh => absurd hh hz) (fun _ => ?_)
      refine Mt.conseq (c_brt _ _ hnb2 (itN (breR P) n N) P (by rw [itB_keep P N (by decide)]; exact hP) hP8 n (by omega) _ _) ?_
      rintro _ _ _ ⟨rfl, rfl, rfl⟩
      refine And.intro (hb) ?_
      refine And.intro (hbr) ?_
      refine And.intro (fun h2 => ?_) (fun h2 => ?_)
      · -- pc 34 .if_icmp .ge 27: yes
        refine And.intro (hbr) ?_
        refine And.intro (hbr) ?_
        refine And.intro (hb) ?_
        refine And.intro (hb) ?_
        refine GW.weak (GW.eqI ?_ ih) ⟨rfl, by rw [newR, if_neg (by have q := h2; simp only [pNg_1_0, pNs_1_0, pNg_1_1, pNs_1_1, pNg_1_2, pNs_1_2, pNg_1_3, pNs_1_3, pNg_1_4, pNs_1_4, pNg_1_5, pNs_1_5, pNg_1_6, pNs_1_6, pNg_1_7, pNs_1_7, pNg_1_8, pNs_1_8, pNg_1_9, pNs_1_9, pNg_21_0, pNs_21_0, pNg_21_1, pNs_21_1, pNg_21_2, pNs_21_2, pNg_21_3, pNs_21_3, pNg_21_4, pNs_21_4, pNg_21_5, pNs_21_5, pNg_21_6, pNs_21_6, pNg_21_7, pNs_21_7, pNg_21_8, pNs_21_8, pNg_21_9, pNs_21_9, na_h1, na_h2, na_h0, List.tail_cons, hc] at q; exact Int32.not_lt.mpr q)], by rw [nI_1], trivial⟩
        rw [itN, breR, if_neg (by have q := h2; simp only [pNg_1_0, pNs_1_0, pNg_1_1, pNs_1_1, pNg_1_2, pNs_1_2, pNg_1_3, pNs_1_3, pNg_1_4, pNs_1_4, pNg_1_5, pNs_1_5, pNg_1_6, pNs_1_6, pNg_1_7, pNs_1_7, pNg_1_8, pNs_1_8, pNg_1_9, pNs_1_9, pNg_21_0, pNs_21_0, pNg_21_1, pNs_21_1, pNg_21_2, pNs_21_2, pNg_21_3, pNs_21_3, pNg_21_4, pNs_21_4, pNg_21_5, pNs_21_5, pNg_21_6, pNs_21_6, pNg_21_7, pNs_21_7, pNg_21_8, pNs_21_8, pNg_21_9, pNs_21_9, na_h1, na_h2, na_h0, List.tail_cons, hc] at q; exact Int32.not_lt.mpr q)]
        simp only [pNg_1_0, pNs_1_0, pNg_1_1, pNs_1_1, pNg_1_2, pNs_1_2, pNg_1_3, pNs_1_3, pNg_1_4, pNs_1_4, pNg_1_5, pNs_1_5, pNg_1_6, pNs_1_6, pNg_1_7, pNs_1_7, pNg_1_8, pNs_1_8, pNg_1_9, pNs_1_9, pNg_21_0, pNs_21_0, pNg_21_1, pNs_21_1, pNg_21_2, pNs_21_2, pNg_21_3, pNs_21_3, pNg_21_4, pNs_21_4, pNg_21_5, pNs_21_5, pNg_21_6, pNs_21_6, pNg_21_7, pNs_21_7, pNg_21_8, pNs_21_8, pNg_21_9, pNs_21_9, na_h1, na_h2, na_h0, List.tail_cons, hc]
        rfl
      · -- pc 34 .if_icmp .ge 27: no
        refine And.intro (hbr) ?_
        refine And.intro (hb) ?_
        refine And.intro (hb) ?_
        refine And.intro (hb) ?_
        refine GW.weak (GW.eqI ?_ ih) ⟨rfl, by rw [newR, if_pos (by have q := h2; simp only [pNg_1_0, pNs_1_0, pNg_1_1, pNs_1_1, pNg_1_2, pNs_1_2, pNg_1_3, pNs_1_3, pNg_1_4, pNs_1_4, pNg_1_5, pNs_1_5, pNg_1_6, pNs_1_6, pNg_1_7, pNs_1_7, pNg_1_8, pNs_1_8, pNg_1_9, pNs_1_9, pNg_21_0, pNs_21_0, pNg_21_1, pNs_21_1, pNg_21_2, pNs_21_2, pNg_21_3, pNs_21_3, pNg_21_4, pNs_21_4, pNg_21_5, pNs_21_5, pNg_21_6, pNs_21_6, pNg_21_7, pNs_21_7, pNg_21_8, pNs_21_8, pNg_21_9, pNs_21_9, na_h1, na_h2, na_h0, List.tail_cons, hc] at q; exact Int32.not_le.mp q)], by rw [nI_1], trivial⟩
        rw [itN, breR, if_pos (by have q := h2; simp only [pNg_1_0, pNs_1_0, pNg_1_1, pNs_1_1, pNg_1_2, pNs_1_2, pNg_1_3, pNs_1_3, pNg_1_4, pNs_1_4, pNg_1_5, pNs_1_5, pNg_1_6, pNs_1_6, pNg_1_7, pNs_1_7, pNg_1_8, pNs_1_8, pNg_1_9, pNs_1_9, pNg_21_0, pNs_21_0, pNg_21_1, pNs_21_1, pNg_21_2, pNs_21_2, pNg_21_3, pNs_21_3, pNg_21_4, pNs_21_4, pNg_21_5, pNs_21_5, pNg_21_6, pNs_21_6, pNg_21_7, pNs_21_7, pNg_21_8, pNs_21_8, pNg_21_9, pNs_21_9, na_h1, na_h2, na_h0, List.tail_cons, hc] at q; exact Int32.not_le.mp q)]
        simp only [pNg_1_0, pNs_1_0, pNg_1_1, pNs_1_1, pNg_1_2, pNs_1_2, pNg_1_3, pNs_1_3, pNg_1_4, pNs_1_4, pNg_1_5, pNs_1_5, pNg_1_6, pNs_1_6, pNg_1_7, pNs_1_7, pNg_1_8, pNs_1_8, pNg_1_9, pNs_1_9, pNg_21_0, pNs_21_0, pNg_21_1, pNs_21_1, pNg_21_2, pNs_21_2, pNg_21_3, pNs_21_3, pNg_21_4, pNs_21_4, pNg_21_5, pNs_21_5, pNg_21_6, pNs_21_6, pNg_21_7, pNs_21_7, pNg_21_8, pNs_21_8, pNg_21_9, pNs_21_9, na_h1, na_h2, na_h0, List.tail_cons, hc]
        rfl
set_option maxRecDepth 100000 in
set_option maxHeartbeats 4000000 in
theorem c_bre (sx : Nat × (Nat → Int32)) (nb : Nat) (hnb : nb = 1 ∨ nb = 21) (N : Mm) (P : Nat) (hP : N 0 7 = nI P) (hP8 : P ≤ 8) (hpl : ∀ p, p < P → vp_in (N 6 p) 8) (I : Mm) (J : Ml) : Mt sx MX0_breathe [.ref nb] (pN nb N I) J (fun r I' J' => pN nb (itN (breR P) P N) I = I' ∧ J = J' ∧ r = some (.int (newR P N P))) := by
  refine Mt.of2 _ rfl (by decide +kernel) (Nat.le_of_ble_eq_true rfl) ?_
  have hnb2 := hnb
  rcases hnb with rfl | rfl
  all_goals
    refine GW.run kX0_breathe (fun pc => Nat.beq pc 4) 94 0 rfl ?_
    exact l_bre sx _ hnb2 N P hP hP8 hpl I J _ ⟨rfl, rfl, rfl⟩ P 0 (by omega)
/-- the night ahead of breathing -/
def pre1 (N : Mm) : Mm := if N 0 5 = 1 then itN frzR 8 N else N
def preN (N : Mm) : Mm := na_set (itN mixR 7 (itN brnR 8 (pre1 N))) 0 6 ((itN mixR 7 (itN brnR 8 (pre1 N))) 0 6 + 1)
def hrN (P : Nat) (N : Mm) : Mm := itN (breR P) P (preN N)
def hrW (P : Nat) (N : Mm) : Int32 := newR P (preN N) P
theorem itN_keep {f : Mm → Nat → Mm} {k : Nat} (hf : ∀ N r, f N r k = N k) (N : Mm) : ∀ n, itN f n N k = N k
  | 0 => rfl
  | n + 1 => by rw [itN, hf, itN_keep hf N n]
theorem frzR_keep {k : Nat} (h : k ≠ 1 ∧ k ≠ 2) (N : Mm) (r : Nat) : frzR N r k = N k := by simp [frzR, na_set_off, h.1, h.2]
theorem brnR_keep {k : Nat} (h : k ≠ 1 ∧ k ≠ 2) (N : Mm) (r : Nat) : brnR N r k = N k := by simp [brnR, na_set_off, h.1, h.2]
theorem mixR_keep {k : Nat} (h : k ≠ 1) (N : Mm) (r : Nat) : mixR N r k = N k := by
  unfold mixR
  split <;> simp [na_set_off, h]
theorem pre1_keep {k : Nat} (h : k ≠ 1 ∧ k ≠ 2) (N : Mm) : pre1 N k = N k := by
  unfold pre1
  split
  · exact itN_keep (fun N r => frzR_keep h N r) N 8
  · rfl
theorem pre3_keep {k : Nat} (h : k ≠ 1 ∧ k ≠ 2) (N : Mm) : itN mixR 7 (itN brnR 8 (pre1 N)) k = N k := by
  rw [itN_keep (fun N r => mixR_keep h.1 N r), itN_keep (fun N r => brnR_keep h N r), pre1_keep h]
theorem preN_keep {k : Nat} (h : k ≠ 0 ∧ k ≠ 1 ∧ k ≠ 2) (N : Mm) : preN N k = N k := by
  unfold preN
  rw [na_set_off h.1, pre3_keep h.2]
theorem preN_0 {j : Nat} (h : j ≠ 6) (N : Mm) : preN N 0 j = N 0 j := by
  unfold preN
  rw [na_set_ne h, pre3_keep (by decide)]
theorem hrN_keep {k : Nat} (h : k ≠ 0 ∧ k ≠ 1 ∧ k ≠ 2 ∧ k ≠ 8 ∧ k ≠ 9) (P : Nat) (N : Mm) : hrN P N k = N k := by
  unfold hrN
  rw [itB_keep P _ ⟨h.2.1, h.2.2.2⟩, preN_keep ⟨h.1, h.2.1, h.2.2.1⟩]
theorem hrN_0 {j : Nat} (h : j ≠ 6) (P : Nat) (N : Mm) : hrN P N 0 j = N 0 j := by
  unfold hrN
  rw [itB_keep P _ (by decide), preN_0 h]
set_option maxRecDepth 100000 in
set_option maxHeartbeats 4000000 in
theorem c_hr (sx : Nat × (Nat → Int32)) (nb : Nat) (hnb : nb = 1 ∨ nb = 21) (N : Mm) (P : Nat) (hP : N 0 7 = nI P) (hP8 : P ≤ 8) (hpl : ∀ p, p < P → vp_in (N 6 p) 8) (I : Mm) (J : Ml) : Mt sx MX0_passHour [.ref nb] (pN nb N I) J (fun r I' J' => pN nb (hrN P N) I = I' ∧ J = J' ∧ r = some (.int (hrW P N))) := by
  refine Mt.of2 _ rfl (by decide +kernel) (Nat.le_of_ble_eq_true rfl) ?_
  have hnb2 := hnb
  rcases hnb with rfl | rfl
  ·
    have hbr : ∀ M : Mm, (N 0 5 = 1 ∧ M = itN frzR 8 N ∨ ¬ N 0 5 = 1 ∧ M = N) → Mt sx MX0_breathe [.ref 1] (na_set (pN 1 (itN mixR 7 (itN brnR 8 M)) I) 1 6 (pN 1 (itN mixR 7 (itN brnR 8 M)) I 1 6 + 1)) J (fun r I' J' => pN 1 (hrN P N) I = I' ∧ J = J' ∧ r = some (.int (hrW P N))) := by
      intro M hM
      have e : M = pre1 N := by
        rcases hM with ⟨h1, h2⟩ | ⟨h1, h2⟩
        · rw [h2, pre1, if_pos h1]
        · rw [h2, pre1, if_neg h1]
      subst e
      have h := c_bre sx 1 hnb2 (preN N) P (by rw [preN_0 (by decide)]; exact hP) hP8 (by rw [preN_keep (by decide)]; exact hpl) I J
      simp only [pNg_1_0, pNs_1_0, pNg_1_1, pNs_1_1, pNg_1_2, pNs_1_2, pNg_1_3, pNs_1_3, pNg_1_4, pNs_1_4, pNg_1_5, pNs_1_5, pNg_1_6, pNs_1_6, pNg_1_7, pNs_1_7, pNg_1_8, pNs_1_8, pNg_1_9, pNs_1_9, pNg_21_0, pNs_21_0, pNg_21_1, pNs_21_1, pNg_21_2, pNs_21_2, pNg_21_3, pNs_21_3, pNg_21_4, pNs_21_4, pNg_21_5, pNs_21_5, pNg_21_6, pNs_21_6, pNg_21_7, pNs_21_7, pNg_21_8, pNs_21_8, pNg_21_9, pNs_21_9, na_h1, na_h2, na_h0, List.tail_cons]
      exact h
    refine GW.run kX0_passHour (fun _ => false) 49 0 rfl ?_
    refine And.intro (fun h1 => ?_) (fun h1 => ?_)
    · -- pc 5 .if_icmp .ne 7: yes
      refine Mt.conseq (c_burn _ _ hnb2 _ _ _) ?_
      rintro _ _ _ ⟨rfl, rfl, rfl⟩
      refine Mt.conseq (c_mix _ _ hnb2 _ _ _) ?_
      rintro _ _ _ ⟨rfl, rfl, rfl⟩
      refine Mt.conseq (hbr _ (Or.inr ⟨h1, rfl⟩)) ?_
      rintro _ _ _ ⟨rfl, rfl, rfl⟩
      exact ⟨trivial, rfl, rfl, rfl⟩
    · -- pc 5 .if_icmp .ne 7: no
      refine Mt.conseq (c_freeze _ _ hnb2 _ _ _) ?_
      rintro _ _ _ ⟨rfl, rfl, rfl⟩
      refine Mt.conseq (c_burn _ _ hnb2 _ _ _) ?_
      rintro _ _ _ ⟨rfl, rfl, rfl⟩
      refine Mt.conseq (c_mix _ _ hnb2 _ _ _) ?_
      rintro _ _ _ ⟨rfl, rfl, rfl⟩
      refine Mt.conseq (hbr _ (Or.inl ⟨h1, rfl⟩)) ?_
      rintro _ _ _ ⟨rfl, rfl, rfl⟩
      exact ⟨trivial, rfl, rfl, rfl⟩
  ·
    have hbr : ∀ M : Mm, (N 0 5 = 1 ∧ M = itN frzR 8 N ∨ ¬ N 0 5 = 1 ∧ M = N) → Mt sx MX0_breathe [.ref 21] (na_set (pN 21 (itN mixR 7 (itN brnR 8 M)) I) 21 6 (pN 21 (itN mixR 7 (itN brnR 8 M)) I 21 6 + 1)) J (fun r I' J' => pN 21 (hrN P N) I = I' ∧ J = J' ∧ r = some (.int (hrW P N))) := by
      intro M hM
      have e : M = pre1 N := by
        rcases hM with ⟨h1, h2⟩ | ⟨h1, h2⟩
        · rw [h2, pre1, if_pos h1]
        · rw [h2, pre1, if_neg h1]
      subst e
      have h := c_bre sx 21 hnb2 (preN N) P (by rw [preN_0 (by decide)]; exact hP) hP8 (by rw [preN_keep (by decide)]; exact hpl) I J
      simp only [pNg_1_0, pNs_1_0, pNg_1_1, pNs_1_1, pNg_1_2, pNs_1_2, pNg_1_3, pNs_1_3, pNg_1_4, pNs_1_4, pNg_1_5, pNs_1_5, pNg_1_6, pNs_1_6, pNg_1_7, pNs_1_7, pNg_1_8, pNs_1_8, pNg_1_9, pNs_1_9, pNg_21_0, pNs_21_0, pNg_21_1, pNs_21_1, pNg_21_2, pNs_21_2, pNg_21_3, pNs_21_3, pNg_21_4, pNs_21_4, pNg_21_5, pNs_21_5, pNg_21_6, pNs_21_6, pNg_21_7, pNs_21_7, pNg_21_8, pNs_21_8, pNg_21_9, pNs_21_9, na_h1, na_h2, na_h0, List.tail_cons]
      exact h
    refine GW.run kX0_passHour (fun _ => false) 49 0 rfl ?_
    refine And.intro (fun h1 => ?_) (fun h1 => ?_)
    · -- pc 5 .if_icmp .ne 7: yes
      refine Mt.conseq (c_burn _ _ hnb2 _ _ _) ?_
      rintro _ _ _ ⟨rfl, rfl, rfl⟩
      refine Mt.conseq (c_mix _ _ hnb2 _ _ _) ?_
      rintro _ _ _ ⟨rfl, rfl, rfl⟩
      refine Mt.conseq (hbr _ (Or.inr ⟨h1, rfl⟩)) ?_
      rintro _ _ _ ⟨rfl, rfl, rfl⟩
      exact ⟨trivial, rfl, rfl, rfl⟩
    · -- pc 5 .if_icmp .ne 7: no
      refine Mt.conseq (c_freeze _ _ hnb2 _ _ _) ?_
      rintro _ _ _ ⟨rfl, rfl, rfl⟩
      refine Mt.conseq (c_burn _ _ hnb2 _ _ _) ?_
      rintro _ _ _ ⟨rfl, rfl, rfl⟩
      refine Mt.conseq (c_mix _ _ hnb2 _ _ _) ?_
      rintro _ _ _ ⟨rfl, rfl, rfl⟩
      refine Mt.conseq (hbr _ (Or.inl ⟨h1, rfl⟩)) ?_
      rintro _ _ _ ⟨rfl, rfl, rfl⟩
      exact ⟨trivial, rfl, rfl, rfl⟩

