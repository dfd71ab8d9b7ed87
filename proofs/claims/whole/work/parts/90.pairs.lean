/-! PAIRS: feed -/
/-- a row of bytes and how many there are -/
def tp (a b c : Nat) (I : Mm) (f : Nat → Int32) (x : Int32) : Mm := fun p => if p = a then f else if p = b then upd (I b) c x else I p
theorem tp_self (a b c : Nat) (I : Mm) : tp a b c I (I a) (I b c) = I := by
  funext p
  unfold tp
  by_cases h : p = a
  · rw [if_pos h, h]
  · rw [if_neg h]
    by_cases h2 : p = b
    · rw [if_pos h2, h2, upd_self]
    · rw [if_neg h2]
theorem tp_off {a b c p : Nat} {I : Mm} {f : Nat → Int32} {x : Int32} (h1 : p ≠ a) (h2 : p ≠ b) : tp a b c I f x p = I p := by
  unfold tp
  rw [if_neg h1, if_neg h2]
theorem tp_step {a b c : Nat} (hab : a ≠ b) {I : Mm} {f : Nat → Int32} {L : Nat} (hL : L < 2 ^ 31) {w : Int32} : na_set (na_set (tp a b c I f (nI L)) a (nI L).toNatClampNeg w) b c (nI L + 1) = tp a b c I (upd f L w) (nI (L + 1)) := by
  rw [nI_clamp hL, nI_1]
  funext p
  funext j
  rw [na_set_get, na_set_get]
  unfold tp
  by_cases h : p = a
  · subst h
    rw [if_neg (by omega), if_pos rfl, if_pos rfl]
    unfold upd
    by_cases e : j = L
    · rw [if_pos ⟨rfl, e⟩, if_pos e]
    · rw [if_neg (by omega), if_neg e]
  · rw [if_neg h]
    by_cases h2 : p = b
    · subst h2
      rw [if_pos rfl, if_neg h, if_pos rfl]
      unfold upd
      by_cases e : j = c
      · rw [if_pos ⟨rfl, e⟩, if_pos e]
      · rw [if_neg (by omega), if_neg (by omega), if_neg e, if_neg e]
    · rw [if_neg h2, if_neg (by omega), if_neg (by omega), if_neg h, if_neg h2]
def byV (v : Int32) (i : Nat) : Int32 := (v >>> ((8 * nI i) &&& 31)) &&& 255
def apF (f : Nat → Int32) (L k : Nat) (v : Int32) : Nat → (Nat → Int32)
  | 0 => f
  | n + 1 => upd (apF f L k v n) (L + n) (byV v (k - 1 - n))
theorem apF_get (f : Nat → Int32) (L k : Nat) (v : Int32) : ∀ n j, apF f L k v n j = if L ≤ j ∧ j < L + n then byV v (k - 1 - (j - L)) else f j
  | 0, j => by rw [apF, if_neg (by omega)]
  | n + 1, j => by
    rw [apF, upd, apF_get f L k v n j]
    by_cases e : j = L + n
    · rw [if_pos e, if_pos (by omega), show j - L = n by omega]
    · rw [if_neg e]
      by_cases q : L ≤ j ∧ j < L + n
      · rw [if_pos q, if_pos (by omega)]
      · rw [if_neg q, if_neg (by omega)]
theorem byV_rg (v : Int32) (i : Nat) : rg 0 255 (byV v i) := by
  obtain ⟨j, hj, e⟩ := pk_andE (v >>> ((8 * nI i) &&& 31)) (m := 255) 8 (by decide)
  rw [byV, e]
  exact ⟨by rw [nI_toInt (by omega)]; omega, by rw [nI_toInt (by omega)]; omega⟩
theorem Sim.fed {I : Mm} {J : Ml} (h : Sim I J) {L k : Nat} (hL : I 31 1 = nI L) (hLk : L + k ≤ 120) (v : Int32) : Sim (tp 47 43 4 (tp 32 31 1 I (apF (I 32) L k v k) (nI (L + k))) (apF (I 47) L k v k) (nI (L + k))) J := by
  have off : ∀ a, a ≠ 47 → a ≠ 43 → a ≠ 32 → a ≠ 31 → tp 47 43 4 (tp 32 31 1 I (apF (I 32) L k v k) (nI (L + k))) (apF (I 47) L k v k) (nI (L + k)) a = I a := fun a h1 h2 h3 h4 => by rw [tp_off h1 h2, tp_off h3 h4]
  obtain ⟨h1, ⟨h2, h2'⟩, ⟨K, t1, t2, t3, t4⟩, h4, h5⟩ := h
  obtain rfl : K = L := (nI_eq (by omega) (by omega)).mp (t2.symm.trans hL)
  refine ⟨h1.eq (fun a q1 q2 => off a (by omega) (by omega) (by omega) (by omega)) (off 44 (by decide) (by decide) (by decide) (by decide)), ⟨?_, ?_⟩, ⟨K + k, hLk, rfl, rfl, ?_⟩, fun s hs => ?_, fun k hk => ?_⟩
  · rw [off 0 (by decide) (by decide) (by decide) (by decide)]
    exact h2
  · rw [off 0 (by decide) (by decide) (by decide) (by decide)]
    rcases h2' with q | ⟨q, q2⟩
    · exact Or.inl q
    · exact Or.inr ⟨q, q2.eq (fun a q1 q2 => off a (by omega) (by omega) (by omega) (by omega)) (off 52 (by decide) (by decide) (by decide) (by decide))⟩
  · intro j hj
    show apF (I 32) K k v k j = apF (I 47) K k v k j ∧ rg 0 255 (apF (I 32) K k v k j)
    rw [apF_get, apF_get]
    by_cases q : K ≤ j ∧ j < K + k
    · rw [if_pos q, if_pos q]
      exact ⟨rfl, byV_rg _ _⟩
    · rw [if_neg q, if_neg q]
      exact t4 j (by omega)
  · unfold Sh
    rw [off (34 + 2 * s) (by omega) (by omega) (by omega) (by omega), off 48 (by decide) (by decide) (by decide) (by decide), off 49 (by decide) (by decide) (by decide) (by decide)]
    exact h4 s hs
  · rw [off 42 (by decide) (by decide) (by decide) (by decide), off 45 (by decide) (by decide) (by decide) (by decide)]; exact h5 k hk
theorem nout14 {v : Int32} (h : ¬ outP v 1 4) : ∃ K, 1 ≤ K ∧ K ≤ 4 ∧ v = nI K := by
  obtain ⟨h1, h2⟩ := nout_rg (a := 1) (b := 4) (by decide) (by decide) h
  obtain ⟨K, hK, e⟩ := nI_rg (b := 4) (by decide) ⟨by omega, h2⟩
  refine ⟨K, ?_, hK, e⟩
  rw [e, nI_toInt (by omega)] at h1
  omega
theorem dn1 {k n : Nat} (h : n < k) : nI (k - n) - 1 = nI (k - 1 - n) := by
  rw [show k - n = (k - 1 - n) + 1 by omega, nI_pred]
set_option maxRecDepth 100000 in
set_option maxHeartbeats 4000000 in
theorem l_apC (sx : Nat × (Nat → Int32)) (v : Int32) (L k : Nat) (hk : k ≤ 4) (hL : L + k ≤ 120) (f : Nat → Int32) (I : Mm) (J : Ml) (Rt : Option Value → Mm → Ml → Prop) (hR : Rt none (tp 32 31 1 I (apF f L k v k) (nI (L + k))) J) : ∀ m n , n + m = k → GW sx (na_mi MX2_append) Rt 4 [some (.ref 31), some (.int v), none, some (.int (nI (k - n) - 1))] [] (tp 32 31 1 I (apF f L k v n) (nI (L + n))) J := by
  intro m
  induction m with
  | zero =>
    intro n  hn 
    obtain rfl : k = n := by omega
    have hz : nI (k - k) - 1 < 0 := by rw [Nat.sub_self]; decide
    refine GW.run kX2_append (fun pc => Nat.beq pc 4) 57 4 rfl ?_
    refine And.intro (fun _ => ?_) (fun hh => absurd hz hh)
    exact hR
  | succ m ih =>
    intro n  hn 
    have e := dn1 (k := k) (n := n) (by omega)
    have hz : ¬ nI (k - n) - 1 < 0 := by rw [e]; exact nI_pos (by omega)
    have hb : vp_in (nI (L + n)) 120 := vp_in_nI (by omega) (by omega)
    have ih := ih (n + 1) (by omega)
    have e2 : nI (k - (n + 1)) - 1 = nI (k - n) - 1 + -1 := by
      rw [e, show k - 1 - n = k - (n + 1) by omega]
      exact Int32.sub_eq_add_neg _ _
    refine GW.run kX2_append (fun pc => Nat.beq pc 4) 57 4 rfl ?_
    refine And.intro (fun hh => absurd hh hz) (fun _ => ?_)
    refine And.intro (hb) ?_
    refine GW.weak (GW.eqI ?_ ih) ⟨rfl, rfl, congrArg Value.int e2, trivial⟩
    rw [apF, byV, ← e]
    exact tp_step (by decide) (by omega)
set_option maxRecDepth 100000 in
set_option maxHeartbeats 4000000 in
theorem l_apM (sx : Nat × (Nat → Int32)) (v : Int32) (L k : Nat) (hk : k ≤ 4) (hL : L + k ≤ 120) (f : Nat → Int32) (I : Mm) (J : Ml) (Rt : Option Value → Mm → Ml → Prop) (hR : Rt (some (.int (nI (L + k)))) (tp 47 43 4 I (apF f L k v k) (nI (L + k))) J) : ∀ m n , n + m = k → GW sx (na_mi MX4_feed) Rt 38 [some (.ref 43), some (.int v), none, some (.int (nI (k - n) - 1))] [] (tp 47 43 4 I (apF f L k v n) (nI (L + n))) J := by
  intro m
  induction m with
  | zero =>
    intro n  hn 
    obtain rfl : k = n := by omega
    have hz : nI (k - k) - 1 < 0 := by rw [Nat.sub_self]; decide
    refine GW.run kX4_feed (fun pc => Nat.beq pc 38) 78 23 rfl ?_
    refine And.intro (fun _ => ?_) (fun hh => absurd hz hh)
    exact ⟨trivial, hR⟩
  | succ m ih =>
    intro n  hn 
    have e := dn1 (k := k) (n := n) (by omega)
    have hz : ¬ nI (k - n) - 1 < 0 := by rw [e]; exact nI_pos (by omega)
    have hb : vp_in (nI (L + n)) 120 := vp_in_nI (by omega) (by omega)
    have ih := ih (n + 1) (by omega)
    have e2 : nI (k - (n + 1)) - 1 = nI (k - n) - 1 + -1 := by
      rw [e, show k - 1 - n = k - (n + 1) by omega]
      exact Int32.sub_eq_add_neg _ _
    refine GW.run kX4_feed (fun pc => Nat.beq pc 38) 78 23 rfl ?_
    refine And.intro (fun hh => absurd hh hz) (fun _ => ?_)
    refine And.intro (hb) ?_
    refine GW.weak (GW.eqI ?_ ih) ⟨rfl, rfl, congrArg Value.int e2, trivial⟩
    rw [apF, byV, ← e]
    exact tp_step (by decide) (by omega)
set_option maxRecDepth 100000 in
set_option maxHeartbeats 4000000 in
theorem c_ap (sx : Nat × (Nat → Int32)) (v : Int32) (L k : Nat) (hk : k ≤ 4) (hLk : L + k ≤ 120) (I : Mm) (hI : I 31 1 = nI L) (J : Ml) : Mt sx MX2_append [.ref 31, .int v, .int (nI k)] I J (fun r I' J' => tp 32 31 1 I (apF (I 32) L k v k) (nI (L + k)) = I' ∧ J = J' ∧ r = none) := by
  refine Mt.of2 _ rfl (by decide +kernel) (Nat.le_of_ble_eq_true rfl) ?_
  refine GW.run kX2_append (fun pc => Nat.beq pc 4) 57 0 rfl ?_
  refine GW.weak (GW.eqI ?_ (l_apC sx v L k hk hLk (I 32) I J _ ⟨rfl, rfl, rfl⟩ k 0 (by omega))) ⟨rfl, rfl, rfl, trivial⟩
  rw [apF, Nat.add_zero, ← hI, tp_self]
set_option maxRecDepth 100000 in
set_option maxHeartbeats 4000000 in
theorem pr_feed (sx : Nat × (Nat → Int32)) (v n : Int32) : PrI sx MX3_feed MX4_feed [.int v, .int n] := by
  intro I J hS
  obtain ⟨L, t1, t2, t3, t4⟩ := hS.2.2.1
  have t23 : I 43 4 = I 31 1 := t3.trans t2.symm
  refine Mt.of2 _ rfl (by decide +kernel) (Nat.le_of_ble_eq_true rfl) ?_
  refine GW.run kX3_feed (fun _ => false) 59 0 rfl ?_
  refine Mt.conseq (c_outside _ _ _ _ _ _) ?_
  rintro _ _ _ ⟨rfl, rfl, ⟨h1, rfl⟩ | ⟨h1, rfl⟩⟩
  · -- pc 3 call X3_outside true
    refine And.intro (fun hh => absurd hh (by decide)) (fun _ => ?_)
    refine Mt.conseq (c_fnd0 _ _ _) ?_
    rintro _ _ _ ⟨rfl, rfl, rfl⟩
    refine ⟨trivial, _, rfl, ?_⟩
    refine Mt.of2 _ rfl (by decide +kernel) (Nat.le_of_ble_eq_true rfl) ?_
    refine GW.run kX4_feed (fun pc => Nat.beq pc 38) 78 0 rfl ?_
    refine Mt.conseq (m_in _ _ _ _ _ _) ?_
    rintro _ _ _ ⟨rfl, rfl, ⟨g1, rfl⟩ | ⟨g1, rfl⟩⟩
    · -- pc 3 call X4_in true
      exact (out_in h1 g1).elim
    · -- pc 3 call X4_in false
      refine And.intro (fun hh => absurd hh (by decide)) (fun _ => ?_)
      refine Mt.conseq (m_fnd0 _ _ _) ?_
      rintro _ _ _ ⟨rfl, rfl, rfl⟩
      exact ⟨trivial, rfl, hS.found (by decide)⟩
  · -- pc 3 call X3_outside false
    obtain ⟨k, hk1, hk, rfl⟩ := nout14 h1
    refine And.intro (fun _ => ?_) (fun hh => absurd hh (by decide))
    refine And.intro (fun h3 => ?_) (fun h3 => ?_)
    · -- pc 27 .if_icmp .le 10: yes
      refine Mt.conseq (c_ap _ v L k hk (by
        have z : I 31 1 + nI k ≤ 120 := h3
        rw [t2, nI_add, show (120 : Int32) = nI 120 from rfl, nI_leI (by omega) (by omega)] at z
        exact z) I t2 _) ?_
      rintro _ _ _ ⟨rfl, rfl, rfl⟩
      refine ⟨trivial, _, rfl, ?_⟩
      refine Mt.of2 _ rfl (by decide +kernel) (Nat.le_of_ble_eq_true rfl) ?_
      refine GW.run kX4_feed (fun pc => Nat.beq pc 38) 78 0 rfl ?_
      refine Mt.conseq (m_in _ _ _ _ _ _) ?_
      rintro _ _ _ ⟨rfl, rfl, ⟨g1, rfl⟩ | ⟨g1, rfl⟩⟩
      · -- pc 3 call X4_in true
        refine And.intro (fun _ => ?_) (fun hh => absurd hh (by decide))
        refine And.intro (fun g2 => ?_) (fun g2 => ?_)
        · -- pc 24 .if_icmp .le 10: yes
          have hLk : L + k ≤ 120 := by
            have z : I 31 1 + nI k ≤ 120 := h3
            rw [t2, nI_add, show (120 : Int32) = nI 120 from rfl, nI_leI (by omega) (by omega)] at z
            exact z
          refine GW.weak (GW.eqI ?_ (l_apM sx v L k hk hLk (I 47) (tp 32 31 1 I (apF (I 32) L k v k) (nI (L + k))) J _ ?_ k 0 (by omega))) ⟨rfl, rfl, rfl, trivial⟩
          · have z := tp_self 47 43 4 (tp 32 31 1 I (apF (I 32) L k v k) (nI (L + k)))
            rw [show tp 32 31 1 I (apF (I 32) L k v k) (nI (L + k)) 43 4 = nI L from t3] at z
            rw [apF, Nat.add_zero]
            exact z.symm
          · exact ⟨rfl, hS.fed t2 hLk v⟩
        · -- pc 24 .if_icmp .le 10: no
          exact absurd (show I 43 4 + nI k ≤ 120 by rw [t23]; exact h3) g2
      · -- pc 3 call X4_in false
        exact (nout_nin h1 g1).elim
    · -- pc 27 .if_icmp .le 10: no
      refine Mt.conseq (c_fnd1 _ _ _) ?_
      rintro _ _ _ ⟨rfl, rfl, rfl⟩
      refine ⟨trivial, _, rfl, ?_⟩
      refine Mt.of2 _ rfl (by decide +kernel) (Nat.le_of_ble_eq_true rfl) ?_
      refine GW.run kX4_feed (fun pc => Nat.beq pc 38) 78 0 rfl ?_
      refine Mt.conseq (m_in _ _ _ _ _ _) ?_
      rintro _ _ _ ⟨rfl, rfl, ⟨g1, rfl⟩ | ⟨g1, rfl⟩⟩
      · -- pc 3 call X4_in true
        refine And.intro (fun _ => ?_) (fun hh => absurd hh (by decide))
        refine And.intro (fun g2 => ?_) (fun g2 => ?_)
        · -- pc 24 .if_icmp .le 10: yes
          exact absurd (show I 31 1 + nI k ≤ 120 by rw [← t23]; exact g2) h3
        · -- pc 24 .if_icmp .le 10: no
          refine Mt.conseq (m_fnd1 _ _ _) ?_
          rintro _ _ _ ⟨rfl, rfl, rfl⟩
          exact ⟨trivial, rfl, hS.found (by decide)⟩
      · -- pc 3 call X4_in false
        exact (nout_nin h1 g1).elim
