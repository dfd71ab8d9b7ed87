/-! PAIRS: sheet -/
/-- n longs from o on, written -/
def wJ (J : Ml) (a o n : Nat) (v : Nat → Int64) : Ml := fun b => if b = a then (fun j => if o ≤ j ∧ j < o + n then v (j - o) else J a j) else J b
theorem wJ_off {J : Ml} {a o n b : Nat} {v : Nat → Int64} (h : b ≠ a) : wJ J a o n v b = J b := by
  unfold wJ
  rw [if_neg h]
theorem wJ_on {J : Ml} {a o n : Nat} {v : Nat → Int64} (j : Nat) : wJ J a o n v a j = if o ≤ j ∧ j < o + n then v (j - o) else J a j := by
  unfold wJ
  rw [if_pos rfl]
theorem wJ_0 (J : Ml) (a o : Nat) (v : Nat → Int64) : wJ J a o 0 v = J := by
  funext b
  by_cases h : b = a
  · subst h
    funext j
    rw [wJ_on, if_neg (by omega)]
  · rw [wJ_off h]
theorem na_setL_get (J : Ml) (k j a b : Nat) (v : Int64) : na_setL J k j v a b = if a = k ∧ b = j then v else J a b := by
  unfold na_setL vp_updL
  by_cases h : a = k
  · subst h
    by_cases h2 : b = j
    · simp [h2]
    · simp [h2]
  · simp [h]
theorem wJ_s (J : Ml) (a o n : Nat) (v : Nat → Int64) {x : Int64} (hx : x = v n) : na_setL (wJ J a o n v) a (o + n) x = wJ J a o (n + 1) v := by
  subst hx
  funext b
  funext j
  rw [na_setL_get]
  by_cases h : b = a
  · subst h
    rw [wJ_on, wJ_on]
    by_cases e : j = o + n
    · subst e
      rw [if_pos ⟨rfl, rfl⟩, if_pos (by omega)]
      congr 1
      omega
    · rw [if_neg (by omega)]
      by_cases q : o ≤ j ∧ j < o + n
      · rw [if_pos q, if_pos (by omega)]
      · rw [if_neg q, if_neg (by omega)]
  · rw [if_neg (by omega), wJ_off h, wJ_off h]
theorem wJ_s0 (J : Ml) (a n : Nat) (v : Nat → Int64) {x : Int64} (hx : x = v n) : na_setL (wJ J a 0 n v) a n x = wJ J a 0 (n + 1) v := by
  have q := wJ_s J a 0 n v hx
  rw [Nat.zero_add] at q
  exact q
/-- longs of one sheet are others -/
theorem Sim.sheetJ {I : Mm} {J J' : Ml} (h : Sim I J) {s : Nat} (hoth : ∀ t, t < 4 → t ≠ s → ∀ j, j < 40 → J' (35 + 2 * t) j = J (35 + 2 * t) j ∧ J' 50 (40 * t + j) = J 50 (40 * t + j)) (hown : ∀ n, n ≤ 40 → I (34 + 2 * s) 2 = nI n → ∀ j, j < n → J' (35 + 2 * s) j = J' 50 (40 * s + j)) : Sim I J' := by
  obtain ⟨h1, h2, h3, h4, h5⟩ := h
  refine ⟨h1, h2, h3, fun t ht => ?_, h5⟩
  obtain ⟨s1, s2, n, s3, s4, s5, s6⟩ := h4 t ht
  refine ⟨s1, s2, n, s3, s4, s5, fun j hj => ?_⟩
  by_cases e : t = s
  · subst e
    exact hown n s3 s4 j hj
  · have q := hoth t ht e j (by omega)
    rw [q.1, q.2]
    exact s6 j hj
theorem Sim.sheetN {I : Mm} {J : Ml} (h : Sim I J) {s : Nat} (hs : s < 4) {b : Int32} (hb : b = 0 ∨ b = 8 ∨ b = 16 ∨ b = 64) {L : Nat} (hL : L ≤ 40) : Sim (na_set (na_set (na_set (na_set I (34 + 2 * s) 1 b) (34 + 2 * s) 2 (nI L)) 48 s b) 49 s (nI L)) (wJ (wJ J (35 + 2 * s) 0 L (fun _ => 0)) 50 (40 * s) 40 (fun _ => 0)) := by
  have off : ∀ a j, ¬ (a = 34 + 2 * s ∧ (j = 1 ∨ j = 2)) → ¬ (a = 48 ∧ j = s) → ¬ (a = 49 ∧ j = s) → na_set (na_set (na_set (na_set I (34 + 2 * s) 1 b) (34 + 2 * s) 2 (nI L)) 48 s b) 49 s (nI L) a j = I a j := fun a j q1 q2 q3 => by
    rw [na_set_get, if_neg q3, na_set_get, if_neg q2, na_set_get, if_neg (by omega), na_set_get, if_neg (by omega)]
  have offa : ∀ a, a ≠ 34 + 2 * s → a ≠ 48 → a ≠ 49 → na_set (na_set (na_set (na_set I (34 + 2 * s) 1 b) (34 + 2 * s) 2 (nI L)) 48 s b) 49 s (nI L) a = I a := fun a q1 q2 q3 => funext fun j => off a j (by omega) (by omega) (by omega)
  obtain ⟨h1, ⟨h2, h2'⟩, ⟨K, t1, t2, t3, t4⟩, h4, h5⟩ := h
  refine ⟨h1.eq (fun a q1 q2 => offa a (by omega) (by omega) (by omega)) (offa 44 (by omega) (by omega) (by omega)), ⟨?_, ?_⟩, ⟨K, t1, ?_, ?_, ?_⟩, fun t ht => ?_, fun k hk => ?_⟩
  · rw [offa 0 (by omega) (by omega) (by omega), offa 43 (by omega) (by omega) (by omega)]; exact h2
  · rw [offa 0 (by omega) (by omega) (by omega)]
    rcases h2' with q | ⟨q, q2⟩
    · exact Or.inl q
    · exact Or.inr ⟨q, q2.eq (fun a q1 q2 => offa a (by omega) (by omega) (by omega)) (offa 52 (by omega) (by omega) (by omega))⟩
  · rw [offa 31 (by omega) (by omega) (by omega)]; exact t2
  · rw [offa 43 (by omega) (by omega) (by omega)]; exact t3
  · rw [offa 32 (by omega) (by omega) (by omega), offa 47 (by omega) (by omega) (by omega)]; exact t4
  · by_cases e : t = s
    · subst e
      have e1 : na_set (na_set (na_set (na_set I (34 + 2 * t) 1 b) (34 + 2 * t) 2 (nI L)) 48 t b) 49 t (nI L) (34 + 2 * t) 1 = b := by
        rw [na_set_get, if_neg (by omega), na_set_get, if_neg (by omega), na_set_get, if_neg (by omega), na_set_get, if_pos ⟨rfl, rfl⟩]
      have e2 : na_set (na_set (na_set (na_set I (34 + 2 * t) 1 b) (34 + 2 * t) 2 (nI L)) 48 t b) 49 t (nI L) 48 t = b := by
        rw [na_set_get, if_neg (by omega), na_set_get, if_pos ⟨rfl, rfl⟩]
      have e3 : na_set (na_set (na_set (na_set I (34 + 2 * t) 1 b) (34 + 2 * t) 2 (nI L)) 48 t b) 49 t (nI L) (34 + 2 * t) 2 = nI L := by
        rw [na_set_get, if_neg (by omega), na_set_get, if_neg (by omega), na_set_get, if_pos ⟨rfl, rfl⟩]
      have e4 : na_set (na_set (na_set (na_set I (34 + 2 * t) 1 b) (34 + 2 * t) 2 (nI L)) 48 t b) 49 t (nI L) 49 t = nI L := by
        rw [na_set_get, if_pos ⟨rfl, rfl⟩]
      refine ⟨e1.trans e2.symm, by rw [e2]; exact hb, L, hL, e3, e4, fun j hj => ?_⟩
      rw [wJ_off (by omega), wJ_on, if_pos (by omega), wJ_on, if_pos (by omega)]
    · obtain ⟨s1, s2, n, s3, s4, s5, s6⟩ := h4 t ht
      unfold Sh
      rw [off (34 + 2 * t) 1 (by omega) (by omega) (by omega), off 48 t (by omega) (by omega) (by omega), off (34 + 2 * t) 2 (by omega) (by omega) (by omega), off 49 t (by omega) (by omega) (by omega)]
      refine ⟨s1, s2, n, s3, s4, s5, fun j hj => ?_⟩
      rw [wJ_off (by omega), wJ_off (by omega), wJ_on, if_neg (by omega), wJ_off (by omega)]
      exact s6 j hj
  · rw [offa 42 (by omega) (by omega) (by omega), offa 45 (by omega) (by omega) (by omega)]; exact h5 k hk
set_option maxRecDepth 100000 in
set_option maxHeartbeats 4000000 in
theorem l_start0 (sx : Nat × (Nat → Int32)) (L : Nat) (hL : L ≤ 40) (I : Mm) (hI : I 34 2 = nI L) (J : Ml) (Rt : Option Value → Mm → Ml → Prop) (hR : Rt none I (wJ J 35 0 L (fun _ => 0))) : ∀ m n , n + m = L → GW sx (na_mi MX1_start) Rt 20 [some (.ref 34), none, none, some (.int (nI n))] [] I (wJ J 35 0 n (fun _ => 0)) := by
  intro m
  induction m with
  | zero =>
    intro n  hn 
    obtain rfl : L = n := by omega
    have hz : I 34 2 ≤ nI L := by rw [hI]; exact Int32.le_refl _
    refine GW.run kX1_start (fun pc => Nat.beq pc 20) 54 12 rfl ?_
    refine And.intro (fun _ => ?_) (fun hh => absurd hz hh)
    exact hR
  | succ m ih =>
    intro n  hn 
    have hz : ¬ I 34 2 ≤ nI n := by rw [hI]; exact nI_ge (by omega) (by omega)
    have ih := ih (n + 1) (by omega)
    have hb : vp_in (nI n) 40 := vp_in_nI (by omega) (by omega)
    have hc := nI_clamp (n := n) (by omega)
    refine GW.run kX1_start (fun pc => Nat.beq pc 20) 54 12 rfl ?_
    refine And.intro (fun hh => absurd hh hz) (fun _ => ?_)
    refine And.intro (hb) ?_
    refine GW.weak (GW.eqIJ rfl ?_ ih) ⟨rfl, by rw [nI_1], trivial⟩
    rw [hc]
    exact wJ_s0 J 35 n _ rfl
set_option maxRecDepth 100000 in
set_option maxHeartbeats 4000000 in
theorem c_start0_0 (sx : Nat × (Nat → Int32)) (nn : Nat) (hn : nn ≤ 40) (I : Mm) (J : Ml) : Mt sx MX1_start [.ref 34, .int 0, .int (nI nn)] I J (fun r I' J' => na_set (na_set I 34 1 0) 34 2 (nI 0) = I' ∧ wJ J 35 0 0 (fun _ => 0) = J' ∧ r = none) := by
  refine Mt.of2 _ rfl (by decide +kernel) (Nat.le_of_ble_eq_true rfl) ?_
  refine GW.run kX1_start (fun pc => Nat.beq pc 20) 54 0 rfl ?_
  refine And.intro (fun hh => absurd hh (by decide)) (fun _ => ?_)
  refine GW.weak (GW.eqIJ rfl (wJ_0 J 35 0 (fun _ => 0)).symm (l_start0 sx 0 (by omega) _ (by rw [na_set_get, if_pos ⟨rfl, rfl⟩]; rfl) J _ ⟨rfl, rfl, rfl⟩ 0 0 (by omega))) ⟨rfl, rfl, trivial⟩
set_option maxRecDepth 100000 in
set_option maxHeartbeats 4000000 in
theorem c_start0_8 (sx : Nat × (Nat → Int32)) (nn : Nat) (hn : nn ≤ 40) (I : Mm) (J : Ml) : Mt sx MX1_start [.ref 34, .int 8, .int (nI nn)] I J (fun r I' J' => na_set (na_set I 34 1 8) 34 2 (nI nn) = I' ∧ wJ J 35 0 nn (fun _ => 0) = J' ∧ r = none) := by
  refine Mt.of2 _ rfl (by decide +kernel) (Nat.le_of_ble_eq_true rfl) ?_
  refine GW.run kX1_start (fun pc => Nat.beq pc 20) 54 0 rfl ?_
  refine And.intro (fun _ => ?_) (fun hh => absurd hh (by decide))
  refine GW.weak (GW.eqIJ rfl (wJ_0 J 35 0 (fun _ => 0)).symm (l_start0 sx nn (by omega) _ (by rw [na_set_get, if_pos ⟨rfl, rfl⟩]) J _ ⟨rfl, rfl, rfl⟩ nn 0 (by omega))) ⟨rfl, rfl, trivial⟩
set_option maxRecDepth 100000 in
set_option maxHeartbeats 4000000 in
theorem c_start0_16 (sx : Nat × (Nat → Int32)) (nn : Nat) (hn : nn ≤ 40) (I : Mm) (J : Ml) : Mt sx MX1_start [.ref 34, .int 16, .int (nI nn)] I J (fun r I' J' => na_set (na_set I 34 1 16) 34 2 (nI nn) = I' ∧ wJ J 35 0 nn (fun _ => 0) = J' ∧ r = none) := by
  refine Mt.of2 _ rfl (by decide +kernel) (Nat.le_of_ble_eq_true rfl) ?_
  refine GW.run kX1_start (fun pc => Nat.beq pc 20) 54 0 rfl ?_
  refine And.intro (fun _ => ?_) (fun hh => absurd hh (by decide))
  refine GW.weak (GW.eqIJ rfl (wJ_0 J 35 0 (fun _ => 0)).symm (l_start0 sx nn (by omega) _ (by rw [na_set_get, if_pos ⟨rfl, rfl⟩]) J _ ⟨rfl, rfl, rfl⟩ nn 0 (by omega))) ⟨rfl, rfl, trivial⟩
set_option maxRecDepth 100000 in
set_option maxHeartbeats 4000000 in
theorem c_start0_64 (sx : Nat × (Nat → Int32)) (nn : Nat) (hn : nn ≤ 40) (I : Mm) (J : Ml) : Mt sx MX1_start [.ref 34, .int 64, .int (nI nn)] I J (fun r I' J' => na_set (na_set I 34 1 64) 34 2 (nI nn) = I' ∧ wJ J 35 0 nn (fun _ => 0) = J' ∧ r = none) := by
  refine Mt.of2 _ rfl (by decide +kernel) (Nat.le_of_ble_eq_true rfl) ?_
  refine GW.run kX1_start (fun pc => Nat.beq pc 20) 54 0 rfl ?_
  refine And.intro (fun _ => ?_) (fun hh => absurd hh (by decide))
  refine GW.weak (GW.eqIJ rfl (wJ_0 J 35 0 (fun _ => 0)).symm (l_start0 sx nn (by omega) _ (by rw [na_set_get, if_pos ⟨rfl, rfl⟩]) J _ ⟨rfl, rfl, rfl⟩ nn 0 (by omega))) ⟨rfl, rfl, trivial⟩
set_option maxRecDepth 100000 in
set_option maxHeartbeats 4000000 in
theorem l_start1 (sx : Nat × (Nat → Int32)) (L : Nat) (hL : L ≤ 40) (I : Mm) (hI : I 36 2 = nI L) (J : Ml) (Rt : Option Value → Mm → Ml → Prop) (hR : Rt none I (wJ J 37 0 L (fun _ => 0))) : ∀ m n , n + m = L → GW sx (na_mi MX1_start) Rt 20 [some (.ref 36), none, none, some (.int (nI n))] [] I (wJ J 37 0 n (fun _ => 0)) := by
  intro m
  induction m with
  | zero =>
    intro n  hn 
    obtain rfl : L = n := by omega
    have hz : I 36 2 ≤ nI L := by rw [hI]; exact Int32.le_refl _
    refine GW.run kX1_start (fun pc => Nat.beq pc 20) 54 12 rfl ?_
    refine And.intro (fun _ => ?_) (fun hh => absurd hz hh)
    exact hR
  | succ m ih =>
    intro n  hn 
    have hz : ¬ I 36 2 ≤ nI n := by rw [hI]; exact nI_ge (by omega) (by omega)
    have ih := ih (n + 1) (by omega)
    have hb : vp_in (nI n) 40 := vp_in_nI (by omega) (by omega)
    have hc := nI_clamp (n := n) (by omega)
    refine GW.run kX1_start (fun pc => Nat.beq pc 20) 54 12 rfl ?_
    refine And.intro (fun hh => absurd hh hz) (fun _ => ?_)
    refine And.intro (hb) ?_
    refine GW.weak (GW.eqIJ rfl ?_ ih) ⟨rfl, by rw [nI_1], trivial⟩
    rw [hc]
    exact wJ_s0 J 37 n _ rfl
set_option maxRecDepth 100000 in
set_option maxHeartbeats 4000000 in
theorem c_start1_0 (sx : Nat × (Nat → Int32)) (nn : Nat) (hn : nn ≤ 40) (I : Mm) (J : Ml) : Mt sx MX1_start [.ref 36, .int 0, .int (nI nn)] I J (fun r I' J' => na_set (na_set I 36 1 0) 36 2 (nI 0) = I' ∧ wJ J 37 0 0 (fun _ => 0) = J' ∧ r = none) := by
  refine Mt.of2 _ rfl (by decide +kernel) (Nat.le_of_ble_eq_true rfl) ?_
  refine GW.run kX1_start (fun pc => Nat.beq pc 20) 54 0 rfl ?_
  refine And.intro (fun hh => absurd hh (by decide)) (fun _ => ?_)
  refine GW.weak (GW.eqIJ rfl (wJ_0 J 37 0 (fun _ => 0)).symm (l_start1 sx 0 (by omega) _ (by rw [na_set_get, if_pos ⟨rfl, rfl⟩]; rfl) J _ ⟨rfl, rfl, rfl⟩ 0 0 (by omega))) ⟨rfl, rfl, trivial⟩
set_option maxRecDepth 100000 in
set_option maxHeartbeats 4000000 in
theorem c_start1_8 (sx : Nat × (Nat → Int32)) (nn : Nat) (hn : nn ≤ 40) (I : Mm) (J : Ml) : Mt sx MX1_start [.ref 36, .int 8, .int (nI nn)] I J (fun r I' J' => na_set (na_set I 36 1 8) 36 2 (nI nn) = I' ∧ wJ J 37 0 nn (fun _ => 0) = J' ∧ r = none) := by
  refine Mt.of2 _ rfl (by decide +kernel) (Nat.le_of_ble_eq_true rfl) ?_
  refine GW.run kX1_start (fun pc => Nat.beq pc 20) 54 0 rfl ?_
  refine And.intro (fun _ => ?_) (fun hh => absurd hh (by decide))
  refine GW.weak (GW.eqIJ rfl (wJ_0 J 37 0 (fun _ => 0)).symm (l_start1 sx nn (by omega) _ (by rw [na_set_get, if_pos ⟨rfl, rfl⟩]) J _ ⟨rfl, rfl, rfl⟩ nn 0 (by omega))) ⟨rfl, rfl, trivial⟩
set_option maxRecDepth 100000 in
set_option maxHeartbeats 4000000 in
theorem c_start1_16 (sx : Nat × (Nat → Int32)) (nn : Nat) (hn : nn ≤ 40) (I : Mm) (J : Ml) : Mt sx MX1_start [.ref 36, .int 16, .int (nI nn)] I J (fun r I' J' => na_set (na_set I 36 1 16) 36 2 (nI nn) = I' ∧ wJ J 37 0 nn (fun _ => 0) = J' ∧ r = none) := by
  refine Mt.of2 _ rfl (by decide +kernel) (Nat.le_of_ble_eq_true rfl) ?_
  refine GW.run kX1_start (fun pc => Nat.beq pc 20) 54 0 rfl ?_
  refine And.intro (fun _ => ?_) (fun hh => absurd hh (by decide))
  refine GW.weak (GW.eqIJ rfl (wJ_0 J 37 0 (fun _ => 0)).symm (l_start1 sx nn (by omega) _ (by rw [na_set_get, if_pos ⟨rfl, rfl⟩]) J _ ⟨rfl, rfl, rfl⟩ nn 0 (by omega))) ⟨rfl, rfl, trivial⟩
set_option maxRecDepth 100000 in
set_option maxHeartbeats 4000000 in
theorem c_start1_64 (sx : Nat × (Nat → Int32)) (nn : Nat) (hn : nn ≤ 40) (I : Mm) (J : Ml) : Mt sx MX1_start [.ref 36, .int 64, .int (nI nn)] I J (fun r I' J' => na_set (na_set I 36 1 64) 36 2 (nI nn) = I' ∧ wJ J 37 0 nn (fun _ => 0) = J' ∧ r = none) := by
  refine Mt.of2 _ rfl (by decide +kernel) (Nat.le_of_ble_eq_true rfl) ?_
  refine GW.run kX1_start (fun pc => Nat.beq pc 20) 54 0 rfl ?_
  refine And.intro (fun _ => ?_) (fun hh => absurd hh (by decide))
  refine GW.weak (GW.eqIJ rfl (wJ_0 J 37 0 (fun _ => 0)).symm (l_start1 sx nn (by omega) _ (by rw [na_set_get, if_pos ⟨rfl, rfl⟩]) J _ ⟨rfl, rfl, rfl⟩ nn 0 (by omega))) ⟨rfl, rfl, trivial⟩
set_option maxRecDepth 100000 in
set_option maxHeartbeats 4000000 in
theorem l_start2 (sx : Nat × (Nat → Int32)) (L : Nat) (hL : L ≤ 40) (I : Mm) (hI : I 38 2 = nI L) (J : Ml) (Rt : Option Value → Mm → Ml → Prop) (hR : Rt none I (wJ J 39 0 L (fun _ => 0))) : ∀ m n , n + m = L → GW sx (na_mi MX1_start) Rt 20 [some (.ref 38), none, none, some (.int (nI n))] [] I (wJ J 39 0 n (fun _ => 0)) := by
  intro m
  induction m with
  | zero =>
    intro n  hn 
    obtain rfl : L = n := by omega
    have hz : I 38 2 ≤ nI L := by rw [hI]; exact Int32.le_refl _
    refine GW.run kX1_start (fun pc => Nat.beq pc 20) 54 12 rfl ?_
    refine And.intro (fun _ => ?_) (fun hh => absurd hz hh)
    exact hR
  | succ m ih =>
    intro n  hn 
    have hz : ¬ I 38 2 ≤ nI n := by rw [hI]; exact nI_ge (by omega) (by omega)
    have ih := ih (n + 1) (by omega)
    have hb : vp_in (nI n) 40 := vp_in_nI (by omega) (by omega)
    have hc := nI_clamp (n := n) (by omega)
    refine GW.run kX1_start (fun pc => Nat.beq pc 20) 54 12 rfl ?_
    refine And.intro (fun hh => absurd hh hz) (fun _ => ?_)
    refine And.intro (hb) ?_
    refine GW.weak (GW.eqIJ rfl ?_ ih) ⟨rfl, by rw [nI_1], trivial⟩
    rw [hc]
    exact wJ_s0 J 39 n _ rfl
set_option maxRecDepth 100000 in
set_option maxHeartbeats 4000000 in
theorem c_start2_0 (sx : Nat × (Nat → Int32)) (nn : Nat) (hn : nn ≤ 40) (I : Mm) (J : Ml) : Mt sx MX1_start [.ref 38, .int 0, .int (nI nn)] I J (fun r I' J' => na_set (na_set I 38 1 0) 38 2 (nI 0) = I' ∧ wJ J 39 0 0 (fun _ => 0) = J' ∧ r = none) := by
  refine Mt.of2 _ rfl (by decide +kernel) (Nat.le_of_ble_eq_true rfl) ?_
  refine GW.run kX1_start (fun pc => Nat.beq pc 20) 54 0 rfl ?_
  refine And.intro (fun hh => absurd hh (by decide)) (fun _ => ?_)
  refine GW.weak (GW.eqIJ rfl (wJ_0 J 39 0 (fun _ => 0)).symm (l_start2 sx 0 (by omega) _ (by rw [na_set_get, if_pos ⟨rfl, rfl⟩]; rfl) J _ ⟨rfl, rfl, rfl⟩ 0 0 (by omega))) ⟨rfl, rfl, trivial⟩
set_option maxRecDepth 100000 in
set_option maxHeartbeats 4000000 in
theorem c_start2_8 (sx : Nat × (Nat → Int32)) (nn : Nat) (hn : nn ≤ 40) (I : Mm) (J : Ml) : Mt sx MX1_start [.ref 38, .int 8, .int (nI nn)] I J (fun r I' J' => na_set (na_set I 38 1 8) 38 2 (nI nn) = I' ∧ wJ J 39 0 nn (fun _ => 0) = J' ∧ r = none) := by
  refine Mt.of2 _ rfl (by decide +kernel) (Nat.le_of_ble_eq_true rfl) ?_
  refine GW.run kX1_start (fun pc => Nat.beq pc 20) 54 0 rfl ?_
  refine And.intro (fun _ => ?_) (fun hh => absurd hh (by decide))
  refine GW.weak (GW.eqIJ rfl (wJ_0 J 39 0 (fun _ => 0)).symm (l_start2 sx nn (by omega) _ (by rw [na_set_get, if_pos ⟨rfl, rfl⟩]) J _ ⟨rfl, rfl, rfl⟩ nn 0 (by omega))) ⟨rfl, rfl, trivial⟩
set_option maxRecDepth 100000 in
set_option maxHeartbeats 4000000 in
theorem c_start2_16 (sx : Nat × (Nat → Int32)) (nn : Nat) (hn : nn ≤ 40) (I : Mm) (J : Ml) : Mt sx MX1_start [.ref 38, .int 16, .int (nI nn)] I J (fun r I' J' => na_set (na_set I 38 1 16) 38 2 (nI nn) = I' ∧ wJ J 39 0 nn (fun _ => 0) = J' ∧ r = none) := by
  refine Mt.of2 _ rfl (by decide +kernel) (Nat.le_of_ble_eq_true rfl) ?_
  refine GW.run kX1_start (fun pc => Nat.beq pc 20) 54 0 rfl ?_
  refine And.intro (fun _ => ?_) (fun hh => absurd hh (by decide))
  refine GW.weak (GW.eqIJ rfl (wJ_0 J 39 0 (fun _ => 0)).symm (l_start2 sx nn (by omega) _ (by rw [na_set_get, if_pos ⟨rfl, rfl⟩]) J _ ⟨rfl, rfl, rfl⟩ nn 0 (by omega))) ⟨rfl, rfl, trivial⟩
set_option maxRecDepth 100000 in
set_option maxHeartbeats 4000000 in
theorem c_start2_64 (sx : Nat × (Nat → Int32)) (nn : Nat) (hn : nn ≤ 40) (I : Mm) (J : Ml) : Mt sx MX1_start [.ref 38, .int 64, .int (nI nn)] I J (fun r I' J' => na_set (na_set I 38 1 64) 38 2 (nI nn) = I' ∧ wJ J 39 0 nn (fun _ => 0) = J' ∧ r = none) := by
  refine Mt.of2 _ rfl (by decide +kernel) (Nat.le_of_ble_eq_true rfl) ?_
  refine GW.run kX1_start (fun pc => Nat.beq pc 20) 54 0 rfl ?_
  refine And.intro (fun _ => ?_) (fun hh => absurd hh (by decide))
  refine GW.weak (GW.eqIJ rfl (wJ_0 J 39 0 (fun _ => 0)).symm (l_start2 sx nn (by omega) _ (by rw [na_set_get, if_pos ⟨rfl, rfl⟩]) J _ ⟨rfl, rfl, rfl⟩ nn 0 (by omega))) ⟨rfl, rfl, trivial⟩
set_option maxRecDepth 100000 in
set_option maxHeartbeats 4000000 in
theorem l_start3 (sx : Nat × (Nat → Int32)) (L : Nat) (hL : L ≤ 40) (I : Mm) (hI : I 40 2 = nI L) (J : Ml) (Rt : Option Value → Mm → Ml → Prop) (hR : Rt none I (wJ J 41 0 L (fun _ => 0))) : ∀ m n , n + m = L → GW sx (na_mi MX1_start) Rt 20 [some (.ref 40), none, none, some (.int (nI n))] [] I (wJ J 41 0 n (fun _ => 0)) := by
  intro m
  induction m with
  | zero =>
    intro n  hn 
    obtain rfl : L = n := by omega
    have hz : I 40 2 ≤ nI L := by rw [hI]; exact Int32.le_refl _
    refine GW.run kX1_start (fun pc => Nat.beq pc 20) 54 12 rfl ?_
    refine And.intro (fun _ => ?_) (fun hh => absurd hz hh)
    exact hR
  | succ m ih =>
    intro n  hn 
    have hz : ¬ I 40 2 ≤ nI n := by rw [hI]; exact nI_ge (by omega) (by omega)
    have ih := ih (n + 1) (by omega)
    have hb : vp_in (nI n) 40 := vp_in_nI (by omega) (by omega)
    have hc := nI_clamp (n := n) (by omega)
    refine GW.run kX1_start (fun pc => Nat.beq pc 20) 54 12 rfl ?_
    refine And.intro (fun hh => absurd hh hz) (fun _ => ?_)
    refine And.intro (hb) ?_
    refine GW.weak (GW.eqIJ rfl ?_ ih) ⟨rfl, by rw [nI_1], trivial⟩
    rw [hc]
    exact wJ_s0 J 41 n _ rfl
set_option maxRecDepth 100000 in
set_option maxHeartbeats 4000000 in
theorem c_start3_0 (sx : Nat × (Nat → Int32)) (nn : Nat) (hn : nn ≤ 40) (I : Mm) (J : Ml) : Mt sx MX1_start [.ref 40, .int 0, .int (nI nn)] I J (fun r I' J' => na_set (na_set I 40 1 0) 40 2 (nI 0) = I' ∧ wJ J 41 0 0 (fun _ => 0) = J' ∧ r = none) := by
  refine Mt.of2 _ rfl (by decide +kernel) (Nat.le_of_ble_eq_true rfl) ?_
  refine GW.run kX1_start (fun pc => Nat.beq pc 20) 54 0 rfl ?_
  refine And.intro (fun hh => absurd hh (by decide)) (fun _ => ?_)
  refine GW.weak (GW.eqIJ rfl (wJ_0 J 41 0 (fun _ => 0)).symm (l_start3 sx 0 (by omega) _ (by rw [na_set_get, if_pos ⟨rfl, rfl⟩]; rfl) J _ ⟨rfl, rfl, rfl⟩ 0 0 (by omega))) ⟨rfl, rfl, trivial⟩
set_option maxRecDepth 100000 in
set_option maxHeartbeats 4000000 in
theorem c_start3_8 (sx : Nat × (Nat → Int32)) (nn : Nat) (hn : nn ≤ 40) (I : Mm) (J : Ml) : Mt sx MX1_start [.ref 40, .int 8, .int (nI nn)] I J (fun r I' J' => na_set (na_set I 40 1 8) 40 2 (nI nn) = I' ∧ wJ J 41 0 nn (fun _ => 0) = J' ∧ r = none) := by
  refine Mt.of2 _ rfl (by decide +kernel) (Nat.le_of_ble_eq_true rfl) ?_
  refine GW.run kX1_start (fun pc => Nat.beq pc 20) 54 0 rfl ?_
  refine And.intro (fun _ => ?_) (fun hh => absurd hh (by decide))
  refine GW.weak (GW.eqIJ rfl (wJ_0 J 41 0 (fun _ => 0)).symm (l_start3 sx nn (by omega) _ (by rw [na_set_get, if_pos ⟨rfl, rfl⟩]) J _ ⟨rfl, rfl, rfl⟩ nn 0 (by omega))) ⟨rfl, rfl, trivial⟩
set_option maxRecDepth 100000 in
set_option maxHeartbeats 4000000 in
theorem c_start3_16 (sx : Nat × (Nat → Int32)) (nn : Nat) (hn : nn ≤ 40) (I : Mm) (J : Ml) : Mt sx MX1_start [.ref 40, .int 16, .int (nI nn)] I J (fun r I' J' => na_set (na_set I 40 1 16) 40 2 (nI nn) = I' ∧ wJ J 41 0 nn (fun _ => 0) = J' ∧ r = none) := by
  refine Mt.of2 _ rfl (by decide +kernel) (Nat.le_of_ble_eq_true rfl) ?_
  refine GW.run kX1_start (fun pc => Nat.beq pc 20) 54 0 rfl ?_
  refine And.intro (fun _ => ?_) (fun hh => absurd hh (by decide))
  refine GW.weak (GW.eqIJ rfl (wJ_0 J 41 0 (fun _ => 0)).symm (l_start3 sx nn (by omega) _ (by rw [na_set_get, if_pos ⟨rfl, rfl⟩]) J _ ⟨rfl, rfl, rfl⟩ nn 0 (by omega))) ⟨rfl, rfl, trivial⟩
set_option maxRecDepth 100000 in
set_option maxHeartbeats 4000000 in
theorem c_start3_64 (sx : Nat × (Nat → Int32)) (nn : Nat) (hn : nn ≤ 40) (I : Mm) (J : Ml) : Mt sx MX1_start [.ref 40, .int 64, .int (nI nn)] I J (fun r I' J' => na_set (na_set I 40 1 64) 40 2 (nI nn) = I' ∧ wJ J 41 0 nn (fun _ => 0) = J' ∧ r = none) := by
  refine Mt.of2 _ rfl (by decide +kernel) (Nat.le_of_ble_eq_true rfl) ?_
  refine GW.run kX1_start (fun pc => Nat.beq pc 20) 54 0 rfl ?_
  refine And.intro (fun _ => ?_) (fun hh => absurd hh (by decide))
  refine GW.weak (GW.eqIJ rfl (wJ_0 J 41 0 (fun _ => 0)).symm (l_start3 sx nn (by omega) _ (by rw [na_set_get, if_pos ⟨rfl, rfl⟩]) J _ ⟨rfl, rfl, rfl⟩ nn 0 (by omega))) ⟨rfl, rfl, trivial⟩
set_option maxRecDepth 100000 in
set_option maxHeartbeats 4000000 in
theorem l_sheM0 (sx : Nat × (Nat → Int32)) (I : Mm) (J : Ml) (Rt : Option Value → Mm → Ml → Prop) (hR : Rt (some (.int (I 49 0))) I (wJ J 50 0 40 (fun _ => 0))) : ∀ m n , n + m = 40 → GW sx (na_mi MX4_sheet) Rt 86 [some (.ref 43), some (.int 0), none, none, some (.int (nI n))] [] I (wJ J 50 0 n (fun _ => 0)) := by
  intro m
  induction m with
  | zero =>
    intro n  hn 
    obtain rfl : n = 40 := by omega
    have hz : (40 : Int32) ≤ nI 40 := by decide
    refine GW.run kX4_sheet (fun pc => Nat.beq pc 86) 96 47 rfl ?_
    refine And.intro (fun _ => ?_) (fun hh => absurd hz hh)
    refine And.intro (by unfold vp_in; decide) ?_
    exact ⟨trivial, hR⟩
  | succ m ih =>
    intro n  hn 
    have hz : ¬ (40 : Int32) ≤ nI n := nI_ge (a := n) (b := 40) (by omega) (by omega)
    have ih := ih (n + 1) (by omega)
    have hix : (40 : Int32) * 0 + nI n = nI (0 + n) := by rw [show (40 : Int32) * 0 = nI 0 by decide, nI_add]
    have hb : vp_in ((40 : Int32) * 0 + nI n) 160 := by rw [hix]; exact vp_in_nI (by omega) (by omega)
    have hc : ((40 : Int32) * 0 + nI n).toNatClampNeg = 0 + n := by rw [hix, nI_clamp (by omega)]
    refine GW.run kX4_sheet (fun pc => Nat.beq pc 86) 96 47 rfl ?_
    refine And.intro (fun hh => absurd hh hz) (fun _ => ?_)
    refine And.intro (hb) ?_
    refine GW.weak (GW.eqIJ rfl ?_ ih) ⟨rfl, rfl, by rw [nI_1], trivial⟩
    rw [hc]
    exact wJ_s J 50 0 n _ rfl
set_option maxRecDepth 100000 in
set_option maxHeartbeats 4000000 in
theorem l_sheM1 (sx : Nat × (Nat → Int32)) (I : Mm) (J : Ml) (Rt : Option Value → Mm → Ml → Prop) (hR : Rt (some (.int (I 49 1))) I (wJ J 50 40 40 (fun _ => 0))) : ∀ m n , n + m = 40 → GW sx (na_mi MX4_sheet) Rt 86 [some (.ref 43), some (.int 1), none, none, some (.int (nI n))] [] I (wJ J 50 40 n (fun _ => 0)) := by
  intro m
  induction m with
  | zero =>
    intro n  hn 
    obtain rfl : n = 40 := by omega
    have hz : (40 : Int32) ≤ nI 40 := by decide
    refine GW.run kX4_sheet (fun pc => Nat.beq pc 86) 96 47 rfl ?_
    refine And.intro (fun _ => ?_) (fun hh => absurd hz hh)
    refine And.intro (by unfold vp_in; decide) ?_
    exact ⟨trivial, hR⟩
  | succ m ih =>
    intro n  hn 
    have hz : ¬ (40 : Int32) ≤ nI n := nI_ge (a := n) (b := 40) (by omega) (by omega)
    have ih := ih (n + 1) (by omega)
    have hix : (40 : Int32) * 1 + nI n = nI (40 + n) := by rw [show (40 : Int32) * 1 = nI 40 by decide, nI_add]
    have hb : vp_in ((40 : Int32) * 1 + nI n) 160 := by rw [hix]; exact vp_in_nI (by omega) (by omega)
    have hc : ((40 : Int32) * 1 + nI n).toNatClampNeg = 40 + n := by rw [hix, nI_clamp (by omega)]
    refine GW.run kX4_sheet (fun pc => Nat.beq pc 86) 96 47 rfl ?_
    refine And.intro (fun hh => absurd hh hz) (fun _ => ?_)
    refine And.intro (hb) ?_
    refine GW.weak (GW.eqIJ rfl ?_ ih) ⟨rfl, rfl, by rw [nI_1], trivial⟩
    rw [hc]
    exact wJ_s J 50 40 n _ rfl
set_option maxRecDepth 100000 in
set_option maxHeartbeats 4000000 in
theorem l_sheM2 (sx : Nat × (Nat → Int32)) (I : Mm) (J : Ml) (Rt : Option Value → Mm → Ml → Prop) (hR : Rt (some (.int (I 49 2))) I (wJ J 50 80 40 (fun _ => 0))) : ∀ m n , n + m = 40 → GW sx (na_mi MX4_sheet) Rt 86 [some (.ref 43), some (.int 2), none, none, some (.int (nI n))] [] I (wJ J 50 80 n (fun _ => 0)) := by
  intro m
  induction m with
  | zero =>
    intro n  hn 
    obtain rfl : n = 40 := by omega
    have hz : (40 : Int32) ≤ nI 40 := by decide
    refine GW.run kX4_sheet (fun pc => Nat.beq pc 86) 96 47 rfl ?_
    refine And.intro (fun _ => ?_) (fun hh => absurd hz hh)
    refine And.intro (by unfold vp_in; decide) ?_
    exact ⟨trivial, hR⟩
  | succ m ih =>
    intro n  hn 
    have hz : ¬ (40 : Int32) ≤ nI n := nI_ge (a := n) (b := 40) (by omega) (by omega)
    have ih := ih (n + 1) (by omega)
    have hix : (40 : Int32) * 2 + nI n = nI (80 + n) := by rw [show (40 : Int32) * 2 = nI 80 by decide, nI_add]
    have hb : vp_in ((40 : Int32) * 2 + nI n) 160 := by rw [hix]; exact vp_in_nI (by omega) (by omega)
    have hc : ((40 : Int32) * 2 + nI n).toNatClampNeg = 80 + n := by rw [hix, nI_clamp (by omega)]
    refine GW.run kX4_sheet (fun pc => Nat.beq pc 86) 96 47 rfl ?_
    refine And.intro (fun hh => absurd hh hz) (fun _ => ?_)
    refine And.intro (hb) ?_
    refine GW.weak (GW.eqIJ rfl ?_ ih) ⟨rfl, rfl, by rw [nI_1], trivial⟩
    rw [hc]
    exact wJ_s J 50 80 n _ rfl
set_option maxRecDepth 100000 in
set_option maxHeartbeats 4000000 in
theorem l_sheM3 (sx : Nat × (Nat → Int32)) (I : Mm) (J : Ml) (Rt : Option Value → Mm → Ml → Prop) (hR : Rt (some (.int (I 49 3))) I (wJ J 50 120 40 (fun _ => 0))) : ∀ m n , n + m = 40 → GW sx (na_mi MX4_sheet) Rt 86 [some (.ref 43), some (.int 3), none, none, some (.int (nI n))] [] I (wJ J 50 120 n (fun _ => 0)) := by
  intro m
  induction m with
  | zero =>
    intro n  hn 
    obtain rfl : n = 40 := by omega
    have hz : (40 : Int32) ≤ nI 40 := by decide
    refine GW.run kX4_sheet (fun pc => Nat.beq pc 86) 96 47 rfl ?_
    refine And.intro (fun _ => ?_) (fun hh => absurd hz hh)
    refine And.intro (by unfold vp_in; decide) ?_
    exact ⟨trivial, hR⟩
  | succ m ih =>
    intro n  hn 
    have hz : ¬ (40 : Int32) ≤ nI n := nI_ge (a := n) (b := 40) (by omega) (by omega)
    have ih := ih (n + 1) (by omega)
    have hix : (40 : Int32) * 3 + nI n = nI (120 + n) := by rw [show (40 : Int32) * 3 = nI 120 by decide, nI_add]
    have hb : vp_in ((40 : Int32) * 3 + nI n) 160 := by rw [hix]; exact vp_in_nI (by omega) (by omega)
    have hc : ((40 : Int32) * 3 + nI n).toNatClampNeg = 120 + n := by rw [hix, nI_clamp (by omega)]
    refine GW.run kX4_sheet (fun pc => Nat.beq pc 86) 96 47 rfl ?_
    refine And.intro (fun hh => absurd hh hz) (fun _ => ?_)
    refine And.intro (hb) ?_
    refine GW.weak (GW.eqIJ rfl ?_ ih) ⟨rfl, rfl, by rw [nI_1], trivial⟩
    rw [hc]
    exact wJ_s J 50 120 n _ rfl
set_option maxRecDepth 100000 in
set_option maxHeartbeats 4000000 in
theorem pr_sheet0_0 (sx : Nat × (Nat → Int32)) (nn : Nat) (hn : nn ≤ 40) : PrI sx MX3_sheet MX4_sheet [.int 0, .int 0, .int (nI nn)] := by
  intro I J hS
  have h0 : 0 ≤ nI nn := nI_pos' (by omega)
  have h40 : nI nn ≤ 40 := nI_le (b := 40) hn (by omega)
  refine Mt.of2 _ rfl (by decide +kernel) (Nat.le_of_ble_eq_true rfl) ?_
  refine GW.run kX3_sheet (fun _ => false) 74 0 rfl ?_
  refine Mt.conseq (c_noSheet _ _ _ _) ?_
  rintro _ _ _ ⟨rfl, rfl, ⟨h1, rfl⟩ | ⟨h1, rfl⟩⟩
  · -- pc 1 call X3_noSheet true
    exact absurd h1 (by decide)
  · -- pc 1 call X3_noSheet false
    refine And.intro (fun hh => absurd hh (by decide)) (fun _ => ?_)
    refine And.intro (fun _ => ?_) (fun hh => absurd hh (by decide))
    refine And.intro (fun h2 => ?_) (fun h2 => ?_)
    · -- pc 37 .ifCond .ge 10: yes
      refine And.intro (fun h3 => ?_) (fun h3 => ?_)
      · -- pc 50 .if_icmp .le 10: yes
        refine And.intro (by unfold vp_in; decide) ?_
        refine Mt.conseq (c_start0_0 _ nn hn _ _) ?_
        rintro _ _ _ ⟨rfl, rfl, rfl⟩
        refine And.intro (by unfold vp_in; decide) ?_
        refine ⟨trivial, _, rfl, ?_⟩
        refine Mt.of2 _ rfl (by decide +kernel) (Nat.le_of_ble_eq_true rfl) ?_
        refine GW.run kX4_sheet (fun pc => Nat.beq pc 86) 96 0 rfl ?_
        refine Mt.conseq (m_isSheet _ _ _ _) ?_
        rintro _ _ _ ⟨rfl, rfl, ⟨g1, rfl⟩ | ⟨g1, rfl⟩⟩
        · -- pc 1 call X4_isSheet true
          refine And.intro (fun hh => absurd hh (by decide)) (fun _ => ?_)
          refine And.intro (fun _ => ?_) (fun hh => absurd hh (by decide))
          refine And.intro (fun g2 => ?_) (fun g2 => ?_)
          · -- pc 37 .ifCond .ge 11: yes
            refine And.intro (fun g3 => ?_) (fun g3 => ?_)
            · -- pc 51 .if_icmp .le 10: yes
              refine And.intro (by unfold vp_in; decide) ?_
              refine And.intro (fun hh => absurd hh (by decide)) (fun _ => ?_)
              refine And.intro (by unfold vp_in; decide) ?_
              refine GW.weak (GW.eqIJ rfl (wJ_0 _ 50 0 (fun _ => 0)).symm (l_sheM0 sx _ _ _ ?_ 40 0 rfl)) ⟨rfl, rfl, rfl, trivial⟩
              exact ⟨rfl, hS.sheetN (s := 0) (b := 0) (L := 0) (by decide) (by decide) (by omega)⟩
            · -- pc 51 .if_icmp .le 10: no
              exact absurd h40 g3
          · -- pc 37 .ifCond .ge 11: no
            exact absurd h0 g2
        · -- pc 1 call X4_isSheet false
          exact absurd (by decide) g1
      · -- pc 50 .if_icmp .le 10: no
        exact absurd h40 h3
    · -- pc 37 .ifCond .ge 10: no
      exact absurd h0 h2
set_option maxRecDepth 100000 in
set_option maxHeartbeats 4000000 in
theorem pr_sheet0_8 (sx : Nat × (Nat → Int32)) (nn : Nat) (hn : nn ≤ 40) : PrI sx MX3_sheet MX4_sheet [.int 0, .int 8, .int (nI nn)] := by
  intro I J hS
  have h0 : 0 ≤ nI nn := nI_pos' (by omega)
  have h40 : nI nn ≤ 40 := nI_le (b := 40) hn (by omega)
  refine Mt.of2 _ rfl (by decide +kernel) (Nat.le_of_ble_eq_true rfl) ?_
  refine GW.run kX3_sheet (fun _ => false) 74 0 rfl ?_
  refine Mt.conseq (c_noSheet _ _ _ _) ?_
  rintro _ _ _ ⟨rfl, rfl, ⟨h1, rfl⟩ | ⟨h1, rfl⟩⟩
  · -- pc 1 call X3_noSheet true
    exact absurd h1 (by decide)
  · -- pc 1 call X3_noSheet false
    refine And.intro (fun hh => absurd hh (by decide)) (fun _ => ?_)
    refine And.intro (fun hh => absurd hh (by decide)) (fun _ => ?_)
    refine And.intro (fun _ => ?_) (fun hh => absurd hh (by decide))
    refine And.intro (fun h2 => ?_) (fun h2 => ?_)
    · -- pc 37 .ifCond .ge 10: yes
      refine And.intro (fun h3 => ?_) (fun h3 => ?_)
      · -- pc 50 .if_icmp .le 10: yes
        refine And.intro (by unfold vp_in; decide) ?_
        refine Mt.conseq (c_start0_8 _ nn hn _ _) ?_
        rintro _ _ _ ⟨rfl, rfl, rfl⟩
        refine And.intro (by unfold vp_in; decide) ?_
        refine ⟨trivial, _, rfl, ?_⟩
        refine Mt.of2 _ rfl (by decide +kernel) (Nat.le_of_ble_eq_true rfl) ?_
        refine GW.run kX4_sheet (fun pc => Nat.beq pc 86) 96 0 rfl ?_
        refine Mt.conseq (m_isSheet _ _ _ _) ?_
        rintro _ _ _ ⟨rfl, rfl, ⟨g1, rfl⟩ | ⟨g1, rfl⟩⟩
        · -- pc 1 call X4_isSheet true
          refine And.intro (fun hh => absurd hh (by decide)) (fun _ => ?_)
          refine And.intro (fun hh => absurd hh (by decide)) (fun _ => ?_)
          refine And.intro (fun _ => ?_) (fun hh => absurd hh (by decide))
          refine And.intro (fun g2 => ?_) (fun g2 => ?_)
          · -- pc 37 .ifCond .ge 11: yes
            refine And.intro (fun g3 => ?_) (fun g3 => ?_)
            · -- pc 51 .if_icmp .le 10: yes
              refine And.intro (by unfold vp_in; decide) ?_
              refine And.intro (fun _ => ?_) (fun hh => absurd hh (by decide))
              refine And.intro (by unfold vp_in; decide) ?_
              refine GW.weak (GW.eqIJ rfl (wJ_0 _ 50 0 (fun _ => 0)).symm (l_sheM0 sx _ _ _ ?_ 40 0 rfl)) ⟨rfl, rfl, rfl, trivial⟩
              exact ⟨rfl, hS.sheetN (s := 0) (b := 8) (L := nn) (by decide) (by decide) (by omega)⟩
            · -- pc 51 .if_icmp .le 10: no
              exact absurd h40 g3
          · -- pc 37 .ifCond .ge 11: no
            exact absurd h0 g2
        · -- pc 1 call X4_isSheet false
          exact absurd (by decide) g1
      · -- pc 50 .if_icmp .le 10: no
        exact absurd h40 h3
    · -- pc 37 .ifCond .ge 10: no
      exact absurd h0 h2
set_option maxRecDepth 100000 in
set_option maxHeartbeats 4000000 in
theorem pr_sheet0_16 (sx : Nat × (Nat → Int32)) (nn : Nat) (hn : nn ≤ 40) : PrI sx MX3_sheet MX4_sheet [.int 0, .int 16, .int (nI nn)] := by
  intro I J hS
  have h0 : 0 ≤ nI nn := nI_pos' (by omega)
  have h40 : nI nn ≤ 40 := nI_le (b := 40) hn (by omega)
  refine Mt.of2 _ rfl (by decide +kernel) (Nat.le_of_ble_eq_true rfl) ?_
  refine GW.run kX3_sheet (fun _ => false) 74 0 rfl ?_
  refine Mt.conseq (c_noSheet _ _ _ _) ?_
  rintro _ _ _ ⟨rfl, rfl, ⟨h1, rfl⟩ | ⟨h1, rfl⟩⟩
  · -- pc 1 call X3_noSheet true
    exact absurd h1 (by decide)
  · -- pc 1 call X3_noSheet false
    refine And.intro (fun hh => absurd hh (by decide)) (fun _ => ?_)
    refine And.intro (fun hh => absurd hh (by decide)) (fun _ => ?_)
    refine And.intro (fun hh => absurd hh (by decide)) (fun _ => ?_)
    refine And.intro (fun _ => ?_) (fun hh => absurd hh (by decide))
    refine And.intro (fun h2 => ?_) (fun h2 => ?_)
    · -- pc 37 .ifCond .ge 10: yes
      refine And.intro (fun h3 => ?_) (fun h3 => ?_)
      · -- pc 50 .if_icmp .le 10: yes
        refine And.intro (by unfold vp_in; decide) ?_
        refine Mt.conseq (c_start0_16 _ nn hn _ _) ?_
        rintro _ _ _ ⟨rfl, rfl, rfl⟩
        refine And.intro (by unfold vp_in; decide) ?_
        refine ⟨trivial, _, rfl, ?_⟩
        refine Mt.of2 _ rfl (by decide +kernel) (Nat.le_of_ble_eq_true rfl) ?_
        refine GW.run kX4_sheet (fun pc => Nat.beq pc 86) 96 0 rfl ?_
        refine Mt.conseq (m_isSheet _ _ _ _) ?_
        rintro _ _ _ ⟨rfl, rfl, ⟨g1, rfl⟩ | ⟨g1, rfl⟩⟩
        · -- pc 1 call X4_isSheet true
          refine And.intro (fun hh => absurd hh (by decide)) (fun _ => ?_)
          refine And.intro (fun hh => absurd hh (by decide)) (fun _ => ?_)
          refine And.intro (fun hh => absurd hh (by decide)) (fun _ => ?_)
          refine And.intro (fun _ => ?_) (fun hh => absurd hh (by decide))
          refine And.intro (fun g2 => ?_) (fun g2 => ?_)
          · -- pc 37 .ifCond .ge 11: yes
            refine And.intro (fun g3 => ?_) (fun g3 => ?_)
            · -- pc 51 .if_icmp .le 10: yes
              refine And.intro (by unfold vp_in; decide) ?_
              refine And.intro (fun _ => ?_) (fun hh => absurd hh (by decide))
              refine And.intro (by unfold vp_in; decide) ?_
              refine GW.weak (GW.eqIJ rfl (wJ_0 _ 50 0 (fun _ => 0)).symm (l_sheM0 sx _ _ _ ?_ 40 0 rfl)) ⟨rfl, rfl, rfl, trivial⟩
              exact ⟨rfl, hS.sheetN (s := 0) (b := 16) (L := nn) (by decide) (by decide) (by omega)⟩
            · -- pc 51 .if_icmp .le 10: no
              exact absurd h40 g3
          · -- pc 37 .ifCond .ge 11: no
            exact absurd h0 g2
        · -- pc 1 call X4_isSheet false
          exact absurd (by decide) g1
      · -- pc 50 .if_icmp .le 10: no
        exact absurd h40 h3
    · -- pc 37 .ifCond .ge 10: no
      exact absurd h0 h2
set_option maxRecDepth 100000 in
set_option maxHeartbeats 4000000 in
theorem pr_sheet0_64 (sx : Nat × (Nat → Int32)) (nn : Nat) (hn : nn ≤ 40) : PrI sx MX3_sheet MX4_sheet [.int 0, .int 64, .int (nI nn)] := by
  intro I J hS
  have h0 : 0 ≤ nI nn := nI_pos' (by omega)
  have h40 : nI nn ≤ 40 := nI_le (b := 40) hn (by omega)
  refine Mt.of2 _ rfl (by decide +kernel) (Nat.le_of_ble_eq_true rfl) ?_
  refine GW.run kX3_sheet (fun _ => false) 74 0 rfl ?_
  refine Mt.conseq (c_noSheet _ _ _ _) ?_
  rintro _ _ _ ⟨rfl, rfl, ⟨h1, rfl⟩ | ⟨h1, rfl⟩⟩
  · -- pc 1 call X3_noSheet true
    exact absurd h1 (by decide)
  · -- pc 1 call X3_noSheet false
    refine And.intro (fun hh => absurd hh (by decide)) (fun _ => ?_)
    refine And.intro (fun hh => absurd hh (by decide)) (fun _ => ?_)
    refine And.intro (fun hh => absurd hh (by decide)) (fun _ => ?_)
    refine And.intro (fun hh => absurd hh (by decide)) (fun _ => ?_)
    refine And.intro (fun _ => ?_) (fun hh => absurd hh (by decide))
    refine And.intro (fun h2 => ?_) (fun h2 => ?_)
    · -- pc 37 .ifCond .ge 10: yes
      refine And.intro (fun h3 => ?_) (fun h3 => ?_)
      · -- pc 50 .if_icmp .le 10: yes
        refine And.intro (by unfold vp_in; decide) ?_
        refine Mt.conseq (c_start0_64 _ nn hn _ _) ?_
        rintro _ _ _ ⟨rfl, rfl, rfl⟩
        refine And.intro (by unfold vp_in; decide) ?_
        refine ⟨trivial, _, rfl, ?_⟩
        refine Mt.of2 _ rfl (by decide +kernel) (Nat.le_of_ble_eq_true rfl) ?_
        refine GW.run kX4_sheet (fun pc => Nat.beq pc 86) 96 0 rfl ?_
        refine Mt.conseq (m_isSheet _ _ _ _) ?_
        rintro _ _ _ ⟨rfl, rfl, ⟨g1, rfl⟩ | ⟨g1, rfl⟩⟩
        · -- pc 1 call X4_isSheet true
          refine And.intro (fun hh => absurd hh (by decide)) (fun _ => ?_)
          refine And.intro (fun hh => absurd hh (by decide)) (fun _ => ?_)
          refine And.intro (fun hh => absurd hh (by decide)) (fun _ => ?_)
          refine And.intro (fun hh => absurd hh (by decide)) (fun _ => ?_)
          refine And.intro (fun _ => ?_) (fun hh => absurd hh (by decide))
          refine And.intro (fun g2 => ?_) (fun g2 => ?_)
          · -- pc 37 .ifCond .ge 11: yes
            refine And.intro (fun g3 => ?_) (fun g3 => ?_)
            · -- pc 51 .if_icmp .le 10: yes
              refine And.intro (by unfold vp_in; decide) ?_
              refine And.intro (fun _ => ?_) (fun hh => absurd hh (by decide))
              refine And.intro (by unfold vp_in; decide) ?_
              refine GW.weak (GW.eqIJ rfl (wJ_0 _ 50 0 (fun _ => 0)).symm (l_sheM0 sx _ _ _ ?_ 40 0 rfl)) ⟨rfl, rfl, rfl, trivial⟩
              exact ⟨rfl, hS.sheetN (s := 0) (b := 64) (L := nn) (by decide) (by decide) (by omega)⟩
            · -- pc 51 .if_icmp .le 10: no
              exact absurd h40 g3
          · -- pc 37 .ifCond .ge 11: no
            exact absurd h0 g2
        · -- pc 1 call X4_isSheet false
          exact absurd (by decide) g1
      · -- pc 50 .if_icmp .le 10: no
        exact absurd h40 h3
    · -- pc 37 .ifCond .ge 10: no
      exact absurd h0 h2
set_option maxRecDepth 100000 in
set_option maxHeartbeats 4000000 in
theorem pr_sheet1_0 (sx : Nat × (Nat → Int32)) (nn : Nat) (hn : nn ≤ 40) : PrI sx MX3_sheet MX4_sheet [.int 1, .int 0, .int (nI nn)] := by
  intro I J hS
  have h0 : 0 ≤ nI nn := nI_pos' (by omega)
  have h40 : nI nn ≤ 40 := nI_le (b := 40) hn (by omega)
  refine Mt.of2 _ rfl (by decide +kernel) (Nat.le_of_ble_eq_true rfl) ?_
  refine GW.run kX3_sheet (fun _ => false) 74 0 rfl ?_
  refine Mt.conseq (c_noSheet _ _ _ _) ?_
  rintro _ _ _ ⟨rfl, rfl, ⟨h1, rfl⟩ | ⟨h1, rfl⟩⟩
  · -- pc 1 call X3_noSheet true
    exact absurd h1 (by decide)
  · -- pc 1 call X3_noSheet false
    refine And.intro (fun hh => absurd hh (by decide)) (fun _ => ?_)
    refine And.intro (fun _ => ?_) (fun hh => absurd hh (by decide))
    refine And.intro (fun h2 => ?_) (fun h2 => ?_)
    · -- pc 37 .ifCond .ge 10: yes
      refine And.intro (fun h3 => ?_) (fun h3 => ?_)
      · -- pc 50 .if_icmp .le 10: yes
        refine And.intro (by unfold vp_in; decide) ?_
        refine Mt.conseq (c_start1_0 _ nn hn _ _) ?_
        rintro _ _ _ ⟨rfl, rfl, rfl⟩
        refine And.intro (by unfold vp_in; decide) ?_
        refine ⟨trivial, _, rfl, ?_⟩
        refine Mt.of2 _ rfl (by decide +kernel) (Nat.le_of_ble_eq_true rfl) ?_
        refine GW.run kX4_sheet (fun pc => Nat.beq pc 86) 96 0 rfl ?_
        refine Mt.conseq (m_isSheet _ _ _ _) ?_
        rintro _ _ _ ⟨rfl, rfl, ⟨g1, rfl⟩ | ⟨g1, rfl⟩⟩
        · -- pc 1 call X4_isSheet true
          refine And.intro (fun hh => absurd hh (by decide)) (fun _ => ?_)
          refine And.intro (fun _ => ?_) (fun hh => absurd hh (by decide))
          refine And.intro (fun g2 => ?_) (fun g2 => ?_)
          · -- pc 37 .ifCond .ge 11: yes
            refine And.intro (fun g3 => ?_) (fun g3 => ?_)
            · -- pc 51 .if_icmp .le 10: yes
              refine And.intro (by unfold vp_in; decide) ?_
              refine And.intro (fun hh => absurd hh (by decide)) (fun _ => ?_)
              refine And.intro (by unfold vp_in; decide) ?_
              refine GW.weak (GW.eqIJ rfl (wJ_0 _ 50 40 (fun _ => 0)).symm (l_sheM1 sx _ _ _ ?_ 40 0 rfl)) ⟨rfl, rfl, rfl, trivial⟩
              exact ⟨rfl, hS.sheetN (s := 1) (b := 0) (L := 0) (by decide) (by decide) (by omega)⟩
            · -- pc 51 .if_icmp .le 10: no
              exact absurd h40 g3
          · -- pc 37 .ifCond .ge 11: no
            exact absurd h0 g2
        · -- pc 1 call X4_isSheet false
          exact absurd (by decide) g1
      · -- pc 50 .if_icmp .le 10: no
        exact absurd h40 h3
    · -- pc 37 .ifCond .ge 10: no
      exact absurd h0 h2
set_option maxRecDepth 100000 in
set_option maxHeartbeats 4000000 in
theorem pr_sheet1_8 (sx : Nat × (Nat → Int32)) (nn : Nat) (hn : nn ≤ 40) : PrI sx MX3_sheet MX4_sheet [.int 1, .int 8, .int (nI nn)] := by
  intro I J hS
  have h0 : 0 ≤ nI nn := nI_pos' (by omega)
  have h40 : nI nn ≤ 40 := nI_le (b := 40) hn (by omega)
  refine Mt.of2 _ rfl (by decide +kernel) (Nat.le_of_ble_eq_true rfl) ?_
  refine GW.run kX3_sheet (fun _ => false) 74 0 rfl ?_
  refine Mt.conseq (c_noSheet _ _ _ _) ?_
  rintro _ _ _ ⟨rfl, rfl, ⟨h1, rfl⟩ | ⟨h1, rfl⟩⟩
  · -- pc 1 call X3_noSheet true
    exact absurd h1 (by decide)
  · -- pc 1 call X3_noSheet false
    refine And.intro (fun hh => absurd hh (by decide)) (fun _ => ?_)
    refine And.intro (fun hh => absurd hh (by decide)) (fun _ => ?_)
    refine And.intro (fun _ => ?_) (fun hh => absurd hh (by decide))
    refine And.intro (fun h2 => ?_) (fun h2 => ?_)
    · -- pc 37 .ifCond .ge 10: yes
      refine And.intro (fun h3 => ?_) (fun h3 => ?_)
      · -- pc 50 .if_icmp .le 10: yes
        refine And.intro (by unfold vp_in; decide) ?_
        refine Mt.conseq (c_start1_8 _ nn hn _ _) ?_
        rintro _ _ _ ⟨rfl, rfl, rfl⟩
        refine And.intro (by unfold vp_in; decide) ?_
        refine ⟨trivial, _, rfl, ?_⟩
        refine Mt.of2 _ rfl (by decide +kernel) (Nat.le_of_ble_eq_true rfl) ?_
        refine GW.run kX4_sheet (fun pc => Nat.beq pc 86) 96 0 rfl ?_
        refine Mt.conseq (m_isSheet _ _ _ _) ?_
        rintro _ _ _ ⟨rfl, rfl, ⟨g1, rfl⟩ | ⟨g1, rfl⟩⟩
        · -- pc 1 call X4_isSheet true
          refine And.intro (fun hh => absurd hh (by decide)) (fun _ => ?_)
          refine And.intro (fun hh => absurd hh (by decide)) (fun _ => ?_)
          refine And.intro (fun _ => ?_) (fun hh => absurd hh (by decide))
          refine And.intro (fun g2 => ?_) (fun g2 => ?_)
          · -- pc 37 .ifCond .ge 11: yes
            refine And.intro (fun g3 => ?_) (fun g3 => ?_)
            · -- pc 51 .if_icmp .le 10: yes
              refine And.intro (by unfold vp_in; decide) ?_
              refine And.intro (fun _ => ?_) (fun hh => absurd hh (by decide))
              refine And.intro (by unfold vp_in; decide) ?_
              refine GW.weak (GW.eqIJ rfl (wJ_0 _ 50 40 (fun _ => 0)).symm (l_sheM1 sx _ _ _ ?_ 40 0 rfl)) ⟨rfl, rfl, rfl, trivial⟩
              exact ⟨rfl, hS.sheetN (s := 1) (b := 8) (L := nn) (by decide) (by decide) (by omega)⟩
            · -- pc 51 .if_icmp .le 10: no
              exact absurd h40 g3
          · -- pc 37 .ifCond .ge 11: no
            exact absurd h0 g2
        · -- pc 1 call X4_isSheet false
          exact absurd (by decide) g1
      · -- pc 50 .if_icmp .le 10: no
        exact absurd h40 h3
    · -- pc 37 .ifCond .ge 10: no
      exact absurd h0 h2
set_option maxRecDepth 100000 in
set_option maxHeartbeats 4000000 in
theorem pr_sheet1_16 (sx : Nat × (Nat → Int32)) (nn : Nat) (hn : nn ≤ 40) : PrI sx MX3_sheet MX4_sheet [.int 1, .int 16, .int (nI nn)] := by
  intro I J hS
  have h0 : 0 ≤ nI nn := nI_pos' (by omega)
  have h40 : nI nn ≤ 40 := nI_le (b := 40) hn (by omega)
  refine Mt.of2 _ rfl (by decide +kernel) (Nat.le_of_ble_eq_true rfl) ?_
  refine GW.run kX3_sheet (fun _ => false) 74 0 rfl ?_
  refine Mt.conseq (c_noSheet _ _ _ _) ?_
  rintro _ _ _ ⟨rfl, rfl, ⟨h1, rfl⟩ | ⟨h1, rfl⟩⟩
  · -- pc 1 call X3_noSheet true
    exact absurd h1 (by decide)
  · -- pc 1 call X3_noSheet false
    refine And.intro (fun hh => absurd hh (by decide)) (fun _ => ?_)
    refine And.intro (fun hh => absurd hh (by decide)) (fun _ => ?_)
    refine And.intro (fun hh => absurd hh (by decide)) (fun _ => ?_)
    refine And.intro (fun _ => ?_) (fun hh => absurd hh (by decide))
    refine And.intro (fun h2 => ?_) (fun h2 => ?_)
    · -- pc 37 .ifCond .ge 10: yes
      refine And.intro (fun h3 => ?_) (fun h3 => ?_)
      · -- pc 50 .if_icmp .le 10: yes
        refine And.intro (by unfold vp_in; decide) ?_
        refine Mt.conseq (c_start1_16 _ nn hn _ _) ?_
        rintro _ _ _ ⟨rfl, rfl, rfl⟩
        refine And.intro (by unfold vp_in; decide) ?_
        refine ⟨trivial, _, rfl, ?_⟩
        refine Mt.of2 _ rfl (by decide +kernel) (Nat.le_of_ble_eq_true rfl) ?_
        refine GW.run kX4_sheet (fun pc => Nat.beq pc 86) 96 0 rfl ?_
        refine Mt.conseq (m_isSheet _ _ _ _) ?_
        rintro _ _ _ ⟨rfl, rfl, ⟨g1, rfl⟩ | ⟨g1, rfl⟩⟩
        · -- pc 1 call X4_isSheet true
          refine And.intro (fun hh => absurd hh (by decide)) (fun _ => ?_)
          refine And.intro (fun hh => absurd hh (by decide)) (fun _ => ?_)
          refine And.intro (fun hh => absurd hh (by decide)) (fun _ => ?_)
          refine And.intro (fun _ => ?_) (fun hh => absurd hh (by decide))
          refine And.intro (fun g2 => ?_) (fun g2 => ?_)
          · -- pc 37 .ifCond .ge 11: yes
            refine And.intro (fun g3 => ?_) (fun g3 => ?_)
            · -- pc 51 .if_icmp .le 10: yes
              refine And.intro (by unfold vp_in; decide) ?_
              refine And.intro (fun _ => ?_) (fun hh => absurd hh (by decide))
              refine And.intro (by unfold vp_in; decide) ?_
              refine GW.weak (GW.eqIJ rfl (wJ_0 _ 50 40 (fun _ => 0)).symm (l_sheM1 sx _ _ _ ?_ 40 0 rfl)) ⟨rfl, rfl, rfl, trivial⟩
              exact ⟨rfl, hS.sheetN (s := 1) (b := 16) (L := nn) (by decide) (by decide) (by omega)⟩
            · -- pc 51 .if_icmp .le 10: no
              exact absurd h40 g3
          · -- pc 37 .ifCond .ge 11: no
            exact absurd h0 g2
        · -- pc 1 call X4_isSheet false
          exact absurd (by decide) g1
      · -- pc 50 .if_icmp .le 10: no
        exact absurd h40 h3
    · -- pc 37 .ifCond .ge 10: no
      exact absurd h0 h2
set_option maxRecDepth 100000 in
set_option maxHeartbeats 4000000 in
theorem pr_sheet1_64 (sx : Nat × (Nat → Int32)) (nn : Nat) (hn : nn ≤ 40) : PrI sx MX3_sheet MX4_sheet [.int 1, .int 64, .int (nI nn)] := by
  intro I J hS
  have h0 : 0 ≤ nI nn := nI_pos' (by omega)
  have h40 : nI nn ≤ 40 := nI_le (b := 40) hn (by omega)
  refine Mt.of2 _ rfl (by decide +kernel) (Nat.le_of_ble_eq_true rfl) ?_
  refine GW.run kX3_sheet (fun _ => false) 74 0 rfl ?_
  refine Mt.conseq (c_noSheet _ _ _ _) ?_
  rintro _ _ _ ⟨rfl, rfl, ⟨h1, rfl⟩ | ⟨h1, rfl⟩⟩
  · -- pc 1 call X3_noSheet true
    exact absurd h1 (by decide)
  · -- pc 1 call X3_noSheet false
    refine And.intro (fun hh => absurd hh (by decide)) (fun _ => ?_)
    refine And.intro (fun hh => absurd hh (by decide)) (fun _ => ?_)
    refine And.intro (fun hh => absurd hh (by decide)) (fun _ => ?_)
    refine And.intro (fun hh => absurd hh (by decide)) (fun _ => ?_)
    refine And.intro (fun _ => ?_) (fun hh => absurd hh (by decide))
    refine And.intro (fun h2 => ?_) (fun h2 => ?_)
    · -- pc 37 .ifCond .ge 10: yes
      refine And.intro (fun h3 => ?_) (fun h3 => ?_)
      · -- pc 50 .if_icmp .le 10: yes
        refine And.intro (by unfold vp_in; decide) ?_
        refine Mt.conseq (c_start1_64 _ nn hn _ _) ?_
        rintro _ _ _ ⟨rfl, rfl, rfl⟩
        refine And.intro (by unfold vp_in; decide) ?_
        refine ⟨trivial, _, rfl, ?_⟩
        refine Mt.of2 _ rfl (by decide +kernel) (Nat.le_of_ble_eq_true rfl) ?_
        refine GW.run kX4_sheet (fun pc => Nat.beq pc 86) 96 0 rfl ?_
        refine Mt.conseq (m_isSheet _ _ _ _) ?_
        rintro _ _ _ ⟨rfl, rfl, ⟨g1, rfl⟩ | ⟨g1, rfl⟩⟩
        · -- pc 1 call X4_isSheet true
          refine And.intro (fun hh => absurd hh (by decide)) (fun _ => ?_)
          refine And.intro (fun hh => absurd hh (by decide)) (fun _ => ?_)
          refine And.intro (fun hh => absurd hh (by decide)) (fun _ => ?_)
          refine And.intro (fun hh => absurd hh (by decide)) (fun _ => ?_)
          refine And.intro (fun _ => ?_) (fun hh => absurd hh (by decide))
          refine And.intro (fun g2 => ?_) (fun g2 => ?_)
          · -- pc 37 .ifCond .ge 11: yes
            refine And.intro (fun g3 => ?_) (fun g3 => ?_)
            · -- pc 51 .if_icmp .le 10: yes
              refine And.intro (by unfold vp_in; decide) ?_
              refine And.intro (fun _ => ?_) (fun hh => absurd hh (by decide))
              refine And.intro (by unfold vp_in; decide) ?_
              refine GW.weak (GW.eqIJ rfl (wJ_0 _ 50 40 (fun _ => 0)).symm (l_sheM1 sx _ _ _ ?_ 40 0 rfl)) ⟨rfl, rfl, rfl, trivial⟩
              exact ⟨rfl, hS.sheetN (s := 1) (b := 64) (L := nn) (by decide) (by decide) (by omega)⟩
            · -- pc 51 .if_icmp .le 10: no
              exact absurd h40 g3
          · -- pc 37 .ifCond .ge 11: no
            exact absurd h0 g2
        · -- pc 1 call X4_isSheet false
          exact absurd (by decide) g1
      · -- pc 50 .if_icmp .le 10: no
        exact absurd h40 h3
    · -- pc 37 .ifCond .ge 10: no
      exact absurd h0 h2
set_option maxRecDepth 100000 in
set_option maxHeartbeats 4000000 in
theorem pr_sheet2_0 (sx : Nat × (Nat → Int32)) (nn : Nat) (hn : nn ≤ 40) : PrI sx MX3_sheet MX4_sheet [.int 2, .int 0, .int (nI nn)] := by
  intro I J hS
  have h0 : 0 ≤ nI nn := nI_pos' (by omega)
  have h40 : nI nn ≤ 40 := nI_le (b := 40) hn (by omega)
  refine Mt.of2 _ rfl (by decide +kernel) (Nat.le_of_ble_eq_true rfl) ?_
  refine GW.run kX3_sheet (fun _ => false) 74 0 rfl ?_
  refine Mt.conseq (c_noSheet _ _ _ _) ?_
  rintro _ _ _ ⟨rfl, rfl, ⟨h1, rfl⟩ | ⟨h1, rfl⟩⟩
  · -- pc 1 call X3_noSheet true
    exact absurd h1 (by decide)
  · -- pc 1 call X3_noSheet false
    refine And.intro (fun hh => absurd hh (by decide)) (fun _ => ?_)
    refine And.intro (fun _ => ?_) (fun hh => absurd hh (by decide))
    refine And.intro (fun h2 => ?_) (fun h2 => ?_)
    · -- pc 37 .ifCond .ge 10: yes
      refine And.intro (fun h3 => ?_) (fun h3 => ?_)
      · -- pc 50 .if_icmp .le 10: yes
        refine And.intro (by unfold vp_in; decide) ?_
        refine Mt.conseq (c_start2_0 _ nn hn _ _) ?_
        rintro _ _ _ ⟨rfl, rfl, rfl⟩
        refine And.intro (by unfold vp_in; decide) ?_
        refine ⟨trivial, _, rfl, ?_⟩
        refine Mt.of2 _ rfl (by decide +kernel) (Nat.le_of_ble_eq_true rfl) ?_
        refine GW.run kX4_sheet (fun pc => Nat.beq pc 86) 96 0 rfl ?_
        refine Mt.conseq (m_isSheet _ _ _ _) ?_
        rintro _ _ _ ⟨rfl, rfl, ⟨g1, rfl⟩ | ⟨g1, rfl⟩⟩
        · -- pc 1 call X4_isSheet true
          refine And.intro (fun hh => absurd hh (by decide)) (fun _ => ?_)
          refine And.intro (fun _ => ?_) (fun hh => absurd hh (by decide))
          refine And.intro (fun g2 => ?_) (fun g2 => ?_)
          · -- pc 37 .ifCond .ge 11: yes
            refine And.intro (fun g3 => ?_) (fun g3 => ?_)
            · -- pc 51 .if_icmp .le 10: yes
              refine And.intro (by unfold vp_in; decide) ?_
              refine And.intro (fun hh => absurd hh (by decide)) (fun _ => ?_)
              refine And.intro (by unfold vp_in; decide) ?_
              refine GW.weak (GW.eqIJ rfl (wJ_0 _ 50 80 (fun _ => 0)).symm (l_sheM2 sx _ _ _ ?_ 40 0 rfl)) ⟨rfl, rfl, rfl, trivial⟩
              exact ⟨rfl, hS.sheetN (s := 2) (b := 0) (L := 0) (by decide) (by decide) (by omega)⟩
            · -- pc 51 .if_icmp .le 10: no
              exact absurd h40 g3
          · -- pc 37 .ifCond .ge 11: no
            exact absurd h0 g2
        · -- pc 1 call X4_isSheet false
          exact absurd (by decide) g1
      · -- pc 50 .if_icmp .le 10: no
        exact absurd h40 h3
    · -- pc 37 .ifCond .ge 10: no
      exact absurd h0 h2
set_option maxRecDepth 100000 in
set_option maxHeartbeats 4000000 in
theorem pr_sheet2_8 (sx : Nat × (Nat → Int32)) (nn : Nat) (hn : nn ≤ 40) : PrI sx MX3_sheet MX4_sheet [.int 2, .int 8, .int (nI nn)] := by
  intro I J hS
  have h0 : 0 ≤ nI nn := nI_pos' (by omega)
  have h40 : nI nn ≤ 40 := nI_le (b := 40) hn (by omega)
  refine Mt.of2 _ rfl (by decide +kernel) (Nat.le_of_ble_eq_true rfl) ?_
  refine GW.run kX3_sheet (fun _ => false) 74 0 rfl ?_
  refine Mt.conseq (c_noSheet _ _ _ _) ?_
  rintro _ _ _ ⟨rfl, rfl, ⟨h1, rfl⟩ | ⟨h1, rfl⟩⟩
  · -- pc 1 call X3_noSheet true
    exact absurd h1 (by decide)
  · -- pc 1 call X3_noSheet false
    refine And.intro (fun hh => absurd hh (by decide)) (fun _ => ?_)
    refine And.intro (fun hh => absurd hh (by decide)) (fun _ => ?_)
    refine And.intro (fun _ => ?_) (fun hh => absurd hh (by decide))
    refine And.intro (fun h2 => ?_) (fun h2 => ?_)
    · -- pc 37 .ifCond .ge 10: yes
      refine And.intro (fun h3 => ?_) (fun h3 => ?_)
      · -- pc 50 .if_icmp .le 10: yes
        refine And.intro (by unfold vp_in; decide) ?_
        refine Mt.conseq (c_start2_8 _ nn hn _ _) ?_
        rintro _ _ _ ⟨rfl, rfl, rfl⟩
        refine And.intro (by unfold vp_in; decide) ?_
        refine ⟨trivial, _, rfl, ?_⟩
        refine Mt.of2 _ rfl (by decide +kernel) (Nat.le_of_ble_eq_true rfl) ?_
        refine GW.run kX4_sheet (fun pc => Nat.beq pc 86) 96 0 rfl ?_
        refine Mt.conseq (m_isSheet _ _ _ _) ?_
        rintro _ _ _ ⟨rfl, rfl, ⟨g1, rfl⟩ | ⟨g1, rfl⟩⟩
        · -- pc 1 call X4_isSheet true
          refine And.intro (fun hh => absurd hh (by decide)) (fun _ => ?_)
          refine And.intro (fun hh => absurd hh (by decide)) (fun _ => ?_)
          refine And.intro (fun _ => ?_) (fun hh => absurd hh (by decide))
          refine And.intro (fun g2 => ?_) (fun g2 => ?_)
          · -- pc 37 .ifCond .ge 11: yes
            refine And.intro (fun g3 => ?_) (fun g3 => ?_)
            · -- pc 51 .if_icmp .le 10: yes
              refine And.intro (by unfold vp_in; decide) ?_
              refine And.intro (fun _ => ?_) (fun hh => absurd hh (by decide))
              refine And.intro (by unfold vp_in; decide) ?_
              refine GW.weak (GW.eqIJ rfl (wJ_0 _ 50 80 (fun _ => 0)).symm (l_sheM2 sx _ _ _ ?_ 40 0 rfl)) ⟨rfl, rfl, rfl, trivial⟩
              exact ⟨rfl, hS.sheetN (s := 2) (b := 8) (L := nn) (by decide) (by decide) (by omega)⟩
            · -- pc 51 .if_icmp .le 10: no
              exact absurd h40 g3
          · -- pc 37 .ifCond .ge 11: no
            exact absurd h0 g2
        · -- pc 1 call X4_isSheet false
          exact absurd (by decide) g1
      · -- pc 50 .if_icmp .le 10: no
        exact absurd h40 h3
    · -- pc 37 .ifCond .ge 10: no
      exact absurd h0 h2
set_option maxRecDepth 100000 in
set_option maxHeartbeats 4000000 in
theorem pr_sheet2_16 (sx : Nat × (Nat → Int32)) (nn : Nat) (hn : nn ≤ 40) : PrI sx MX3_sheet MX4_sheet [.int 2, .int 16, .int (nI nn)] := by
  intro I J hS
  have h0 : 0 ≤ nI nn := nI_pos' (by omega)
  have h40 : nI nn ≤ 40 := nI_le (b := 40) hn (by omega)
  refine Mt.of2 _ rfl (by decide +kernel) (Nat.le_of_ble_eq_true rfl) ?_
  refine GW.run kX3_sheet (fun _ => false) 74 0 rfl ?_
  refine Mt.conseq (c_noSheet _ _ _ _) ?_
  rintro _ _ _ ⟨rfl, rfl, ⟨h1, rfl⟩ | ⟨h1, rfl⟩⟩
  · -- pc 1 call X3_noSheet true
    exact absurd h1 (by decide)
  · -- pc 1 call X3_noSheet false
    refine And.intro (fun hh => absurd hh (by decide)) (fun _ => ?_)
    refine And.intro (fun hh => absurd hh (by decide)) (fun _ => ?_)
    refine And.intro (fun hh => absurd hh (by decide)) (fun _ => ?_)
    refine And.intro (fun _ => ?_) (fun hh => absurd hh (by decide))
    refine And.intro (fun h2 => ?_) (fun h2 => ?_)
    · -- pc 37 .ifCond .ge 10: yes
      refine And.intro (fun h3 => ?_) (fun h3 => ?_)
      · -- pc 50 .if_icmp .le 10: yes
        refine And.intro (by unfold vp_in; decide) ?_
        refine Mt.conseq (c_start2_16 _ nn hn _ _) ?_
        rintro _ _ _ ⟨rfl, rfl, rfl⟩
        refine And.intro (by unfold vp_in; decide) ?_
        refine ⟨trivial, _, rfl, ?_⟩
        refine Mt.of2 _ rfl (by decide +kernel) (Nat.le_of_ble_eq_true rfl) ?_
        refine GW.run kX4_sheet (fun pc => Nat.beq pc 86) 96 0 rfl ?_
        refine Mt.conseq (m_isSheet _ _ _ _) ?_
        rintro _ _ _ ⟨rfl, rfl, ⟨g1, rfl⟩ | ⟨g1, rfl⟩⟩
        · -- pc 1 call X4_isSheet true
          refine And.intro (fun hh => absurd hh (by decide)) (fun _ => ?_)
          refine And.intro (fun hh => absurd hh (by decide)) (fun _ => ?_)
          refine And.intro (fun hh => absurd hh (by decide)) (fun _ => ?_)
          refine And.intro (fun _ => ?_) (fun hh => absurd hh (by decide))
          refine And.intro (fun g2 => ?_) (fun g2 => ?_)
          · -- pc 37 .ifCond .ge 11: yes
            refine And.intro (fun g3 => ?_) (fun g3 => ?_)
            · -- pc 51 .if_icmp .le 10: yes
              refine And.intro (by unfold vp_in; decide) ?_
              refine And.intro (fun _ => ?_) (fun hh => absurd hh (by decide))
              refine And.intro (by unfold vp_in; decide) ?_
              refine GW.weak (GW.eqIJ rfl (wJ_0 _ 50 80 (fun _ => 0)).symm (l_sheM2 sx _ _ _ ?_ 40 0 rfl)) ⟨rfl, rfl, rfl, trivial⟩
              exact ⟨rfl, hS.sheetN (s := 2) (b := 16) (L := nn) (by decide) (by decide) (by omega)⟩
            · -- pc 51 .if_icmp .le 10: no
              exact absurd h40 g3
          · -- pc 37 .ifCond .ge 11: no
            exact absurd h0 g2
        · -- pc 1 call X4_isSheet false
          exact absurd (by decide) g1
      · -- pc 50 .if_icmp .le 10: no
        exact absurd h40 h3
    · -- pc 37 .ifCond .ge 10: no
      exact absurd h0 h2
set_option maxRecDepth 100000 in
set_option maxHeartbeats 4000000 in
theorem pr_sheet2_64 (sx : Nat × (Nat → Int32)) (nn : Nat) (hn : nn ≤ 40) : PrI sx MX3_sheet MX4_sheet [.int 2, .int 64, .int (nI nn)] := by
  intro I J hS
  have h0 : 0 ≤ nI nn := nI_pos' (by omega)
  have h40 : nI nn ≤ 40 := nI_le (b := 40) hn (by omega)
  refine Mt.of2 _ rfl (by decide +kernel) (Nat.le_of_ble_eq_true rfl) ?_
  refine GW.run kX3_sheet (fun _ => false) 74 0 rfl ?_
  refine Mt.conseq (c_noSheet _ _ _ _) ?_
  rintro _ _ _ ⟨rfl, rfl, ⟨h1, rfl⟩ | ⟨h1, rfl⟩⟩
  · -- pc 1 call X3_noSheet true
    exact absurd h1 (by decide)
  · -- pc 1 call X3_noSheet false
    refine And.intro (fun hh => absurd hh (by decide)) (fun _ => ?_)
    refine And.intro (fun hh => absurd hh (by decide)) (fun _ => ?_)
    refine And.intro (fun hh => absurd hh (by decide)) (fun _ => ?_)
    refine And.intro (fun hh => absurd hh (by decide)) (fun _ => ?_)
    refine And.intro (fun _ => ?_) (fun hh => absurd hh (by decide))
    refine And.intro (fun h2 => ?_) (fun h2 => ?_)
    · -- pc 37 .ifCond .ge 10: yes
      refine And.intro (fun h3 => ?_) (fun h3 => ?_)
      · -- pc 50 .if_icmp .le 10: yes
        refine And.intro (by unfold vp_in; decide) ?_
        refine Mt.conseq (c_start2_64 _ nn hn _ _) ?_
        rintro _ _ _ ⟨rfl, rfl, rfl⟩
        refine And.intro (by unfold vp_in; decide) ?_
        refine ⟨trivial, _, rfl, ?_⟩
        refine Mt.of2 _ rfl (by decide +kernel) (Nat.le_of_ble_eq_true rfl) ?_
        refine GW.run kX4_sheet (fun pc => Nat.beq pc 86) 96 0 rfl ?_
        refine Mt.conseq (m_isSheet _ _ _ _) ?_
        rintro _ _ _ ⟨rfl, rfl, ⟨g1, rfl⟩ | ⟨g1, rfl⟩⟩
        · -- pc 1 call X4_isSheet true
          refine And.intro (fun hh => absurd hh (by decide)) (fun _ => ?_)
          refine And.intro (fun hh => absurd hh (by decide)) (fun _ => ?_)
          refine And.intro (fun hh => absurd hh (by decide)) (fun _ => ?_)
          refine And.intro (fun hh => absurd hh (by decide)) (fun _ => ?_)
          refine And.intro (fun _ => ?_) (fun hh => absurd hh (by decide))
          refine And.intro (fun g2 => ?_) (fun g2 => ?_)
          · -- pc 37 .ifCond .ge 11: yes
            refine And.intro (fun g3 => ?_) (fun g3 => ?_)
            · -- pc 51 .if_icmp .le 10: yes
              refine And.intro (by unfold vp_in; decide) ?_
              refine And.intro (fun _ => ?_) (fun hh => absurd hh (by decide))
              refine And.intro (by unfold vp_in; decide) ?_
              refine GW.weak (GW.eqIJ rfl (wJ_0 _ 50 80 (fun _ => 0)).symm (l_sheM2 sx _ _ _ ?_ 40 0 rfl)) ⟨rfl, rfl, rfl, trivial⟩
              exact ⟨rfl, hS.sheetN (s := 2) (b := 64) (L := nn) (by decide) (by decide) (by omega)⟩
            · -- pc 51 .if_icmp .le 10: no
              exact absurd h40 g3
          · -- pc 37 .ifCond .ge 11: no
            exact absurd h0 g2
        · -- pc 1 call X4_isSheet false
          exact absurd (by decide) g1
      · -- pc 50 .if_icmp .le 10: no
        exact absurd h40 h3
    · -- pc 37 .ifCond .ge 10: no
      exact absurd h0 h2
set_option maxRecDepth 100000 in
set_option maxHeartbeats 4000000 in
theorem pr_sheet3_0 (sx : Nat × (Nat → Int32)) (nn : Nat) (hn : nn ≤ 40) : PrI sx MX3_sheet MX4_sheet [.int 3, .int 0, .int (nI nn)] := by
  intro I J hS
  have h0 : 0 ≤ nI nn := nI_pos' (by omega)
  have h40 : nI nn ≤ 40 := nI_le (b := 40) hn (by omega)
  refine Mt.of2 _ rfl (by decide +kernel) (Nat.le_of_ble_eq_true rfl) ?_
  refine GW.run kX3_sheet (fun _ => false) 74 0 rfl ?_
  refine Mt.conseq (c_noSheet _ _ _ _) ?_
  rintro _ _ _ ⟨rfl, rfl, ⟨h1, rfl⟩ | ⟨h1, rfl⟩⟩
  · -- pc 1 call X3_noSheet true
    exact absurd h1 (by decide)
  · -- pc 1 call X3_noSheet false
    refine And.intro (fun hh => absurd hh (by decide)) (fun _ => ?_)
    refine And.intro (fun _ => ?_) (fun hh => absurd hh (by decide))
    refine And.intro (fun h2 => ?_) (fun h2 => ?_)
    · -- pc 37 .ifCond .ge 10: yes
      refine And.intro (fun h3 => ?_) (fun h3 => ?_)
      · -- pc 50 .if_icmp .le 10: yes
        refine And.intro (by unfold vp_in; decide) ?_
        refine Mt.conseq (c_start3_0 _ nn hn _ _) ?_
        rintro _ _ _ ⟨rfl, rfl, rfl⟩
        refine And.intro (by unfold vp_in; decide) ?_
        refine ⟨trivial, _, rfl, ?_⟩
        refine Mt.of2 _ rfl (by decide +kernel) (Nat.le_of_ble_eq_true rfl) ?_
        refine GW.run kX4_sheet (fun pc => Nat.beq pc 86) 96 0 rfl ?_
        refine Mt.conseq (m_isSheet _ _ _ _) ?_
        rintro _ _ _ ⟨rfl, rfl, ⟨g1, rfl⟩ | ⟨g1, rfl⟩⟩
        · -- pc 1 call X4_isSheet true
          refine And.intro (fun hh => absurd hh (by decide)) (fun _ => ?_)
          refine And.intro (fun _ => ?_) (fun hh => absurd hh (by decide))
          refine And.intro (fun g2 => ?_) (fun g2 => ?_)
          · -- pc 37 .ifCond .ge 11: yes
            refine And.intro (fun g3 => ?_) (fun g3 => ?_)
            · -- pc 51 .if_icmp .le 10: yes
              refine And.intro (by unfold vp_in; decide) ?_
              refine And.intro (fun hh => absurd hh (by decide)) (fun _ => ?_)
              refine And.intro (by unfold vp_in; decide) ?_
              refine GW.weak (GW.eqIJ rfl (wJ_0 _ 50 120 (fun _ => 0)).symm (l_sheM3 sx _ _ _ ?_ 40 0 rfl)) ⟨rfl, rfl, rfl, trivial⟩
              exact ⟨rfl, hS.sheetN (s := 3) (b := 0) (L := 0) (by decide) (by decide) (by omega)⟩
            · -- pc 51 .if_icmp .le 10: no
              exact absurd h40 g3
          · -- pc 37 .ifCond .ge 11: no
            exact absurd h0 g2
        · -- pc 1 call X4_isSheet false
          exact absurd (by decide) g1
      · -- pc 50 .if_icmp .le 10: no
        exact absurd h40 h3
    · -- pc 37 .ifCond .ge 10: no
      exact absurd h0 h2
set_option maxRecDepth 100000 in
set_option maxHeartbeats 4000000 in
theorem pr_sheet3_8 (sx : Nat × (Nat → Int32)) (nn : Nat) (hn : nn ≤ 40) : PrI sx MX3_sheet MX4_sheet [.int 3, .int 8, .int (nI nn)] := by
  intro I J hS
  have h0 : 0 ≤ nI nn := nI_pos' (by omega)
  have h40 : nI nn ≤ 40 := nI_le (b := 40) hn (by omega)
  refine Mt.of2 _ rfl (by decide +kernel) (Nat.le_of_ble_eq_true rfl) ?_
  refine GW.run kX3_sheet (fun _ => false) 74 0 rfl ?_
  refine Mt.conseq (c_noSheet _ _ _ _) ?_
  rintro _ _ _ ⟨rfl, rfl, ⟨h1, rfl⟩ | ⟨h1, rfl⟩⟩
  · -- pc 1 call X3_noSheet true
    exact absurd h1 (by decide)
  · -- pc 1 call X3_noSheet false
    refine And.intro (fun hh => absurd hh (by decide)) (fun _ => ?_)
    refine And.intro (fun hh => absurd hh (by decide)) (fun _ => ?_)
    refine And.intro (fun _ => ?_) (fun hh => absurd hh (by decide))
    refine And.intro (fun h2 => ?_) (fun h2 => ?_)
    · -- pc 37 .ifCond .ge 10: yes
      refine And.intro (fun h3 => ?_) (fun h3 => ?_)
      · -- pc 50 .if_icmp .le 10: yes
        refine And.intro (by unfold vp_in; decide) ?_
        refine Mt.conseq (c_start3_8 _ nn hn _ _) ?_
        rintro _ _ _ ⟨rfl, rfl, rfl⟩
        refine And.intro (by unfold vp_in; decide) ?_
        refine ⟨trivial, _, rfl, ?_⟩
        refine Mt.of2 _ rfl (by decide +kernel) (Nat.le_of_ble_eq_true rfl) ?_
        refine GW.run kX4_sheet (fun pc => Nat.beq pc 86) 96 0 rfl ?_
        refine Mt.conseq (m_isSheet _ _ _ _) ?_
        rintro _ _ _ ⟨rfl, rfl, ⟨g1, rfl⟩ | ⟨g1, rfl⟩⟩
        · -- pc 1 call X4_isSheet true
          refine And.intro (fun hh => absurd hh (by decide)) (fun _ => ?_)
          refine And.intro (fun hh => absurd hh (by decide)) (fun _ => ?_)
          refine And.intro (fun _ => ?_) (fun hh => absurd hh (by decide))
          refine And.intro (fun g2 => ?_) (fun g2 => ?_)
          · -- pc 37 .ifCond .ge 11: yes
            refine And.intro (fun g3 => ?_) (fun g3 => ?_)
            · -- pc 51 .if_icmp .le 10: yes
              refine And.intro (by unfold vp_in; decide) ?_
              refine And.intro (fun _ => ?_) (fun hh => absurd hh (by decide))
              refine And.intro (by unfold vp_in; decide) ?_
              refine GW.weak (GW.eqIJ rfl (wJ_0 _ 50 120 (fun _ => 0)).symm (l_sheM3 sx _ _ _ ?_ 40 0 rfl)) ⟨rfl, rfl, rfl, trivial⟩
              exact ⟨rfl, hS.sheetN (s := 3) (b := 8) (L := nn) (by decide) (by decide) (by omega)⟩
            · -- pc 51 .if_icmp .le 10: no
              exact absurd h40 g3
          · -- pc 37 .ifCond .ge 11: no
            exact absurd h0 g2
        · -- pc 1 call X4_isSheet false
          exact absurd (by decide) g1
      · -- pc 50 .if_icmp .le 10: no
        exact absurd h40 h3
    · -- pc 37 .ifCond .ge 10: no
      exact absurd h0 h2
set_option maxRecDepth 100000 in
set_option maxHeartbeats 4000000 in
theorem pr_sheet3_16 (sx : Nat × (Nat → Int32)) (nn : Nat) (hn : nn ≤ 40) : PrI sx MX3_sheet MX4_sheet [.int 3, .int 16, .int (nI nn)] := by
  intro I J hS
  have h0 : 0 ≤ nI nn := nI_pos' (by omega)
  have h40 : nI nn ≤ 40 := nI_le (b := 40) hn (by omega)
  refine Mt.of2 _ rfl (by decide +kernel) (Nat.le_of_ble_eq_true rfl) ?_
  refine GW.run kX3_sheet (fun _ => false) 74 0 rfl ?_
  refine Mt.conseq (c_noSheet _ _ _ _) ?_
  rintro _ _ _ ⟨rfl, rfl, ⟨h1, rfl⟩ | ⟨h1, rfl⟩⟩
  · -- pc 1 call X3_noSheet true
    exact absurd h1 (by decide)
  · -- pc 1 call X3_noSheet false
    refine And.intro (fun hh => absurd hh (by decide)) (fun _ => ?_)
    refine And.intro (fun hh => absurd hh (by decide)) (fun _ => ?_)
    refine And.intro (fun hh => absurd hh (by decide)) (fun _ => ?_)
    refine And.intro (fun _ => ?_) (fun hh => absurd hh (by decide))
    refine And.intro (fun h2 => ?_) (fun h2 => ?_)
    · -- pc 37 .ifCond .ge 10: yes
      refine And.intro (fun h3 => ?_) (fun h3 => ?_)
      · -- pc 50 .if_icmp .le 10: yes
        refine And.intro (by unfold vp_in; decide) ?_
        refine Mt.conseq (c_start3_16 _ nn hn _ _) ?_
        rintro _ _ _ ⟨rfl, rfl, rfl⟩
        refine And.intro (by unfold vp_in; decide) ?_
        refine ⟨trivial, _, rfl, ?_⟩
        refine Mt.of2 _ rfl (by decide +kernel) (Nat.le_of_ble_eq_true rfl) ?_
        refine GW.run kX4_sheet (fun pc => Nat.beq pc 86) 96 0 rfl ?_
        refine Mt.conseq (m_isSheet _ _ _ _) ?_
        rintro _ _ _ ⟨rfl, rfl, ⟨g1, rfl⟩ | ⟨g1, rfl⟩⟩
        · -- pc 1 call X4_isSheet true
          refine And.intro (fun hh => absurd hh (by decide)) (fun _ => ?_)
          refine And.intro (fun hh => absurd hh (by decide)) (fun _ => ?_)
          refine And.intro (fun hh => absurd hh (by decide)) (fun _ => ?_)
          refine And.intro (fun _ => ?_) (fun hh => absurd hh (by decide))
          refine And.intro (fun g2 => ?_) (fun g2 => ?_)
          · -- pc 37 .ifCond .ge 11: yes
            refine And.intro (fun g3 => ?_) (fun g3 => ?_)
            · -- pc 51 .if_icmp .le 10: yes
              refine And.intro (by unfold vp_in; decide) ?_
              refine And.intro (fun _ => ?_) (fun hh => absurd hh (by decide))
              refine And.intro (by unfold vp_in; decide) ?_
              refine GW.weak (GW.eqIJ rfl (wJ_0 _ 50 120 (fun _ => 0)).symm (l_sheM3 sx _ _ _ ?_ 40 0 rfl)) ⟨rfl, rfl, rfl, trivial⟩
              exact ⟨rfl, hS.sheetN (s := 3) (b := 16) (L := nn) (by decide) (by decide) (by omega)⟩
            · -- pc 51 .if_icmp .le 10: no
              exact absurd h40 g3
          · -- pc 37 .ifCond .ge 11: no
            exact absurd h0 g2
        · -- pc 1 call X4_isSheet false
          exact absurd (by decide) g1
      · -- pc 50 .if_icmp .le 10: no
        exact absurd h40 h3
    · -- pc 37 .ifCond .ge 10: no
      exact absurd h0 h2
set_option maxRecDepth 100000 in
set_option maxHeartbeats 4000000 in
theorem pr_sheet3_64 (sx : Nat × (Nat → Int32)) (nn : Nat) (hn : nn ≤ 40) : PrI sx MX3_sheet MX4_sheet [.int 3, .int 64, .int (nI nn)] := by
  intro I J hS
  have h0 : 0 ≤ nI nn := nI_pos' (by omega)
  have h40 : nI nn ≤ 40 := nI_le (b := 40) hn (by omega)
  refine Mt.of2 _ rfl (by decide +kernel) (Nat.le_of_ble_eq_true rfl) ?_
  refine GW.run kX3_sheet (fun _ => false) 74 0 rfl ?_
  refine Mt.conseq (c_noSheet _ _ _ _) ?_
  rintro _ _ _ ⟨rfl, rfl, ⟨h1, rfl⟩ | ⟨h1, rfl⟩⟩
  · -- pc 1 call X3_noSheet true
    exact absurd h1 (by decide)
  · -- pc 1 call X3_noSheet false
    refine And.intro (fun hh => absurd hh (by decide)) (fun _ => ?_)
    refine And.intro (fun hh => absurd hh (by decide)) (fun _ => ?_)
    refine And.intro (fun hh => absurd hh (by decide)) (fun _ => ?_)
    refine And.intro (fun hh => absurd hh (by decide)) (fun _ => ?_)
    refine And.intro (fun _ => ?_) (fun hh => absurd hh (by decide))
    refine And.intro (fun h2 => ?_) (fun h2 => ?_)
    · -- pc 37 .ifCond .ge 10: yes
      refine And.intro (fun h3 => ?_) (fun h3 => ?_)
      · -- pc 50 .if_icmp .le 10: yes
        refine And.intro (by unfold vp_in; decide) ?_
        refine Mt.conseq (c_start3_64 _ nn hn _ _) ?_
        rintro _ _ _ ⟨rfl, rfl, rfl⟩
        refine And.intro (by unfold vp_in; decide) ?_
        refine ⟨trivial, _, rfl, ?_⟩
        refine Mt.of2 _ rfl (by decide +kernel) (Nat.le_of_ble_eq_true rfl) ?_
        refine GW.run kX4_sheet (fun pc => Nat.beq pc 86) 96 0 rfl ?_
        refine Mt.conseq (m_isSheet _ _ _ _) ?_
        rintro _ _ _ ⟨rfl, rfl, ⟨g1, rfl⟩ | ⟨g1, rfl⟩⟩
        · -- pc 1 call X4_isSheet true
          refine And.intro (fun hh => absurd hh (by decide)) (fun _ => ?_)
          refine And.intro (fun hh => absurd hh (by decide)) (fun _ => ?_)
          refine And.intro (fun hh => absurd hh (by decide)) (fun _ => ?_)
          refine And.intro (fun hh => absurd hh (by decide)) (fun _ => ?_)
          refine And.intro (fun _ => ?_) (fun hh => absurd hh (by decide))
          refine And.intro (fun g2 => ?_) (fun g2 => ?_)
          · -- pc 37 .ifCond .ge 11: yes
            refine And.intro (fun g3 => ?_) (fun g3 => ?_)
            · -- pc 51 .if_icmp .le 10: yes
              refine And.intro (by unfold vp_in; decide) ?_
              refine And.intro (fun _ => ?_) (fun hh => absurd hh (by decide))
              refine And.intro (by unfold vp_in; decide) ?_
              refine GW.weak (GW.eqIJ rfl (wJ_0 _ 50 120 (fun _ => 0)).symm (l_sheM3 sx _ _ _ ?_ 40 0 rfl)) ⟨rfl, rfl, rfl, trivial⟩
              exact ⟨rfl, hS.sheetN (s := 3) (b := 64) (L := nn) (by decide) (by decide) (by omega)⟩
            · -- pc 51 .if_icmp .le 10: no
              exact absurd h40 g3
          · -- pc 37 .ifCond .ge 11: no
            exact absurd h0 g2
        · -- pc 1 call X4_isSheet false
          exact absurd (by decide) g1
      · -- pc 50 .if_icmp .le 10: no
        exact absurd h40 h3
    · -- pc 37 .ifCond .ge 10: no
      exact absurd h0 h2
set_option maxRecDepth 100000 in
set_option maxHeartbeats 4000000 in
theorem pr_sheetx (sx : Nat × (Nat → Int32)) (s b n : Int32) (hx : outP s 0 3 ∨ ¬ (b = 0 ∨ b = 8 ∨ b = 16 ∨ b = 64) ∨ n < 0 ∨ 40 < n) : PrI sx MX3_sheet MX4_sheet [.int s, .int b, .int n] := by
  intro I J hS
  refine Mt.of2 _ rfl (by decide +kernel) (Nat.le_of_ble_eq_true rfl) ?_
  refine GW.run kX3_sheet (fun _ => false) 74 0 rfl ?_
  refine Mt.conseq (c_noSheet _ _ _ _) ?_
  rintro _ _ _ ⟨rfl, rfl, ⟨h1, rfl⟩ | ⟨h1, rfl⟩⟩
  · -- pc 1 call X3_noSheet true
    refine And.intro (fun _ => ?_) (fun hh => absurd hh (by decide))
    refine Mt.conseq (c_fnd0 _ _ _) ?_
    rintro _ _ _ ⟨rfl, rfl, rfl⟩
    refine ⟨trivial, _, rfl, ?_⟩
    refine Mt.of2 _ rfl (by decide +kernel) (Nat.le_of_ble_eq_true rfl) ?_
    refine GW.run kX4_sheet (fun _ => false) 96 0 rfl ?_
    refine Mt.conseq (m_isSheet _ _ _ _) ?_
    rintro _ _ _ ⟨rfl, rfl, ⟨g1, rfl⟩ | ⟨g1, rfl⟩⟩
    · -- pc 1 call X4_isSheet true
      exact (out_in h1 g1).elim
    · -- pc 1 call X4_isSheet false
      refine And.intro (fun _ => ?_) (fun hh => absurd hh (by decide))
      refine Mt.conseq (m_fnd0 _ _ _) ?_
      rintro _ _ _ ⟨rfl, rfl, rfl⟩
      exact ⟨trivial, rfl, hS.found (by decide)⟩
  · -- pc 1 call X3_noSheet false
    refine And.intro (fun hh => absurd hh (by decide)) (fun _ => ?_)
    refine And.intro (fun h3 => ?_) (fun h3 => ?_)
    · -- pc 8 .ifCond .eq 28: yes
      refine And.intro (fun h4 => ?_) (fun h4 => ?_)
      · -- pc 37 .ifCond .ge 10: yes
        refine And.intro (fun h5 => ?_) (fun h5 => ?_)
        · -- pc 50 .if_icmp .le 10: yes
          exact (hx.elim h1 fun z => z.elim (fun z => z (Or.inl h3)) fun z => z.elim (fun z => absurd h4 (Int32.not_le.mpr z)) (fun z => absurd h5 (Int32.not_le.mpr z))).elim
        · -- pc 50 .if_icmp .le 10: no
          refine Mt.conseq (c_fnd0 _ _ _) ?_
          rintro _ _ _ ⟨rfl, rfl, rfl⟩
          refine ⟨trivial, _, rfl, ?_⟩
          refine Mt.of2 _ rfl (by decide +kernel) (Nat.le_of_ble_eq_true rfl) ?_
          refine GW.run kX4_sheet (fun _ => false) 96 0 rfl ?_
          refine Mt.conseq (m_isSheet _ _ _ _) ?_
          rintro _ _ _ ⟨rfl, rfl, ⟨g1, rfl⟩ | ⟨g1, rfl⟩⟩
          · -- pc 1 call X4_isSheet true
            refine And.intro (fun hh => absurd hh (by decide)) (fun _ => ?_)
            refine And.intro (fun g2 => ?_) (fun g2 => ?_)
            · -- pc 8 .ifCond .eq 28: yes
              refine And.intro (fun g3 => ?_) (fun g3 => ?_)
              · -- pc 37 .ifCond .ge 11: yes
                refine And.intro (fun g4 => ?_) (fun g4 => ?_)
                · -- pc 51 .if_icmp .le 10: yes
                  exact absurd g4 h5
                · -- pc 51 .if_icmp .le 10: no
                  refine Mt.conseq (m_fnd0 _ _ _) ?_
                  rintro _ _ _ ⟨rfl, rfl, rfl⟩
                  exact ⟨trivial, rfl, hS.found (by decide)⟩
              · -- pc 37 .ifCond .ge 11: no
                exact absurd h4 g3
            · -- pc 8 .ifCond .eq 28: no
              exact absurd h3 g2
          · -- pc 1 call X4_isSheet false
            exact (nout_nin h1 g1).elim
      · -- pc 37 .ifCond .ge 10: no
        refine Mt.conseq (c_fnd6 _ _ _) ?_
        rintro _ _ _ ⟨rfl, rfl, rfl⟩
        refine ⟨trivial, _, rfl, ?_⟩
        refine Mt.of2 _ rfl (by decide +kernel) (Nat.le_of_ble_eq_true rfl) ?_
        refine GW.run kX4_sheet (fun _ => false) 96 0 rfl ?_
        refine Mt.conseq (m_isSheet _ _ _ _) ?_
        rintro _ _ _ ⟨rfl, rfl, ⟨g1, rfl⟩ | ⟨g1, rfl⟩⟩
        · -- pc 1 call X4_isSheet true
          refine And.intro (fun hh => absurd hh (by decide)) (fun _ => ?_)
          refine And.intro (fun g2 => ?_) (fun g2 => ?_)
          · -- pc 8 .ifCond .eq 28: yes
            refine And.intro (fun g3 => ?_) (fun g3 => ?_)
            · -- pc 37 .ifCond .ge 11: yes
              exact absurd g3 h4
            · -- pc 37 .ifCond .ge 11: no
              refine Mt.conseq (m_fnd6 _ _ _) ?_
              rintro _ _ _ ⟨rfl, rfl, rfl⟩
              exact ⟨trivial, rfl, hS.found (by decide)⟩
          · -- pc 8 .ifCond .eq 28: no
            exact absurd h3 g2
        · -- pc 1 call X4_isSheet false
          exact (nout_nin h1 g1).elim
    · -- pc 8 .ifCond .eq 28: no
      refine And.intro (fun h8 => ?_) (fun h8 => ?_)
      · -- pc 14 .if_icmp .eq 22: yes
        refine And.intro (fun h9 => ?_) (fun h9 => ?_)
        · -- pc 37 .ifCond .ge 10: yes
          refine And.intro (fun h10 => ?_) (fun h10 => ?_)
          · -- pc 50 .if_icmp .le 10: yes
            exact (hx.elim h1 fun z => z.elim (fun z => z (Or.inr (Or.inl h8))) fun z => z.elim (fun z => absurd h9 (Int32.not_le.mpr z)) (fun z => absurd h10 (Int32.not_le.mpr z))).elim
          · -- pc 50 .if_icmp .le 10: no
            refine Mt.conseq (c_fnd0 _ _ _) ?_
            rintro _ _ _ ⟨rfl, rfl, rfl⟩
            refine ⟨trivial, _, rfl, ?_⟩
            refine Mt.of2 _ rfl (by decide +kernel) (Nat.le_of_ble_eq_true rfl) ?_
            refine GW.run kX4_sheet (fun _ => false) 96 0 rfl ?_
            refine Mt.conseq (m_isSheet _ _ _ _) ?_
            rintro _ _ _ ⟨rfl, rfl, ⟨g1, rfl⟩ | ⟨g1, rfl⟩⟩
            · -- pc 1 call X4_isSheet true
              refine And.intro (fun hh => absurd hh (by decide)) (fun _ => ?_)
              refine And.intro (fun g2 => ?_) (fun g2 => ?_)
              · -- pc 8 .ifCond .eq 28: yes
                exact absurd g2 h3
              · -- pc 8 .ifCond .eq 28: no
                refine And.intro (fun g3 => ?_) (fun g3 => ?_)
                · -- pc 14 .if_icmp .eq 22: yes
                  refine And.intro (fun g4 => ?_) (fun g4 => ?_)
                  · -- pc 37 .ifCond .ge 11: yes
                    refine And.intro (fun g5 => ?_) (fun g5 => ?_)
                    · -- pc 51 .if_icmp .le 10: yes
                      exact absurd g5 h10
                    · -- pc 51 .if_icmp .le 10: no
                      refine Mt.conseq (m_fnd0 _ _ _) ?_
                      rintro _ _ _ ⟨rfl, rfl, rfl⟩
                      exact ⟨trivial, rfl, hS.found (by decide)⟩
                  · -- pc 37 .ifCond .ge 11: no
                    exact absurd h9 g4
                · -- pc 14 .if_icmp .eq 22: no
                  exact absurd h8 g3
            · -- pc 1 call X4_isSheet false
              exact (nout_nin h1 g1).elim
        · -- pc 37 .ifCond .ge 10: no
          refine Mt.conseq (c_fnd6 _ _ _) ?_
          rintro _ _ _ ⟨rfl, rfl, rfl⟩
          refine ⟨trivial, _, rfl, ?_⟩
          refine Mt.of2 _ rfl (by decide +kernel) (Nat.le_of_ble_eq_true rfl) ?_
          refine GW.run kX4_sheet (fun _ => false) 96 0 rfl ?_
          refine Mt.conseq (m_isSheet _ _ _ _) ?_
          rintro _ _ _ ⟨rfl, rfl, ⟨g1, rfl⟩ | ⟨g1, rfl⟩⟩
          · -- pc 1 call X4_isSheet true
            refine And.intro (fun hh => absurd hh (by decide)) (fun _ => ?_)
            refine And.intro (fun g2 => ?_) (fun g2 => ?_)
            · -- pc 8 .ifCond .eq 28: yes
              exact absurd g2 h3
            · -- pc 8 .ifCond .eq 28: no
              refine And.intro (fun g3 => ?_) (fun g3 => ?_)
              · -- pc 14 .if_icmp .eq 22: yes
                refine And.intro (fun g4 => ?_) (fun g4 => ?_)
                · -- pc 37 .ifCond .ge 11: yes
                  exact absurd g4 h9
                · -- pc 37 .ifCond .ge 11: no
                  refine Mt.conseq (m_fnd6 _ _ _) ?_
                  rintro _ _ _ ⟨rfl, rfl, rfl⟩
                  exact ⟨trivial, rfl, hS.found (by decide)⟩
              · -- pc 14 .if_icmp .eq 22: no
                exact absurd h8 g3
          · -- pc 1 call X4_isSheet false
            exact (nout_nin h1 g1).elim
      · -- pc 14 .if_icmp .eq 22: no
        refine And.intro (fun h13 => ?_) (fun h13 => ?_)
        · -- pc 20 .if_icmp .eq 16: yes
          refine And.intro (fun h14 => ?_) (fun h14 => ?_)
          · -- pc 37 .ifCond .ge 10: yes
            refine And.intro (fun h15 => ?_) (fun h15 => ?_)
            · -- pc 50 .if_icmp .le 10: yes
              exact (hx.elim h1 fun z => z.elim (fun z => z (Or.inr (Or.inr (Or.inl h13)))) fun z => z.elim (fun z => absurd h14 (Int32.not_le.mpr z)) (fun z => absurd h15 (Int32.not_le.mpr z))).elim
            · -- pc 50 .if_icmp .le 10: no
              refine Mt.conseq (c_fnd0 _ _ _) ?_
              rintro _ _ _ ⟨rfl, rfl, rfl⟩
              refine ⟨trivial, _, rfl, ?_⟩
              refine Mt.of2 _ rfl (by decide +kernel) (Nat.le_of_ble_eq_true rfl) ?_
              refine GW.run kX4_sheet (fun _ => false) 96 0 rfl ?_
              refine Mt.conseq (m_isSheet _ _ _ _) ?_
              rintro _ _ _ ⟨rfl, rfl, ⟨g1, rfl⟩ | ⟨g1, rfl⟩⟩
              · -- pc 1 call X4_isSheet true
                refine And.intro (fun hh => absurd hh (by decide)) (fun _ => ?_)
                refine And.intro (fun g2 => ?_) (fun g2 => ?_)
                · -- pc 8 .ifCond .eq 28: yes
                  exact absurd g2 h3
                · -- pc 8 .ifCond .eq 28: no
                  refine And.intro (fun g3 => ?_) (fun g3 => ?_)
                  · -- pc 14 .if_icmp .eq 22: yes
                    exact absurd g3 h8
                  · -- pc 14 .if_icmp .eq 22: no
                    refine And.intro (fun g4 => ?_) (fun g4 => ?_)
                    · -- pc 20 .if_icmp .eq 16: yes
                      refine And.intro (fun g5 => ?_) (fun g5 => ?_)
                      · -- pc 37 .ifCond .ge 11: yes
                        refine And.intro (fun g6 => ?_) (fun g6 => ?_)
                        · -- pc 51 .if_icmp .le 10: yes
                          exact absurd g6 h15
                        · -- pc 51 .if_icmp .le 10: no
                          refine Mt.conseq (m_fnd0 _ _ _) ?_
                          rintro _ _ _ ⟨rfl, rfl, rfl⟩
                          exact ⟨trivial, rfl, hS.found (by decide)⟩
                      · -- pc 37 .ifCond .ge 11: no
                        exact absurd h14 g5
                    · -- pc 20 .if_icmp .eq 16: no
                      exact absurd h13 g4
              · -- pc 1 call X4_isSheet false
                exact (nout_nin h1 g1).elim
          · -- pc 37 .ifCond .ge 10: no
            refine Mt.conseq (c_fnd6 _ _ _) ?_
            rintro _ _ _ ⟨rfl, rfl, rfl⟩
            refine ⟨trivial, _, rfl, ?_⟩
            refine Mt.of2 _ rfl (by decide +kernel) (Nat.le_of_ble_eq_true rfl) ?_
            refine GW.run kX4_sheet (fun _ => false) 96 0 rfl ?_
            refine Mt.conseq (m_isSheet _ _ _ _) ?_
            rintro _ _ _ ⟨rfl, rfl, ⟨g1, rfl⟩ | ⟨g1, rfl⟩⟩
            · -- pc 1 call X4_isSheet true
              refine And.intro (fun hh => absurd hh (by decide)) (fun _ => ?_)
              refine And.intro (fun g2 => ?_) (fun g2 => ?_)
              · -- pc 8 .ifCond .eq 28: yes
                exact absurd g2 h3
              · -- pc 8 .ifCond .eq 28: no
                refine And.intro (fun g3 => ?_) (fun g3 => ?_)
                · -- pc 14 .if_icmp .eq 22: yes
                  exact absurd g3 h8
                · -- pc 14 .if_icmp .eq 22: no
                  refine And.intro (fun g4 => ?_) (fun g4 => ?_)
                  · -- pc 20 .if_icmp .eq 16: yes
                    refine And.intro (fun g5 => ?_) (fun g5 => ?_)
                    · -- pc 37 .ifCond .ge 11: yes
                      exact absurd g5 h14
                    · -- pc 37 .ifCond .ge 11: no
                      refine Mt.conseq (m_fnd6 _ _ _) ?_
                      rintro _ _ _ ⟨rfl, rfl, rfl⟩
                      exact ⟨trivial, rfl, hS.found (by decide)⟩
                  · -- pc 20 .if_icmp .eq 16: no
                    exact absurd h13 g4
            · -- pc 1 call X4_isSheet false
              exact (nout_nin h1 g1).elim
        · -- pc 20 .if_icmp .eq 16: no
          refine And.intro (fun h18 => ?_) (fun h18 => ?_)
          · -- pc 26 .if_icmp .eq 10: yes
            refine And.intro (fun h19 => ?_) (fun h19 => ?_)
            · -- pc 37 .ifCond .ge 10: yes
              refine And.intro (fun h20 => ?_) (fun h20 => ?_)
              · -- pc 50 .if_icmp .le 10: yes
                exact (hx.elim h1 fun z => z.elim (fun z => z (Or.inr (Or.inr (Or.inr h18)))) fun z => z.elim (fun z => absurd h19 (Int32.not_le.mpr z)) (fun z => absurd h20 (Int32.not_le.mpr z))).elim
              · -- pc 50 .if_icmp .le 10: no
                refine Mt.conseq (c_fnd0 _ _ _) ?_
                rintro _ _ _ ⟨rfl, rfl, rfl⟩
                refine ⟨trivial, _, rfl, ?_⟩
                refine Mt.of2 _ rfl (by decide +kernel) (Nat.le_of_ble_eq_true rfl) ?_
                refine GW.run kX4_sheet (fun _ => false) 96 0 rfl ?_
                refine Mt.conseq (m_isSheet _ _ _ _) ?_
                rintro _ _ _ ⟨rfl, rfl, ⟨g1, rfl⟩ | ⟨g1, rfl⟩⟩
                · -- pc 1 call X4_isSheet true
                  refine And.intro (fun hh => absurd hh (by decide)) (fun _ => ?_)
                  refine And.intro (fun g2 => ?_) (fun g2 => ?_)
                  · -- pc 8 .ifCond .eq 28: yes
                    exact absurd g2 h3
                  · -- pc 8 .ifCond .eq 28: no
                    refine And.intro (fun g3 => ?_) (fun g3 => ?_)
                    · -- pc 14 .if_icmp .eq 22: yes
                      exact absurd g3 h8
                    · -- pc 14 .if_icmp .eq 22: no
                      refine And.intro (fun g4 => ?_) (fun g4 => ?_)
                      · -- pc 20 .if_icmp .eq 16: yes
                        exact absurd g4 h13
                      · -- pc 20 .if_icmp .eq 16: no
                        refine And.intro (fun g5 => ?_) (fun g5 => ?_)
                        · -- pc 26 .if_icmp .eq 10: yes
                          refine And.intro (fun g6 => ?_) (fun g6 => ?_)
                          · -- pc 37 .ifCond .ge 11: yes
                            refine And.intro (fun g7 => ?_) (fun g7 => ?_)
                            · -- pc 51 .if_icmp .le 10: yes
                              exact absurd g7 h20
                            · -- pc 51 .if_icmp .le 10: no
                              refine Mt.conseq (m_fnd0 _ _ _) ?_
                              rintro _ _ _ ⟨rfl, rfl, rfl⟩
                              exact ⟨trivial, rfl, hS.found (by decide)⟩
                          · -- pc 37 .ifCond .ge 11: no
                            exact absurd h19 g6
                        · -- pc 26 .if_icmp .eq 10: no
                          exact absurd h18 g5
                · -- pc 1 call X4_isSheet false
                  exact (nout_nin h1 g1).elim
            · -- pc 37 .ifCond .ge 10: no
              refine Mt.conseq (c_fnd6 _ _ _) ?_
              rintro _ _ _ ⟨rfl, rfl, rfl⟩
              refine ⟨trivial, _, rfl, ?_⟩
              refine Mt.of2 _ rfl (by decide +kernel) (Nat.le_of_ble_eq_true rfl) ?_
              refine GW.run kX4_sheet (fun _ => false) 96 0 rfl ?_
              refine Mt.conseq (m_isSheet _ _ _ _) ?_
              rintro _ _ _ ⟨rfl, rfl, ⟨g1, rfl⟩ | ⟨g1, rfl⟩⟩
              · -- pc 1 call X4_isSheet true
                refine And.intro (fun hh => absurd hh (by decide)) (fun _ => ?_)
                refine And.intro (fun g2 => ?_) (fun g2 => ?_)
                · -- pc 8 .ifCond .eq 28: yes
                  exact absurd g2 h3
                · -- pc 8 .ifCond .eq 28: no
                  refine And.intro (fun g3 => ?_) (fun g3 => ?_)
                  · -- pc 14 .if_icmp .eq 22: yes
                    exact absurd g3 h8
                  · -- pc 14 .if_icmp .eq 22: no
                    refine And.intro (fun g4 => ?_) (fun g4 => ?_)
                    · -- pc 20 .if_icmp .eq 16: yes
                      exact absurd g4 h13
                    · -- pc 20 .if_icmp .eq 16: no
                      refine And.intro (fun g5 => ?_) (fun g5 => ?_)
                      · -- pc 26 .if_icmp .eq 10: yes
                        refine And.intro (fun g6 => ?_) (fun g6 => ?_)
                        · -- pc 37 .ifCond .ge 11: yes
                          exact absurd g6 h19
                        · -- pc 37 .ifCond .ge 11: no
                          refine Mt.conseq (m_fnd6 _ _ _) ?_
                          rintro _ _ _ ⟨rfl, rfl, rfl⟩
                          exact ⟨trivial, rfl, hS.found (by decide)⟩
                      · -- pc 26 .if_icmp .eq 10: no
                        exact absurd h18 g5
              · -- pc 1 call X4_isSheet false
                exact (nout_nin h1 g1).elim
          · -- pc 26 .if_icmp .eq 10: no
            refine Mt.conseq (c_fnd0 _ _ _) ?_
            rintro _ _ _ ⟨rfl, rfl, rfl⟩
            refine ⟨trivial, _, rfl, ?_⟩
            refine Mt.of2 _ rfl (by decide +kernel) (Nat.le_of_ble_eq_true rfl) ?_
            refine GW.run kX4_sheet (fun _ => false) 96 0 rfl ?_
            refine Mt.conseq (m_isSheet _ _ _ _) ?_
            rintro _ _ _ ⟨rfl, rfl, ⟨g1, rfl⟩ | ⟨g1, rfl⟩⟩
            · -- pc 1 call X4_isSheet true
              refine And.intro (fun hh => absurd hh (by decide)) (fun _ => ?_)
              refine And.intro (fun g2 => ?_) (fun g2 => ?_)
              · -- pc 8 .ifCond .eq 28: yes
                exact absurd g2 h3
              · -- pc 8 .ifCond .eq 28: no
                refine And.intro (fun g3 => ?_) (fun g3 => ?_)
                · -- pc 14 .if_icmp .eq 22: yes
                  exact absurd g3 h8
                · -- pc 14 .if_icmp .eq 22: no
                  refine And.intro (fun g4 => ?_) (fun g4 => ?_)
                  · -- pc 20 .if_icmp .eq 16: yes
                    exact absurd g4 h13
                  · -- pc 20 .if_icmp .eq 16: no
                    refine And.intro (fun g5 => ?_) (fun g5 => ?_)
                    · -- pc 26 .if_icmp .eq 10: yes
                      exact absurd g5 h18
                    · -- pc 26 .if_icmp .eq 10: no
                      refine Mt.conseq (m_fnd0 _ _ _) ?_
                      rintro _ _ _ ⟨rfl, rfl, rfl⟩
                      exact ⟨trivial, rfl, hS.found (by decide)⟩
            · -- pc 1 call X4_isSheet false
              exact (nout_nin h1 g1).elim
theorem pr_sheet (sx : Nat × (Nat → Int32)) (s b n : Int32) : PrI sx MX3_sheet MX4_sheet [.int s, .int b, .int n] := by
  by_cases hx : outP s 0 3 ∨ ¬ (b = 0 ∨ b = 8 ∨ b = 16 ∨ b = 64) ∨ n < 0 ∨ 40 < n
  · exact pr_sheetx sx s b n hx
  · have h1 : ¬ outP s 0 3 := fun z => hx (Or.inl z)
    have h2 : b = 0 ∨ b = 8 ∨ b = 16 ∨ b = 64 := Decidable.byContradiction fun z => hx (Or.inr (Or.inl z))
    have h3 : ¬ outP n 0 40 := fun z => hx (Or.inr (Or.inr z))
    obtain ⟨nn, hn, rfl⟩ := nout_nI (b := 40) (by decide) h3
    obtain ⟨t, ht, rfl⟩ := nout_nI (b := 3) (by decide) h1
    obtain rfl | rfl | rfl | rfl : t = 0 ∨ t = 1 ∨ t = 2 ∨ t = 3 := by omega
    · rcases h2 with rfl | rfl | rfl | rfl
      · exact pr_sheet0_0 sx nn hn
      · exact pr_sheet0_8 sx nn hn
      · exact pr_sheet0_16 sx nn hn
      · exact pr_sheet0_64 sx nn hn
    · rcases h2 with rfl | rfl | rfl | rfl
      · exact pr_sheet1_0 sx nn hn
      · exact pr_sheet1_8 sx nn hn
      · exact pr_sheet1_16 sx nn hn
      · exact pr_sheet1_64 sx nn hn
    · rcases h2 with rfl | rfl | rfl | rfl
      · exact pr_sheet2_0 sx nn hn
      · exact pr_sheet2_8 sx nn hn
      · exact pr_sheet2_16 sx nn hn
      · exact pr_sheet2_64 sx nn hn
    · rcases h2 with rfl | rfl | rfl | rfl
      · exact pr_sheet3_0 sx nn hn
      · exact pr_sheet3_8 sx nn hn
      · exact pr_sheet3_16 sx nn hn
      · exact pr_sheet3_64 sx nn hn
