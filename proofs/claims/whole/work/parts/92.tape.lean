/-! THE TAPE: tokens -/
def tb (x : Int32) : Nat := if 97 ≤ x ∧ x ≤ 122 then 0 else if 48 ≤ x ∧ x ≤ 57 then 1 else if x = 59 then 2 else 4
/-- behind the blanks -/
def sk (B : Nat → Int32) : Nat → Nat → Nat
  | 0, e => e
  | m + 1, e => if B e = 32 then sk B m (e + 1) else e
/-- behind the like -/
def rn (B : Nat → Int32) (k : Nat) : Nat → Nat → Nat
  | 0, e => e
  | m + 1, e => if tb (B e) = k then rn B k m (e + 1) else e
/-- the token from e on: its place, its kind, the place behind it -/
def tSt (B : Nat → Int32) (L e : Nat) : Nat := sk B (L - e) e
def tK (B : Nat → Int32) (L e : Nat) : Nat := if L ≤ tSt B L e then 3 else tb (B (tSt B L e))
def tE (B : Nat → Int32) (L e : Nat) : Nat := if L ≤ tSt B L e then tSt B L e else if tb (B (tSt B L e)) = 0 ∨ tb (B (tSt B L e)) = 1 then rn B (tb (B (tSt B L e))) (L - (tSt B L e + 1)) (tSt B L e + 1) else tSt B L e + 1
theorem sk_b (B : Nat → Int32) : ∀ m e, e ≤ sk B m e ∧ sk B m e ≤ e + m
  | 0, e => ⟨Nat.le_refl _, Nat.le_refl _⟩
  | m + 1, e => by
    rw [sk]
    have := sk_b B m (e + 1)
    split <;> omega
theorem rn_b (B : Nat → Int32) (k : Nat) : ∀ m e, e ≤ rn B k m e ∧ rn B k m e ≤ e + m
  | 0, e => ⟨Nat.le_refl _, Nat.le_refl _⟩
  | m + 1, e => by
    rw [rn]
    have := rn_b B k m (e + 1)
    split <;> omega
theorem tSt_b {B : Nat → Int32} {L e : Nat} (h : e ≤ L) : e ≤ tSt B L e ∧ tSt B L e ≤ L := by
  have := sk_b B (L - e) e
  unfold tSt
  omega
theorem tE_b {B : Nat → Int32} {L e : Nat} (h : e ≤ L) : tSt B L e ≤ tE B L e ∧ tE B L e ≤ L ∧ (tSt B L e < L → tSt B L e < tE B L e) := by
  have h1 := tSt_b (B := B) h
  unfold tE
  split
  · exact ⟨Nat.le_refl _, h1.2, fun z => by omega⟩
  · split
    · have := rn_b B (tb (B (tSt B L e))) (L - (tSt B L e + 1)) (tSt B L e + 1)
      omega
    · omega
theorem tb_5 (x : Int32) : tb x < 5 := by
  unfold tb
  split
  · decide
  split
  · decide
  split <;> decide
theorem tK_5 (B : Nat → Int32) (L e : Nat) : tK B L e < 5 := by
  unfold tK
  split
  · decide
  · exact tb_5 _
/-- the tape's own numbers -/
def clT (I : Mm) (t s b x : Int32) : Mm := fun a => if a = 31 then (fun j => if j = 2 then t else if j = 3 then s else if j = 4 then b else if j = 5 then x else I 31 j) else I a
theorem clT_get (I : Mm) (t s b x : Int32) (a j : Nat) : clT I t s b x a j = if a = 31 then (if j = 2 then t else if j = 3 then s else if j = 4 then b else if j = 5 then x else I 31 j) else I a j := by
  unfold clT
  split <;> rfl
theorem clT_2 {I : Mm} {t s b x y : Int32} : na_set (clT I t s b x) 31 2 y = clT I y s b x := by
  funext a j
  rw [na_set_get, clT_get, clT_get]
  by_cases h : a = 31
  · by_cases h2 : j = 2 <;> simp [h, h2]
  · simp [h]
theorem clT_3 {I : Mm} {t s b x y : Int32} : na_set (clT I t s b x) 31 3 y = clT I t y b x := by
  funext a j
  rw [na_set_get, clT_get, clT_get]
  by_cases h : a = 31
  · by_cases h2 : j = 3 <;> simp [h, h2]
  · simp [h]
theorem clT_4 {I : Mm} {t s b x y : Int32} : na_set (clT I t s b x) 31 4 y = clT I t s y x := by
  funext a j
  rw [na_set_get, clT_get, clT_get]
  by_cases h : a = 31
  · by_cases h2 : j = 4 <;> simp [h, h2]
  · simp [h]
theorem clT_5 {I : Mm} {t s b x y : Int32} : na_set (clT I t s b x) 31 5 y = clT I t s b y := by
  funext a j
  rw [na_set_get, clT_get, clT_get]
  by_cases h : a = 31
  · by_cases h2 : j = 5 <;> simp [h, h2]
  · simp [h]
theorem clT_pN {I N : Mm} {t s b x : Int32} : clT (pN 21 N I) t s b x = pN 21 N (clT I t s b x) := by
  funext a
  by_cases h : 21 ≤ a ∧ a ≤ 21 + 9
  · rw [pN_in h, show clT (pN 21 N I) t s b x a = pN 21 N I a from if_neg (by omega), pN_in h]
  · rw [pN_out h]
    by_cases h2 : a = 31
    · subst h2; rfl
    · rw [show clT (pN 21 N I) t s b x a = pN 21 N I a from if_neg h2, show clT I t s b x a = I a from if_neg h2, pN_out h]
theorem clT_self (I : Mm) : clT I (I 31 2) (I 31 3) (I 31 4) (I 31 5) = I := by
  funext a j
  rw [clT_get]
  split
  · rename_i h
    subst h
    split
    · rename_i h; rw [h]
    split
    · rename_i h; rw [h]
    split
    · rename_i h; rw [h]
    split
    · rename_i h; rw [h]
    · rfl
  · rfl
set_option maxRecDepth 100000 in
set_option maxHeartbeats 4000000 in
theorem c_tb (sx : Nat × (Nat → Int32)) (x : Int32) (I : Mm) (J : Ml) : Mt sx MX2_tokenBegunBy [.int x] I J (na_v I J (nI (tb x))) := by
  refine Mt.of2 _ rfl (by decide +kernel) (Nat.le_of_ble_eq_true rfl) ?_
  refine GW.run kX2_tokenBegunBy (fun _ => false) 53 0 rfl ?_
  refine And.intro (fun h1 => ?_) (fun h1 => ?_)
  · -- pc 3 .if_icmp .lt 11: yes
    refine And.intro (fun h2 => ?_) (fun h2 => ?_)
    · -- pc 17 .if_icmp .lt 11: yes
      refine And.intro (fun h3 => ?_) (fun h3 => ?_)
      · -- pc 31 .if_icmp .ne 7: yes
        exact ⟨trivial, rfl, rfl, congrArg (fun x => some (Value.int x)) (by rw [tb, if_neg (fun z => absurd z.1 (Int32.not_le.mpr h1)), if_neg (fun z => absurd z.1 (Int32.not_le.mpr h2)), if_neg h3]; rfl)⟩
      · -- pc 31 .if_icmp .ne 7: no
        exact ⟨trivial, rfl, rfl, congrArg (fun x => some (Value.int x)) (by rw [tb, if_neg (fun z => absurd z.1 (Int32.not_le.mpr h1)), if_neg (fun z => absurd z.1 (Int32.not_le.mpr h2)), if_pos h3]; rfl)⟩
    · -- pc 17 .if_icmp .lt 11: no
      refine And.intro (fun h4 => ?_) (fun h4 => ?_)
      · -- pc 23 .if_icmp .gt 5: yes
        refine And.intro (fun h5 => ?_) (fun h5 => ?_)
        · -- pc 31 .if_icmp .ne 7: yes
          exact ⟨trivial, rfl, rfl, congrArg (fun x => some (Value.int x)) (by rw [tb, if_neg (fun z => absurd z.1 (Int32.not_le.mpr h1)), if_neg (fun z => absurd z.2 (Int32.not_le.mpr h4)), if_neg h5]; rfl)⟩
        · -- pc 31 .if_icmp .ne 7: no
          exact ⟨trivial, rfl, rfl, congrArg (fun x => some (Value.int x)) (by rw [tb, if_neg (fun z => absurd z.1 (Int32.not_le.mpr h1)), if_neg (fun z => absurd z.2 (Int32.not_le.mpr h4)), if_pos h5]; rfl)⟩
      · -- pc 23 .if_icmp .gt 5: no
        exact ⟨trivial, rfl, rfl, congrArg (fun x => some (Value.int x)) (by rw [tb, if_neg (fun z => absurd z.1 (Int32.not_le.mpr h1)), if_pos ⟨Int32.not_lt.mp h2, Int32.not_lt.mp h4⟩]; rfl)⟩
  · -- pc 3 .if_icmp .lt 11: no
    refine And.intro (fun h6 => ?_) (fun h6 => ?_)
    · -- pc 9 .if_icmp .gt 5: yes
      refine And.intro (fun h7 => ?_) (fun h7 => ?_)
      · -- pc 17 .if_icmp .lt 11: yes
        refine And.intro (fun h8 => ?_) (fun h8 => ?_)
        · -- pc 31 .if_icmp .ne 7: yes
          exact ⟨trivial, rfl, rfl, congrArg (fun x => some (Value.int x)) (by rw [tb, if_neg (fun z => absurd z.2 (Int32.not_le.mpr h6)), if_neg (fun z => absurd z.1 (Int32.not_le.mpr h7)), if_neg h8]; rfl)⟩
        · -- pc 31 .if_icmp .ne 7: no
          exact ⟨trivial, rfl, rfl, congrArg (fun x => some (Value.int x)) (by rw [tb, if_neg (fun z => absurd z.2 (Int32.not_le.mpr h6)), if_neg (fun z => absurd z.1 (Int32.not_le.mpr h7)), if_pos h8]; rfl)⟩
      · -- pc 17 .if_icmp .lt 11: no
        refine And.intro (fun h9 => ?_) (fun h9 => ?_)
        · -- pc 23 .if_icmp .gt 5: yes
          refine And.intro (fun h10 => ?_) (fun h10 => ?_)
          · -- pc 31 .if_icmp .ne 7: yes
            exact ⟨trivial, rfl, rfl, congrArg (fun x => some (Value.int x)) (by rw [tb, if_neg (fun z => absurd z.2 (Int32.not_le.mpr h6)), if_neg (fun z => absurd z.2 (Int32.not_le.mpr h9)), if_neg h10]; rfl)⟩
          · -- pc 31 .if_icmp .ne 7: no
            exact ⟨trivial, rfl, rfl, congrArg (fun x => some (Value.int x)) (by rw [tb, if_neg (fun z => absurd z.2 (Int32.not_le.mpr h6)), if_neg (fun z => absurd z.2 (Int32.not_le.mpr h9)), if_pos h10]; rfl)⟩
        · -- pc 23 .if_icmp .gt 5: no
          exact ⟨trivial, rfl, rfl, congrArg (fun x => some (Value.int x)) (by rw [tb, if_neg (fun z => absurd z.2 (Int32.not_le.mpr h6)), if_pos ⟨Int32.not_lt.mp h7, Int32.not_lt.mp h9⟩]; rfl)⟩
    · -- pc 9 .if_icmp .gt 5: no
      exact ⟨trivial, rfl, rfl, congrArg (fun x => some (Value.int x)) (by rw [tb, if_pos ⟨Int32.not_lt.mp h1, Int32.not_lt.mp h6⟩]; rfl)⟩
set_option maxRecDepth 100000 in
set_option maxHeartbeats 4000000 in
theorem l_st1 (sx : Nat × (Nat → Int32)) (L : Nat) (hL1 : L ≤ 120) (I : Mm) (hL : I 31 1 = nI L) (t b x : Int32) (S : Nat) (J : Ml) (Rt : Option Value → Mm → Ml → Prop) (hR : GW sx (na_mi MX2_step) Rt 46 [some (.ref 31)] [] (clT I t (nI S) b x) J) : ∀ m n , n + m = L → sk (I 32) m n = S → GW sx (na_mi MX2_step) Rt 8 [some (.ref 31)] [] (clT I t (nI n) b x) J := by
  intro m
  induction m with
  | zero =>
    intro n  hn hw
    obtain rfl : L = n := by omega
    have hz : I 31 1 ≤ nI L := by rw [hL]; exact Int32.le_refl _
    refine GW.run kX2_step (fun pc => Nat.beq pc 8 || Nat.beq pc 46) 109 4 rfl ?_
    refine And.intro (fun _ => ?_) (fun hh => absurd hz hh)
    obtain rfl := hw
    exact hR
  | succ m ih =>
    intro n  hn hw
    have hz : ¬ I 31 1 ≤ nI n := by rw [hL]; exact nI_ge (by omega) (by omega)
    have hb : vp_in (nI n) 120 := vp_in_nI (by omega) (by omega)
    have hc := nI_clamp (n := n) (by omega)
    refine GW.run kX2_step (fun pc => Nat.beq pc 8 || Nat.beq pc 46) 109 4 rfl ?_
    refine And.intro (fun hh => absurd hh hz) (fun _ => ?_)
    refine And.intro (hb) ?_
    refine And.intro (fun h1 => ?_) (fun h1 => ?_)
    · -- pc 30 .if_icmp .ne 16: yes
      rw [sk, if_neg (fun z => h1 (by show I 32 (nI n).toNatClampNeg = 32; rw [hc]; exact z))] at hw
      obtain rfl := hw
      exact hR
    · -- pc 30 .if_icmp .ne 16: no
      rw [sk, if_pos (show I 32 n = 32 from by have z : I 32 (nI n).toNatClampNeg = 32 := h1; rw [hc] at z; exact z)] at hw
      refine GW.eqI ?_ (ih (n + 1) (by omega) hw)
      rw [← nI_1]
      exact clT_3
set_option maxRecDepth 100000 in
set_option maxHeartbeats 4000000 in
theorem l_st2 (sx : Nat × (Nat → Int32)) (L : Nat) (hL1 : L ≤ 120) (I : Mm) (hL : I 31 1 = nI L) (k : Nat) (hk : k < 5) (s x : Int32) (E : Nat) (J : Ml) (Rt : Option Value → Mm → Ml → Prop) (hR : Rt none (clT I (nI k) s (nI E) x) J) : ∀ m n , n + m = L → rn (I 32) k m n = E → GW sx (na_mi MX2_step) Rt 112 [some (.ref 31)] [] (clT I (nI k) s (nI n) x) J := by
  intro m
  induction m with
  | zero =>
    intro n  hn hw
    obtain rfl : L = n := by omega
    have hz : I 31 1 ≤ nI L := by rw [hL]; exact Int32.le_refl _
    refine GW.run kX2_step (fun pc => Nat.beq pc 112) 109 57 rfl ?_
    refine And.intro (fun _ => ?_) (fun hh => absurd hz hh)
    obtain rfl := hw
    exact hR
  | succ m ih =>
    intro n  hn hw
    have hz : ¬ I 31 1 ≤ nI n := by rw [hL]; exact nI_ge (by omega) (by omega)
    have hb : vp_in (nI n) 120 := vp_in_nI (by omega) (by omega)
    have hc := nI_clamp (n := n) (by omega)
    refine GW.run kX2_step (fun pc => Nat.beq pc 112) 109 57 rfl ?_
    refine And.intro (fun hh => absurd hh hz) (fun _ => ?_)
    refine And.intro (hb) ?_
    refine Mt.conseq (c_tb _ _ _ _) ?_
    rintro _ _ _ ⟨rfl, rfl, rfl⟩
    refine And.intro (fun h2 => ?_) (fun h2 => ?_)
    · -- pc 139 .if_icmp .ne 16: yes
      rw [rn, if_neg (fun z => h2 (by rw [← z]; show nI (tb (I 32 (nI n).toNatClampNeg)) = nI (tb (I 32 n)); rw [hc]))] at hw
      obtain rfl := hw
      exact hR
    · -- pc 139 .if_icmp .ne 16: no
      have z : nI (tb (I 32 (nI n).toNatClampNeg)) = nI k := h2
      rw [hc, nI_eq (by have := tb_5 (I 32 n); omega) (by omega)] at z
      rw [rn, if_pos z] at hw
      refine GW.eqI ?_ (ih (n + 1) (by omega) hw)
      rw [← nI_1]
      exact clT_4
def cS (I : Mm) (L e : Nat) (x : Int32) : Mm := clT I (nI (tK (I 32) L e)) (nI (tSt (I 32) L e)) (nI (tE (I 32) L e)) x
set_option maxRecDepth 100000 in
set_option maxHeartbeats 4000000 in
theorem c_step (sx : Nat × (Nat → Int32)) (L : Nat) (hL1 : L ≤ 120) (I : Mm) (hL : I 31 1 = nI L) (e : Nat) (he : e ≤ L) (t s x : Int32) (J : Ml) : Mt sx MX2_step [.ref 31] (clT I t s (nI e) x) J (fun r I' J' => cS I L e x = I' ∧ J = J' ∧ r = none) := by
  have hSb := tSt_b (B := I 32) he
  have hlt0 : nI (tSt (I 32) L e) < I 31 1 → ¬ L ≤ tSt (I 32) L e := fun z => by
    rw [hL, nI_ltI (by omega) (by omega)] at z
    omega
  have hcS : tSt (I 32) L e < 2 ^ 31 → (nI (tSt (I 32) L e)).toNatClampNeg = tSt (I 32) L e := fun h => nI_clamp h
  have hgo : tSt (I 32) L e < 2 ^ 31 → na_set (na_set (na_set (clT I t (nI (tSt (I 32) L e)) (nI e) x) 31 4 (nI (tSt (I 32) L e))) 31 2 (nI (tb (I 32 (nI (tSt (I 32) L e)).toNatClampNeg)))) 31 4 (nI (tSt (I 32) L e) + 1) = clT I (nI (tb (I 32 (tSt (I 32) L e)))) (nI (tSt (I 32) L e)) (nI (tSt (I 32) L e + 1)) x := fun h => by
    rw [clT_4, clT_2, clT_4, hcS h, nI_1]
  refine Mt.of2 _ rfl (by decide +kernel) (Nat.le_of_ble_eq_true rfl) ?_
  refine GW.run kX2_step (fun pc => Nat.beq pc 8) 109 0 rfl ?_
  refine GW.eqI clT_3 (l_st1 sx L hL1 I hL t (nI e) x (tSt (I 32) L e) J _ ?_ (L - e) e (by omega) rfl)
  refine GW.run kX2_step (fun pc => Nat.beq pc 112) 109 23 rfl ?_
  refine And.intro (fun h1 => ?_) (fun h1 => ?_)
  · -- pc 62 .if_icmp .lt 9: yes
    refine And.intro ((by have z := hlt0 h1; exact vp_in_nI (by omega) (by omega))) ?_
    refine Mt.conseq (c_tb _ _ _ _) ?_
    rintro _ _ _ ⟨rfl, rfl, rfl⟩
    refine And.intro (fun h3 => ?_) (fun h3 => ?_)
    · -- pc 101 .ifCond .eq 11: yes
      have hlt : ¬ L ≤ tSt (I 32) L e := hlt0 h1
      have nk : tb (I 32 (tSt (I 32) L e)) = 0 := by
        have z := (show nI (tb (I 32 (nI (tSt (I 32) L e)).toNatClampNeg)) = 0 from h3)
        rw [hcS (by omega), show (0 : Int32) = nI 0 from rfl, nI_eq (by have := tb_5 (I 32 (tSt (I 32) L e)); omega) (by omega)] at z
        exact z
      refine GW.eqI (hgo (by omega)) (l_st2 sx L hL1 I hL (tb (I 32 (tSt (I 32) L e))) (tb_5 _) (nI (tSt (I 32) L e)) x (tE (I 32) L e) J _ ⟨?_, rfl, rfl⟩ (L - (tSt (I 32) L e + 1)) (tSt (I 32) L e + 1) (by omega) ?_)
      · rw [tE, if_neg hlt, if_pos (by rw [nk]; decide)]
      · rw [cS, tK, if_neg hlt]
    · -- pc 101 .ifCond .eq 11: no
      refine And.intro (fun h4 => ?_) (fun h4 => ?_)
      · -- pc 109 .if_icmp .ne 46: yes
        have hlt : ¬ L ≤ tSt (I 32) L e := hlt0 h1
        have n0 : ¬ tb (I 32 (tSt (I 32) L e)) = 0 := fun z => h3 (by show nI (tb (I 32 (nI (tSt (I 32) L e)).toNatClampNeg)) = 0; rw [hcS (by omega), z]; rfl)
        have n1 : ¬ tb (I 32 (tSt (I 32) L e)) = 1 := fun z => h4 (by show nI (tb (I 32 (nI (tSt (I 32) L e)).toNatClampNeg)) = 1; rw [hcS (by omega), z]; rfl)
        refine ⟨?_, rfl, rfl⟩
        rw [cS, tK, if_neg hlt, tE, if_neg hlt, if_neg (fun z => z.elim n0 n1)]
        exact (hgo (by omega)).symm
      · -- pc 109 .if_icmp .ne 46: no
        have hlt : ¬ L ≤ tSt (I 32) L e := hlt0 h1
        have nk : tb (I 32 (tSt (I 32) L e)) = 1 := by
          have z := (show nI (tb (I 32 (nI (tSt (I 32) L e)).toNatClampNeg)) = 1 from h4)
          rw [hcS (by omega), show (1 : Int32) = nI 1 from rfl, nI_eq (by have := tb_5 (I 32 (tSt (I 32) L e)); omega) (by omega)] at z
          exact z
        refine GW.eqI (hgo (by omega)) (l_st2 sx L hL1 I hL (tb (I 32 (tSt (I 32) L e))) (tb_5 _) (nI (tSt (I 32) L e)) x (tE (I 32) L e) J _ ⟨?_, rfl, rfl⟩ (L - (tSt (I 32) L e + 1)) (tSt (I 32) L e + 1) (by omega) ?_)
        · rw [tE, if_neg hlt, if_pos (by rw [nk]; decide)]
        · rw [cS, tK, if_neg hlt]
  · -- pc 62 .if_icmp .lt 9: no
    have hge : L ≤ tSt (I 32) L e := by
      have z : ¬ nI (tSt (I 32) L e) < I 31 1 := h1
      rw [hL, nI_ltI (by omega) (by omega)] at z
      omega
    refine ⟨?_, rfl, rfl⟩
    rw [cS, tK, if_pos hge, tE, if_pos hge]
    show clT I (nI 3) (nI (tSt (I 32) L e)) (nI (tSt (I 32) L e)) x = na_set (na_set (clT I t (nI (tSt (I 32) L e)) (nI e) x) 31 4 (nI (tSt (I 32) L e))) 31 2 3
    rw [clT_4, clT_2]
    rfl
theorem c_stp (sx : Nat × (Nat → Int32)) (L : Nat) (hL1 : L ≤ 120) (I : Mm) (hL : I 31 1 = nI L) (e : Nat) (he : e ≤ L) (x : Int32) (J : Ml) : Mt sx MX2_step [.ref 31] (cS I L e x) J (fun r I' J' => cS I L (tE (I 32) L e) x = I' ∧ J = J' ∧ r = none) :=
  c_step sx L hL1 I hL (tE (I 32) L e) (tE_b he).2.1 _ _ x J
