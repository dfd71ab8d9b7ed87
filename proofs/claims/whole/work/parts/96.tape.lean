/-! THE TAPE: tokens, the reference -/
def mdT (I : Mm) (so be en va go : Int32) : Mm := fun a => if a = 43 then (fun j => if j = 5 then so else if j = 6 then be else if j = 7 then en else if j = 9 then va else if j = 10 then go else I 43 j) else I a
theorem mdT_get (I : Mm) (so be en va go : Int32) (a j : Nat) : mdT I so be en va go a j = if a = 43 then (if j = 5 then so else if j = 6 then be else if j = 7 then en else if j = 9 then va else if j = 10 then go else I 43 j) else I a j := by
  unfold mdT
  split <;> rfl
theorem md_5 {I : Mm} {so be en va go y : Int32} : na_set (mdT I so be en va go) 43 5 y = mdT I y be en va go := by
  funext a j
  rw [na_set_get, mdT_get, mdT_get]
  by_cases h : a = 43
  · by_cases h2 : j = 5 <;> simp [h, h2]
  · simp [h]
theorem md_6 {I : Mm} {so be en va go y : Int32} : na_set (mdT I so be en va go) 43 6 y = mdT I so y en va go := by
  funext a j
  rw [na_set_get, mdT_get, mdT_get]
  by_cases h : a = 43
  · by_cases h2 : j = 6 <;> simp [h, h2]
  · simp [h]
theorem md_7 {I : Mm} {so be en va go y : Int32} : na_set (mdT I so be en va go) 43 7 y = mdT I so be y va go := by
  funext a j
  rw [na_set_get, mdT_get, mdT_get]
  by_cases h : a = 43
  · by_cases h2 : j = 7 <;> simp [h, h2]
  · simp [h]
theorem md_9 {I : Mm} {so be en va go y : Int32} : na_set (mdT I so be en va go) 43 9 y = mdT I so be en y go := by
  funext a j
  rw [na_set_get, mdT_get, mdT_get]
  by_cases h : a = 43
  · by_cases h2 : j = 9 <;> simp [h, h2]
  · simp [h]
theorem md_10 {I : Mm} {so be en va go y : Int32} : na_set (mdT I so be en va go) 43 10 y = mdT I so be en va y := by
  funext a j
  rw [na_set_get, mdT_get, mdT_get]
  by_cases h : a = 43
  · by_cases h2 : j = 10 <;> simp [h, h2]
  · simp [h]
theorem md_self (I : Mm) : mdT I (I 43 5) (I 43 6) (I 43 7) (I 43 9) (I 43 10) = I := by
  funext a j
  rw [mdT_get]
  split
  · rename_i h
    subst h
    split
    · rename_i h; rw [h]
    split
    · rename_i h; rw [h]
    split
    · rename_i h; rw [h]
    split
    · rename_i h; rw [h]
    split
    · rename_i h; rw [h]
    · rfl
  · rfl
def jW (J : Ml) (w : Int64) : Ml := na_setL J 43 8 w
theorem jW_set {J : Ml} {w v : Int64} : na_setL (jW J w) 43 8 v = jW J v := by
  funext a j
  unfold jW
  rw [na_setL_get, na_setL_get, na_setL_get]
  split
  · rfl
  · rfl
theorem jW_self (J : Ml) : jW J (J 43 8) = J := by
  funext a j
  unfold jW
  rw [na_setL_get]
  split
  · rename_i h
    rw [h.1, h.2]
  · rfl
def btA (B : Nat → Int32) (L k : Nat) : Int32 := if k < L then B k else -1
def wcV (B : Nat → Int32) (s : Nat) : Nat → Int64
  | 0 => 0
  | n + 1 => if n < 12 then 27 * wcV B s n + (B (s + n)).toInt64 - 96 else -1
def srtI (k : Nat) : Int32 := if k = 0 then 1 else if k = 1 then 2 else if k = 3 then 0 else 3
def vaE (B : Nat → Int32) (L e : Nat) : Int32 := if tK B L e = 1 then vlE B L e else if tK B L e = 3 then -1 else B (tSt B L e)
def weE (B : Nat → Int32) (L e : Nat) : Int64 := if tK B L e = 0 then wcV B (tSt B L e) (tE B L e - tSt B L e) else 0
def mT (B : Nat → Int32) (L : Nat) (I : Mm) (e : Nat) (go : Int32) : Mm := mdT I (srtI (tK B L e)) (nI (tSt B L e)) (nI (tE B L e)) (vaE B L e) go
theorem tb0 {x : Int32} : tb x = 0 ↔ (97 ≤ x ∧ x ≤ 122) := by
  unfold tb
  split
  · rename_i h; exact ⟨fun _ => h, fun _ => rfl⟩
  · rename_i h
    refine ⟨fun q => ?_, fun q => absurd q h⟩
    split at q
    · cases q
    · split at q <;> cases q
theorem tb1 {x : Int32} : tb x = 1 ↔ (48 ≤ x ∧ x ≤ 57) := by
  unfold tb
  split
  · rename_i h
    refine ⟨fun q => absurd q (by decide), fun q => ?_⟩
    have h1 := h.1
    have h2 := q.2
    rw [le_i] at h1 h2
    have e1 : (97 : Int32).toInt = 97 := by decide
    have e2 : (57 : Int32).toInt = 57 := by decide
    omega
  · split
    · rename_i h; exact ⟨fun _ => h, fun _ => rfl⟩
    · rename_i h
      refine ⟨fun q => ?_, fun q => absurd q h⟩
      split at q <;> cases q
theorem nm_step {v b : Int32} (hv : rg 0 10000 v) (hb : 48 ≤ b ∧ b ≤ 57) : (v ≤ 999 → 10 * v + b - 48 = jmin 10000 (v * 10 + b - 48)) ∧ (¬ v ≤ 999 → 10000 = jmin 10000 (v * 10 + b - 48)) ∧ rg 0 10000 (jmin 10000 (v * 10 + b - 48)) := by
  obtain ⟨v1, v2⟩ := hv
  obtain ⟨b1, b2⟩ := hb
  rw [le_i] at b1 b2
  have c1 : (48 : Int32).toInt = 48 := by decide
  have c2 : (57 : Int32).toInt = 57 := by decide
  have c3 : (10 : Int32).toInt = 10 := by decide
  have c4 : (10000 : Int32).toInt = 10000 := by decide
  have e1 : (v * 10).toInt = v.toInt * 10 := by rw [tM (by rw [c3]; omega) (by rw [c3]; omega), c3]
  have e2 : (v * 10 + b).toInt = v.toInt * 10 + b.toInt := by rw [tA (by omega) (by omega), e1]
  have e3 : (v * 10 + b - 48).toInt = v.toInt * 10 + b.toInt - 48 := by rw [tS (by omega) (by omega), e2, c1]
  have e0 : 10 * v = v * 10 := Int32.mul_comm _ _
  refine ⟨fun h => ?_, fun h => ?_, ?_, ?_⟩
  · rw [le_i, i999] at h
    apply Int32.toInt_inj.mp
    rw [e0, jmin_toInt, e3, c4]
    omega
  · rw [le_i, i999] at h
    apply Int32.toInt_inj.mp
    rw [jmin_toInt, e3, c4]
    omega
  · rw [jmin_toInt, e3, c4]; omega
  · rw [jmin_toInt, e3, c4]; omega
set_option maxRecDepth 100000 in
set_option maxHeartbeats 4000000 in
theorem m_byt (sx : Nat × (Nat → Int32)) (B : Nat → Int32) (L : Nat) (hL1 : L ≤ 120) (hr : ∀ j, j < L → rg 0 255 (B j)) (I : Mm) (hL : I 43 4 = nI L) (hB : ∀ j, j < L → I 47 j = B j) (k : Nat) (hk : k ≤ 240) (J : Ml) : Mt sx MX4_byteAt [.ref 43, .int (nI k)] I J (na_v I J (btA B L k)) := by
  have hlt : ¬ I 43 4 ≤ nI k → k < L := fun z => by
    rw [hL, nI_leI (by omega) (by omega)] at z
    omega
  refine Mt.of2 _ rfl (by decide +kernel) (Nat.le_of_ble_eq_true rfl) ?_
  refine GW.run kX4_byteAt (fun _ => false) 41 0 rfl ?_
  refine And.intro (fun h1 => ?_) (fun h1 => ?_)
  · -- pc 5 .if_icmp .ge 12: yes
    exact ⟨trivial, rfl, rfl, congrArg (fun x => some (Value.int x)) (by rw [btA, if_neg (fun z => absurd h1 (by show ¬ I 43 4 ≤ nI k; rw [hL]; exact nI_ge z (by omega)))])⟩
  · -- pc 5 .if_icmp .ge 12: no
    refine And.intro ((by have z := hlt h1; exact vp_in_nI (by omega) (by omega))) ?_
    exact ⟨trivial, rfl, rfl, congrArg (fun x => some (Value.int x)) (by show I 47 (nI k).toNatClampNeg = btA B L k; rw [nI_clamp (by omega), btA, if_pos (hlt h1)]; exact hB k (hlt h1))⟩
set_option maxRecDepth 100000 in
set_option maxHeartbeats 4000000 in
theorem l_av1 (sx : Nat × (Nat → Int32)) (B : Nat → Int32) (L : Nat) (hL1 : L ≤ 120) (hr : ∀ j, j < L → rg 0 255 (B j)) (I : Mm) (hL : I 43 4 = nI L) (hB : ∀ j, j < L → I 47 j = B j) (so en va go : Int32) (S : Nat) (J : Ml) (Rt : Option Value → Mm → Ml → Prop) (hR : GW sx (na_mi MX4_advance) Rt 34 [some (.ref 43), none] [] (mdT I so (nI S) en va go) J) : ∀ m n , n + m = L → sk B m n = S → GW sx (na_mi MX4_advance) Rt 8 [some (.ref 43), none] [] (mdT I so (nI n) en va go) J := by
  intro m
  induction m with
  | zero =>
    intro n  hn hw
    obtain rfl : L = n := by omega
    have hz : ¬ btA B L L = 32 := by rw [btA, if_neg (by omega)]; decide
    refine GW.run kX4_advance (fun pc => Nat.beq pc 8 || Nat.beq pc 34) 172 4 rfl ?_
    refine Mt.conseq (m_byt _ B L hL1 hr (mdT I so (nI L) en va go) hL hB L (by omega) _) ?_
    rintro _ _ _ ⟨rfl, rfl, rfl⟩
    refine And.intro (fun _ => ?_) (fun hh => absurd hh hz)
    obtain rfl := hw
    exact hR
  | succ m ih =>
    intro n  hn hw
    have eb : btA B L n = B n := if_pos (by omega)
    refine GW.run kX4_advance (fun pc => Nat.beq pc 8 || Nat.beq pc 34) 172 4 rfl ?_
    refine Mt.conseq (m_byt _ B L hL1 hr (mdT I so (nI n) en va go) hL hB n (by omega) _) ?_
    rintro _ _ _ ⟨rfl, rfl, rfl⟩
    refine And.intro (fun h2 => ?_) (fun h2 => ?_)
    · -- pc 18 .if_icmp .ne 16: yes
      rw [sk, if_neg (fun z => h2 (by rw [← z]; exact eb))] at hw
      obtain rfl := hw
      exact hR
    · -- pc 18 .if_icmp .ne 16: no
      rw [sk, if_pos (show B n = 32 from eb.symm.trans h2)] at hw
      refine GW.eqI ?_ (ih (n + 1) (by omega) hw)
      rw [← nI_1]
      exact md_6
set_option maxRecDepth 100000 in
set_option maxHeartbeats 4000000 in
theorem l_avB (sx : Nat × (Nat → Int32)) (B : Nat → Int32) (L : Nat) (hL1 : L ≤ 120) (hr : ∀ j, j < L → rg 0 255 (B j)) (I : Mm) (hL : I 43 4 = nI L) (hB : ∀ j, j < L → I 47 j = B j) (va go : Int32) (s D : Nat) (hsD : s + D = L) (E : Nat) (J : Ml) (Rt : Option Value → Mm → Ml → Prop) (hR : GW sx (na_mi MX4_advance) Rt 207 [some (.ref 43), none] [] (mdT I 1 (nI s) (nI E) va go) (jW J (wcV B s (E - s)))) : ∀ m n , n + m = D → rn B 0 m (s + n) = E → GW sx (na_mi MX4_advance) Rt 126 [some (.ref 43), none] [] (mdT I 1 (nI s) (nI (s + n)) va go) (jW J (wcV B s n)) := by
  intro m
  induction m with
  | zero =>
    intro n  hn hw
    obtain rfl : D = n := by omega
    have hs1 : (1 : Int32) = 1 := rfl
    have eb : btA B L (s + D) = -1 := if_neg (by omega)
    refine GW.run kX4_advance (fun pc => Nat.beq pc 126 || Nat.beq pc 207) 172 65 rfl ?_
    refine And.intro (fun hh => absurd hs1 hh) (fun _ => ?_)
    refine Mt.conseq (m_byt _ B L hL1 hr (mdT I 1 (nI s) (nI (s + D)) va go) hL hB (s + D) (by omega) _) ?_
    rintro _ _ _ ⟨rfl, rfl, rfl⟩
    refine Mt.conseq (m_isLetter _ _ _ _) ?_
    rintro _ _ _ ⟨rfl, rfl, ⟨h2, rfl⟩ | ⟨h2, rfl⟩⟩
    · -- pc 142 call X4_isLetter true
      exact absurd (by have z := h2; rw [eb] at z; exact z) (show ¬ ((97 : Int32) ≤ -1 ∧ (-1 : Int32) ≤ 122) by decide)
    · -- pc 142 call X4_isLetter false
      refine And.intro (fun _ => ?_) (fun hh => absurd hh (by decide))
      obtain rfl : s + D = E := hw
      have z := hR
      rw [show s + D - s = D by omega] at z
      exact z
  | succ m ih =>
    intro n  hn hw
    have hs1 : (1 : Int32) = 1 := rfl
    have eb : btA B L (s + n) = B (s + n) := if_pos (by omega)
    have esub : nI (s + n) - nI s = nI n := by rw [pk_sub (by omega), show s + n - s = n by omega]
    refine GW.run kX4_advance (fun pc => Nat.beq pc 126 || Nat.beq pc 207) 172 65 rfl ?_
    refine And.intro (fun hh => absurd hs1 hh) (fun _ => ?_)
    refine Mt.conseq (m_byt _ B L hL1 hr (mdT I 1 (nI s) (nI (s + n)) va go) hL hB (s + n) (by omega) _) ?_
    rintro _ _ _ ⟨rfl, rfl, rfl⟩
    refine Mt.conseq (m_isLetter _ _ _ _) ?_
    rintro _ _ _ ⟨rfl, rfl, ⟨h2, rfl⟩ | ⟨h2, rfl⟩⟩
    · -- pc 142 call X4_isLetter true
      refine And.intro (fun hh => absurd hh (by decide)) (fun _ => ?_)
      refine And.intro (fun h3 => ?_) (fun h3 => ?_)
      · -- pc 160 .if_icmp .ge 28: yes
        have hl : tb (B (s + n)) = 0 := tb0.mpr (by have z := h2; rw [eb] at z; exact z)
        rw [rn, if_pos hl] at hw
        refine GW.eqIJ ?_ ?_ (ih (n + 1) (by omega) hw)
        · rw [← Nat.add_assoc, ← nI_1]
          exact md_7
        · have hn : ¬ n < 12 := by
            have z : (12 : Int32) ≤ nI (s + n) - nI s := h3
            rw [esub, show (12 : Int32) = nI 12 from rfl, nI_leI (by omega) (by omega)] at z
            omega
          rw [wcV, if_neg hn]
          exact jW_set
      · -- pc 160 .if_icmp .ge 28: no
        refine Mt.conseq (m_byt _ B L hL1 hr (mdT I 1 (nI s) (nI (s + n)) va go) hL hB (s + n) (by omega) _) ?_
        rintro _ _ _ ⟨rfl, rfl, rfl⟩
        have hl : tb (B (s + n)) = 0 := tb0.mpr (by have z := h2; rw [eb] at z; exact z)
        rw [rn, if_pos hl] at hw
        refine GW.eqIJ ?_ ?_ (ih (n + 1) (by omega) hw)
        · rw [← Nat.add_assoc, ← nI_1]
          exact md_7
        · have hn : n < 12 := by
            have z : ¬ (12 : Int32) ≤ nI (s + n) - nI s := h3
            rw [esub, show (12 : Int32) = nI 12 from rfl, nI_leI (by omega) (by omega)] at z
            omega
          rw [wcV, if_pos hn, ← eb]
          exact jW_set
    · -- pc 142 call X4_isLetter false
      refine And.intro (fun _ => ?_) (fun hh => absurd hh (by decide))
      rw [rn, if_neg (fun z => h2 (by rw [eb]; exact tb0.mp z))] at hw
      obtain rfl := hw
      have z := hR
      rw [show s + n - s = n by omega] at z
      exact z
set_option maxRecDepth 100000 in
set_option maxHeartbeats 4000000 in
theorem l_avC (sx : Nat × (Nat → Int32)) (B : Nat → Int32) (L : Nat) (hL1 : L ≤ 120) (hr : ∀ j, j < L → rg 0 255 (B j)) (I : Mm) (hL : I 43 4 = nI L) (hB : ∀ j, j < L → I 47 j = B j) (go : Int32) (s D : Nat) (hsD : s + D = L) (E : Nat) (J : Ml) (Rt : Option Value → Mm → Ml → Prop) (hR : Rt none (mdT I 2 (nI s) (nI E) (nmV B s (E - s)) go) J) : ∀ m n , n + m = D → rg 0 10000 (nmV B s n) → rn B 1 m (s + n) = E → GW sx (na_mi MX4_advance) Rt 207 [some (.ref 43), none] [] (mdT I 2 (nI s) (nI (s + n)) (nmV B s n) go) J := by
  intro m
  induction m with
  | zero =>
    intro n  hn hv hw
    obtain rfl : D = n := by omega
    have hs1 : (2 : Int32) = 2 := rfl
    have eb : btA B L (s + D) = -1 := if_neg (by omega)
    refine GW.run kX4_advance (fun pc => Nat.beq pc 207) 172 105 rfl ?_
    refine And.intro (fun hh => absurd hs1 hh) (fun _ => ?_)
    refine Mt.conseq (m_byt _ B L hL1 hr (mdT I 2 (nI s) (nI (s + D)) (nmV B s D) go) hL hB (s + D) (by omega) _) ?_
    rintro _ _ _ ⟨rfl, rfl, rfl⟩
    refine Mt.conseq (m_isDigit _ _ _ _) ?_
    rintro _ _ _ ⟨rfl, rfl, ⟨h2, rfl⟩ | ⟨h2, rfl⟩⟩
    · -- pc 223 call X4_isDigit true
      exact absurd (by have z := h2; rw [eb] at z; exact z) (show ¬ ((48 : Int32) ≤ -1 ∧ (-1 : Int32) ≤ 57) by decide)
    · -- pc 223 call X4_isDigit false
      refine And.intro (fun _ => ?_) (fun hh => absurd hh (by decide))
      obtain rfl : s + D = E := hw
      have z := hR
      rw [show s + D - s = D by omega] at z
      exact z
  | succ m ih =>
    intro n  hn hv hw
    have hs1 : (2 : Int32) = 2 := rfl
    have eb : btA B L (s + n) = B (s + n) := if_pos (by omega)
    refine GW.run kX4_advance (fun pc => Nat.beq pc 207) 172 105 rfl ?_
    refine And.intro (fun hh => absurd hs1 hh) (fun _ => ?_)
    refine Mt.conseq (m_byt _ B L hL1 hr (mdT I 2 (nI s) (nI (s + n)) (nmV B s n) go) hL hB (s + n) (by omega) _) ?_
    rintro _ _ _ ⟨rfl, rfl, rfl⟩
    refine Mt.conseq (m_isDigit _ _ _ _) ?_
    rintro _ _ _ ⟨rfl, rfl, ⟨h2, rfl⟩ | ⟨h2, rfl⟩⟩
    · -- pc 223 call X4_isDigit true
      refine And.intro (fun hh => absurd hh (by decide)) (fun _ => ?_)
      refine And.intro (fun h3 => ?_) (fun h3 => ?_)
      · -- pc 237 .if_icmp .le 9: yes
        refine Mt.conseq (m_byt _ B L hL1 hr (mdT I 2 (nI s) (nI (s + n)) (nmV B s n) go) hL hB (s + n) (by omega) _) ?_
        rintro _ _ _ ⟨rfl, rfl, rfl⟩
        have hd : 48 ≤ B (s + n) ∧ B (s + n) ≤ 57 := by have z := h2; rw [eb] at z; exact z
        have hst := nm_step hv hd
        rw [rn, if_pos (tb1.mpr hd)] at hw
        refine GW.eqI ?_ (ih (n + 1) (by omega) (by rw [nmV]; exact hst.2.2) hw)
        rw [← Nat.add_assoc, ← nI_1, nmV, ← hst.1 h3]
        rw [← eb]
        exact (congrArg (fun q => na_set q 43 7 (nI (s + n) + 1)) md_9).trans md_7
      · -- pc 237 .if_icmp .le 9: no
        have hd : 48 ≤ B (s + n) ∧ B (s + n) ≤ 57 := by have z := h2; rw [eb] at z; exact z
        have hst := nm_step hv hd
        rw [rn, if_pos (tb1.mpr hd)] at hw
        refine GW.eqI ?_ (ih (n + 1) (by omega) (by rw [nmV]; exact hst.2.2) hw)
        rw [← Nat.add_assoc, ← nI_1, nmV, ← hst.2.1 h3]
        exact (congrArg (fun q => na_set q 43 7 (nI (s + n) + 1)) md_9).trans md_7
    · -- pc 223 call X4_isDigit false
      refine And.intro (fun _ => ?_) (fun hh => absurd hh (by decide))
      rw [rn, if_neg (fun z => h2 (by rw [eb]; exact tb1.mp z))] at hw
      obtain rfl := hw
      have z := hR
      rw [show s + n - s = n by omega] at z
      exact z
set_option maxRecDepth 100000 in
set_option maxHeartbeats 4000000 in
theorem m_adv (sx : Nat × (Nat → Int32)) (B : Nat → Int32) (L : Nat) (hL1 : L ≤ 120) (hr : ∀ j, j < L → rg 0 255 (B j)) (I : Mm) (hL : I 43 4 = nI L) (hB : ∀ j, j < L → I 47 j = B j) (e : Nat) (he : e ≤ L) (so be va go : Int32) (w : Int64) (J : Ml) : Mt sx MX4_advance [.ref 43] (mdT I so be (nI e) va go) (jW J w) (fun r I' J' => mT B L I e go = I' ∧ jW J (weE B L e) = J' ∧ r = none) := by
  have hSb := tSt_b (B := B) he
  refine Mt.of2 _ rfl (by decide +kernel) (Nat.le_of_ble_eq_true rfl) ?_
  refine GW.run kX4_advance (fun pc => Nat.beq pc 8) 172 0 rfl ?_
  refine GW.eqI md_6 (l_av1 sx B L hL1 hr I hL hB so (nI e) va go (tSt B L e) (jW J w) _ ?_ (L - e) e (by omega) rfl)
  refine GW.run kX4_advance (fun pc => Nat.beq pc 126) 172 17 rfl ?_
  refine Mt.conseq (Mt.eqI md_7 (m_byt _ B L hL1 hr (mdT I so (nI (tSt B L e)) (nI (tSt B L e)) va go) hL hB (tSt B L e) (by omega) _)) ?_
  rintro _ _ _ ⟨rfl, rfl, rfl⟩
  refine And.intro (fun h2 => ?_) (fun h2 => ?_)
  · -- pc 53 .ifCond .ge 7: yes
    refine Mt.conseq (m_isLetter _ _ _ _) ?_
    rintro _ _ _ ⟨rfl, rfl, ⟨h3, rfl⟩ | ⟨h3, rfl⟩⟩
    · -- pc 61 call X4_isLetter true
      refine And.intro (fun hh => absurd hh (by decide)) (fun _ => ?_)
      refine And.intro (fun _ => ?_) (fun hh => absurd hh (show ¬ (1 : Int32) = 2 by decide))
      refine And.intro (fun _ => ?_) (fun hh => absurd hh (show ¬ (1 : Int32) = 3 by decide))
      have hw0 := jW_set (J := J) (w := w) (v := 0)
      have hlt : tSt B L e < L := Decidable.byContradiction fun z => by
        have q : 0 ≤ btA B L (tSt B L e) := h2
        rw [btA, if_neg z] at q
        exact absurd q (by decide)
      have hbt : btA B L (tSt B L e) = B (tSt B L e) := if_pos hlt
      have hnl : ¬ L ≤ tSt B L e := by omega
      have n0 : tb (B (tSt B L e)) = 0 := tb0.mpr (by have z := h3; rw [hbt] at z; exact z)
      have hk : tK B L e = 0 := by rw [tK, if_neg hnl]; exact n0
      have hE : rn B 0 (L - tSt B L e) (tSt B L e) = tE B L e := by
        rw [tE, if_neg hnl, if_pos (Or.inl n0), n0, show L - tSt B L e = (L - (tSt B L e + 1)) + 1 by omega, rn, if_pos n0]
      refine GW.eqIJ (show na_set (na_set (mdT I so (nI (tSt B L e)) (nI (tSt B L e)) va go) 43 5 1) 43 9 (btA B L (tSt B L e)) = mdT I 1 (nI (tSt B L e)) (nI (tSt B L e + 0)) (B (tSt B L e)) go by rw [md_5, md_9, hbt]; rfl) hw0 ?_
      refine GW.weak (l_avB sx B L hL1 hr I hL hB (B (tSt B L e)) go (tSt B L e) (L - tSt B L e) (by omega) (tE B L e) J _ ?_ (L - tSt B L e) 0 (by omega) hE) ⟨rfl, trivial⟩
      refine GW.run kX4_advance (fun _ => false) 172 105 rfl ?_
      refine And.intro (fun _ => ?_) (fun hh => absurd hh (show ¬ (1 : Int32) = 2 by decide))
      refine ⟨?_, ?_, rfl⟩
      · rw [mT, vaE, hk]
        rfl
      · rw [weE, hk]
        rfl
    · -- pc 61 call X4_isLetter false
      refine And.intro (fun _ => ?_) (fun hh => absurd hh (by decide))
      refine Mt.conseq (m_isDigit _ _ _ _) ?_
      rintro _ _ _ ⟨rfl, rfl, ⟨h4, rfl⟩ | ⟨h4, rfl⟩⟩
      · -- pc 72 call X4_isDigit true
        refine And.intro (fun hh => absurd hh (by decide)) (fun _ => ?_)
        refine And.intro (fun hh => absurd (show (2 : Int32) = 2 from rfl) hh) (fun _ => ?_)
        refine And.intro (fun _ => ?_) (fun hh => absurd hh (show ¬ (2 : Int32) = 3 by decide))
        have hw0 := jW_set (J := J) (w := w) (v := 0)
        have hlt : tSt B L e < L := Decidable.byContradiction fun z => by
          have q : 0 ≤ btA B L (tSt B L e) := h2
          rw [btA, if_neg z] at q
          exact absurd q (by decide)
        have hbt : btA B L (tSt B L e) = B (tSt B L e) := if_pos hlt
        have hnl : ¬ L ≤ tSt B L e := by omega
        have n1 : tb (B (tSt B L e)) = 1 := tb1.mpr (by have z := h4; rw [hbt] at z; exact z)
        have hk : tK B L e = 1 := by rw [tK, if_neg hnl]; exact n1
        have hE : rn B 1 (L - tSt B L e) (tSt B L e) = tE B L e := by
          rw [tE, if_neg hnl, if_pos (Or.inr n1), n1, show L - tSt B L e = (L - (tSt B L e + 1)) + 1 by omega, rn, if_pos n1]
        refine GW.eqIJ (show na_set (na_set (mdT I so (nI (tSt B L e)) (nI (tSt B L e)) va go) 43 5 2) 43 9 0 = mdT I 2 (nI (tSt B L e)) (nI (tSt B L e + 0)) (nmV B (tSt B L e) 0) go by rw [md_5, md_9]; rfl) hw0 ?_
        refine GW.run kX4_advance (fun pc => Nat.beq pc 207) 172 65 rfl ?_
        refine And.intro (fun _ => ?_) (fun hh => absurd hh (show ¬ (2 : Int32) = 1 by decide))
        refine GW.weak (l_avC sx B L hL1 hr I hL hB go (tSt B L e) (L - tSt B L e) (by omega) (tE B L e) _ _ ?_ (L - tSt B L e) 0 (by omega) (show rg 0 10000 (0 : Int32) from ⟨by decide, by decide⟩) hE) ⟨rfl, trivial⟩
        refine ⟨?_, ?_, rfl⟩
        · rw [mT, vaE, hk]
          rfl
        · rw [weE, hk]
          rfl
      · -- pc 72 call X4_isDigit false
        refine And.intro (fun _ => ?_) (fun hh => absurd hh (by decide))
        refine And.intro (fun _ => ?_) (fun hh => absurd hh (show ¬ (3 : Int32) = 2 by decide))
        refine And.intro (fun hh => absurd (show (3 : Int32) = 3 from rfl) hh) (fun _ => ?_)
        have hw0 := jW_set (J := J) (w := w) (v := 0)
        have hlt : tSt B L e < L := Decidable.byContradiction fun z => by
          have q : 0 ≤ btA B L (tSt B L e) := h2
          rw [btA, if_neg z] at q
          exact absurd q (by decide)
        have hbt : btA B L (tSt B L e) = B (tSt B L e) := if_pos hlt
        have hnl : ¬ L ≤ tSt B L e := by omega
        have n0 : ¬ tb (B (tSt B L e)) = 0 := fun z => h3 (by rw [hbt]; exact tb0.mp z)
        have n1 : ¬ tb (B (tSt B L e)) = 1 := fun z => h4 (by rw [hbt]; exact tb1.mp z)
        have hk : tK B L e = tb (B (tSt B L e)) := by rw [tK, if_neg hnl]
        have n3 : ¬ tb (B (tSt B L e)) = 3 := by unfold tb; split; · decide
                                                 split; · decide
                                                 split <;> decide
        refine GW.eqIJ (show na_set (na_set (na_set (mdT I so (nI (tSt B L e)) (nI (tSt B L e)) va go) 43 5 3) 43 9 (btA B L (tSt B L e))) 43 7 (nI (tSt B L e) + 1) = mdT I 3 (nI (tSt B L e)) (nI (tSt B L e + 1)) (B (tSt B L e)) go by rw [md_5, md_9, md_7, hbt, nI_1]) hw0 ?_
        refine GW.run kX4_advance (fun _ => false) 172 65 rfl ?_
        refine And.intro (fun _ => ?_) (fun hh => absurd hh (show ¬ (3 : Int32) = 1 by decide))
        refine And.intro (fun _ => ?_) (fun hh => absurd hh (show ¬ (3 : Int32) = 2 by decide))
        refine ⟨?_, ?_, rfl⟩
        · rw [mT, hk, tE, if_neg hnl, if_neg (fun z => z.elim n0 n1), vaE, hk, if_neg n1, if_neg n3, srtI, if_neg n0, if_neg n1, if_neg n3]
        · rw [weE, hk, if_neg n0]
  · -- pc 53 .ifCond .ge 7: no
    refine And.intro (fun _ => ?_) (fun hh => absurd hh (show ¬ (0 : Int32) = 2 by decide))
    refine And.intro (fun _ => ?_) (fun hh => absurd hh (show ¬ (0 : Int32) = 3 by decide))
    have hw0 := jW_set (J := J) (w := w) (v := 0)
    have hge : L ≤ tSt B L e := Nat.not_lt.mp fun z => by
      have q : ¬ 0 ≤ btA B L (tSt B L e) := h2
      rw [btA, if_pos z] at q
      have := (hr _ z).1
      rw [le_i, i0] at q
      omega
    have hbt : btA B L (tSt B L e) = -1 := if_neg (by omega)
    refine GW.eqIJ (show na_set (na_set (mdT I so (nI (tSt B L e)) (nI (tSt B L e)) va go) 43 5 0) 43 9 (btA B L (tSt B L e)) = mdT I 0 (nI (tSt B L e)) (nI (tSt B L e)) (btA B L (tSt B L e)) go by rw [md_5, md_9]) hw0 ?_
    refine GW.run kX4_advance (fun _ => false) 172 65 rfl ?_
    refine And.intro (fun _ => ?_) (fun hh => absurd hh (show ¬ (0 : Int32) = 1 by decide))
    refine And.intro (fun _ => ?_) (fun hh => absurd hh (show ¬ (0 : Int32) = 2 by decide))
    refine ⟨?_, ?_, rfl⟩
    · rw [mT, tK, if_pos hge, tE, if_pos hge, vaE, tK, if_pos hge, hbt]
      rfl
    · rw [weE, tK, if_pos hge]
      rfl
