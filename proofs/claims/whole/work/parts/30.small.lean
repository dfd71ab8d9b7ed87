/-! SMALL METHODS -/
def na_pad : Nat → Lo → Lo
  | 0, ls => ls
  | n + 1, [] => none :: na_pad n []
  | n + 1, x :: r => x :: na_pad n r
theorem na_le_refl : ∀ a : Lo, na_le a a
  | [] => trivial
  | none :: a => na_le_refl a
  | some v :: a => ⟨rfl, na_le_refl a⟩
theorem na_le_pad : ∀ (n : Nat) (a : Lo), na_le (na_pad n a) a
  | 0, a => na_le_refl a
  | n + 1, [] => na_le_pad n []
  | n + 1, none :: a => na_le_pad n a
  | n + 1, some v :: a => ⟨rfl, na_le_pad n a⟩
theorem Mt.of2 {sx : Nat × (Nat → Int32)} {j : Nat} (q : MI) (hq : na_mi j = q) (hpn : plainName q.1.cls = true) {av : List Value} {I : Mm} {J : Ml} {Post : Option Value → Mm → Ml → Prop} (hct : na_ct av ≤ q.2.2.1) (h : GW sx q Post 0 (na_pad q.2.2.1 (na_ent av)) [] I J) : Mt sx j av I J Post :=
  Mt.of q hq hpn hct (h.weak (na_le_pad _ _))
def na_b (I : Mm) (J : Ml) (c : Prop) : Option Value → Mm → Ml → Prop := fun r I' J' => I = I' ∧ J = J' ∧ ((c ∧ r = some (.int 1)) ∨ (¬ c ∧ r = some (.int 0)))
def na_v (I : Mm) (J : Ml) (v : Int32) : Option Value → Mm → Ml → Prop := fun r I' J' => I = I' ∧ J = J' ∧ r = some (.int v)
/-- the same memory, an answer -/
abbrev hasP (set k : Int32) : Prop := (set >>> (k &&& 31)) &&& 1 = 1
abbrev outP (v a b : Int32) : Prop := v < a ∨ b < v
theorem na_nl_b1 : na_nl .boolean 1 := rfl
theorem na_nl_b0 : na_nl .boolean 0 := rfl
/-- the first n numbers together -/
def sumI (f : Nat → Int32) : Nat → Int32
  | 0 => 0
  | n + 1 => sumI f n + f n
set_option maxRecDepth 100000 in
set_option maxHeartbeats 4000000 in
theorem c_outside (sx : Nat × (Nat → Int32)) (v a b : Int32) (I : Mm) (J : Ml) : Mt sx MX3_outside [.int v, .int a, .int b] I J (na_b I J (outP v a b)) := by
  refine Mt.of2 _ rfl (by decide +kernel) (Nat.le_of_ble_eq_true rfl) ?_
  refine GW.run kX3_outside (fun _ => false) 40 0 rfl ?_
  refine And.intro (fun h1 => ?_) (fun h1 => ?_)
  · -- pc 2 .if_icmp .lt 8: yes
    exact ⟨na_nl_b1, rfl, rfl, Or.inl ⟨Or.inl h1, rfl⟩⟩
  · -- pc 2 .if_icmp .lt 8: no
    refine And.intro (fun h2 => ?_) (fun h2 => ?_)
    · -- pc 7 .if_icmp .le 7: yes
      exact ⟨na_nl_b0, rfl, rfl, Or.inr ⟨fun q => q.elim h1 (fun q => absurd h2 (Int32.not_le.mpr q)), rfl⟩⟩
    · -- pc 7 .if_icmp .le 7: no
      exact ⟨na_nl_b1, rfl, rfl, Or.inl ⟨Or.inr (Int32.not_le.mp h2), rfl⟩⟩
set_option maxRecDepth 100000 in
set_option maxHeartbeats 4000000 in
theorem c_noRoom (sx : Nat × (Nat → Int32)) (v : Int32) (I : Mm) (J : Ml) : Mt sx MX3_noRoom [.int v] I J (na_b I J (outP v 0 7)) := by
  refine Mt.of2 _ rfl (by decide +kernel) (Nat.le_of_ble_eq_true rfl) ?_
  refine GW.run kX3_noRoom (fun _ => false) 35 0 rfl ?_
  refine Mt.conseq (c_outside _ _ _ _ _ _) ?_
  rintro _ _ _ ⟨rfl, rfl, ⟨h1, rfl⟩ | ⟨h1, rfl⟩⟩
  · -- pc 4 call X3_outside true
    exact ⟨na_nl_b1, rfl, rfl, Or.inl ⟨h1, rfl⟩⟩
  · -- pc 4 call X3_outside false
    exact ⟨na_nl_b0, rfl, rfl, Or.inr ⟨h1, rfl⟩⟩
set_option maxRecDepth 100000 in
set_option maxHeartbeats 4000000 in
theorem c_noKind (sx : Nat × (Nat → Int32)) (v : Int32) (I : Mm) (J : Ml) : Mt sx MX3_noKind [.int v] I J (na_b I J (outP v 0 5)) := by
  refine Mt.of2 _ rfl (by decide +kernel) (Nat.le_of_ble_eq_true rfl) ?_
  refine GW.run kX3_noKind (fun _ => false) 35 0 rfl ?_
  refine Mt.conseq (c_outside _ _ _ _ _ _) ?_
  rintro _ _ _ ⟨rfl, rfl, ⟨h1, rfl⟩ | ⟨h1, rfl⟩⟩
  · -- pc 3 call X3_outside true
    exact ⟨na_nl_b1, rfl, rfl, Or.inl ⟨h1, rfl⟩⟩
  · -- pc 3 call X3_outside false
    exact ⟨na_nl_b0, rfl, rfl, Or.inr ⟨h1, rfl⟩⟩
set_option maxRecDepth 100000 in
set_option maxHeartbeats 4000000 in
theorem c_noSheet (sx : Nat × (Nat → Int32)) (v : Int32) (I : Mm) (J : Ml) : Mt sx MX3_noSheet [.int v] I J (na_b I J (outP v 0 3)) := by
  refine Mt.of2 _ rfl (by decide +kernel) (Nat.le_of_ble_eq_true rfl) ?_
  refine GW.run kX3_noSheet (fun _ => false) 35 0 rfl ?_
  refine Mt.conseq (c_outside _ _ _ _ _ _) ?_
  rintro _ _ _ ⟨rfl, rfl, ⟨h1, rfl⟩ | ⟨h1, rfl⟩⟩
  · -- pc 3 call X3_outside true
    exact ⟨na_nl_b1, rfl, rfl, Or.inl ⟨h1, rfl⟩⟩
  · -- pc 3 call X3_outside false
    exact ⟨na_nl_b0, rfl, rfl, Or.inr ⟨h1, rfl⟩⟩
set_option maxRecDepth 100000 in
set_option maxHeartbeats 4000000 in
theorem c_has (sx : Nat × (Nat → Int32)) (v a : Int32) (I : Mm) (J : Ml) : Mt sx MX3_has [.int v, .int a] I J (na_b I J (hasP v a)) := by
  refine Mt.of2 _ rfl (by decide +kernel) (Nat.le_of_ble_eq_true rfl) ?_
  refine GW.run kX3_has (fun _ => false) 41 0 rfl ?_
  refine And.intro (fun h1 => ?_) (fun h1 => ?_)
  · -- pc 6 .if_icmp .ne 7: yes
    exact ⟨na_nl_b0, rfl, rfl, Or.inr ⟨h1, rfl⟩⟩
  · -- pc 6 .if_icmp .ne 7: no
    exact ⟨na_nl_b1, rfl, rfl, Or.inl ⟨h1, rfl⟩⟩
set_option maxRecDepth 100000 in
set_option maxHeartbeats 4000000 in
theorem m_has (sx : Nat × (Nat → Int32)) (v a : Int32) (I : Mm) (J : Ml) : Mt sx MX4_has [.int v, .int a] I J (na_b I J (hasP v a)) := by
  refine Mt.of2 _ rfl (by decide +kernel) (Nat.le_of_ble_eq_true rfl) ?_
  refine GW.run kX4_has (fun _ => false) 41 0 rfl ?_
  refine And.intro (fun h1 => ?_) (fun h1 => ?_)
  · -- pc 6 .if_icmp .ne 7: yes
    exact ⟨na_nl_b0, rfl, rfl, Or.inr ⟨h1, rfl⟩⟩
  · -- pc 6 .if_icmp .ne 7: no
    exact ⟨na_nl_b1, rfl, rfl, Or.inl ⟨h1, rfl⟩⟩
set_option maxRecDepth 100000 in
set_option maxHeartbeats 4000000 in
theorem m_in (sx : Nat × (Nat → Int32)) (v a b : Int32) (I : Mm) (J : Ml) : Mt sx MX4_in [.int v, .int a, .int b] I J (na_b I J (a ≤ v ∧ v ≤ b)) := by
  refine Mt.of2 _ rfl (by decide +kernel) (Nat.le_of_ble_eq_true rfl) ?_
  refine GW.run kX4_in (fun _ => false) 40 0 rfl ?_
  refine And.intro (fun h1 => ?_) (fun h1 => ?_)
  · -- pc 2 .if_icmp .lt 12: yes
    exact ⟨na_nl_b0, rfl, rfl, Or.inr ⟨fun q => absurd h1 (Int32.not_lt.mpr q.1), rfl⟩⟩
  · -- pc 2 .if_icmp .lt 12: no
    refine And.intro (fun h2 => ?_) (fun h2 => ?_)
    · -- pc 7 .if_icmp .gt 7: yes
      exact ⟨na_nl_b0, rfl, rfl, Or.inr ⟨fun q => absurd h2 (Int32.not_lt.mpr q.2), rfl⟩⟩
    · -- pc 7 .if_icmp .gt 7: no
      exact ⟨na_nl_b1, rfl, rfl, Or.inl ⟨⟨Int32.not_lt.mp h1, Int32.not_lt.mp h2⟩, rfl⟩⟩
set_option maxRecDepth 100000 in
set_option maxHeartbeats 4000000 in
theorem m_isRoom (sx : Nat × (Nat → Int32)) (v : Int32) (I : Mm) (J : Ml) : Mt sx MX4_isRoom [.int v] I J (na_b I J (0 ≤ v ∧ v ≤ 7)) := by
  refine Mt.of2 _ rfl (by decide +kernel) (Nat.le_of_ble_eq_true rfl) ?_
  refine GW.run kX4_isRoom (fun _ => false) 35 0 rfl ?_
  refine Mt.conseq (m_in _ _ _ _ _ _) ?_
  rintro _ _ _ ⟨rfl, rfl, ⟨h1, rfl⟩ | ⟨h1, rfl⟩⟩
  · -- pc 4 call X4_in true
    exact ⟨na_nl_b1, rfl, rfl, Or.inl ⟨h1, rfl⟩⟩
  · -- pc 4 call X4_in false
    exact ⟨na_nl_b0, rfl, rfl, Or.inr ⟨h1, rfl⟩⟩
set_option maxRecDepth 100000 in
set_option maxHeartbeats 4000000 in
theorem m_isKind (sx : Nat × (Nat → Int32)) (v : Int32) (I : Mm) (J : Ml) : Mt sx MX4_isKind [.int v] I J (na_b I J (0 ≤ v ∧ v ≤ 5)) := by
  refine Mt.of2 _ rfl (by decide +kernel) (Nat.le_of_ble_eq_true rfl) ?_
  refine GW.run kX4_isKind (fun _ => false) 35 0 rfl ?_
  refine Mt.conseq (m_in _ _ _ _ _ _) ?_
  rintro _ _ _ ⟨rfl, rfl, ⟨h1, rfl⟩ | ⟨h1, rfl⟩⟩
  · -- pc 3 call X4_in true
    exact ⟨na_nl_b1, rfl, rfl, Or.inl ⟨h1, rfl⟩⟩
  · -- pc 3 call X4_in false
    exact ⟨na_nl_b0, rfl, rfl, Or.inr ⟨h1, rfl⟩⟩
set_option maxRecDepth 100000 in
set_option maxHeartbeats 4000000 in
theorem m_isSpan (sx : Nat × (Nat → Int32)) (v : Int32) (I : Mm) (J : Ml) : Mt sx MX4_isSpan [.int v] I J (na_b I J (0 ≤ v ∧ v ≤ 40)) := by
  refine Mt.of2 _ rfl (by decide +kernel) (Nat.le_of_ble_eq_true rfl) ?_
  refine GW.run kX4_isSpan (fun _ => false) 35 0 rfl ?_
  refine Mt.conseq (m_in _ _ _ _ _ _) ?_
  rintro _ _ _ ⟨rfl, rfl, ⟨h1, rfl⟩ | ⟨h1, rfl⟩⟩
  · -- pc 4 call X4_in true
    exact ⟨na_nl_b1, rfl, rfl, Or.inl ⟨h1, rfl⟩⟩
  · -- pc 4 call X4_in false
    exact ⟨na_nl_b0, rfl, rfl, Or.inr ⟨h1, rfl⟩⟩
set_option maxRecDepth 100000 in
set_option maxHeartbeats 4000000 in
theorem m_isSheet (sx : Nat × (Nat → Int32)) (v : Int32) (I : Mm) (J : Ml) : Mt sx MX4_isSheet [.int v] I J (na_b I J (0 ≤ v ∧ v ≤ 3)) := by
  refine Mt.of2 _ rfl (by decide +kernel) (Nat.le_of_ble_eq_true rfl) ?_
  refine GW.run kX4_isSheet (fun _ => false) 35 0 rfl ?_
  refine Mt.conseq (m_in _ _ _ _ _ _) ?_
  rintro _ _ _ ⟨rfl, rfl, ⟨h1, rfl⟩ | ⟨h1, rfl⟩⟩
  · -- pc 3 call X4_in true
    exact ⟨na_nl_b1, rfl, rfl, Or.inl ⟨h1, rfl⟩⟩
  · -- pc 3 call X4_in false
    exact ⟨na_nl_b0, rfl, rfl, Or.inr ⟨h1, rfl⟩⟩
set_option maxRecDepth 100000 in
set_option maxHeartbeats 4000000 in
theorem m_isLetter (sx : Nat × (Nat → Int32)) (v : Int32) (I : Mm) (J : Ml) : Mt sx MX4_isLetter [.int v] I J (na_b I J (97 ≤ v ∧ v ≤ 122)) := by
  refine Mt.of2 _ rfl (by decide +kernel) (Nat.le_of_ble_eq_true rfl) ?_
  refine GW.run kX4_isLetter (fun _ => false) 35 0 rfl ?_
  refine Mt.conseq (m_in _ _ _ _ _ _) ?_
  rintro _ _ _ ⟨rfl, rfl, ⟨h1, rfl⟩ | ⟨h1, rfl⟩⟩
  · -- pc 5 call X4_in true
    exact ⟨na_nl_b1, rfl, rfl, Or.inl ⟨h1, rfl⟩⟩
  · -- pc 5 call X4_in false
    exact ⟨na_nl_b0, rfl, rfl, Or.inr ⟨h1, rfl⟩⟩
set_option maxRecDepth 100000 in
set_option maxHeartbeats 4000000 in
theorem m_isDigit (sx : Nat × (Nat → Int32)) (v : Int32) (I : Mm) (J : Ml) : Mt sx MX4_isDigit [.int v] I J (na_b I J (48 ≤ v ∧ v ≤ 57)) := by
  refine Mt.of2 _ rfl (by decide +kernel) (Nat.le_of_ble_eq_true rfl) ?_
  refine GW.run kX4_isDigit (fun _ => false) 35 0 rfl ?_
  refine Mt.conseq (m_in _ _ _ _ _ _) ?_
  rintro _ _ _ ⟨rfl, rfl, ⟨h1, rfl⟩ | ⟨h1, rfl⟩⟩
  · -- pc 5 call X4_in true
    exact ⟨na_nl_b1, rfl, rfl, Or.inl ⟨h1, rfl⟩⟩
  · -- pc 5 call X4_in false
    exact ⟨na_nl_b0, rfl, rfl, Or.inr ⟨h1, rfl⟩⟩
