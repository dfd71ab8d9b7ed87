/-! THE REFERENCE: its row f at place 44; the row as a night -/
def sR (f : Nat → Int32) (I : Mm) : Mm := fun a => bif Nat.beq a 44 then f else I a
theorem sR_44 {f : Nat → Int32} {I : Mm} : sR f I 44 = f := rfl
theorem sR_off {f : Nat → Int32} {I : Mm} {a : Nat} (h : a ≠ 44) : sR f I a = I a := by
  unfold sR
  rw [na_beqF h]
  rfl
theorem sR_self (I : Mm) : sR (I 44) I = I := by
  funext a
  by_cases h : a = 44
  · subst h; rfl
  · rw [sR_off h]
theorem sR_set {f : Nat → Int32} {I : Mm} {j : Nat} {v : Int32} : na_set (sR f I) 44 j v = sR (upd f j v) I := by
  funext a
  by_cases h : a = 44
  · subst h; rfl
  · rw [na_set_off h, sR_off h, sR_off h]
theorem sR_sR {f g : Nat → Int32} {I : Mm} : sR f (sR g I) = sR f I := by
  funext a
  by_cases h : a = 44
  · subst h; rfl
  · rw [sR_off h, sR_off h, sR_off h]
def vN (f : Nat → Int32) : Mm := fun k j => match k with
  | 0 => (match j with
    | 4 => f 2
    | 5 => f 1
    | 6 => f 0
    | 7 => f 3
    | _ => 0)
  | 1 => f (4 + 4 * j + 0)
  | 2 => f (4 + 4 * j + 1)
  | 3 => f (4 + 4 * j + 2)
  | 4 => f (4 + 4 * j + 3)
  | 5 => f (36 + 5 * j + 0)
  | 6 => f (36 + 5 * j + 1)
  | 7 => f (36 + 5 * j + 2)
  | 8 => f (36 + 5 * j + 3)
  | 9 => f (36 + 5 * j + 4)
  | _ => 0
theorem nI_mul (a b : Nat) : nI a * nI b = nI (a * b) := (Int32.ofNat_mul a b).symm
theorem ixP (p w : Nat) : (36 : Int32) + 5 * nI p + nI w = nI (36 + 5 * p + w) := by
  rw [show (36 : Int32) = nI 36 from rfl, show (5 : Int32) = nI 5 from rfl, nI_mul, nI_add, nI_add]
theorem ixR (r w : Nat) : (4 : Int32) + 4 * nI r + nI w = nI (4 + 4 * r + w) := by
  rw [show (4 : Int32) = nI 4 from rfl, nI_mul, nI_add, nI_add]
/-- what lies at most -/
def mx (v : Int32) : Int32 := if v ≤ 9999 then v else 9999
set_option maxRecDepth 100000 in
set_option maxHeartbeats 4000000 in
theorem m_its (sx : Nat × (Nat → Int32)) (p w : Nat) (hp : p < 8) (hw : w < 5) (x : Int32) (hx : x = nI w) (f : Nat → Int32) (I : Mm) (J : Ml) : Mt sx MX4_its [.ref 43, .int (nI p), .int x] (sR f I) J (na_v (sR f I) J (f (36 + 5 * p + w))) := by
  subst hx
  have e := ixP p w
  have hb : vp_in (36 + 5 * nI p + nI w) 76 := by rw [e]; exact vp_in_nI (by omega) (by omega)
  have hc := nI_clamp (n := 36 + 5 * p + w) (by omega)
  refine Mt.of2 _ rfl (by decide +kernel) (Nat.le_of_ble_eq_true rfl) ?_
  refine GW.run kX4_its (fun _ => false) 41 0 rfl ?_
  refine And.intro (hb) ?_
  exact ⟨trivial, rfl, rfl, by simp only [e, hc]; rfl⟩
set_option maxRecDepth 100000 in
set_option maxHeartbeats 4000000 in
theorem m_there (sx : Nat × (Nat → Int32)) (r w : Nat) (hr : r < 8) (hw : w < 4) (x : Int32) (hx : x = nI w) (f : Nat → Int32) (I : Mm) (J : Ml) : Mt sx MX4_there [.ref 43, .int (nI r), .int x] (sR f I) J (na_v (sR f I) J (f (4 + 4 * r + w))) := by
  subst hx
  have e := ixR r w
  have hb : vp_in (4 + 4 * nI r + nI w) 76 := by rw [e]; exact vp_in_nI (by omega) (by omega)
  have hc := nI_clamp (n := 4 + 4 * r + w) (by omega)
  refine Mt.of2 _ rfl (by decide +kernel) (Nat.le_of_ble_eq_true rfl) ?_
  refine GW.run kX4_there (fun _ => false) 41 0 rfl ?_
  refine And.intro (hb) ?_
  exact ⟨trivial, rfl, rfl, by simp only [e, hc]; rfl⟩
set_option maxRecDepth 100000 in
set_option maxHeartbeats 4000000 in
theorem m_puts (sx : Nat × (Nat → Int32)) (v : Int32) (p w : Nat) (hp : p < 8) (hw : w < 5) (x : Int32) (hx : x = nI w) (f : Nat → Int32) (I : Mm) (J : Ml) : Mt sx MX4_puts [.ref 43, .int (nI p), .int x, .int v] (sR f I) J (fun r I' J' => sR (upd f (36 + 5 * p + w) v) I = I' ∧ J = J' ∧ r = none) := by
  subst hx
  have e := ixP p w
  have hb : vp_in (36 + 5 * nI p + nI w) 76 := by rw [e]; exact vp_in_nI (by omega) (by omega)
  have hc := nI_clamp (n := 36 + 5 * p + w) (by omega)
  refine Mt.of2 _ rfl (by decide +kernel) (Nat.le_of_ble_eq_true rfl) ?_
  refine GW.run kX4_puts (fun _ => false) 42 0 rfl ?_
  refine And.intro (hb) ?_
  exact ⟨by simp only [e, hc]; exact sR_set.symm, rfl, rfl⟩
set_option maxRecDepth 100000 in
set_option maxHeartbeats 4000000 in
theorem m_lies (sx : Nat × (Nat → Int32)) (v : Int32) (r w : Nat) (hr : r < 8) (hw : w < 4) (x : Int32) (hx : x = nI w) (f : Nat → Int32) (I : Mm) (J : Ml) : Mt sx MX4_lies [.ref 43, .int (nI r), .int x, .int v] (sR f I) J (fun r' I' J' => sR (upd f (4 + 4 * r + w) (mx v)) I = I' ∧ J = J' ∧ r' = none) := by
  subst hx
  have e := ixR r w
  have hb : vp_in (4 + 4 * nI r + nI w) 76 := by rw [e]; exact vp_in_nI (by omega) (by omega)
  have hc := nI_clamp (n := 4 + 4 * r + w) (by omega)
  refine Mt.of2 _ rfl (by decide +kernel) (Nat.le_of_ble_eq_true rfl) ?_
  refine GW.run kX4_lies (fun _ => false) 47 0 rfl ?_
  refine And.intro (fun h1 => ?_) (fun h1 => ?_)
  · -- pc 15 .if_icmp .le 9: yes
    refine And.intro (hb) ?_
    exact ⟨by rw [mx, if_pos h1]; simp only [e, hc]; exact sR_set.symm, rfl, rfl⟩
  · -- pc 15 .if_icmp .le 9: no
    refine And.intro (hb) ?_
    exact ⟨by rw [mx, if_neg h1]; simp only [e, hc]; exact sR_set.symm, rfl, rfl⟩
set_option maxRecDepth 100000 in
set_option maxHeartbeats 4000000 in
theorem m_isOne (sx : Nat × (Nat → Int32)) (v : Int32) (f : Nat → Int32) (I : Mm) (J : Ml) : Mt sx MX4_isOne [.ref 43, .int v] (sR f I) J (na_b (sR f I) J (0 ≤ v ∧ v ≤ f 3 - 1)) := by
  refine Mt.of2 _ rfl (by decide +kernel) (Nat.le_of_ble_eq_true rfl) ?_
  refine GW.run kX4_isOne (fun _ => false) 40 0 rfl ?_
  refine And.intro (by unfold vp_in; decide) ?_
  refine Mt.conseq (m_in _ _ _ _ _ _) ?_
  rintro _ _ _ ⟨rfl, rfl, ⟨h1, rfl⟩ | ⟨h1, rfl⟩⟩
  · -- pc 10 call X4_in true
    exact ⟨na_nl_b1, rfl, rfl, Or.inl ⟨h1, rfl⟩⟩
  · -- pc 10 call X4_in false
    exact ⟨na_nl_b0, rfl, rfl, Or.inr ⟨h1, rfl⟩⟩
def fnM (I : Mm) (f : Nat) : Mm := na_set I 45 f (I 45 f + 1)
set_option maxRecDepth 100000 in
set_option maxHeartbeats 4000000 in
theorem m_fnd0 (sx : Nat × (Nat → Int32)) (I : Mm) (J : Ml) : Mt sx MX4_finds [.ref 43, .int (-1000000001)] I J (fun r I' J' => fnM I 0 = I' ∧ J = J' ∧ r = some (.int (-1000000001))) := by
  refine Mt.of2 _ rfl (by decide +kernel) (Nat.le_of_ble_eq_true rfl) ?_
  refine GW.run kX4_finds (fun _ => false) 42 0 rfl ?_
  refine And.intro (by unfold vp_in; decide) ?_
  refine And.intro (by unfold vp_in; decide) ?_
  exact ⟨trivial, rfl, rfl, rfl⟩
set_option maxRecDepth 100000 in
set_option maxHeartbeats 4000000 in
theorem m_fnd1 (sx : Nat × (Nat → Int32)) (I : Mm) (J : Ml) : Mt sx MX4_finds [.ref 43, .int (-1000000002)] I J (fun r I' J' => fnM I 1 = I' ∧ J = J' ∧ r = some (.int (-1000000002))) := by
  refine Mt.of2 _ rfl (by decide +kernel) (Nat.le_of_ble_eq_true rfl) ?_
  refine GW.run kX4_finds (fun _ => false) 42 0 rfl ?_
  refine And.intro (by unfold vp_in; decide) ?_
  refine And.intro (by unfold vp_in; decide) ?_
  exact ⟨trivial, rfl, rfl, rfl⟩
set_option maxRecDepth 100000 in
set_option maxHeartbeats 4000000 in
theorem m_fnd2 (sx : Nat × (Nat → Int32)) (I : Mm) (J : Ml) : Mt sx MX4_finds [.ref 43, .int (-1000000003)] I J (fun r I' J' => fnM I 2 = I' ∧ J = J' ∧ r = some (.int (-1000000003))) := by
  refine Mt.of2 _ rfl (by decide +kernel) (Nat.le_of_ble_eq_true rfl) ?_
  refine GW.run kX4_finds (fun _ => false) 42 0 rfl ?_
  refine And.intro (by unfold vp_in; decide) ?_
  refine And.intro (by unfold vp_in; decide) ?_
  exact ⟨trivial, rfl, rfl, rfl⟩
set_option maxRecDepth 100000 in
set_option maxHeartbeats 4000000 in
theorem m_fnd3 (sx : Nat × (Nat → Int32)) (I : Mm) (J : Ml) : Mt sx MX4_finds [.ref 43, .int (-1000000004)] I J (fun r I' J' => fnM I 3 = I' ∧ J = J' ∧ r = some (.int (-1000000004))) := by
  refine Mt.of2 _ rfl (by decide +kernel) (Nat.le_of_ble_eq_true rfl) ?_
  refine GW.run kX4_finds (fun _ => false) 42 0 rfl ?_
  refine And.intro (by unfold vp_in; decide) ?_
  refine And.intro (by unfold vp_in; decide) ?_
  exact ⟨trivial, rfl, rfl, rfl⟩
set_option maxRecDepth 100000 in
set_option maxHeartbeats 4000000 in
theorem m_fnd4 (sx : Nat × (Nat → Int32)) (I : Mm) (J : Ml) : Mt sx MX4_finds [.ref 43, .int (-1000000005)] I J (fun r I' J' => fnM I 4 = I' ∧ J = J' ∧ r = some (.int (-1000000005))) := by
  refine Mt.of2 _ rfl (by decide +kernel) (Nat.le_of_ble_eq_true rfl) ?_
  refine GW.run kX4_finds (fun _ => false) 42 0 rfl ?_
  refine And.intro (by unfold vp_in; decide) ?_
  refine And.intro (by unfold vp_in; decide) ?_
  exact ⟨trivial, rfl, rfl, rfl⟩
set_option maxRecDepth 100000 in
set_option maxHeartbeats 4000000 in
theorem m_fnd5 (sx : Nat × (Nat → Int32)) (I : Mm) (J : Ml) : Mt sx MX4_finds [.ref 43, .int (-1000000006)] I J (fun r I' J' => fnM I 5 = I' ∧ J = J' ∧ r = some (.int (-1000000006))) := by
  refine Mt.of2 _ rfl (by decide +kernel) (Nat.le_of_ble_eq_true rfl) ?_
  refine GW.run kX4_finds (fun _ => false) 42 0 rfl ?_
  refine And.intro (by unfold vp_in; decide) ?_
  refine And.intro (by unfold vp_in; decide) ?_
  exact ⟨trivial, rfl, rfl, rfl⟩
set_option maxRecDepth 100000 in
set_option maxHeartbeats 4000000 in
theorem m_fnd6 (sx : Nat × (Nat → Int32)) (I : Mm) (J : Ml) : Mt sx MX4_finds [.ref 43, .int (-1000000007)] I J (fun r I' J' => fnM I 6 = I' ∧ J = J' ∧ r = some (.int (-1000000007))) := by
  refine Mt.of2 _ rfl (by decide +kernel) (Nat.le_of_ble_eq_true rfl) ?_
  refine GW.run kX4_finds (fun _ => false) 42 0 rfl ?_
  refine And.intro (by unfold vp_in; decide) ?_
  refine And.intro (by unfold vp_in; decide) ?_
  exact ⟨trivial, rfl, rfl, rfl⟩
def btM (set : Int32) : Nat → Int32
  | 0 => 0
  | k + 1 => btM set k + ((set >>> (nI k &&& 31)) &&& 1)
set_option maxRecDepth 100000 in
set_option maxHeartbeats 4000000 in
theorem l_bits (sx : Nat × (Nat → Int32)) (set : Int32) (I : Mm) (J : Ml) (Rt : Option Value → Mm → Ml → Prop) (hR : Rt (some (.int (btM set 8))) I J) : ∀ m n, n + m = 8 → GW sx (na_mi MX4_bits) Rt 4 [some (.int set), some (.int (btM set n)), some (.int (nI n))] [] I J := by
  intro m
  induction m with
  | zero =>
    intro n hn
    obtain rfl : n = 8 := by omega
    have hz : (8 : Int32) ≤ nI 8 := by decide
    refine GW.run kX4_bits (fun pc => Nat.beq pc 4) 49 4 rfl ?_
    refine And.intro (fun _ => ?_) (fun hh => absurd hz hh)
    exact ⟨trivial, hR⟩
  | succ m ih =>
    intro n hn
    have hz : ¬ (8 : Int32) ≤ nI n := nI_ge (a := n) (b := 8) (by omega) (by omega)
    have hb : vp_in (nI n) 8 := vp_in_nI (by omega) (by omega)
    have hc := nI_clamp (n := n) (by omega)
    have ih := ih (n + 1) (by omega)
    refine GW.run kX4_bits (fun pc => Nat.beq pc 4) 49 4 rfl ?_
    refine And.intro (fun hh => absurd hh hz) (fun _ => ?_)
    exact GW.weak ih ⟨rfl, rfl, by rw [nI_1], trivial⟩
set_option maxRecDepth 100000 in
set_option maxHeartbeats 4000000 in
theorem m_bits (sx : Nat × (Nat → Int32)) (set : Int32) (I : Mm) (J : Ml) : Mt sx MX4_bits [.int set] I J (na_v I J (btM set 8)) := by
  refine Mt.of2 _ rfl (by decide +kernel) (Nat.le_of_ble_eq_true rfl) ?_
  refine GW.run kX4_bits (fun pc => Nat.beq pc 4) 49 0 rfl ?_
  exact l_bits sx set I J _ ⟨rfl, rfl, rfl⟩ 8 0 rfl
