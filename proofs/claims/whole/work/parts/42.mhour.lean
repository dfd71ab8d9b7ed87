/-! THE REFERENCE: an hour -/
/-- what the reference's own acts do to its row -/
def frM (f : Nat → Int32) (r : Nat) : Nat → Int32 :=
  let q := f (4 + 4 * r + 0) * (9 - f (4 + 4 * r + 3)) / 20
  let g := upd f (4 + 4 * r + 1) (mx (f (4 + 4 * r + 1) + q))
  upd g (4 + 4 * r + 0) (mx (g (4 + 4 * r + 0) - q))
def thM (f : Nat → Int32) (r : Nat) : Nat → Int32 :=
  let q := if f (4 + 4 * r + 1) ≤ f (4 + 4 * r + 2) then f (4 + 4 * r + 1) else f (4 + 4 * r + 2)
  let g := upd f (4 + 4 * r + 1) (mx (f (4 + 4 * r + 1) - q))
  upd g (4 + 4 * r + 0) (mx (g (4 + 4 * r + 0) + q))
def drM (f : Nat → Int32) (d : Nat) : Nat → Int32 :=
  let more := f (4 + 4 * d + 0) - f (4 + 4 * (d + 1) + 0)
  let q := if 0 ≤ more then more / 4 else -(-more / 4)
  let g := upd f (4 + 4 * d + 0) (mx (f (4 + 4 * d + 0) - q))
  upd g (4 + 4 * (d + 1) + 0) (mx (g (4 + 4 * (d + 1) + 0) + q))
def bhM (P : Nat) (f : Nat → Int32) (p : Nat) : Nat → Int32 :=
  let r := (f (36 + 5 * p + 1)).toNatClampNeg
  let t := brt (vN f) P p
  let air := f (4 + 4 * r + 0)
  let g := upd f (4 + 4 * r + 0) (mx (if t ≤ air then air - t else 0))
  let h := if t ≤ air then g else upd g (36 + 5 * p + 4) 1
  upd h (36 + 5 * p + 3) (if 999 ≤ h (36 + 5 * p + 3) then 999 else h (36 + 5 * p + 3) + 1)
set_option maxRecDepth 100000 in
set_option maxHeartbeats 4000000 in
theorem m_frz (sx : Nat × (Nat → Int32)) (f : Nat → Int32) (r : Nat) (hr : r < 8) (I : Mm) (J : Ml) : Mt sx MX4_freezes [.ref 43, .int (nI r)] (sR f I) J (fun r' I' J' => sR (frM f r) I = I' ∧ J = J' ∧ r' = none) := by
  refine Mt.of2 _ rfl (by decide +kernel) (Nat.le_of_ble_eq_true rfl) ?_
  refine GW.run kX4_freezes (fun _ => false) 65 0 rfl ?_
  refine Mt.conseq (m_there _ r 0 (by omega) (by decide) _ (by decide) _ _ _) ?_
  rintro _ _ _ ⟨rfl, rfl, rfl⟩
  refine Mt.conseq (m_there _ r 3 (by omega) (by decide) _ (by decide) _ _ _) ?_
  rintro _ _ _ ⟨rfl, rfl, rfl⟩
  refine And.intro (by decide) ?_
  refine Mt.conseq (m_there _ r 1 (by omega) (by decide) _ (by decide) _ _ _) ?_
  rintro _ _ _ ⟨rfl, rfl, rfl⟩
  refine Mt.conseq (m_lies _ _ r 1 (by omega) (by decide) _ (by decide) _ _ _) ?_
  rintro _ _ _ ⟨rfl, rfl, rfl⟩
  refine Mt.conseq (m_there _ r 0 (by omega) (by decide) _ (by decide) _ _ _) ?_
  rintro _ _ _ ⟨rfl, rfl, rfl⟩
  refine Mt.conseq (m_lies _ _ r 0 (by omega) (by decide) _ (by decide) _ _ _) ?_
  rintro _ _ _ ⟨rfl, rfl, rfl⟩
  exact ⟨rfl, rfl, rfl⟩
set_option maxRecDepth 100000 in
set_option maxHeartbeats 4000000 in
theorem m_thw (sx : Nat × (Nat → Int32)) (f : Nat → Int32) (r : Nat) (hr : r < 8) (I : Mm) (J : Ml) : Mt sx MX4_thaws [.ref 43, .int (nI r)] (sR f I) J (fun r' I' J' => sR (thM f r) I = I' ∧ J = J' ∧ r' = none) := by
  refine Mt.of2 _ rfl (by decide +kernel) (Nat.le_of_ble_eq_true rfl) ?_
  refine GW.run kX4_thaws (fun _ => false) 70 0 rfl ?_
  refine Mt.conseq (m_there _ r 2 (by omega) (by decide) _ (by decide) _ _ _) ?_
  rintro _ _ _ ⟨rfl, rfl, rfl⟩
  refine Mt.conseq (m_there _ r 1 (by omega) (by decide) _ (by decide) _ _ _) ?_
  rintro _ _ _ ⟨rfl, rfl, rfl⟩
  refine And.intro (fun h3 => ?_) (fun h3 => ?_)
  · -- pc 12 .if_icmp .ge 12: yes
    refine Mt.conseq (m_there _ r 1 (by omega) (by decide) _ (by decide) _ _ _) ?_
    rintro _ _ _ ⟨rfl, rfl, rfl⟩
    refine Mt.conseq (m_there _ r 1 (by omega) (by decide) _ (by decide) _ _ _) ?_
    rintro _ _ _ ⟨rfl, rfl, rfl⟩
    refine Mt.conseq (m_lies _ _ r 1 (by omega) (by decide) _ (by decide) _ _ _) ?_
    rintro _ _ _ ⟨rfl, rfl, rfl⟩
    refine Mt.conseq (m_there _ r 0 (by omega) (by decide) _ (by decide) _ _ _) ?_
    rintro _ _ _ ⟨rfl, rfl, rfl⟩
    refine Mt.conseq (m_lies _ _ r 0 (by omega) (by decide) _ (by decide) _ _ _) ?_
    rintro _ _ _ ⟨rfl, rfl, rfl⟩
    exact ⟨by rw [thM, if_pos h3], rfl, rfl⟩
  · -- pc 12 .if_icmp .ge 12: no
    refine Mt.conseq (m_there _ r 2 (by omega) (by decide) _ (by decide) _ _ _) ?_
    rintro _ _ _ ⟨rfl, rfl, rfl⟩
    refine Mt.conseq (m_there _ r 1 (by omega) (by decide) _ (by decide) _ _ _) ?_
    rintro _ _ _ ⟨rfl, rfl, rfl⟩
    refine Mt.conseq (m_lies _ _ r 1 (by omega) (by decide) _ (by decide) _ _ _) ?_
    rintro _ _ _ ⟨rfl, rfl, rfl⟩
    refine Mt.conseq (m_there _ r 0 (by omega) (by decide) _ (by decide) _ _ _) ?_
    rintro _ _ _ ⟨rfl, rfl, rfl⟩
    refine Mt.conseq (m_lies _ _ r 0 (by omega) (by decide) _ (by decide) _ _ _) ?_
    rintro _ _ _ ⟨rfl, rfl, rfl⟩
    exact ⟨by rw [thM, if_neg h3], rfl, rfl⟩
set_option maxRecDepth 100000 in
set_option maxHeartbeats 4000000 in
theorem m_drt (sx : Nat × (Nat → Int32)) (f : Nat → Int32) (d : Nat) (hd : d < 7) (I : Mm) (J : Ml) : Mt sx MX4_draughts [.ref 43, .int (nI d)] (sR f I) J (fun r' I' J' => sR (drM f d) I = I' ∧ J = J' ∧ r' = none) := by
  refine Mt.of2 _ rfl (by decide +kernel) (Nat.le_of_ble_eq_true rfl) ?_
  refine GW.run kX4_draughts (fun _ => false) 79 0 rfl ?_
  refine Mt.conseq (m_there _ d 0 (by omega) (by decide) _ (by decide) _ _ _) ?_
  rintro _ _ _ ⟨rfl, rfl, rfl⟩
  refine Mt.conseq (m_there _ (d + 1) 0 (by omega) (by decide) _ (by decide) _ _ _) ?_
  rintro _ _ _ ⟨rfl, rfl, rfl⟩
  refine And.intro (fun h3 => ?_) (fun h3 => ?_)
  · -- pc 17 .ifCond .ge 11: yes
    refine And.intro (by decide) ?_
    refine Mt.conseq (m_there _ d 0 (by omega) (by decide) _ (by decide) _ _ _) ?_
    rintro _ _ _ ⟨rfl, rfl, rfl⟩
    refine Mt.conseq (m_lies _ _ d 0 (by omega) (by decide) _ (by decide) _ _ _) ?_
    rintro _ _ _ ⟨rfl, rfl, rfl⟩
    refine Mt.conseq (m_there _ (d + 1) 0 (by omega) (by decide) _ (by decide) _ _ _) ?_
    rintro _ _ _ ⟨rfl, rfl, rfl⟩
    refine Mt.conseq (m_lies _ _ (d + 1) 0 (by omega) (by decide) _ (by decide) _ _ _) ?_
    rintro _ _ _ ⟨rfl, rfl, rfl⟩
    exact ⟨by rw [drM, if_pos h3], rfl, rfl⟩
  · -- pc 17 .ifCond .ge 11: no
    refine And.intro (by decide) ?_
    refine Mt.conseq (m_there _ d 0 (by omega) (by decide) _ (by decide) _ _ _) ?_
    rintro _ _ _ ⟨rfl, rfl, rfl⟩
    refine Mt.conseq (m_lies _ _ d 0 (by omega) (by decide) _ (by decide) _ _ _) ?_
    rintro _ _ _ ⟨rfl, rfl, rfl⟩
    refine Mt.conseq (m_there _ (d + 1) 0 (by omega) (by decide) _ (by decide) _ _ _) ?_
    rintro _ _ _ ⟨rfl, rfl, rfl⟩
    refine Mt.conseq (m_lies _ _ (d + 1) 0 (by omega) (by decide) _ (by decide) _ _ _) ?_
    rintro _ _ _ ⟨rfl, rfl, rfl⟩
    exact ⟨by rw [drM, if_neg h3], rfl, rfl⟩
set_option maxRecDepth 100000 in
set_option maxHeartbeats 4000000 in
theorem m_bth (sx : Nat × (Nat → Int32)) (f : Nat → Int32) (P : Nat) (hP : f 3 = nI P) (hP8 : P ≤ 8) (p : Nat) (hp : p < P) (hpl : vp_in (f (36 + 5 * p + 1)) 8) (I : Mm) (J : Ml) : Mt sx MX4_breathe [.ref 43, .int (nI p)] (sR f I) J (fun r' I' J' => sR (bhM P f p) I = I' ∧ J = J' ∧ r' = none) := by
  have hp8 : p < 8 := by omega
  obtain ⟨rm, hrm, er⟩ := vp_in_of hpl (by decide)
  have ec : (f (36 + 5 * p + 1)).toNatClampNeg = rm := by rw [er]; exact nI_clamp (by omega)
  have hth : ∀ (w : Nat) (hw : w < 4) (x : Int32) (hx : x = nI w), Mt sx MX4_there [.ref 43, .int (f (36 + 5 * p + 1)), .int x] (sR f I) J (na_v (sR f I) J (f (4 + 4 * (f (36 + 5 * p + 1)).toNatClampNeg + w))) := by
    intro w hw x hx
    rw [ec, er]
    exact m_there sx rm w hrm hw x hx f I J
  have hli : ∀ (v : Int32) (w : Nat) (hw : w < 4) (x : Int32) (hx : x = nI w), Mt sx MX4_lies [.ref 43, .int (f (36 + 5 * p + 1)), .int x, .int v] (sR f I) J (fun r' I' J' => sR (upd f (4 + 4 * (f (36 + 5 * p + 1)).toNatClampNeg + w) (mx v)) I = I' ∧ J = J' ∧ r' = none) := by
    intro v w hw x hx
    rw [ec, er]
    exact m_lies sx v rm w hrm hw x hx f I J
  refine Mt.of2 _ rfl (by decide +kernel) (Nat.le_of_ble_eq_true rfl) ?_
  refine GW.run kX4_breathe (fun _ => false) 83 0 rfl ?_
  refine Mt.conseq (m_its _ p 1 (by omega) (by decide) _ (by decide) _ _ _) ?_
  rintro _ _ _ ⟨rfl, rfl, rfl⟩
  refine Mt.conseq (m_brt _ f P hP hP8 p hp8 _ _) ?_
  rintro _ _ _ ⟨rfl, rfl, rfl⟩
  refine Mt.conseq (hth 0 (by decide) _ (by decide)) ?_
  rintro _ _ _ ⟨rfl, rfl, rfl⟩
  refine And.intro (fun h4 => ?_) (fun h4 => ?_)
  · -- pc 27 .if_icmp .ge 7: yes
    refine Mt.conseq (hli _ 0 (by decide) _ (by decide)) ?_
    rintro _ _ _ ⟨rfl, rfl, rfl⟩
    refine And.intro (fun h6 => ?_) (fun h6 => ?_)
    · -- pc 44 .if_icmp .ge 10: yes
      refine Mt.conseq (m_its _ p 3 (by omega) (by decide) _ (by decide) _ _ _) ?_
      rintro _ _ _ ⟨rfl, rfl, rfl⟩
      refine And.intro (fun h8 => ?_) (fun h8 => ?_)
      · -- pc 66 .if_icmp .ge 14: yes
        refine Mt.conseq (m_puts _ _ p 3 (by omega) (by decide) _ (by decide) _ _ _) ?_
        rintro _ _ _ ⟨rfl, rfl, rfl⟩
        exact ⟨by simp only [bhM]; rw [if_pos h4, if_pos h4, if_pos h8], rfl, rfl⟩
      · -- pc 66 .if_icmp .ge 14: no
        refine Mt.conseq (m_its _ p 3 (by omega) (by decide) _ (by decide) _ _ _) ?_
        rintro _ _ _ ⟨rfl, rfl, rfl⟩
        refine Mt.conseq (m_puts _ _ p 3 (by omega) (by decide) _ (by decide) _ _ _) ?_
        rintro _ _ _ ⟨rfl, rfl, rfl⟩
        exact ⟨by simp only [bhM]; rw [if_pos h4, if_pos h4, if_neg h8], rfl, rfl⟩
    · -- pc 44 .if_icmp .ge 10: no
      refine Mt.conseq (m_puts _ _ p 4 (by omega) (by decide) _ (by decide) _ _ _) ?_
      rintro _ _ _ ⟨rfl, rfl, rfl⟩
      refine Mt.conseq (m_its _ p 3 (by omega) (by decide) _ (by decide) _ _ _) ?_
      rintro _ _ _ ⟨rfl, rfl, rfl⟩
      refine And.intro (fun h14 => ?_) (fun h14 => ?_)
      · -- pc 66 .if_icmp .ge 14: yes
        refine Mt.conseq (m_puts _ _ p 3 (by omega) (by decide) _ (by decide) _ _ _) ?_
        rintro _ _ _ ⟨rfl, rfl, rfl⟩
        exact absurd h4 h6
      · -- pc 66 .if_icmp .ge 14: no
        refine Mt.conseq (m_its _ p 3 (by omega) (by decide) _ (by decide) _ _ _) ?_
        rintro _ _ _ ⟨rfl, rfl, rfl⟩
        refine Mt.conseq (m_puts _ _ p 3 (by omega) (by decide) _ (by decide) _ _ _) ?_
        rintro _ _ _ ⟨rfl, rfl, rfl⟩
        exact absurd h4 h6
  · -- pc 27 .if_icmp .ge 7: no
    refine Mt.conseq (hli _ 0 (by decide) _ (by decide)) ?_
    rintro _ _ _ ⟨rfl, rfl, rfl⟩
    refine And.intro (fun h19 => ?_) (fun h19 => ?_)
    · -- pc 44 .if_icmp .ge 10: yes
      refine Mt.conseq (m_its _ p 3 (by omega) (by decide) _ (by decide) _ _ _) ?_
      rintro _ _ _ ⟨rfl, rfl, rfl⟩
      refine And.intro (fun h21 => ?_) (fun h21 => ?_)
      · -- pc 66 .if_icmp .ge 14: yes
        refine Mt.conseq (m_puts _ _ p 3 (by omega) (by decide) _ (by decide) _ _ _) ?_
        rintro _ _ _ ⟨rfl, rfl, rfl⟩
        exact absurd h19 h4
      · -- pc 66 .if_icmp .ge 14: no
        refine Mt.conseq (m_its _ p 3 (by omega) (by decide) _ (by decide) _ _ _) ?_
        rintro _ _ _ ⟨rfl, rfl, rfl⟩
        refine Mt.conseq (m_puts _ _ p 3 (by omega) (by decide) _ (by decide) _ _ _) ?_
        rintro _ _ _ ⟨rfl, rfl, rfl⟩
        exact absurd h19 h4
    · -- pc 44 .if_icmp .ge 10: no
      refine Mt.conseq (m_puts _ _ p 4 (by omega) (by decide) _ (by decide) _ _ _) ?_
      rintro _ _ _ ⟨rfl, rfl, rfl⟩
      refine Mt.conseq (m_its _ p 3 (by omega) (by decide) _ (by decide) _ _ _) ?_
      rintro _ _ _ ⟨rfl, rfl, rfl⟩
      refine And.intro (fun h27 => ?_) (fun h27 => ?_)
      · -- pc 66 .if_icmp .ge 14: yes
        refine Mt.conseq (m_puts _ _ p 3 (by omega) (by decide) _ (by decide) _ _ _) ?_
        rintro _ _ _ ⟨rfl, rfl, rfl⟩
        exact ⟨by simp only [bhM]; rw [if_neg h4, if_neg h4, if_pos h27], rfl, rfl⟩
      · -- pc 66 .if_icmp .ge 14: no
        refine Mt.conseq (m_its _ p 3 (by omega) (by decide) _ (by decide) _ _ _) ?_
        rintro _ _ _ ⟨rfl, rfl, rfl⟩
        refine Mt.conseq (m_puts _ _ p 3 (by omega) (by decide) _ (by decide) _ _ _) ?_
        rintro _ _ _ ⟨rfl, rfl, rfl⟩
        exact ⟨by simp only [bhM]; rw [if_neg h4, if_neg h4, if_neg h27], rfl, rfl⟩
