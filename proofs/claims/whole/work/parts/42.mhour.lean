/-! THE REFERENCE: an hour -/
/-- what the reference's own acts do to its row -/
def frM (f : Nat → Int32) (r : Nat) : Nat → Int32 :=
  let q := f (4 + 4 * r + 0) * (9 - f (4 + 4 * r + 3)) / 20
  let g := upd f (4 + 4 * r + 1) (mx (f (4 + 4 * r + 1) + q))
  upd g (4 + 4 * r + 0) (mx (g (4 + 4 * r + 0) - q))
def thM (f : Nat → Int32) (r : Nat) : Nat → Int32 :=
  let q := if f (4 + 4 * r + 1) ≤ f (4 + 4 * r + 2) then f (4 + 4 * r + 1) else f (4 + 4 * r + 2)
  let g := upd f (4 + 4 * r + 1) (mx (f (4 + 4 * r + 1) - q))
  upd g (4 + 4 * r + 0) (mx (g (4 + 4 * r + 0) + q))
def drM (f : Nat → Int32) (d : Nat) : Nat → Int32 :=
  let more := f (4 + 4 * d + 0) - f (4 + 4 * (d + 1) + 0)
  let q := if 0 ≤ more then more / 4 else -(-more / 4)
  let g := upd f (4 + 4 * d + 0) (mx (f (4 + 4 * d + 0) - q))
  upd g (4 + 4 * (d + 1) + 0) (mx (g (4 + 4 * (d + 1) + 0) + q))
def bhM (P : Nat) (f : Nat → Int32) (p : Nat) : Nat → Int32 :=
  let r := (f (36 + 5 * p + 1)).toNatClampNeg
  let t := brt (vN f) P p
  let air := f (4 + 4 * r + 0)
  let g := upd f (4 + 4 * r + 0) (mx (if t ≤ air then air - t else 0))
  let h := if t ≤ air then g else upd g (36 + 5 * p + 4) 1
  upd h (36 + 5 * p + 3) (if 999 ≤ h (36 + 5 * p + 3) then 999 else h (36 + 5 * p + 3) + 1)
set_option maxRecDepth 100000 in
set_option maxHeartbeats 4000000 in
theorem m_frz (sx : Nat × (Nat → Int32)) (f : Nat → Int32) (r : Nat) (hr : r < 8) (I : Mm) (J : Ml) : Mt sx MX4_freezes [.ref 43, .int (nI r)] (sR f I) J (fun r' I' J' => sR (frM f r) I = I' ∧ J = J' ∧ r' = none) := by
  refine Mt.of2 _ rfl (by decide +kernel) (Nat.le_of_ble_eq_true rfl) ?_
  refine GW.run kX4_freezes (fun _ => false) 65 0 rfl ?_
  refine Mt.conseq (m_there _ r 0 (by omega) (by decide) _ (by decide) _ _ _) ?_
  rintro _ _ _ ⟨rfl, rfl, rfl⟩
  refine Mt.conseq (m_there _ r 3 (by omega) (by decide) _ (by decide) _ _ _) ?_
  rintro _ _ _ ⟨rfl, rfl, rfl⟩
  refine And.intro (by decide) ?_
  refine Mt.conseq (m_there _ r 1 (by omega) (by decide) _ (by decide) _ _ _) ?_
  rintro _ _ _ ⟨rfl, rfl, rfl⟩
  refine Mt.conseq (m_lies _ _ r 1 (by omega) (by decide) _ (by decide) _ _ _) ?_
  rintro _ _ _ ⟨rfl, rfl, rfl⟩
  refine Mt.conseq (m_there _ r 0 (by omega) (by decide) _ (by decide) _ _ _) ?_
  rintro _ _ _ ⟨rfl, rfl, rfl⟩
  refine Mt.conseq (m_lies _ _ r 0 (by omega) (by decide) _ (by decide) _ _ _) ?_
  rintro _ _ _ ⟨rfl, rfl, rfl⟩
  exact ⟨rfl, rfl, rfl⟩
set_option maxRecDepth 100000 in
set_option maxHeartbeats 4000000 in
theorem m_thw (sx : Nat × (Nat → Int32)) (f : Nat → Int32) (r : Nat) (hr : r < 8) (I : Mm) (J : Ml) : Mt sx MX4_thaws [.ref 43, .int (nI r)] (sR f I) J (fun r' I' J' => sR (thM f r) I = I' ∧ J = J' ∧ r' = none) := by
  refine Mt.of2 _ rfl (by decide +kernel) (Nat.le_of_ble_eq_true rfl) ?_
  refine GW.run kX4_thaws (fun _ => false) 70 0 rfl ?_
  refine Mt.conseq (m_there _ r 2 (by omega) (by decide) _ (by decide) _ _ _) ?_
  rintro _ _ _ ⟨rfl, rfl, rfl⟩
  refine Mt.conseq (m_there _ r 1 (by omega) (by decide) _ (by decide) _ _ _) ?_
  rintro _ _ _ ⟨rfl, rfl, rfl⟩
  refine And.intro (fun h3 => ?_) (fun h3 => ?_)
  · -- pc 12 .if_icmp .ge 12: yes
    refine Mt.conseq (m_there _ r 1 (by omega) (by decide) _ (by decide) _ _ _) ?_
    rintro _ _ _ ⟨rfl, rfl, rfl⟩
    refine Mt.conseq (m_there _ r 1 (by omega) (by decide) _ (by decide) _ _ _) ?_
    rintro _ _ _ ⟨rfl, rfl, rfl⟩
    refine Mt.conseq (m_lies _ _ r 1 (by omega) (by decide) _ (by decide) _ _ _) ?_
    rintro _ _ _ ⟨rfl, rfl, rfl⟩
    refine Mt.conseq (m_there _ r 0 (by omega) (by decide) _ (by decide) _ _ _) ?_
    rintro _ _ _ ⟨rfl, rfl, rfl⟩
    refine Mt.conseq (m_lies _ _ r 0 (by omega) (by decide) _ (by decide) _ _ _) ?_
    rintro _ _ _ ⟨rfl, rfl, rfl⟩
    exact ⟨by rw [thM, if_pos h3], rfl, rfl⟩
  · -- pc 12 .if_icmp .ge 12: no
    refine Mt.conseq (m_there _ r 2 (by omega) (by decide) _ (by decide) _ _ _) ?_
    rintro _ _ _ ⟨rfl, rfl, rfl⟩
    refine Mt.conseq (m_there _ r 1 (by omega) (by decide) _ (by decide) _ _ _) ?_
    rintro _ _ _ ⟨rfl, rfl, rfl⟩
    refine Mt.conseq (m_lies _ _ r 1 (by omega) (by decide) _ (by decide) _ _ _) ?_
    rintro _ _ _ ⟨rfl, rfl, rfl⟩
    refine Mt.conseq (m_there _ r 0 (by omega) (by decide) _ (by decide) _ _ _) ?_
    rintro _ _ _ ⟨rfl, rfl, rfl⟩
    refine Mt.conseq (m_lies _ _ r 0 (by omega) (by decide) _ (by decide) _ _ _) ?_
    rintro _ _ _ ⟨rfl, rfl, rfl⟩
    exact ⟨by rw [thM, if_neg h3], rfl, rfl⟩
set_option maxRecDepth 100000 in
set_option maxHeartbeats 4000000 in
theorem m_drt (sx : Nat × (Nat → Int32)) (f : Nat → Int32) (d : Nat) (hd : d < 7) (I : Mm) (J : Ml) : Mt sx MX4_draughts [.ref 43, .int (nI d)] (sR f I) J (fun r' I' J' => sR (drM f d) I = I' ∧ J = J' ∧ r' = none) := by
  have hth1 : ∀ (g : Nat → Int32) (w : Nat) (hw : w < 4) (x : Int32) (hx : x = nI w), Mt sx MX4_there [.ref 43, .int (nI d + 1), .int x] (sR g I) J (na_v (sR g I) J (g (4 + 4 * (d + 1) + w))) := by
    intro g w hw x hx
    rw [nI_1]
    exact m_there sx (d + 1) w (by omega) hw x hx g I J
  have hli1 : ∀ (g : Nat → Int32) (v : Int32) (w : Nat) (hw : w < 4) (x : Int32) (hx : x = nI w), Mt sx MX4_lies [.ref 43, .int (nI d + 1), .int x, .int v] (sR g I) J (fun r' I' J' => sR (upd g (4 + 4 * (d + 1) + w) (mx v)) I = I' ∧ J = J' ∧ r' = none) := by
    intro g v w hw x hx
    rw [nI_1]
    exact m_lies sx v (d + 1) w (by omega) hw x hx g I J
  refine Mt.of2 _ rfl (by decide +kernel) (Nat.le_of_ble_eq_true rfl) ?_
  refine GW.run kX4_draughts (fun _ => false) 79 0 rfl ?_
  refine Mt.conseq (m_there _ d 0 (by omega) (by decide) _ (by decide) _ _ _) ?_
  rintro _ _ _ ⟨rfl, rfl, rfl⟩
  refine Mt.conseq (hth1 _ 0 (by decide) _ (by decide)) ?_
  rintro _ _ _ ⟨rfl, rfl, rfl⟩
  refine And.intro (fun h3 => ?_) (fun h3 => ?_)
  · -- pc 17 .ifCond .ge 11: yes
    refine And.intro (by decide) ?_
    refine Mt.conseq (m_there _ d 0 (by omega) (by decide) _ (by decide) _ _ _) ?_
    rintro _ _ _ ⟨rfl, rfl, rfl⟩
    refine Mt.conseq (m_lies _ _ d 0 (by omega) (by decide) _ (by decide) _ _ _) ?_
    rintro _ _ _ ⟨rfl, rfl, rfl⟩
    refine Mt.conseq (hth1 _ 0 (by decide) _ (by decide)) ?_
    rintro _ _ _ ⟨rfl, rfl, rfl⟩
    refine Mt.conseq (hli1 _ _ 0 (by decide) _ (by decide)) ?_
    rintro _ _ _ ⟨rfl, rfl, rfl⟩
    exact ⟨by rw [drM, if_pos h3], rfl, rfl⟩
  · -- pc 17 .ifCond .ge 11: no
    refine And.intro (by decide) ?_
    refine Mt.conseq (m_there _ d 0 (by omega) (by decide) _ (by decide) _ _ _) ?_
    rintro _ _ _ ⟨rfl, rfl, rfl⟩
    refine Mt.conseq (m_lies _ _ d 0 (by omega) (by decide) _ (by decide) _ _ _) ?_
    rintro _ _ _ ⟨rfl, rfl, rfl⟩
    refine Mt.conseq (hth1 _ 0 (by decide) _ (by decide)) ?_
    rintro _ _ _ ⟨rfl, rfl, rfl⟩
    refine Mt.conseq (hli1 _ _ 0 (by decide) _ (by decide)) ?_
    rintro _ _ _ ⟨rfl, rfl, rfl⟩
    exact ⟨by rw [drM, if_neg h3], rfl, rfl⟩
set_option maxRecDepth 100000 in
set_option maxHeartbeats 4000000 in
theorem m_bth (sx : Nat × (Nat → Int32)) (f : Nat → Int32) (P : Nat) (hP : f 3 = nI P) (hP8 : P ≤ 8) (p : Nat) (hp : p < P) (hpl : vp_in (f (36 + 5 * p + 1)) 8) (I : Mm) (J : Ml) : Mt sx MX4_breathe [.ref 43, .int (nI p)] (sR f I) J (fun r' I' J' => sR (bhM P f p) I = I' ∧ J = J' ∧ r' = none) := by
  have hp8 : p < 8 := by omega
  obtain ⟨rm, hrm, er⟩ := vp_in_of hpl (by decide)
  have ec : (f (36 + 5 * p + 1)).toNatClampNeg = rm := by rw [er]; exact nI_clamp (by omega)
  have hth : ∀ (w : Nat) (hw : w < 4) (x : Int32) (hx : x = nI w), Mt sx MX4_there [.ref 43, .int (f (36 + 5 * p + 1)), .int x] (sR f I) J (na_v (sR f I) J (f (4 + 4 * (f (36 + 5 * p + 1)).toNatClampNeg + w))) := by
    intro w hw x hx
    rw [ec, er]
    exact m_there sx rm w hrm hw x hx f I J
  have hli : ∀ (v : Int32) (w : Nat) (hw : w < 4) (x : Int32) (hx : x = nI w), Mt sx MX4_lies [.ref 43, .int (f (36 + 5 * p + 1)), .int x, .int v] (sR f I) J (fun r' I' J' => sR (upd f (4 + 4 * (f (36 + 5 * p + 1)).toNatClampNeg + w) (mx v)) I = I' ∧ J = J' ∧ r' = none) := by
    intro v w hw x hx
    rw [ec, er]
    exact m_lies sx v rm w hrm hw x hx f I J
  refine Mt.of2 _ rfl (by decide +kernel) (Nat.le_of_ble_eq_true rfl) ?_
  refine GW.run kX4_breathe (fun _ => false) 83 0 rfl ?_
  refine Mt.conseq (m_its _ p 1 (by omega) (by decide) _ (by decide) _ _ _) ?_
  rintro _ _ _ ⟨rfl, rfl, rfl⟩
  refine Mt.conseq (m_brt _ f P hP hP8 p hp8 _ _) ?_
  rintro _ _ _ ⟨rfl, rfl, rfl⟩
  refine Mt.conseq (hth 0 (by decide) _ (by decide)) ?_
  rintro _ _ _ ⟨rfl, rfl, rfl⟩
  refine And.intro (fun h4 => ?_) (fun h4 => ?_)
  · -- pc 27 .if_icmp .ge 7: yes
    refine Mt.conseq (hli _ 0 (by decide) _ (by decide)) ?_
    rintro _ _ _ ⟨rfl, rfl, rfl⟩
    refine And.intro (fun h6 => ?_) (fun h6 => ?_)
    · -- pc 44 .if_icmp .ge 10: yes
      refine Mt.conseq (m_its _ p 3 (by omega) (by decide) _ (by decide) _ _ _) ?_
      rintro _ _ _ ⟨rfl, rfl, rfl⟩
      refine And.intro (fun h8 => ?_) (fun h8 => ?_)
      · -- pc 66 .if_icmp .ge 14: yes
        refine Mt.conseq (m_puts _ _ p 3 (by omega) (by decide) _ (by decide) _ _ _) ?_
        rintro _ _ _ ⟨rfl, rfl, rfl⟩
        exact ⟨by simp only [bhM]; rw [if_pos h4, if_pos h4, if_pos h8], rfl, rfl⟩
      · -- pc 66 .if_icmp .ge 14: no
        refine Mt.conseq (m_its _ p 3 (by omega) (by decide) _ (by decide) _ _ _) ?_
        rintro _ _ _ ⟨rfl, rfl, rfl⟩
        refine Mt.conseq (m_puts _ _ p 3 (by omega) (by decide) _ (by decide) _ _ _) ?_
        rintro _ _ _ ⟨rfl, rfl, rfl⟩
        exact ⟨by simp only [bhM]; rw [if_pos h4, if_pos h4, if_neg h8], rfl, rfl⟩
    · -- pc 44 .if_icmp .ge 10: no
      refine Mt.conseq (m_puts _ _ p 4 (by omega) (by decide) _ (by decide) _ _ _) ?_
      rintro _ _ _ ⟨rfl, rfl, rfl⟩
      refine Mt.conseq (m_its _ p 3 (by omega) (by decide) _ (by decide) _ _ _) ?_
      rintro _ _ _ ⟨rfl, rfl, rfl⟩
      refine And.intro (fun h14 => ?_) (fun h14 => ?_)
      · -- pc 66 .if_icmp .ge 14: yes
        refine Mt.conseq (m_puts _ _ p 3 (by omega) (by decide) _ (by decide) _ _ _) ?_
        rintro _ _ _ ⟨rfl, rfl, rfl⟩
        exact absurd h4 h6
      · -- pc 66 .if_icmp .ge 14: no
        refine Mt.conseq (m_its _ p 3 (by omega) (by decide) _ (by decide) _ _ _) ?_
        rintro _ _ _ ⟨rfl, rfl, rfl⟩
        refine Mt.conseq (m_puts _ _ p 3 (by omega) (by decide) _ (by decide) _ _ _) ?_
        rintro _ _ _ ⟨rfl, rfl, rfl⟩
        exact absurd h4 h6
  · -- pc 27 .if_icmp .ge 7: no
    refine Mt.conseq (hli _ 0 (by decide) _ (by decide)) ?_
    rintro _ _ _ ⟨rfl, rfl, rfl⟩
    refine And.intro (fun h19 => ?_) (fun h19 => ?_)
    · -- pc 44 .if_icmp .ge 10: yes
      refine Mt.conseq (m_its _ p 3 (by omega) (by decide) _ (by decide) _ _ _) ?_
      rintro _ _ _ ⟨rfl, rfl, rfl⟩
      refine And.intro (fun h21 => ?_) (fun h21 => ?_)
      · -- pc 66 .if_icmp .ge 14: yes
        refine Mt.conseq (m_puts _ _ p 3 (by omega) (by decide) _ (by decide) _ _ _) ?_
        rintro _ _ _ ⟨rfl, rfl, rfl⟩
        exact absurd h19 h4
      · -- pc 66 .if_icmp .ge 14: no
        refine Mt.conseq (m_its _ p 3 (by omega) (by decide) _ (by decide) _ _ _) ?_
        rintro _ _ _ ⟨rfl, rfl, rfl⟩
        refine Mt.conseq (m_puts _ _ p 3 (by omega) (by decide) _ (by decide) _ _ _) ?_
        rintro _ _ _ ⟨rfl, rfl, rfl⟩
        exact absurd h19 h4
    · -- pc 44 .if_icmp .ge 10: no
      refine Mt.conseq (m_puts _ _ p 4 (by omega) (by decide) _ (by decide) _ _ _) ?_
      rintro _ _ _ ⟨rfl, rfl, rfl⟩
      refine Mt.conseq (m_its _ p 3 (by omega) (by decide) _ (by decide) _ _ _) ?_
      rintro _ _ _ ⟨rfl, rfl, rfl⟩
      refine And.intro (fun h27 => ?_) (fun h27 => ?_)
      · -- pc 66 .if_icmp .ge 14: yes
        refine Mt.conseq (m_puts _ _ p 3 (by omega) (by decide) _ (by decide) _ _ _) ?_
        rintro _ _ _ ⟨rfl, rfl, rfl⟩
        exact ⟨by simp only [bhM]; rw [if_neg h4, if_neg h4, if_pos h27], rfl, rfl⟩
      · -- pc 66 .if_icmp .ge 14: no
        refine Mt.conseq (m_its _ p 3 (by omega) (by decide) _ (by decide) _ _ _) ?_
        rintro _ _ _ ⟨rfl, rfl, rfl⟩
        refine Mt.conseq (m_puts _ _ p 3 (by omega) (by decide) _ (by decide) _ _ _) ?_
        rintro _ _ _ ⟨rfl, rfl, rfl⟩
        exact ⟨by simp only [bhM]; rw [if_neg h4, if_neg h4, if_neg h27], rfl, rfl⟩
def itF (h : (Nat → Int32) → Nat → (Nat → Int32)) : Nat → (Nat → Int32) → (Nat → Int32)
  | 0, f => f
  | n + 1, f => h (itF h n f) n
def dgM (f : Nat → Int32) (d : Nat) : Nat → Int32 := if hasP (f 2) (nI d) then drM f d else f
/-- the row ahead of breathing -/
def pm1 (f : Nat → Int32) : Nat → Int32 := if f 1 = 1 then itF frM 8 f else f
def pmM (f : Nat → Int32) : Nat → Int32 := itF dgM 7 (itF thM 8 (pm1 f))
def hrM (P : Nat) (f : Nat → Int32) : Nat → Int32 := upd (itF (bhM P) P (pmM f)) 0 (itF (bhM P) P (pmM f) 0 + 1)
theorem upd_ne {f : Nat → Int32} {i j : Nat} {v : Int32} (h : j ≠ i) : upd f i v j = f j := by simp [upd, h]
theorem itF_keep {h : (Nat → Int32) → Nat → (Nat → Int32)} {k : Nat} (hf : ∀ f n, h f n k = f k) (f : Nat → Int32) : ∀ n, itF h n f k = f k
  | 0 => rfl
  | n + 1 => by rw [itF, hf, itF_keep hf f n]
theorem frM_lo {k : Nat} (h : k < 4) (f : Nat → Int32) (r : Nat) : frM f r k = f k := by
  simp only [frM]
  rw [upd_ne (by omega), upd_ne (by omega)]
theorem thM_lo {k : Nat} (h : k < 4) (f : Nat → Int32) (r : Nat) : thM f r k = f k := by
  simp only [thM]
  rw [upd_ne (by omega), upd_ne (by omega)]
theorem drM_lo {k : Nat} (h : k < 4) (f : Nat → Int32) (r : Nat) : drM f r k = f k := by
  simp only [drM]
  rw [upd_ne (by omega), upd_ne (by omega)]
theorem dgM_lo {k : Nat} (h : k < 4) (f : Nat → Int32) (r : Nat) : dgM f r k = f k := by
  unfold dgM
  split
  · exact drM_lo h f r
  · rfl
theorem bhM_lo {k : Nat} (h : k < 4) (P : Nat) (f : Nat → Int32) (p : Nat) : bhM P f p k = f k := by
  simp only [bhM]
  rw [upd_ne (by omega)]
  split
  · rw [upd_ne (by omega)]
  · rw [upd_ne (by omega), upd_ne (by omega)]
/-- rooms' rows are below 36; places of people stay -/
theorem frM_hi {k : Nat} (h : 36 ≤ k) (f : Nat → Int32) {r : Nat} (hr : r < 8) : frM f r k = f k := by
  simp only [frM]
  rw [upd_ne (by omega), upd_ne (by omega)]
theorem thM_hi {k : Nat} (h : 36 ≤ k) (f : Nat → Int32) {r : Nat} (hr : r < 8) : thM f r k = f k := by
  simp only [thM]
  rw [upd_ne (by omega), upd_ne (by omega)]
theorem drM_hi {k : Nat} (h : 36 ≤ k) (f : Nat → Int32) {r : Nat} (hr : r < 7) : drM f r k = f k := by
  simp only [drM]
  rw [upd_ne (by omega), upd_ne (by omega)]
theorem itF_hi {h : (Nat → Int32) → Nat → (Nat → Int32)} {k B : Nat} (hf : ∀ f n, n < B → h f n k = f k) (f : Nat → Int32) : ∀ n, n ≤ B → itF h n f k = f k
  | 0, _ => rfl
  | n + 1, hn => by rw [itF, hf _ _ (by omega), itF_hi hf f n (by omega)]
theorem pmM_lo {k : Nat} (h : k < 4) (f : Nat → Int32) : pmM f k = f k := by
  unfold pmM pm1
  rw [itF_keep (fun f n => dgM_lo h f n), itF_keep (fun f n => thM_lo h f n)]
  split
  · exact itF_keep (fun f n => frM_lo h f n) f 8
  · rfl
theorem pmM_hi {k : Nat} (h : 36 ≤ k) (f : Nat → Int32) : pmM f k = f k := by
  unfold pmM pm1
  rw [itF_hi (B := 7) (fun f n hn => by unfold dgM; split; exact drM_hi h f hn; rfl) _ 7 (Nat.le_refl _), itF_hi (B := 8) (fun f n hn => thM_hi h f hn) _ 8 (Nat.le_refl _)]
  split
  · exact itF_hi (B := 8) (fun f n hn => frM_hi h f hn) f 8 (Nat.le_refl _)
  · rfl
theorem bhM_pl (P : Nat) (f : Nat → Int32) (p q : Nat) (hr : vp_in (f (36 + 5 * p + 1)) 8) : bhM P f p (36 + 5 * q + 1) = f (36 + 5 * q + 1) := by
  obtain ⟨rm, hrm, er⟩ := vp_in_of hr (by decide)
  have ec : (f (36 + 5 * p + 1)).toNatClampNeg = rm := by rw [er]; exact nI_clamp (by omega)
  simp only [bhM, ec]
  rw [upd_ne (by omega)]
  split
  · rw [upd_ne (by omega)]
  · rw [upd_ne (by omega), upd_ne (by omega)]
theorem itB_pl (P : Nat) (f : Nat → Int32) (hpl : ∀ p, p < P → vp_in (f (36 + 5 * p + 1)) 8) (q : Nat) : ∀ n, n ≤ P → itF (bhM P) n f (36 + 5 * q + 1) = f (36 + 5 * q + 1)
  | 0, _ => rfl
  | n + 1, hn => by rw [itF, bhM_pl P _ n q (by rw [itB_pl P f hpl n n (by omega)]; exact hpl n (by omega)), itB_pl P f hpl q n (by omega)]
theorem hrM_3 (P : Nat) (f : Nat → Int32) : hrM P f 3 = f 3 := by
  unfold hrM
  rw [upd_ne (by decide), itF_keep (fun f n => bhM_lo (by decide) P f n), pmM_lo (by decide)]
theorem hrM_pl (P : Nat) (f : Nat → Int32) (hpl : ∀ p, p < P → vp_in (f (36 + 5 * p + 1)) 8) (q : Nat) : hrM P f (36 + 5 * q + 1) = f (36 + 5 * q + 1) := by
  unfold hrM
  rw [upd_ne (by omega), itB_pl P _ (fun p hp => by rw [pmM_hi (by omega)]; exact hpl p hp) q P (Nat.le_refl _), pmM_hi (by omega)]
set_option maxRecDepth 100000 in
set_option maxHeartbeats 4000000 in
theorem l_h4 (sx : Nat × (Nat → Int32)) (f : Nat → Int32) (P : Nat) (hP : f 3 = nI P) (hP8 : P ≤ 8) (hpl : ∀ p, p < P → vp_in (f (36 + 5 * p + 1)) 8) (I : Mm) (J : Ml) (Rt : Option Value → Mm → Ml → Prop) (hR : Rt none (sR (upd (itF (bhM P) P f) 0 (itF (bhM P) P f 0 + 1)) I) J) : ∀ m n, n + m = P → GW sx (na_mi MX4_oneHour) Rt 82 [some (.ref 43), some (.int (nI n))] [] (sR (itF (bhM P) n f) I) J := by
  intro m
  induction m with
  | zero =>
    intro n hn
    obtain rfl : P = n := by omega
    have hz : itF (bhM P) P f 3 ≤ nI P := by rw [itF_keep (fun f n => bhM_lo (by decide) P f n), hP]; exact Int32.le_refl _
    refine GW.run kX4_oneHour (fun pc => Nat.beq pc 2 || Nat.beq pc 31 || Nat.beq pc 50 || Nat.beq pc 82) 95 45 rfl ?_
    refine And.intro (by unfold vp_in; decide) ?_
    refine And.intro (fun _ => ?_) (fun hh => absurd hz hh)
    refine And.intro (by unfold vp_in; decide) ?_
    refine And.intro (by unfold vp_in; decide) ?_
    exact Eq.mp (congrArg (fun X => Rt none X J) sR_set.symm) hR
  | succ m ih =>
    intro n hn
    have hz : ¬ itF (bhM P) n f 3 ≤ nI n := by rw [itF_keep (fun f n => bhM_lo (by decide) P f n), hP]; exact nI_ge (by omega) (by omega)
    have ih := ih (n + 1) (by omega)
    refine GW.run kX4_oneHour (fun pc => Nat.beq pc 2 || Nat.beq pc 31 || Nat.beq pc 50 || Nat.beq pc 82) 95 45 rfl ?_
    refine And.intro (by unfold vp_in; decide) ?_
    refine And.intro (fun hh => absurd hh hz) (fun _ => ?_)
    refine Mt.conseq (m_bth _ (itF (bhM P) n f) P (by rw [itF_keep (fun f n => bhM_lo (by decide) P f n)]; exact hP) hP8 n (by omega) (by rw [itB_pl P f hpl n n (by omega)]; exact hpl n (by omega)) _ _) ?_
    rintro _ _ _ ⟨rfl, rfl, rfl⟩
    exact GW.weak ih ⟨rfl, by rw [nI_1], trivial⟩
set_option maxRecDepth 100000 in
set_option maxHeartbeats 4000000 in
theorem l_h3 (sx : Nat × (Nat → Int32)) (f : Nat → Int32) (P : Nat) (hP : f 3 = nI P) (hP8 : P ≤ 8) (hpl : ∀ p, p < P → vp_in (f (36 + 5 * p + 1)) 8) (I : Mm) (J : Ml) (Rt : Option Value → Mm → Ml → Prop) (hR : Rt none (sR (upd (itF (bhM P) P (itF dgM 7 f)) 0 (itF (bhM P) P (itF dgM 7 f) 0 + 1)) I) J) : ∀ m n, n + m = 7 → GW sx (na_mi MX4_oneHour) Rt 50 [some (.ref 43), some (.int (nI n))] [] (sR (itF dgM n f) I) J := by
  intro m
  induction m with
  | zero =>
    intro n hn
    obtain rfl : 7 = n := by omega
    have hz : (7 : Int32) ≤ nI 7 := by decide
    refine GW.run kX4_oneHour (fun pc => Nat.beq pc 2 || Nat.beq pc 31 || Nat.beq pc 50 || Nat.beq pc 82) 95 28 rfl ?_
    refine And.intro (fun _ => ?_) (fun hh => absurd hz hh)
    exact GW.weak (l_h4 sx (itF dgM 7 f) P (by rw [itF_keep (fun f n => dgM_lo (by decide) f n)]; exact hP) hP8 (fun p hp => by rw [itF_hi (B := 7) (fun f n hn => by unfold dgM; split; exact drM_hi (by omega) f hn; rfl) _ 7 (Nat.le_refl _)]; exact hpl p hp) I J Rt hR P 0 (by omega)) ⟨rfl, rfl, trivial⟩
  | succ m ih =>
    intro n hn
    have hz : ¬ (7 : Int32) ≤ nI n := nI_ge (a := n) (b := 7) (by omega) (by omega)
    have ih := ih (n + 1) (by omega)
    refine GW.run kX4_oneHour (fun pc => Nat.beq pc 2 || Nat.beq pc 31 || Nat.beq pc 50 || Nat.beq pc 82) 95 28 rfl ?_
    refine And.intro (fun hh => absurd hh hz) (fun _ => ?_)
    refine And.intro (by unfold vp_in; decide) ?_
    refine Mt.conseq (m_has _ _ _ _ _) ?_
    rintro _ _ _ ⟨rfl, rfl, ⟨h1, rfl⟩ | ⟨h1, rfl⟩⟩
    · -- pc 63 call X4_has true
      refine And.intro (fun hh => absurd hh (by decide)) (fun _ => ?_)
      refine Mt.conseq (m_drt _ (itF dgM n f) n (by omega) _ _) ?_
      rintro _ _ _ ⟨rfl, rfl, rfl⟩
      refine GW.weak (GW.eqI ?_ ih) ⟨rfl, by rw [nI_1], trivial⟩
      rw [itF, dgM, if_pos (show hasP (itF dgM n f 2) (nI n) from h1)]
    · -- pc 63 call X4_has false
      refine And.intro (fun _ => ?_) (fun hh => absurd hh (by decide))
      refine GW.weak (GW.eqI ?_ ih) ⟨rfl, by rw [nI_1], trivial⟩
      rw [itF, dgM, if_neg (show ¬ hasP (itF dgM n f 2) (nI n) from h1)]
set_option maxRecDepth 100000 in
set_option maxHeartbeats 4000000 in
theorem l_h2 (sx : Nat × (Nat → Int32)) (f : Nat → Int32) (P : Nat) (hP : f 3 = nI P) (hP8 : P ≤ 8) (hpl : ∀ p, p < P → vp_in (f (36 + 5 * p + 1)) 8) (I : Mm) (J : Ml) (Rt : Option Value → Mm → Ml → Prop) (hR : Rt none (sR (upd (itF (bhM P) P (itF dgM 7 (itF thM 8 f))) 0 (itF (bhM P) P (itF dgM 7 (itF thM 8 f)) 0 + 1)) I) J) : ∀ m n, n + m = 8 → GW sx (na_mi MX4_oneHour) Rt 31 [some (.ref 43), some (.int (nI n))] [] (sR (itF thM n f) I) J := by
  intro m
  induction m with
  | zero =>
    intro n hn
    obtain rfl : 8 = n := by omega
    have hz : (8 : Int32) ≤ nI 8 := by decide
    refine GW.run kX4_oneHour (fun pc => Nat.beq pc 2 || Nat.beq pc 31 || Nat.beq pc 50 || Nat.beq pc 82) 95 18 rfl ?_
    refine And.intro (fun _ => ?_) (fun hh => absurd hz hh)
    exact GW.weak (l_h3 sx (itF thM 8 f) P (by rw [itF_keep (fun f n => thM_lo (by decide) f n)]; exact hP) hP8 (fun p hp => by rw [itF_hi (B := 8) (fun f n hn => thM_hi (by omega) f hn) _ 8 (Nat.le_refl _)]; exact hpl p hp) I J Rt hR 7 0 (by omega)) ⟨rfl, rfl, trivial⟩
  | succ m ih =>
    intro n hn
    have hz : ¬ (8 : Int32) ≤ nI n := nI_ge (a := n) (b := 8) (by omega) (by omega)
    have ih := ih (n + 1) (by omega)
    refine GW.run kX4_oneHour (fun pc => Nat.beq pc 2 || Nat.beq pc 31 || Nat.beq pc 50 || Nat.beq pc 82) 95 18 rfl ?_
    refine And.intro (fun hh => absurd hh hz) (fun _ => ?_)
    refine Mt.conseq (m_thw _ (itF thM n f) n (by omega) _ _) ?_
    rintro _ _ _ ⟨rfl, rfl, rfl⟩
    exact GW.weak ih ⟨rfl, by rw [nI_1], trivial⟩
set_option maxRecDepth 100000 in
set_option maxHeartbeats 4000000 in
theorem l_h1 (sx : Nat × (Nat → Int32)) (f : Nat → Int32) (P : Nat) (hP : f 3 = nI P) (hP8 : P ≤ 8) (hpl : ∀ p, p < P → vp_in (f (36 + 5 * p + 1)) 8) (hcold : f 1 = 1) (I : Mm) (J : Ml) (Rt : Option Value → Mm → Ml → Prop) (hR : Rt none (sR (hrM P f) I) J) : ∀ m n, n + m = 8 → GW sx (na_mi MX4_oneHour) Rt 2 [some (.ref 43), some (.int (nI n))] [] (sR (itF frM n f) I) J := by
  intro m
  induction m with
  | zero =>
    intro n hn
    obtain rfl : 8 = n := by omega
    have hz : (8 : Int32) ≤ nI 8 := by decide
    have e0 : pm1 f = itF frM 8 f := if_pos hcold
    refine GW.run kX4_oneHour (fun pc => Nat.beq pc 2 || Nat.beq pc 31 || Nat.beq pc 50 || Nat.beq pc 82) 95 2 rfl ?_
    refine And.intro (fun _ => ?_) (fun hh => absurd hz hh)
    exact GW.weak (l_h2 sx (itF frM 8 f) P (by rw [itF_keep (fun f n => frM_lo (by decide) f n)]; exact hP) hP8 (fun p hp => by rw [itF_hi (B := 8) (fun f n hn => frM_hi (by omega) f hn) _ 8 (Nat.le_refl _)]; exact hpl p hp) I J Rt (by rw [← e0]; exact hR) 8 0 (by omega)) ⟨rfl, rfl, trivial⟩
  | succ m ih =>
    intro n hn
    have hz : ¬ (8 : Int32) ≤ nI n := nI_ge (a := n) (b := 8) (by omega) (by omega)
    have hco : itF frM n f 1 = 1 := by rw [itF_keep (fun f n => frM_lo (by decide) f n)]; exact hcold
    have ih := ih (n + 1) (by omega)
    refine GW.run kX4_oneHour (fun pc => Nat.beq pc 2 || Nat.beq pc 31 || Nat.beq pc 50 || Nat.beq pc 82) 95 2 rfl ?_
    refine And.intro (fun hh => absurd hh hz) (fun _ => ?_)
    refine And.intro (by unfold vp_in; decide) ?_
    refine And.intro (fun hh => absurd hco hh) (fun _ => ?_)
    refine Mt.conseq (m_frz _ (itF frM n f) n (by omega) _ _) ?_
    rintro _ _ _ ⟨rfl, rfl, rfl⟩
    exact GW.weak ih ⟨rfl, by rw [nI_1], trivial⟩
set_option maxRecDepth 100000 in
set_option maxHeartbeats 4000000 in
theorem m_hour (sx : Nat × (Nat → Int32)) (f : Nat → Int32) (P : Nat) (hP : f 3 = nI P) (hP8 : P ≤ 8) (hpl : ∀ p, p < P → vp_in (f (36 + 5 * p + 1)) 8) (I : Mm) (J : Ml) : Mt sx MX4_oneHour [.ref 43] (sR f I) J (fun r' I' J' => sR (hrM P f) I = I' ∧ J = J' ∧ r' = none) := by
  refine Mt.of2 _ rfl (by decide +kernel) (Nat.le_of_ble_eq_true rfl) ?_
  refine GW.run kX4_oneHour (fun pc => Nat.beq pc 2 || Nat.beq pc 31 || Nat.beq pc 50 || Nat.beq pc 82) 95 0 rfl ?_
  by_cases hcold : f 1 = 1
  · exact GW.weak (l_h1 sx f P hP hP8 hpl hcold I J _ ⟨rfl, rfl, rfl⟩ 8 0 (by omega)) ⟨rfl, rfl, trivial⟩
  · have e0 : pm1 f = f := if_neg hcold
    refine GW.run kX4_oneHour (fun pc => Nat.beq pc 2 || Nat.beq pc 31 || Nat.beq pc 50 || Nat.beq pc 82) 95 2 rfl ?_
    refine And.intro (fun hh => absurd hh (by decide)) (fun _ => ?_)
    refine And.intro (by unfold vp_in; decide) ?_
    refine And.intro (fun _ => ?_) (fun hh => absurd hh hcold)
    exact GW.weak (l_h2 sx f P hP hP8 hpl I J _ (by rw [hrM, pmM, e0]; exact ⟨rfl, rfl, rfl⟩) 8 0 (by omega)) ⟨rfl, rfl, trivial⟩
