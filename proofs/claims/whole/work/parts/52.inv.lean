/-! WHAT HOLDS OF EVERY NIGHT; THE REFERENCE'S HOUR IS THE CLASS'S -/
def InvR (N : Mm) : Prop := ∀ r, r < 8 → rg 0 9999 (N 1 r) ∧ rg 0 9999 (N 2 r) ∧ rg 0 99 (N 3 r) ∧ rg 0 9 (N 4 r)
def InvP (P : Nat) (N : Mm) : Prop := ∀ p, p < P → rg 0 5 (N 5 p) ∧ rg 0 7 (N 6 p) ∧ rg 1 20 (N 7 p) ∧ rg 0 999 (N 8 p) ∧ (N 9 p = 0 ∨ N 9 p = 1)
theorem InvP.pl {P : Nat} {N : Mm} (h : InvP P N) : ∀ p, p < P → vp_in (N 6 p) 8 := fun p hp => vp_in_iff.mpr ⟨(h p hp).2.1.1, by have := (h p hp).2.1.2; omega⟩
theorem InvR.set1 {N : Mm} (h : InvR N) {r : Nat} {v : Int32} (hv : rg 0 9999 v) : InvR (na_set N 1 r v) := by
  intro q hq
  obtain ⟨h1, h2, h3, h4⟩ := h q hq
  refine ⟨?_, by rw [na_set_off (by decide)]; exact h2, by rw [na_set_off (by decide)]; exact h3, by rw [na_set_off (by decide)]; exact h4⟩
  rw [na_set_get]
  split
  · exact hv
  · exact h1
theorem InvR.set2 {N : Mm} (h : InvR N) {r : Nat} {v : Int32} (hv : rg 0 9999 v) : InvR (na_set N 2 r v) := by
  intro q hq
  obtain ⟨h1, h2, h3, h4⟩ := h q hq
  refine ⟨by rw [na_set_off (by decide)]; exact h1, ?_, by rw [na_set_off (by decide)]; exact h3, by rw [na_set_off (by decide)]; exact h4⟩
  rw [na_set_get]
  split
  · exact hv
  · exact h2
theorem InvR.off {N : Mm} (h : InvR N) {k r : Nat} {v : Int32} (hk : k = 0 ∨ 5 ≤ k) : InvR (na_set N k r v) := by
  intro q hq
  rw [na_set_off (by omega), na_set_off (by omega), na_set_off (by omega), na_set_off (by omega)]
  exact h q hq
theorem min_rg {v : Int32} (h : 0 ≤ v.toInt) : rg 0 9999 (jmin 9999 v) := by
  constructor <;> rw [jmin_toInt, i9999] <;> omega
/-- frozen -/
theorem frz_v {N : Mm} (h : InvR N) {r : Nat} (hr : r < 8) : rg 0 9999 (N 1 r - N 1 r * (9 - N 4 r) / 20) ∧ 0 ≤ (N 2 r + N 1 r * (9 - N 4 r) / 20).toInt := by
  obtain ⟨⟨a1, a2⟩, ⟨f1, f2⟩, -, t⟩ := h r hr
  obtain ⟨q1, q2⟩ := falls (h r hr).1 t
  constructor
  · constructor <;> rw [tS (by omega) (by omega)] <;> omega
  · rw [tA (by omega) (by omega)]; omega
theorem frzR_inv {N : Mm} (h : InvR N) {r : Nat} (hr : r < 8) : InvR (frzR N r) := (h.set1 (frz_v h hr).1).set2 (min_rg (frz_v h hr).2)
theorem na_set_comm {N : Mm} {a b i j : Nat} {v w : Int32} (h : a ≠ b) : na_set (na_set N a i v) b j w = na_set (na_set N b j w) a i v := by
  funext k
  funext q
  rw [na_set_get, na_set_get, na_set_get, na_set_get]
  by_cases h1 : k = b
  · subst h1
    by_cases h2 : q = j
    · simp [h2, Ne.symm h]
    · simp [h2, Ne.symm h]
  · simp [h1]
theorem frM_ag {P : Nat} (hP8 : P ≤ 8) {f : Nat → Int32} {N : Mm} (h : Agr P (vN f) N) (hi : InvR N) {r : Nat} (hr : r < 8) : Agr P (vN (frM f r)) (frzR N r) := by
  have e1 : f (4 + 4 * r + 0) = N 1 r := h.2.1 1 r (by omega) (by omega) hr
  have e2 : f (4 + 4 * r + 1) = N 2 r := h.2.1 2 r (by omega) (by omega) hr
  have e4 : f (4 + 4 * r + 3) = N 4 r := h.2.1 4 r (by omega) (by omega) hr
  have hv := frz_v hi hr
  simp only [frM]
  rw [upd_ne (show 4 + 4 * r + 0 ≠ 4 + 4 * r + 1 by omega), e1, e2, e4, mx_min, mx_id hv.1.2, frzR, na_set_comm (by decide)]
  exact agR hP8 (agR hP8 h hr (w := 1) (by decide) _) hr (w := 0) (by decide) _
/-- thawed -/
theorem thw_q (a b : Int32) : (if b ≤ a then b else a) = jmin a b := by
  unfold jmin
  by_cases h : b < a
  · rw [if_pos h, if_pos (by rw [le_i]; rw [lt_i] at h; omega)]
  · rw [if_neg h]
    split
    · rename_i h2
      rw [lt_i] at h
      rw [le_i] at h2
      exact Int32.toInt_inj.mp (by omega)
    · rfl
theorem brn_v {N : Mm} (h : InvR N) {r : Nat} (hr : r < 8) : rg 0 9999 (N 2 r - jmin (N 3 r) (N 2 r)) ∧ 0 ≤ (N 1 r + jmin (N 3 r) (N 2 r)).toInt := by
  obtain ⟨⟨a1, a2⟩, ⟨f1, f2⟩, ⟨g1, g2⟩, -⟩ := h r hr
  have e := jmin_toInt (N 3 r) (N 2 r)
  constructor
  · constructor <;> rw [tS (by omega) (by omega)] <;> omega
  · rw [tA (by omega) (by omega)]; omega
theorem brnR_inv {N : Mm} (h : InvR N) {r : Nat} (hr : r < 8) : InvR (brnR N r) := (h.set2 (brn_v h hr).1).set1 (min_rg (brn_v h hr).2)
theorem thM_ag {P : Nat} (hP8 : P ≤ 8) {f : Nat → Int32} {N : Mm} (h : Agr P (vN f) N) (hi : InvR N) {r : Nat} (hr : r < 8) : Agr P (vN (thM f r)) (brnR N r) := by
  have e1 : f (4 + 4 * r + 0) = N 1 r := h.2.1 1 r (by omega) (by omega) hr
  have e2 : f (4 + 4 * r + 1) = N 2 r := h.2.1 2 r (by omega) (by omega) hr
  have e3 : f (4 + 4 * r + 2) = N 3 r := h.2.1 3 r (by omega) (by omega) hr
  have hv := brn_v hi hr
  simp only [thM]
  rw [upd_ne (show 4 + 4 * r + 0 ≠ 4 + 4 * r + 1 by omega), e1, e2, e3, thw_q, mx_id hv.1.2, mx_min]
  exact agR hP8 (agR hP8 h hr (w := 1) (by decide) _) hr (w := 0) (by decide) _
/-- through a door -/
theorem mix_v {N : Mm} (h : InvR N) {d : Nat} (hd : d < 7) : rg (-9999) 9999 (N 1 d - N 1 (d + 1)) ∧ rg 0 9999 (N 1 d - (N 1 d - N 1 (d + 1)) / 4) ∧ rg 0 9999 (N 1 (d + 1) + (N 1 d - N 1 (d + 1)) / 4) := by
  obtain ⟨⟨a1, a2⟩, -⟩ := h d (by omega)
  obtain ⟨⟨b1, b2⟩, -⟩ := h (d + 1) (by omega)
  have e : (N 1 d - N 1 (d + 1)).toInt = (N 1 d).toInt - (N 1 (d + 1)).toInt := tS (by omega) (by omega)
  have hm : rg (-9999) 9999 (N 1 d - N 1 (d + 1)) := ⟨by omega, by omega⟩
  have hf := fourth_b hm
  refine ⟨hm, ?_, ?_⟩
  · rcases Int.le_total 0 (N 1 d - N 1 (d + 1)).toInt with q | q
    · have := hf.1 q
      constructor <;> rw [tS (by omega) (by omega)] <;> omega
    · have := hf.2 q
      constructor <;> rw [tS (by omega) (by omega)] <;> omega
  · rcases Int.le_total 0 (N 1 d - N 1 (d + 1)).toInt with q | q
    · have := hf.1 q
      constructor <;> rw [tA (by omega) (by omega)] <;> omega
    · have := hf.2 q
      constructor <;> rw [tA (by omega) (by omega)] <;> omega
theorem mixR_inv {N : Mm} (h : InvR N) {d : Nat} (hd : d < 7) : InvR (mixR N d) := by
  unfold mixR
  split
  · exact (h.set1 (mix_v h hd).2.1).set1 (mix_v h hd).2.2
  · exact h
theorem dgM_ag {P : Nat} (hP8 : P ≤ 8) {f : Nat → Int32} {N : Mm} (h : Agr P (vN f) N) (hi : InvR N) {d : Nat} (hd : d < 7) : Agr P (vN (dgM f d)) (mixR N d) := by
  have e1 : f (4 + 4 * d + 0) = N 1 d := h.2.1 1 d (by omega) (by omega) (by omega)
  have e2 : f (4 + 4 * (d + 1) + 0) = N 1 (d + 1) := h.2.1 1 (d + 1) (by omega) (by omega) (by omega)
  have e0 : f 2 = N 0 4 := h.1 4 (by omega) (by omega)
  have hv := mix_v hi hd
  unfold dgM mixR
  rw [e0]
  split
  · simp only [drM]
    rw [upd_ne (show 4 + 4 * (d + 1) + 0 ≠ 4 + 4 * d + 0 by omega), e1, e2]
    have eq : (if 0 ≤ N 1 d - N 1 (d + 1) then (N 1 d - N 1 (d + 1)) / 4 else -(-(N 1 d - N 1 (d + 1)) / 4)) = (N 1 d - N 1 (d + 1)) / 4 := by
      split
      · rfl
      · exact fourth_neg hv.1
    rw [eq, mx_id hv.2.1.2, mx_id hv.2.2.2]
    exact agR hP8 (agR hP8 h (r := d) (by omega) (w := 0) (by decide) _) (r := d + 1) (by omega) (w := 0) (by decide) _
  · exact h
/-- what one breathes -/
theorem voi_b (N : Mm) (p : Nat) : ∀ q, q ≤ 8 → 0 ≤ (voi N p q).toInt ∧ (voi N p q).toInt ≤ q
  | 0, _ => by constructor <;> simp [voi]
  | q + 1, hq => by
    obtain ⟨h1, h2⟩ := voi_b N p q (by omega)
    rw [voi]
    split
    · rw [tA (by rw [i1]; omega) (by rw [i1]; omega), i1]
      exact ⟨by omega, by omega⟩
    · exact ⟨h1, by omega⟩
theorem half_b {x : Int32} (h : rg 1 20 x) : rg 0 10 (x / 2) := by
  obtain ⟨h1, h2⟩ := h
  have e : x.toInt.tdiv (2 : Int32).toInt = x.toInt / 2 := by rw [i2, tdiv_nn (by omega)]
  constructor <;> rw [tD (by rw [e]; omega) (by rw [e]; omega), e] <;> omega
theorem brt_b {P : Nat} (hP8 : P ≤ 8) {N : Mm} (h : InvP P N) {p : Nat} (hp : p < P) : rg 0 48 (brt N P p) := by
  obtain ⟨-, -, hn, -, -⟩ := h p hp
  have hv := voi_b N p P hP8
  have hh := half_b hn
  obtain ⟨n1, n2⟩ := hn
  obtain ⟨m1, m2⟩ := hh
  have e2 : (2 * N 7 p).toInt = 2 * (N 7 p).toInt := by rw [tM (by rw [i2]; omega) (by rw [i2]; omega), i2]
  unfold brt
  split
  · exact ⟨by rw [i0]; omega, by rw [i0]; omega⟩
  split
  · exact ⟨by omega, by omega⟩
  split
  · constructor <;> rw [tA (by rw [i1]; omega) (by rw [i1]; omega), i1] <;> omega
  split
  · split
    · exact ⟨by rw [i0]; omega, by rw [i0]; omega⟩
    · exact ⟨by omega, by omega⟩
  split
  · constructor <;> rw [tA (by omega) (by omega), e2] <;> omega
  split
  · constructor <;> rw [tA (by rw [i2]; omega) (by rw [i2]; omega), i2] <;> omega
  · exact ⟨by omega, by omega⟩
theorem stay_b {x : Int32} (h : rg 0 999 x) : rg 0 999 (jmin 999 (x + 1)) ∧ (if 999 ≤ x then 999 else x + 1) = jmin 999 (x + 1) := by
  obtain ⟨h1, h2⟩ := h
  have e : (x + 1).toInt = x.toInt + 1 := by rw [tA (by rw [i1]; omega) (by rw [i1]; omega), i1]
  constructor
  · constructor <;> rw [jmin_toInt, i999, e] <;> omega
  · apply Int32.toInt_inj.mp
    rw [jmin_toInt, i999, e]
    split <;> rename_i q <;> rw [le_i, i999] at q
    · rw [i999]; omega
    · rw [e]; omega
theorem InvP.set {P : Nat} {N : Mm} (h : InvP P N) {k j : Nat} {v : Int32} (hk : k < 5) : InvP P (na_set N k j v) := by
  intro p hp
  rw [na_set_off (by omega), na_set_off (by omega), na_set_off (by omega), na_set_off (by omega), na_set_off (by omega)]
  exact h p hp
theorem InvP.set8 {P : Nat} {N : Mm} (h : InvP P N) {j : Nat} {v : Int32} (hv : rg 0 999 v) : InvP P (na_set N 8 j v) := by
  intro p hp
  obtain ⟨h1, h2, h3, h4, h5⟩ := h p hp
  rw [na_set_off (by omega), na_set_off (by omega), na_set_off (by omega), na_set_off (show (9 : Nat) ≠ 8 by omega), na_set_get]
  refine ⟨h1, h2, h3, ?_, h5⟩
  split
  · exact hv
  · exact h4
theorem InvP.set9 {P : Nat} {N : Mm} (h : InvP P N) {j : Nat} {v : Int32} (hv : v = 0 ∨ v = 1) : InvP P (na_set N 9 j v) := by
  intro p hp
  obtain ⟨h1, h2, h3, h4, h5⟩ := h p hp
  rw [na_set_off (by omega), na_set_off (by omega), na_set_off (by omega), na_set_off (show (8 : Nat) ≠ 9 by omega), na_set_get]
  refine ⟨h1, h2, h3, h4, ?_⟩
  split
  · exact hv
  · exact h5
theorem bre_v {P : Nat} (hP8 : P ≤ 8) {N : Mm} (hr : InvR N) (h : InvP P N) {p : Nat} (hp : p < P) : ∃ rm, rm < 8 ∧ (N 6 p).toNatClampNeg = rm ∧ (¬ N 1 rm < brt N P p → rg 0 9999 (N 1 rm - brt N P p)) := by
  obtain ⟨rm, hrm, er⟩ := vp_in_of (h.pl p hp) (by decide)
  refine ⟨rm, hrm, by rw [er]; exact nI_clamp (by omega), fun hlt => ?_⟩
  obtain ⟨b1, b2⟩ := brt_b hP8 h hp
  obtain ⟨⟨a1, a2⟩, -⟩ := hr rm hrm
  rw [lt_i] at hlt
  constructor <;> rw [tS (by omega) (by omega)] <;> omega
theorem breR_inv {P : Nat} (hP8 : P ≤ 8) {N : Mm} (hr : InvR N) (h : InvP P N) {p : Nat} (hp : p < P) : InvR (breR P N p) ∧ InvP P (breR P N p) := by
  obtain ⟨rm, hrm, ec, hv⟩ := bre_v hP8 hr h hp
  have hs := (stay_b (h p hp).2.2.2.1).1
  unfold breR
  rw [ec]
  split
  · exact ⟨((hr.set1 ⟨by rw [i0]; omega, by rw [i0]; omega⟩).off (Or.inr (by decide))).off (Or.inr (by decide)), ((h.set (by decide)).set9 (Or.inr rfl)).set8 hs⟩
  · rename_i q
    exact ⟨(hr.set1 (hv q)).off (Or.inr (by decide)), (h.set (by decide)).set8 hs⟩
theorem bhM_ag {P : Nat} (hP8 : P ≤ 8) {f : Nat → Int32} {N : Mm} (h : Agr P (vN f) N) (hr : InvR N) (hi : InvP P N) {p : Nat} (hp : p < P) : Agr P (vN (bhM P f p)) (breR P N p) := by
  obtain ⟨rm, hrm, ec, hv⟩ := bre_v hP8 hr hi hp
  have e6 : f (36 + 5 * p + 1) = N 6 p := h.2.2 6 p (by omega) (by omega) hp
  have e8 : f (36 + 5 * p + 3) = N 8 p := h.2.2 8 p (by omega) (by omega) hp
  have e1 : f (4 + 4 * rm + 0) = N 1 rm := h.2.1 1 rm (by omega) (by omega) hrm
  have hs := (stay_b (hi p hp).2.2.2.1).2
  have eb := brt_c h hp
  simp only [bhM]
  rw [eb, e6, ec, e1]
  unfold breR
  rw [ec]
  by_cases hc : N 1 rm < brt N P p
  · have hc2 : ¬ brt N P p ≤ N 1 rm := Int32.not_le.mpr hc
    rw [if_neg hc2, if_neg hc2, if_pos hc, mx_id (by rw [i0]; omega), upd_ne (show 36 + 5 * p + 3 ≠ 36 + 5 * p + 4 by omega), upd_ne (show 36 + 5 * p + 3 ≠ 4 + 4 * rm + 0 by omega), e8, hs]
    exact agP hP8 (agP hP8 (agR hP8 h hrm (w := 0) (by decide) _) (w := 4) (by decide) _) (w := 3) (by decide) _
  · have hc2 : brt N P p ≤ N 1 rm := Int32.not_lt.mp hc
    rw [if_pos hc2, if_pos hc2, if_neg hc, mx_id (hv hc).2, upd_ne (show 36 + 5 * p + 3 ≠ 4 + 4 * rm + 0 by omega), e8, hs]
    exact agP hP8 (agR hP8 h hrm (w := 0) (by decide) _) (w := 3) (by decide) _
/-! the hour -/
theorem it_inv {B : Nat} {g : Mm → Nat → Mm} (hg : ∀ N, InvR N → ∀ r, r < B → InvR (g N r)) {N : Mm} (h : InvR N) : ∀ n, n ≤ B → InvR (itN g n N)
  | 0, _ => h
  | n + 1, hn => hg _ (it_inv hg h n (by omega)) n (by omega)
theorem it_ag {P B : Nat} {g : Mm → Nat → Mm} {m : (Nat → Int32) → Nat → (Nat → Int32)} (hg : ∀ N, InvR N → ∀ r, r < B → InvR (g N r)) (hm : ∀ f N, Agr P (vN f) N → InvR N → ∀ r, r < B → Agr P (vN (m f r)) (g N r)) {f : Nat → Int32} {N : Mm} (h : Agr P (vN f) N) (hi : InvR N) : ∀ n, n ≤ B → Agr P (vN (itF m n f)) (itN g n N)
  | 0, _ => h
  | n + 1, hn => hm _ _ (it_ag hg hm h hi n (by omega)) (it_inv hg hi n (by omega)) n (by omega)
theorem pre_inv {N : Mm} (h : InvR N) : InvR (preN N) := by
  have h1 : InvR (pre1 N) := by
    unfold pre1
    split
    · exact it_inv (B := 8) (fun N h r hr => frzR_inv h hr) h 8 (Nat.le_refl _)
    · exact h
  unfold preN
  exact (it_inv (B := 7) (fun N h r hr => mixR_inv h hr) (it_inv (B := 8) (fun N h r hr => brnR_inv h hr) h1 8 (Nat.le_refl _)) 7 (Nat.le_refl _)).off (Or.inl rfl)
theorem preP_inv {P : Nat} {N : Mm} (h : InvP P N) : InvP P (preN N) := by
  intro p hp
  rw [preN_keep (by decide), preN_keep (by decide), preN_keep (by decide), preN_keep (by decide), preN_keep (by decide)]
  exact h p hp
theorem itB_inv {P : Nat} (hP8 : P ≤ 8) {N : Mm} (hr : InvR N) (h : InvP P N) : ∀ n, n ≤ P → InvR (itN (breR P) n N) ∧ InvP P (itN (breR P) n N)
  | 0, _ => ⟨hr, h⟩
  | n + 1, hn => breR_inv hP8 (itB_inv hP8 hr h n (by omega)).1 (itB_inv hP8 hr h n (by omega)).2 (by omega)
theorem hrN_inv {P : Nat} (hP8 : P ≤ 8) {N : Mm} (hr : InvR N) (h : InvP P N) : InvR (hrN P N) ∧ InvP P (hrN P N) := itB_inv hP8 (pre_inv hr) (preP_inv h) P (Nat.le_refl _)
theorem itH_inv {P : Nat} (hP8 : P ≤ 8) {N : Mm} (hr : InvR N) (h : InvP P N) : ∀ n, InvR (itH P n N) ∧ InvP P (itH P n N)
  | 0 => ⟨hr, h⟩
  | n + 1 => hrN_inv hP8 (itH_inv hP8 hr h n).1 (itH_inv hP8 hr h n).2
theorem itBh_ag {P : Nat} (hP8 : P ≤ 8) {f : Nat → Int32} {N : Mm} (h : Agr P (vN f) N) (hr : InvR N) (hi : InvP P N) : ∀ n, n ≤ P → Agr P (vN (itF (bhM P) n f)) (itN (breR P) n N)
  | 0, _ => h
  | n + 1, hn => bhM_ag hP8 (itBh_ag hP8 h hr hi n (by omega)) (itB_inv hP8 hr hi n (by omega)).1 (itB_inv hP8 hr hi n (by omega)).2 (by omega)
/-- the reference counts the hour behind breathing, the class ahead of it -/
theorem breR_h {P : Nat} {N : Mm} {p : Nat} {v : Int32} : breR P (na_set N 0 6 v) p = na_set (breR P N p) 0 6 v := by
  have e : ∀ q, brt (na_set N 0 6 v) P q = brt N P q := fun q => by
    have e2 : ∀ m, voi (na_set N 0 6 v) q m = voi N q m := fun m => by
      induction m with
      | zero => rfl
      | succ m ih => rw [voi, voi, ih, na_set_off (by decide), na_set_off (by decide), na_set_off (by decide)]
    rw [brt, brt, e2, na_set_off (by decide), na_set_off (by decide), na_set_off (by decide), na_set_off (by decide)]
  unfold breR
  rw [e, na_set_off (show (6 : Nat) ≠ 0 by decide), na_set_off (show (1 : Nat) ≠ 0 by decide), na_set_off (show (8 : Nat) ≠ 0 by decide)]
  split
  · rw [na_set_comm (a := 0) (b := 1) (by decide), na_set_comm (a := 0) (b := 9) (by decide), na_set_comm (a := 0) (b := 8) (by decide)]
  · rw [na_set_comm (a := 0) (b := 1) (by decide), na_set_comm (a := 0) (b := 8) (by decide)]
theorem itB_h {P : Nat} {N : Mm} {v : Int32} : ∀ n, itN (breR P) n (na_set N 0 6 v) = na_set (itN (breR P) n N) 0 6 v
  | 0 => rfl
  | n + 1 => by rw [itN, itB_h n, breR_h, itN]
theorem hrM_ag {P : Nat} (hP8 : P ≤ 8) {f : Nat → Int32} {N : Mm} (h : Agr P (vN f) N) (hr : InvR N) (hi : InvP P N) : Agr P (vN (hrM P f)) (hrN P N) := by
  have h1 : Agr P (vN (pm1 f)) (pre1 N) := by
    have ec : f 1 = N 0 5 := h.1 5 (by omega) (by omega)
    unfold pm1 pre1
    rw [ec]
    split
    · exact it_ag (B := 8) (fun N h r hr => frzR_inv h hr) (fun f N h hi r hr => frM_ag hP8 h hi hr) h hr 8 (Nat.le_refl _)
    · exact h
  have r1 : InvR (pre1 N) := by
    unfold pre1
    split
    · exact it_inv (B := 8) (fun N h r hr => frzR_inv h hr) hr 8 (Nat.le_refl _)
    · exact hr
  have h2 := it_ag (B := 8) (fun N h r hr => brnR_inv h hr) (fun f N h hi r hr => thM_ag hP8 h hi hr) h1 r1 8 (Nat.le_refl _)
  have r2 := it_inv (B := 8) (fun N h r hr => brnR_inv h hr) r1 8 (Nat.le_refl _)
  have h3 := it_ag (B := 7) (fun N h r hr => mixR_inv h hr) (fun f N h hi r hr => dgM_ag hP8 h hi hr) h2 r2 7 (Nat.le_refl _)
  have r3 := it_inv (B := 7) (fun N h r hr => mixR_inv h hr) r2 7 (Nat.le_refl _)
  have p3 : InvP P (itN mixR 7 (itN brnR 8 (pre1 N))) := by
    intro p hp
    rw [pre3_keep (by decide), pre3_keep (by decide), pre3_keep (by decide), pre3_keep (by decide), pre3_keep (by decide)]
    exact hi p hp
  have h4 := itBh_ag hP8 h3 r3 p3 P (Nat.le_refl _)
  have e6 : itF (bhM P) P (pmM f) 0 = itN mixR 7 (itN brnR 8 (pre1 N)) 0 6 := by
    have q1 : itF (bhM P) P (pmM f) 0 = itN (breR P) P (itN mixR 7 (itN brnR 8 (pre1 N))) 0 6 := h4.1 6 (by omega) (by omega)
    rw [q1, itB_keep P _ (by decide)]
  unfold hrM hrN preN
  rw [itB_h, e6]
  exact agS h4 (w := 0) (by decide) _
theorem itM_ag {P : Nat} (hP8 : P ≤ 8) {f : Nat → Int32} {N : Mm} (h : Agr P (vN f) N) (hr : InvR N) (hi : InvP P N) : ∀ n, Agr P (vN (itM P n f)) (itH P n N)
  | 0 => h
  | n + 1 => hrM_ag hP8 (itM_ag hP8 h hr hi n) (itH_inv hP8 hr hi n).1 (itH_inv hP8 hr hi n).2
