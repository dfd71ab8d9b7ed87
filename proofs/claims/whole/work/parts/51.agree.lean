/-! TWO NIGHTS THAT TELL THE SAME -/
theorem Agr.refl (P : Nat) (M : Mm) : Agr P M M := ⟨fun _ _ _ => rfl, fun _ _ _ _ _ => rfl, fun _ _ _ _ _ => rfl⟩
theorem Agr.symm {P : Nat} {M N : Mm} (h : Agr P M N) : Agr P N M := ⟨fun j a b => (h.1 j a b).symm, fun k j a b c => (h.2.1 k j a b c).symm, fun k j a b c => (h.2.2 k j a b c).symm⟩
theorem Agr.trans {P : Nat} {M N O : Mm} (h : Agr P M N) (g : Agr P N O) : Agr P M O := ⟨fun j a b => (h.1 j a b).trans (g.1 j a b), fun k j a b c => (h.2.1 k j a b c).trans (g.2.1 k j a b c), fun k j a b c => (h.2.2 k j a b c).trans (g.2.2 k j a b c)⟩
theorem na_set_get (I : Mm) (k j a b : Nat) (v : Int32) : na_set I k j v a b = if a = k ∧ b = j then v else I a b := by
  unfold na_set upd
  by_cases h : a = k
  · subst h
    by_cases h2 : b = j
    · simp [h2]
    · simp [h2]
  · simp [h]
theorem Agr.set {P : Nat} {M N : Mm} (h : Agr P M N) (k j : Nat) (v : Int32) : Agr P (na_set M k j v) (na_set N k j v) := by
  refine ⟨fun b h1 h2 => ?_, fun a b h1 h2 h3 => ?_, fun a b h1 h2 h3 => ?_⟩ <;> rw [na_set_get, na_set_get] <;> split
  · rfl
  · exact h.1 b h1 h2
  · rfl
  · exact h.2.1 a b h1 h2 h3
  · rfl
  · exact h.2.2 a b h1 h2 h3
/-- the row's acts, as a night's -/
theorem agR {P : Nat} (hP8 : P ≤ 8) {f : Nat → Int32} {N : Mm} (h : Agr P (vN f) N) {r w : Nat} (hr : r < 8) (hw : w < 4) (v : Int32) : Agr P (vN (upd f (4 + 4 * r + w) v)) (na_set N (w + 1) r v) := by
  refine Agr.trans ?_ (h.set (w + 1) r v)
  refine ⟨fun b h1 h2 => ?_, fun a b h1 h2 h3 => ?_, fun a b h1 h2 h3 => ?_⟩
  · rw [na_set_get, if_neg (by omega)]
    obtain rfl | rfl | rfl | rfl : b = 4 ∨ b = 5 ∨ b = 6 ∨ b = 7 := by omega
    all_goals exact upd_ne (by omega)
  · rw [na_set_get]
    obtain rfl | rfl | rfl | rfl : a = 1 ∨ a = 2 ∨ a = 3 ∨ a = 4 := by omega
    all_goals
      show upd f (4 + 4 * r + w) v _ = _
      unfold upd
      split
      · rw [if_pos (by omega)]
      · rw [if_neg (by omega)]
        rfl
  · rw [na_set_get, if_neg (by omega)]
    obtain rfl | rfl | rfl | rfl | rfl : a = 5 ∨ a = 6 ∨ a = 7 ∨ a = 8 ∨ a = 9 := by omega
    all_goals exact upd_ne (by omega)
theorem agP {P : Nat} (hP8 : P ≤ 8) {f : Nat → Int32} {N : Mm} (h : Agr P (vN f) N) {p w : Nat} (hw : w < 5) (v : Int32) : Agr P (vN (upd f (36 + 5 * p + w) v)) (na_set N (w + 5) p v) := by
  refine Agr.trans ?_ (h.set (w + 5) p v)
  refine ⟨fun b h1 h2 => ?_, fun a b h1 h2 h3 => ?_, fun a b h1 h2 h3 => ?_⟩
  · rw [na_set_get, if_neg (by omega)]
    obtain rfl | rfl | rfl | rfl : b = 4 ∨ b = 5 ∨ b = 6 ∨ b = 7 := by omega
    all_goals exact upd_ne (by omega)
  · rw [na_set_get, if_neg (by omega)]
    obtain rfl | rfl | rfl | rfl : a = 1 ∨ a = 2 ∨ a = 3 ∨ a = 4 := by omega
    all_goals exact upd_ne (by omega)
  · rw [na_set_get]
    obtain rfl | rfl | rfl | rfl | rfl : a = 5 ∨ a = 6 ∨ a = 7 ∨ a = 8 ∨ a = 9 := by omega
    all_goals
      show upd f (36 + 5 * p + w) v _ = _
      unfold upd
      split
      · rw [if_pos (by omega)]
      · rw [if_neg (by omega)]
        rfl
/-- the row's numbers 0 to 3 -/
def sc (w : Nat) : Nat := match w with
  | 0 => 6
  | 1 => 5
  | 2 => 4
  | _ => 7
theorem agS {P : Nat} {f : Nat → Int32} {N : Mm} (h : Agr P (vN f) N) {w : Nat} (hw : w < 4) (v : Int32) : Agr P (vN (upd f w v)) (na_set N 0 (sc w) v) := by
  refine Agr.trans ?_ (h.set 0 (sc w) v)
  refine ⟨fun b h1 h2 => ?_, fun a b h1 h2 h3 => ?_, fun a b h1 h2 h3 => ?_⟩
  · rw [na_set_get]
    obtain rfl | rfl | rfl | rfl : w = 0 ∨ w = 1 ∨ w = 2 ∨ w = 3 := by omega
    all_goals
      obtain rfl | rfl | rfl | rfl : b = 4 ∨ b = 5 ∨ b = 6 ∨ b = 7 := by omega
      all_goals rfl
  · rw [na_set_get, if_neg (by omega)]
    obtain rfl | rfl | rfl | rfl : a = 1 ∨ a = 2 ∨ a = 3 ∨ a = 4 := by omega
    all_goals exact upd_ne (by omega)
  · rw [na_set_get, if_neg (by omega)]
    obtain rfl | rfl | rfl | rfl | rfl : a = 5 ∨ a = 6 ∨ a = 7 ∨ a = 8 ∨ a = 9 := by omega
    all_goals exact upd_ne (by omega)
theorem E76.agr {P : Nat} (hP8 : P ≤ 8) {g f : Nat → Int32} (h : E76 g f) : Agr P (vN g) (vN f) := by
  refine ⟨fun b h1 h2 => ?_, fun a b h1 h2 h3 => ?_, fun a b h1 h2 h3 => ?_⟩
  · obtain rfl | rfl | rfl | rfl : b = 4 ∨ b = 5 ∨ b = 6 ∨ b = 7 := by omega
    all_goals exact h _ (by omega)
  · obtain rfl | rfl | rfl | rfl : a = 1 ∨ a = 2 ∨ a = 3 ∨ a = 4 := by omega
    all_goals exact h _ (by omega)
  · obtain rfl | rfl | rfl | rfl | rfl : a = 5 ∨ a = 6 ∨ a = 7 ∨ a = 8 ∨ a = 9 := by omega
    all_goals exact h _ (by omega)
/-! what the functions read -/
theorem voi_c {P : Nat} {M N : Mm} (h : Agr P M N) {p : Nat} (hp : p < P) : ∀ q, q ≤ P → voi M p q = voi N p q
  | 0, _ => rfl
  | q + 1, hq => by rw [voi, voi, voi_c h hp q (by omega), h.2.2 5 q (by omega) (by omega) (by omega), h.2.2 6 q (by omega) (by omega) (by omega), h.2.2 6 p (by omega) (by omega) (by omega), h.2.2 9 q (by omega) (by omega) (by omega)]
theorem brt_c {P : Nat} {M N : Mm} (h : Agr P M N) {p : Nat} (hp : p < P) : brt M P p = brt N P p := by
  rw [brt, brt, voi_c h hp P (Nat.le_refl _), h.2.2 5 p (by omega) (by omega) (by omega), h.2.2 7 p (by omega) (by omega) (by omega), h.2.2 8 p (by omega) (by omega) (by omega), h.2.2 9 p (by omega) (by omega) (by omega)]
theorem stf_c {P : Nat} {M N : Mm} (h : Agr P M N) : ∀ q, q ≤ P → stf M q = stf N q
  | 0, _ => rfl
  | q + 1, hq => by rw [stf, stf, stf_c h q (by omega), h.2.2 9 q (by omega) (by omega) (by omega)]
theorem insP_c {P : Nat} {M N : Mm} (h : Agr P M N) (room : Int32) : ∀ q, q ≤ P → insP M room q = insP N room q
  | 0, _ => rfl
  | q + 1, hq => by rw [insP, insP, insP_c h room q (by omega), h.2.2 6 q (by omega) (by omega) (by omega)]
theorem bri_c {P : Nat} {M N : Mm} (h : Agr P M N) (set : Int32) : ∀ q, q ≤ P → bri M P set q = bri N P set q
  | 0, _ => rfl
  | q + 1, hq => by rw [bri, bri, bri_c h set q (by omega), brt_c h (by omega)]
theorem gre_c {P : Nat} {M N : Mm} (h : Agr P M N) (set : Int32) : ∀ q, q ≤ P → gre M P set q = gre N P set q
  | 0, _ => rfl
  | q + 1, hq => by rw [gre, gre, gre_c h set q (by omega), brt_c h (by omega)]
theorem grM_c {P : Nat} {M N : Mm} (h : Agr P M N) (set : Int32) : ∀ q, q ≤ P → grM M P set q = grM N P set q
  | 0, _ => rfl
  | q + 1, hq => by rw [grM, grM, grM_c h set q (by omega), brt_c h (by omega)]
theorem brI_c {P : Nat} {M N : Mm} (h : Agr P M N) (room : Int32) : ∀ q, q ≤ P → brI M P room q = brI N P room q
  | 0, _ => rfl
  | q + 1, hq => by rw [brI, brI, brI_c h room q (by omega), brt_c h (by omega), h.2.2 6 q (by omega) (by omega) (by omega)]
theorem brA_c {P : Nat} {M N : Mm} (h : Agr P M N) : ∀ q, q ≤ P → brA M P q = brA N P q
  | 0, _ => rfl
  | q + 1, hq => by rw [brA, brA, brA_c h q (by omega), brt_c h (by omega)]
theorem fri_c {P : Nat} {M N : Mm} (h : Agr P M N) (set : Int32) : ∀ q, q ≤ 8 → fri M set q = fri N set q
  | 0, _ => rfl
  | q + 1, hq => by rw [fri, fri, fri_c h set q (by omega), h.2.1 2 q (by omega) (by omega) (by omega)]
theorem frzR_c {P : Nat} {M N : Mm} (h : Agr P M N) {r : Nat} (hr : r < 8) : Agr P (frzR M r) (frzR N r) := by
  unfold frzR
  rw [h.2.1 1 r (by omega) (by omega) hr, h.2.1 2 r (by omega) (by omega) hr, h.2.1 4 r (by omega) (by omega) hr]
  exact (h.set _ _ _).set _ _ _
theorem brnR_c {P : Nat} {M N : Mm} (h : Agr P M N) {r : Nat} (hr : r < 8) : Agr P (brnR M r) (brnR N r) := by
  unfold brnR
  rw [h.2.1 1 r (by omega) (by omega) hr, h.2.1 2 r (by omega) (by omega) hr, h.2.1 3 r (by omega) (by omega) hr]
  exact (h.set _ _ _).set _ _ _
theorem mixR_c {P : Nat} {M N : Mm} (h : Agr P M N) {r : Nat} (hr : r < 7) : Agr P (mixR M r) (mixR N r) := by
  unfold mixR
  rw [h.1 4 (by omega) (by omega), h.2.1 1 r (by omega) (by omega) (by omega), h.2.1 1 (r + 1) (by omega) (by omega) (by omega)]
  split
  · exact (h.set _ _ _).set _ _ _
  · exact h
theorem itN_c {P B : Nat} {g : Mm → Nat → Mm} (hg : ∀ (M N : Mm), Agr P M N → ∀ r : Nat, r < B → Agr P (g M r) (g N r)) {M N : Mm} (h : Agr P M N) : ∀ n, n ≤ B → Agr P (itN g n M) (itN g n N)
  | 0, _ => h
  | n + 1, hn => hg _ _ (itN_c hg h n (by omega)) n (by omega)
theorem breR_c {P : Nat} {M N : Mm} (h : Agr P M N) (hpl : ∀ p, p < P → vp_in (N 6 p) 8) {p : Nat} (hp : p < P) : Agr P (breR P M p) (breR P N p) := by
  obtain ⟨rm, hrm, er⟩ := vp_in_of (hpl p hp) (by decide)
  have ec : (N 6 p).toNatClampNeg = rm := by rw [er]; exact nI_clamp (by omega)
  unfold breR
  rw [brt_c h hp, h.2.2 6 p (by omega) (by omega) hp, h.2.2 8 p (by omega) (by omega) hp, ec, h.2.1 1 rm (by omega) (by omega) hrm]
  split
  · exact ((h.set _ _ _).set _ _ _).set _ _ _
  · exact (h.set _ _ _).set _ _ _
theorem itB_c {P : Nat} {M N : Mm} (h : Agr P M N) (hpl : ∀ p, p < P → vp_in (N 6 p) 8) : ∀ n, n ≤ P → Agr P (itN (breR P) n M) (itN (breR P) n N)
  | 0, _ => h
  | n + 1, hn => breR_c (itB_c h hpl n (by omega)) (by rw [itB_keep P N (by decide) n]; exact hpl) (by omega)
theorem newR_c {P : Nat} {M N : Mm} (h : Agr P M N) (hpl : ∀ p, p < P → vp_in (N 6 p) 8) : ∀ n, n ≤ P → newR P M n = newR P N n
  | 0, _ => rfl
  | n + 1, hn => by
    have g := itB_c h hpl n (by omega)
    have hk : itN (breR P) n N 6 = N 6 := itB_keep P N (by decide) n
    obtain ⟨rm, hrm, er⟩ := vp_in_of (hpl n (by omega)) (by decide)
    have ec : (N 6 n).toNatClampNeg = rm := by rw [er]; exact nI_clamp (by omega)
    rw [newR, newR, newR_c h hpl n (by omega), brt_c g (by omega), g.2.2 6 n (by omega) (by omega) (by omega), hk, ec, g.2.1 1 rm (by omega) (by omega) hrm]
theorem preN_c {P : Nat} {M N : Mm} (h : Agr P M N) : Agr P (preN M) (preN N) := by
  have h1 : Agr P (pre1 M) (pre1 N) := by
    unfold pre1
    rw [h.1 5 (by omega) (by omega)]
    split
    · exact itN_c (B := 8) (g := frzR) (fun M N h r hr => frzR_c h hr) h 8 (Nat.le_refl _)
    · exact h
  have h2 := itN_c (B := 7) (g := mixR) (fun M N h r hr => mixR_c h hr) (itN_c (B := 8) (g := brnR) (fun M N h r hr => brnR_c h hr) h1 8 (Nat.le_refl _)) 7 (Nat.le_refl _)
  unfold preN
  rw [h2.1 6 (by omega) (by omega)]
  exact h2.set _ _ _
theorem hrN_c {P : Nat} {M N : Mm} (h : Agr P M N) (hpl : ∀ p, p < P → vp_in (N 6 p) 8) : Agr P (hrN P M) (hrN P N) := itB_c (preN_c h) (by rw [preN_keep (by decide)]; exact hpl) P (Nat.le_refl _)
theorem hrW_c {P : Nat} {M N : Mm} (h : Agr P M N) (hpl : ∀ p, p < P → vp_in (N 6 p) 8) : hrW P M = hrW P N := newR_c (preN_c h) (by rw [preN_keep (by decide)]; exact hpl) P (Nat.le_refl _)
theorem itH_c {P : Nat} {M N : Mm} (h : Agr P M N) (hpl : ∀ p, p < P → vp_in (N 6 p) 8) : ∀ n, Agr P (itH P n M) (itH P n N)
  | 0 => h
  | n + 1 => hrN_c (itH_c h hpl n) (by rw [itH_keep (by decide)]; exact hpl)
theorem wl_c {P : Nat} (set : Int32) : ∀ (m : Nat) {M N : Mm}, Agr P M N → (∀ p, p < P → vp_in (N 6 p) 8) → wl P set m M = wl P set m N
  | 0, M, N, h, hpl => rfl
  | m + 1, M, N, h, hpl => by rw [wl, wl, hrW_c h hpl, wl_c set m (hrN_c h hpl) (by rw [hrN_keep (by decide)]; exact hpl)]
