/-! SETS OF PEOPLE -/
theorem fa_and (a b : Nat) : nI a &&& nI b = nI (a &&& b) := by
  apply Int32.toBitVec_inj.1
  show BitVec.ofNat 32 a &&& BitVec.ofNat 32 b = BitVec.ofNat 32 (a &&& b)
  apply BitVec.eq_of_getLsbD_eq
  intro i hi
  simp [hi]
theorem fa_or (a b : Nat) : nI a ||| nI b = nI (a ||| b) := by
  apply Int32.toBitVec_inj.1
  show BitVec.ofNat 32 a ||| BitVec.ofNat 32 b = BitVec.ofNat 32 (a ||| b)
  apply BitVec.eq_of_getLsbD_eq
  intro i hi
  simp [hi]
theorem or_asc (a b c : Int32) : a ||| b ||| c = a ||| (b ||| c) := by
  apply Int32.toBitVec_inj.1
  simp only [Int32.toBitVec_or]
  exact BitVec.or_assoc _ _ _
theorem or_com (a b : Int32) : a ||| b = b ||| a := by
  apply Int32.toBitVec_inj.1
  simp only [Int32.toBitVec_or]
  exact BitVec.or_comm _ _
theorem or_same (a : Int32) : a ||| a = a := by
  apply Int32.toBitVec_inj.1
  simp only [Int32.toBitVec_or]
  exact BitVec.or_self
theorem or_and (a b s : Int32) : (a ||| b) &&& s = (a &&& s) ||| (b &&& s) := by
  apply Int32.toBitVec_inj.1
  simp only [Int32.toBitVec_or, Int32.toBitVec_and]
  apply BitVec.eq_of_getLsbD_eq
  intro i hi
  simp [Bool.and_or_distrib_right]
theorem zor (a : Int32) : 0 ||| a = a := by rw [or_com]; exact or0 a
theorem shl1 : ∀ q, q < 8 → (1 : Int32) <<< (nI q &&& 31) = nI (2 ^ q) := by decide
theorem shl0 : ∀ q, q < 8 → (0 : Int32) <<< (nI q &&& 31) = 0 := by decide
def sN (N : Mm) : Nat → Nat
  | 0 => 0
  | q + 1 => sN N q ||| (if N 9 q = 1 then 2 ^ q else 0)
theorem sN_bit (N : Mm) (p : Nat) : ∀ q, (sN N q).testBit p = decide (p < q ∧ N 9 p = 1)
  | 0 => by simp [sN]
  | q + 1 => by
    rw [sN, Nat.testBit_or, sN_bit N p q]
    by_cases h : p = q
    · subst h
      split
      · rename_i h1; simp [h1, Nat.testBit_two_pow_self]
      · rename_i h1; simp [h1]
    · split
      · rename_i h1
        rw [Nat.testBit_two_pow_of_ne (Ne.symm h)]
        have : (p < q ↔ p < q + 1) := by omega
        simp [this]
      · have : (p < q ↔ p < q + 1) := by omega
        simp [this]
theorem sN_lt (N : Mm) : ∀ q, q ≤ 8 → sN N q < 2 ^ q
  | 0, _ => by simp [sN]
  | q + 1, hq => by
    rw [sN]
    have h := sN_lt N q (by omega)
    apply Nat.or_lt_two_pow
    · exact Nat.lt_of_lt_of_le h (Nat.pow_le_pow_right (by decide) (by omega))
    · split
      · exact Nat.pow_lt_pow_right (by decide) (by omega)
      · exact Nat.two_pow_pos _
theorem stf_s {P : Nat} (hP8 : P ≤ 8) {N : Mm} (h : InvP P N) : ∀ q, q ≤ P → stf N q = nI (sN N q)
  | 0, _ => rfl
  | q + 1, hq => by
    rw [stf, stf_s hP8 h q (by omega), sN]
    rcases (h q (by omega)).2.2.2.2 with e | e
    · rw [e, shl0 q (by omega), or0, if_neg (by decide), Nat.or_zero]
    · rw [e, shl1 q (by omega), if_pos rfl, fa_or]
theorem s256 {P : Nat} (hP8 : P ≤ 8) (N : Mm) : sN N P < 256 := Nat.lt_of_lt_of_le (sN_lt N P hP8) (Nat.pow_le_pow_right (by decide) hP8)
/-- one more is stifled -/
theorem stf_set {M : Mm} {n : Nat} (hn : n < 8) (hm : M 9 n = 0 ∨ M 9 n = 1) : ∀ q, stf (na_set M 9 n 1) q = if n < q then stf M q ||| (1 <<< (nI n &&& 31)) else stf M q
  | 0 => by simp [stf]
  | q + 1 => by
    rw [stf, stf_set hn hm q, na_set_get]
    by_cases h : n < q
    · rw [if_pos h, if_neg (show ¬ (9 = 9 ∧ q = n) by omega), if_pos (show n < q + 1 by omega), stf, or_asc, or_asc]
      congr 1
      exact or_com _ _
    · rw [if_neg h]
      by_cases h2 : q = n
      · subst h2
        rw [if_pos (by simp), if_pos (by omega), stf]
        rcases hm with e | e
        · rw [e, shl0 q hn, or0]
        · rw [e, or_asc, or_same]
      · rw [if_neg (by omega), if_neg (by omega), stf]
theorem stf_off {M : Mm} {k j : Nat} {v : Int32} (hk : k ≠ 9) : ∀ q, stf (na_set M k j v) q = stf M q
  | 0 => rfl
  | q + 1 => by rw [stf, stf, stf_off hk q, na_set_off (Ne.symm hk)]
theorem brt_st {N : Mm} {P p : Nat} (h : N 9 p = 1) : brt N P p = 0 := if_pos h
theorem bre_hit {P : Nat} (hP8 : P ≤ 8) {N : Mm} (hr : InvR N) (h : InvP P N) {p : Nat} (hp : p < P) (hc : N 1 (N 6 p).toNatClampNeg < brt N P p) : N 9 p = 0 := by
  rcases (h p hp).2.2.2.2 with e | e
  · exact e
  · exfalso
    obtain ⟨rm, hrm, ec, -⟩ := bre_v hP8 hr h hp
    rw [brt_st e, ec, lt_i, i0] at hc
    have := (hr rm hrm).1.1
    omega
theorem stf_bre {P : Nat} (hP8 : P ≤ 8) {N : Mm} (hr : InvR N) (h : InvP P N) : ∀ n, n ≤ P → stf (itN (breR P) n N) P = stf N P ||| newR P N n
  | 0, _ => by rw [newR, or0]; rfl
  | n + 1, hn => by
    have ih := stf_bre hP8 hr h n (by omega)
    have hi := itB_inv hP8 hr h n (by omega)
    rw [itN, newR]
    generalize itN (breR P) n N = M at ih hi ⊢
    unfold breR
    split
    · rename_i hc
      rw [stf_off (by decide), stf_set (by omega) (by rw [na_set_off (by decide)]; exact (hi.2 n (by omega)).2.2.2.2), if_pos (by omega), stf_off (by decide), ih, or_asc]
    · rw [stf_off (by decide), stf_off (by decide), ih]
theorem stf_pre (N : Mm) : ∀ q, stf (preN N) q = stf N q
  | 0 => rfl
  | q + 1 => by rw [stf, stf, stf_pre N q, preN_keep (by decide)]
/-- who is stifled behind an hour -/
theorem stf_hr {P : Nat} (hP8 : P ≤ 8) {N : Mm} (hr : InvR N) (h : InvP P N) : stf (hrN P N) P = stf N P ||| hrW P N := by
  have := stf_bre hP8 (pre_inv hr) (preP_inv h) P (Nat.le_refl _)
  rw [stf_pre] at this
  exact this
theorem un_wl {P : Nat} (hP8 : P ≤ 8) (set : Int32) : ∀ (m : Nat) {f : Nat → Int32} {N : Mm}, Agr P (vN f) N → InvR N → InvP P N → stf N P &&& set = 0 → un P set (m + 1) f = 1 + wl P set m N
  | 0, f, N, h, hr, hi, hs => by rw [un, stf_c h P (Nat.le_refl _), if_pos hs, un, wl]
  | m + 1, f, N, h, hr, hi, hs => by
    have hi2 := hrN_inv hP8 hr hi
    have h2 := hrM_ag hP8 h hr hi
    have e : stf (hrN P N) P &&& set = hrW P N &&& set := by rw [stf_hr hP8 hr hi, or_and, hs, zor]
    rw [un, stf_c h P (Nat.le_refl _), if_pos hs, wl]
    by_cases hc : hrW P N &&& set = 0
    · rw [if_pos hc, un_wl hP8 set m h2 hi2.1 hi2.2 (by rw [e]; exact hc)]
    · rw [if_neg hc, un, stf_c h2 P (Nat.le_refl _), if_neg (by rw [e]; exact hc)]
/-- those who become stifled were well -/
theorem mask1 : ∀ P, P ≤ 8 → ∀ n, n < P → ∀ s, s < 256 → s.testBit n = false → nI (2 ^ n) &&& (((1 <<< (nI P &&& 31)) - 1) &&& (nI s ^^^ -1)) = nI (2 ^ n) := by decide +kernel
theorem mask2 : ∀ n, n < 8 → nI (2 ^ n) &&& 255 = nI (2 ^ n) := by decide +kernel
theorem new_wo {P : Nat} (hP8 : P ≤ 8) {N : Mm} (hr : InvR N) (h : InvP P N) : ∀ n, n ≤ P → newR P N n &&& wo N P = newR P N n ∧ newR P N n &&& 255 = newR P N n
  | 0, _ => by
    rw [newR]
    exact ⟨by apply Int32.toBitVec_inj.1; simp, by decide⟩
  | n + 1, hn => by
    obtain ⟨h1, h2⟩ := new_wo hP8 hr h n (by omega)
    have hi := itB_inv hP8 hr h n (by omega)
    rw [newR]
    split
    · rename_i hc
      have e9 := bre_hit hP8 hi.1 hi.2 (by omega) hc
      have e9' : N 9 n = 0 := by
        have : ∀ m, m ≤ n → itN (breR P) m N 9 n = N 9 n := by
          intro m
          induction m with
          | zero => intro _; rfl
          | succ m ih =>
            intro hm
            rw [itN]
            have ih := ih (by omega)
            generalize itN (breR P) m N = M at ih ⊢
            unfold breR
            split
            · rw [na_set_off (by decide), na_set_get, if_neg (by omega), na_set_off (by decide), ih]
            · rw [na_set_off (by decide), na_set_off (by decide), ih]
        rw [← this n (Nat.le_refl _)]
        exact e9
      rw [or_and, or_and, h1, h2, shl1 n (by omega), mask2 n (by omega), wo, stf_s hP8 h P (Nat.le_refl _), mask1 P hP8 n (by omega) _ (s256 hP8 N) (by rw [sN_bit]; simp [e9'])]
      exact ⟨rfl, rfl⟩
    · exact ⟨h1, h2⟩
theorem wo_pre (N : Mm) (P : Nat) : wo (preN N) P = wo N P := by rw [wo, wo, stf_pre]
theorem hrW_wo {P : Nat} (hP8 : P ≤ 8) {N : Mm} (hr : InvR N) (h : InvP P N) : hrW P N &&& wo N P = hrW P N ∧ hrW P N &&& 255 = hrW P N := by
  have := new_wo hP8 (pre_inv hr) (preP_inv h) P (Nat.le_refl _)
  rw [wo_pre] at this
  exact this
/-- nobody more: for the class all, for the reference those who are well -/
theorem wl_all {P : Nat} (hP8 : P ≤ 8) {s : Int32} : ∀ (m : Nat) {N : Mm}, InvR N → InvP P N → wo N P = s → wl P 255 m N = wl P s m N
  | 0, N, hr, h, e => rfl
  | m + 1, N, hr, h, e => by
    obtain ⟨h1, h2⟩ := hrW_wo hP8 hr h
    rw [wl, wl, h2, ← e, h1]
    by_cases hc : hrW P N = 0
    · rw [if_pos hc, if_pos hc]
      congr 1
      exact wl_all hP8 m (hrN_inv hP8 hr h).1 (hrN_inv hP8 hr h).2 (by rw [wo, wo, stf_hr hP8 hr h, hc, or0])
    · rw [if_neg hc, if_neg hc]
