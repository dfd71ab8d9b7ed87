/-! NUMBERS THAT DON'T WRAP -/
theorem tA {a b : Int32} (h1 : -2147483648 ≤ a.toInt + b.toInt) (h2 : a.toInt + b.toInt < 2147483648) : (a + b).toInt = a.toInt + b.toInt := by
  rw [Int32.toInt_add]
  exact Int.bmod_eq_of_le (by omega) (by omega)
theorem tS {a b : Int32} (h1 : -2147483648 ≤ a.toInt - b.toInt) (h2 : a.toInt - b.toInt < 2147483648) : (a - b).toInt = a.toInt - b.toInt := by
  rw [Int32.toInt_sub]
  exact Int.bmod_eq_of_le (by omega) (by omega)
theorem tM {a b : Int32} (h1 : -2147483648 ≤ a.toInt * b.toInt) (h2 : a.toInt * b.toInt < 2147483648) : (a * b).toInt = a.toInt * b.toInt := by
  rw [Int32.toInt_mul]
  exact Int.bmod_eq_of_le (by omega) (by omega)
theorem tD {a b : Int32} (h1 : -2147483648 ≤ a.toInt.tdiv b.toInt) (h2 : a.toInt.tdiv b.toInt < 2147483648) : (a / b).toInt = a.toInt.tdiv b.toInt := by
  rw [Int32.toInt_div]
  exact Int.bmod_eq_of_le (by omega) (by omega)
theorem tdiv_nn {a b : Int} (ha : 0 ≤ a) : a.tdiv b = a / b := Int.tdiv_eq_ediv_of_nonneg ha
theorem le_i {a b : Int32} : a ≤ b ↔ a.toInt ≤ b.toInt := Int32.le_iff_toInt_le
theorem lt_i {a b : Int32} : a < b ↔ a.toInt < b.toInt := Int32.lt_iff_toInt_lt
/-- between a and b -/
def rg (a b : Int) (x : Int32) : Prop := a ≤ x.toInt ∧ x.toInt ≤ b
theorem i0 : (0 : Int32).toInt = 0 := by decide
theorem i1 : (1 : Int32).toInt = 1 := by decide
theorem i2 : (2 : Int32).toInt = 2 := by decide
theorem i4 : (4 : Int32).toInt = 4 := by decide
theorem i9 : (9 : Int32).toInt = 9 := by decide
theorem i20 : (20 : Int32).toInt = 20 := by decide
theorem i999 : (999 : Int32).toInt = 999 := by decide
theorem i9999 : (9999 : Int32).toInt = 9999 := by decide
theorem mx_min (v : Int32) : mx v = jmin 9999 v := by
  unfold mx jmin
  by_cases h : v < 9999
  · rw [if_pos h, if_pos (by rw [le_i]; rw [lt_i] at h; omega)]
  · rw [if_neg h]
    by_cases h2 : v ≤ 9999
    · rw [if_pos h2]
      rw [lt_i] at h
      rw [le_i] at h2
      exact Int32.toInt_inj.mp (by omega)
    · rw [if_neg h2]
theorem mx_id {v : Int32} (h : v.toInt ≤ 9999) : mx v = v := by
  unfold mx
  rw [if_pos (by rw [le_i, i9999]; exact h)]
theorem jmin_toInt (x y : Int32) : (jmin x y).toInt = min x.toInt y.toInt := by
  unfold jmin
  split <;> rename_i h <;> rw [lt_i] at h <;> omega
theorem jmax_toInt (x y : Int32) : (jmax x y).toInt = max x.toInt y.toInt := by
  unfold jmax
  split <;> rename_i h <;> rw [lt_i] at h <;> omega
/-- what falls of the air -/
theorem falls {a t : Int32} (ha : rg 0 9999 a) (ht : rg 0 9 t) : rg 0 a.toInt (a * (9 - t) / 20) := by
  obtain ⟨a1, a2⟩ := ha
  obtain ⟨t1, t2⟩ := ht
  have e1 : (9 - t).toInt = 9 - t.toInt := by rw [tS (by rw [i9]; omega) (by rw [i9]; omega), i9]
  have b1 : 0 ≤ a.toInt * (9 - t.toInt) := Int.mul_nonneg a1 (by omega)
  have b2 : a.toInt * (9 - t.toInt) ≤ a.toInt * 9 := Int.mul_le_mul_of_nonneg_left (by omega) a1
  have e2 : (a * (9 - t)).toInt = a.toInt * (9 - t.toInt) := by rw [tM (by rw [e1]; omega) (by rw [e1]; omega), e1]
  have e3 : (a * (9 - t)).toInt.tdiv (20 : Int32).toInt = a.toInt * (9 - t.toInt) / 20 := by rw [e2, i20, tdiv_nn b1]
  have e4 : (a * (9 - t) / 20).toInt = a.toInt * (9 - t.toInt) / 20 := by rw [tD (by rw [e3]; omega) (by rw [e3]; omega), e3]
  constructor
  · rw [e4]; omega
  · rw [e4]; omega
/-- a fourth, cut towards 0 -/
theorem fourth {m : Int32} (h : rg (-9999) 9999 m) : (m / 4).toInt = m.toInt.tdiv 4 := by
  obtain ⟨h1, h2⟩ := h
  have e : m.toInt.tdiv (4 : Int32).toInt = m.toInt.tdiv 4 := by rw [i4]
  have b1 : -9999 ≤ m.toInt.tdiv 4 ∧ m.toInt.tdiv 4 ≤ 9999 := by
    rcases Int.le_total 0 m.toInt with q | q
    · rw [tdiv_nn q]; omega
    · have : m.toInt.tdiv 4 = -((-m.toInt) / 4) := by
        rw [← tdiv_nn (show (0 : Int) ≤ -m.toInt by omega), Int.neg_tdiv, Int.neg_neg]
      omega
  rw [tD (by rw [e]; omega) (by rw [e]; omega), e]
theorem fourth_neg {m : Int32} (h : rg (-9999) 9999 m) : -(-m / 4) = m / 4 := by
  obtain ⟨h1, h2⟩ := h
  have e1 : (-m).toInt = -m.toInt := by
    rw [Int32.toInt_neg]
    exact Int.bmod_eq_of_le (by omega) (by omega)
  have e2 : (-m / 4).toInt = -(m.toInt.tdiv 4) := by
    rw [fourth ⟨by omega, by omega⟩, e1, Int.neg_tdiv]
  have b1 : -9999 ≤ m.toInt.tdiv 4 ∧ m.toInt.tdiv 4 ≤ 9999 := by
    rcases Int.le_total 0 m.toInt with q | q
    · rw [tdiv_nn q]; omega
    · have : m.toInt.tdiv 4 = -((-m.toInt) / 4) := by
        rw [← tdiv_nn (show (0 : Int) ≤ -m.toInt by omega), Int.neg_tdiv, Int.neg_neg]
      omega
  apply Int32.toInt_inj.mp
  rw [fourth ⟨h1, h2⟩, Int32.toInt_neg, e2]
  rw [Int.neg_neg]
  exact Int.bmod_eq_of_le (by omega) (by omega)
theorem fourth_b {m : Int32} (h : rg (-9999) 9999 m) : (0 ≤ m.toInt → 0 ≤ (m / 4).toInt ∧ (m / 4).toInt ≤ m.toInt) ∧ (m.toInt ≤ 0 → m.toInt ≤ (m / 4).toInt ∧ (m / 4).toInt ≤ 0) := by
  rw [fourth h]
  constructor
  · intro q
    rw [tdiv_nn q]; omega
  · intro q
    have : m.toInt.tdiv 4 = -((-m.toInt) / 4) := by
      rw [← tdiv_nn (show (0 : Int) ≤ -m.toInt by omega), Int.neg_tdiv, Int.neg_neg]
    omega
