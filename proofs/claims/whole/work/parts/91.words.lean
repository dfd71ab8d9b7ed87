/-! THE WORDS: length and letters -/
def wdN : Nat → Nat
  | 0 => 6
  | 1 => 6
  | 2 => 7
  | 3 => 6
  | 4 => 5
  | 5 => 7
  | 6 => 2
  | 7 => 4
  | 8 => 4
  | 9 => 3
  | 10 => 5
  | 11 => 4
  | 12 => 5
  | 13 => 4
  | 14 => 4
  | 15 => 4
  | 16 => 4
  | _ => 0
def wdL : Nat → Nat → Int32
  | 0 => na_lst [112, 101, 114, 115, 111, 110]
  | 1 => na_lst [100, 97, 110, 99, 101, 114]
  | 2 => na_lst [115, 108, 101, 101, 112, 101, 114]
  | 3 => na_lst [104, 111, 108, 100, 101, 114]
  | 4 => na_lst [99, 104, 111, 105, 114]
  | 5 => na_lst [100, 114, 101, 97, 109, 101, 114]
  | 6 => na_lst [105, 110]
  | 7 => na_lst [110, 101, 101, 100]
  | 8 => na_lst [114, 111, 111, 109]
  | 9 => na_lst [97, 105, 114]
  | 10 => na_lst [102, 114, 111, 115, 116]
  | 11 => na_lst [102, 105, 114, 101]
  | 12 => na_lst [116, 105, 103, 104, 116]
  | 13 => na_lst [111, 112, 101, 110]
  | 14 => na_lst [115, 104, 117, 116]
  | 15 => na_lst [99, 111, 108, 100]
  | 16 => na_lst [109, 105, 108, 100]
  | _ => fun _ => 0
set_option maxRecDepth 100000 in
set_option maxHeartbeats 4000000 in
theorem c_ci3 (sx : Nat × (Nat → Int32)) (j n : Nat) (hj : j < n) (hn : n < 2 ^ 31) (I : Mm) (J : Ml) : Mt sx MJ3_checkIndex_8e157 [.int (nI j), .int (nI n), .ref 90] I J (na_v I J (nI j)) := by
  have h0 : ¬ nI j < 0 := nI_pos (by omega)
  have h1 : nI j < nI n := nI_lt hj hn
  refine Mt.of2 _ rfl (by decide +kernel) (Nat.le_of_ble_eq_true rfl) ?_
  refine GW.run kJ3_checkIndex_8e157 (fun _ => false) 42 0 rfl ?_
  refine And.intro (fun hh => absurd hh h0) (fun _ => ?_)
  refine And.intro (fun _ => ?_) (fun hh => absurd h1 hh)
  exact ⟨trivial, rfl, rfl, rfl⟩
set_option maxRecDepth 100000 in
set_option maxHeartbeats 4000000 in
theorem c_ci0 (sx : Nat × (Nat → Int32)) (j n : Nat) (hj : j < n) (hn : n < 2 ^ 31) (I : Mm) (J : Ml) : Mt sx MJ0_checkIndex_df160 [.int (nI j), .int (nI n)] I J (fun r I' J' => I = I' ∧ J = J' ∧ r = none) := by
  refine Mt.of2 _ rfl (by decide +kernel) (Nat.le_of_ble_eq_true rfl) ?_
  refine GW.run kJ0_checkIndex_df160 (fun _ => false) 36 0 rfl ?_
  refine Mt.conseq (c_ci3 _ j n hj hn _ _) ?_
  rintro _ _ _ ⟨rfl, rfl, rfl⟩
  exact ⟨rfl, rfl, rfl⟩
set_option maxRecDepth 100000 in
set_option maxHeartbeats 4000000 in
theorem c_cod0 (sx : Nat × (Nat → Int32)) (I : Mm) (J : Ml) : Mt sx MJ0_coder_7d493 [.ref 100] I J (na_v I J 0) := by
  refine Mt.of2 _ rfl (by decide +kernel) (Nat.le_of_ble_eq_true rfl) ?_
  refine GW.run kJ0_coder_7d493 (fun _ => false) 37 0 rfl ?_
  refine And.intro (fun hh => absurd hh (by decide)) (fun _ => ?_)
  exact ⟨rfl, rfl, rfl, rfl⟩
set_option maxRecDepth 100000 in
set_option maxHeartbeats 4000000 in
theorem c_lat0 (sx : Nat × (Nat → Int32)) (I : Mm) (J : Ml) : Mt sx MJ0_isLatin1_aae02 [.ref 100] I J (na_v I J 1) := by
  refine Mt.of2 _ rfl (by decide +kernel) (Nat.le_of_ble_eq_true rfl) ?_
  refine GW.run kJ0_isLatin1_aae02 (fun _ => false) 39 0 rfl ?_
  refine And.intro (fun hh => absurd hh (by decide)) (fun _ => ?_)
  refine And.intro (fun hh => absurd (by decide) hh) (fun _ => ?_)
  exact ⟨rfl, rfl, rfl, rfl⟩
set_option maxRecDepth 100000 in
set_option maxHeartbeats 4000000 in
theorem c_len0 (sx : Nat × (Nat → Int32)) (I : Mm) (J : Ml) : Mt sx MJ0_length_8abf5 [.ref 100] I J (na_v I J (nI 6)) := by
  refine Mt.of2 _ rfl (by decide +kernel) (Nat.le_of_ble_eq_true rfl) ?_
  refine GW.run kJ0_length_8abf5 (fun _ => false) 37 0 rfl ?_
  refine Mt.conseq (c_cod0 _ _ _) ?_
  rintro _ _ _ ⟨rfl, rfl, rfl⟩
  exact ⟨trivial, rfl, rfl, congrArg (fun x => some (Value.int x)) (show Int32.ofNat 6 >>> ((0 : Int32) &&& 31) = nI 6 by decide)⟩
theorem ltr_0 : ∀ j, j < 6 → na_nl .char ((na_lst [112, 101, 114, 115, 111, 110] j &&& 255).toUInt32 % 65536).toInt32 ∧ ((na_lst [112, 101, 114, 115, 111, 110] j &&& 255).toUInt32 % 65536).toInt32 = wdL 0 j := by
  intro j hj
  obtain rfl | rfl | rfl | rfl | rfl | rfl : j = 0 ∨ j = 1 ∨ j = 2 ∨ j = 3 ∨ j = 4 ∨ j = 5 := by omega
  all_goals exact ⟨rfl, by decide⟩
set_option maxRecDepth 100000 in
set_option maxHeartbeats 4000000 in
theorem c_ch1_0 (sx : Nat × (Nat → Int32)) (j : Nat) (hj : j < 6) (I : Mm) (J : Ml) : Mt sx MJ1_charAt_3b067 [.ref 120, .int (nI j)] I J (na_v I J (wdL 0 j)) := by
  have hb : vp_in (nI j) 6 := vp_in_nI hj (by decide)
  have hc := nI_clamp (n := j) (by omega)
  have hl := ltr_0 j hj
  rw [← hc] at hl
  refine Mt.of2 _ rfl (by decide +kernel) (Nat.le_of_ble_eq_true rfl) ?_
  refine GW.run kJ1_charAt_3b067 (fun _ => false) 41 0 rfl ?_
  refine Mt.conseq (c_ci0 _ j 6 hj (by decide) _ _) ?_
  rintro _ _ _ ⟨rfl, rfl, rfl⟩
  refine And.intro (hb) ?_
  exact ⟨hl.1, rfl, rfl, congrArg (fun x => some (Value.int x)) (hl.2.trans (by rw [hc]))⟩
set_option maxRecDepth 100000 in
set_option maxHeartbeats 4000000 in
theorem c_chr0 (sx : Nat × (Nat → Int32)) (j : Nat) (hj : j < 6) (I : Mm) (J : Ml) : Mt sx MJ0_charAt_5068e [.ref 100, .int (nI j)] I J (na_v I J (wdL 0 j)) := by
  have hl : na_nl .char (wdL 0 j) := by rw [← (ltr_0 j hj).2]; exact (ltr_0 j hj).1
  refine Mt.of2 _ rfl (by decide +kernel) (Nat.le_of_ble_eq_true rfl) ?_
  refine GW.run kJ0_charAt_5068e (fun _ => false) 43 0 rfl ?_
  refine Mt.conseq (c_lat0 _ _ _) ?_
  rintro _ _ _ ⟨rfl, rfl, rfl⟩
  refine And.intro (fun hh => absurd hh (by decide)) (fun _ => ?_)
  refine Mt.conseq (c_ch1_0 _ j hj _ _) ?_
  rintro _ _ _ ⟨rfl, rfl, rfl⟩
  exact ⟨hl, rfl, rfl, rfl⟩
set_option maxRecDepth 100000 in
set_option maxHeartbeats 4000000 in
theorem c_cod1 (sx : Nat × (Nat → Int32)) (I : Mm) (J : Ml) : Mt sx MJ0_coder_7d493 [.ref 101] I J (na_v I J 0) := by
  refine Mt.of2 _ rfl (by decide +kernel) (Nat.le_of_ble_eq_true rfl) ?_
  refine GW.run kJ0_coder_7d493 (fun _ => false) 37 0 rfl ?_
  refine And.intro (fun hh => absurd hh (by decide)) (fun _ => ?_)
  exact ⟨rfl, rfl, rfl, rfl⟩
set_option maxRecDepth 100000 in
set_option maxHeartbeats 4000000 in
theorem c_lat1 (sx : Nat × (Nat → Int32)) (I : Mm) (J : Ml) : Mt sx MJ0_isLatin1_aae02 [.ref 101] I J (na_v I J 1) := by
  refine Mt.of2 _ rfl (by decide +kernel) (Nat.le_of_ble_eq_true rfl) ?_
  refine GW.run kJ0_isLatin1_aae02 (fun _ => false) 39 0 rfl ?_
  refine And.intro (fun hh => absurd hh (by decide)) (fun _ => ?_)
  refine And.intro (fun hh => absurd (by decide) hh) (fun _ => ?_)
  exact ⟨rfl, rfl, rfl, rfl⟩
set_option maxRecDepth 100000 in
set_option maxHeartbeats 4000000 in
theorem c_len1 (sx : Nat × (Nat → Int32)) (I : Mm) (J : Ml) : Mt sx MJ0_length_8abf5 [.ref 101] I J (na_v I J (nI 6)) := by
  refine Mt.of2 _ rfl (by decide +kernel) (Nat.le_of_ble_eq_true rfl) ?_
  refine GW.run kJ0_length_8abf5 (fun _ => false) 37 0 rfl ?_
  refine Mt.conseq (c_cod1 _ _ _) ?_
  rintro _ _ _ ⟨rfl, rfl, rfl⟩
  exact ⟨trivial, rfl, rfl, congrArg (fun x => some (Value.int x)) (show Int32.ofNat 6 >>> ((0 : Int32) &&& 31) = nI 6 by decide)⟩
theorem ltr_1 : ∀ j, j < 6 → na_nl .char ((na_lst [100, 97, 110, 99, 101, 114] j &&& 255).toUInt32 % 65536).toInt32 ∧ ((na_lst [100, 97, 110, 99, 101, 114] j &&& 255).toUInt32 % 65536).toInt32 = wdL 1 j := by
  intro j hj
  obtain rfl | rfl | rfl | rfl | rfl | rfl : j = 0 ∨ j = 1 ∨ j = 2 ∨ j = 3 ∨ j = 4 ∨ j = 5 := by omega
  all_goals exact ⟨rfl, by decide⟩
set_option maxRecDepth 100000 in
set_option maxHeartbeats 4000000 in
theorem c_ch1_1 (sx : Nat × (Nat → Int32)) (j : Nat) (hj : j < 6) (I : Mm) (J : Ml) : Mt sx MJ1_charAt_3b067 [.ref 121, .int (nI j)] I J (na_v I J (wdL 1 j)) := by
  have hb : vp_in (nI j) 6 := vp_in_nI hj (by decide)
  have hc := nI_clamp (n := j) (by omega)
  have hl := ltr_1 j hj
  rw [← hc] at hl
  refine Mt.of2 _ rfl (by decide +kernel) (Nat.le_of_ble_eq_true rfl) ?_
  refine GW.run kJ1_charAt_3b067 (fun _ => false) 41 0 rfl ?_
  refine Mt.conseq (c_ci0 _ j 6 hj (by decide) _ _) ?_
  rintro _ _ _ ⟨rfl, rfl, rfl⟩
  refine And.intro (hb) ?_
  exact ⟨hl.1, rfl, rfl, congrArg (fun x => some (Value.int x)) (hl.2.trans (by rw [hc]))⟩
set_option maxRecDepth 100000 in
set_option maxHeartbeats 4000000 in
theorem c_chr1 (sx : Nat × (Nat → Int32)) (j : Nat) (hj : j < 6) (I : Mm) (J : Ml) : Mt sx MJ0_charAt_5068e [.ref 101, .int (nI j)] I J (na_v I J (wdL 1 j)) := by
  have hl : na_nl .char (wdL 1 j) := by rw [← (ltr_1 j hj).2]; exact (ltr_1 j hj).1
  refine Mt.of2 _ rfl (by decide +kernel) (Nat.le_of_ble_eq_true rfl) ?_
  refine GW.run kJ0_charAt_5068e (fun _ => false) 43 0 rfl ?_
  refine Mt.conseq (c_lat1 _ _ _) ?_
  rintro _ _ _ ⟨rfl, rfl, rfl⟩
  refine And.intro (fun hh => absurd hh (by decide)) (fun _ => ?_)
  refine Mt.conseq (c_ch1_1 _ j hj _ _) ?_
  rintro _ _ _ ⟨rfl, rfl, rfl⟩
  exact ⟨hl, rfl, rfl, rfl⟩
set_option maxRecDepth 100000 in
set_option maxHeartbeats 4000000 in
theorem c_cod2 (sx : Nat × (Nat → Int32)) (I : Mm) (J : Ml) : Mt sx MJ0_coder_7d493 [.ref 102] I J (na_v I J 0) := by
  refine Mt.of2 _ rfl (by decide +kernel) (Nat.le_of_ble_eq_true rfl) ?_
  refine GW.run kJ0_coder_7d493 (fun _ => false) 37 0 rfl ?_
  refine And.intro (fun hh => absurd hh (by decide)) (fun _ => ?_)
  exact ⟨rfl, rfl, rfl, rfl⟩
set_option maxRecDepth 100000 in
set_option maxHeartbeats 4000000 in
theorem c_lat2 (sx : Nat × (Nat → Int32)) (I : Mm) (J : Ml) : Mt sx MJ0_isLatin1_aae02 [.ref 102] I J (na_v I J 1) := by
  refine Mt.of2 _ rfl (by decide +kernel) (Nat.le_of_ble_eq_true rfl) ?_
  refine GW.run kJ0_isLatin1_aae02 (fun _ => false) 39 0 rfl ?_
  refine And.intro (fun hh => absurd hh (by decide)) (fun _ => ?_)
  refine And.intro (fun hh => absurd (by decide) hh) (fun _ => ?_)
  exact ⟨rfl, rfl, rfl, rfl⟩
set_option maxRecDepth 100000 in
set_option maxHeartbeats 4000000 in
theorem c_len2 (sx : Nat × (Nat → Int32)) (I : Mm) (J : Ml) : Mt sx MJ0_length_8abf5 [.ref 102] I J (na_v I J (nI 7)) := by
  refine Mt.of2 _ rfl (by decide +kernel) (Nat.le_of_ble_eq_true rfl) ?_
  refine GW.run kJ0_length_8abf5 (fun _ => false) 37 0 rfl ?_
  refine Mt.conseq (c_cod2 _ _ _) ?_
  rintro _ _ _ ⟨rfl, rfl, rfl⟩
  exact ⟨trivial, rfl, rfl, congrArg (fun x => some (Value.int x)) (show Int32.ofNat 7 >>> ((0 : Int32) &&& 31) = nI 7 by decide)⟩
theorem ltr_2 : ∀ j, j < 7 → na_nl .char ((na_lst [115, 108, 101, 101, 112, 101, 114] j &&& 255).toUInt32 % 65536).toInt32 ∧ ((na_lst [115, 108, 101, 101, 112, 101, 114] j &&& 255).toUInt32 % 65536).toInt32 = wdL 2 j := by
  intro j hj
  obtain rfl | rfl | rfl | rfl | rfl | rfl | rfl : j = 0 ∨ j = 1 ∨ j = 2 ∨ j = 3 ∨ j = 4 ∨ j = 5 ∨ j = 6 := by omega
  all_goals exact ⟨rfl, by decide⟩
set_option maxRecDepth 100000 in
set_option maxHeartbeats 4000000 in
theorem c_ch1_2 (sx : Nat × (Nat → Int32)) (j : Nat) (hj : j < 7) (I : Mm) (J : Ml) : Mt sx MJ1_charAt_3b067 [.ref 122, .int (nI j)] I J (na_v I J (wdL 2 j)) := by
  have hb : vp_in (nI j) 7 := vp_in_nI hj (by decide)
  have hc := nI_clamp (n := j) (by omega)
  have hl := ltr_2 j hj
  rw [← hc] at hl
  refine Mt.of2 _ rfl (by decide +kernel) (Nat.le_of_ble_eq_true rfl) ?_
  refine GW.run kJ1_charAt_3b067 (fun _ => false) 41 0 rfl ?_
  refine Mt.conseq (c_ci0 _ j 7 hj (by decide) _ _) ?_
  rintro _ _ _ ⟨rfl, rfl, rfl⟩
  refine And.intro (hb) ?_
  exact ⟨hl.1, rfl, rfl, congrArg (fun x => some (Value.int x)) (hl.2.trans (by rw [hc]))⟩
set_option maxRecDepth 100000 in
set_option maxHeartbeats 4000000 in
theorem c_chr2 (sx : Nat × (Nat → Int32)) (j : Nat) (hj : j < 7) (I : Mm) (J : Ml) : Mt sx MJ0_charAt_5068e [.ref 102, .int (nI j)] I J (na_v I J (wdL 2 j)) := by
  have hl : na_nl .char (wdL 2 j) := by rw [← (ltr_2 j hj).2]; exact (ltr_2 j hj).1
  refine Mt.of2 _ rfl (by decide +kernel) (Nat.le_of_ble_eq_true rfl) ?_
  refine GW.run kJ0_charAt_5068e (fun _ => false) 43 0 rfl ?_
  refine Mt.conseq (c_lat2 _ _ _) ?_
  rintro _ _ _ ⟨rfl, rfl, rfl⟩
  refine And.intro (fun hh => absurd hh (by decide)) (fun _ => ?_)
  refine Mt.conseq (c_ch1_2 _ j hj _ _) ?_
  rintro _ _ _ ⟨rfl, rfl, rfl⟩
  exact ⟨hl, rfl, rfl, rfl⟩
set_option maxRecDepth 100000 in
set_option maxHeartbeats 4000000 in
theorem c_cod3 (sx : Nat × (Nat → Int32)) (I : Mm) (J : Ml) : Mt sx MJ0_coder_7d493 [.ref 103] I J (na_v I J 0) := by
  refine Mt.of2 _ rfl (by decide +kernel) (Nat.le_of_ble_eq_true rfl) ?_
  refine GW.run kJ0_coder_7d493 (fun _ => false) 37 0 rfl ?_
  refine And.intro (fun hh => absurd hh (by decide)) (fun _ => ?_)
  exact ⟨rfl, rfl, rfl, rfl⟩
set_option maxRecDepth 100000 in
set_option maxHeartbeats 4000000 in
theorem c_lat3 (sx : Nat × (Nat → Int32)) (I : Mm) (J : Ml) : Mt sx MJ0_isLatin1_aae02 [.ref 103] I J (na_v I J 1) := by
  refine Mt.of2 _ rfl (by decide +kernel) (Nat.le_of_ble_eq_true rfl) ?_
  refine GW.run kJ0_isLatin1_aae02 (fun _ => false) 39 0 rfl ?_
  refine And.intro (fun hh => absurd hh (by decide)) (fun _ => ?_)
  refine And.intro (fun hh => absurd (by decide) hh) (fun _ => ?_)
  exact ⟨rfl, rfl, rfl, rfl⟩
set_option maxRecDepth 100000 in
set_option maxHeartbeats 4000000 in
theorem c_len3 (sx : Nat × (Nat → Int32)) (I : Mm) (J : Ml) : Mt sx MJ0_length_8abf5 [.ref 103] I J (na_v I J (nI 6)) := by
  refine Mt.of2 _ rfl (by decide +kernel) (Nat.le_of_ble_eq_true rfl) ?_
  refine GW.run kJ0_length_8abf5 (fun _ => false) 37 0 rfl ?_
  refine Mt.conseq (c_cod3 _ _ _) ?_
  rintro _ _ _ ⟨rfl, rfl, rfl⟩
  exact ⟨trivial, rfl, rfl, congrArg (fun x => some (Value.int x)) (show Int32.ofNat 6 >>> ((0 : Int32) &&& 31) = nI 6 by decide)⟩
theorem ltr_3 : ∀ j, j < 6 → na_nl .char ((na_lst [104, 111, 108, 100, 101, 114] j &&& 255).toUInt32 % 65536).toInt32 ∧ ((na_lst [104, 111, 108, 100, 101, 114] j &&& 255).toUInt32 % 65536).toInt32 = wdL 3 j := by
  intro j hj
  obtain rfl | rfl | rfl | rfl | rfl | rfl : j = 0 ∨ j = 1 ∨ j = 2 ∨ j = 3 ∨ j = 4 ∨ j = 5 := by omega
  all_goals exact ⟨rfl, by decide⟩
set_option maxRecDepth 100000 in
set_option maxHeartbeats 4000000 in
theorem c_ch1_3 (sx : Nat × (Nat → Int32)) (j : Nat) (hj : j < 6) (I : Mm) (J : Ml) : Mt sx MJ1_charAt_3b067 [.ref 123, .int (nI j)] I J (na_v I J (wdL 3 j)) := by
  have hb : vp_in (nI j) 6 := vp_in_nI hj (by decide)
  have hc := nI_clamp (n := j) (by omega)
  have hl := ltr_3 j hj
  rw [← hc] at hl
  refine Mt.of2 _ rfl (by decide +kernel) (Nat.le_of_ble_eq_true rfl) ?_
  refine GW.run kJ1_charAt_3b067 (fun _ => false) 41 0 rfl ?_
  refine Mt.conseq (c_ci0 _ j 6 hj (by decide) _ _) ?_
  rintro _ _ _ ⟨rfl, rfl, rfl⟩
  refine And.intro (hb) ?_
  exact ⟨hl.1, rfl, rfl, congrArg (fun x => some (Value.int x)) (hl.2.trans (by rw [hc]))⟩
set_option maxRecDepth 100000 in
set_option maxHeartbeats 4000000 in
theorem c_chr3 (sx : Nat × (Nat → Int32)) (j : Nat) (hj : j < 6) (I : Mm) (J : Ml) : Mt sx MJ0_charAt_5068e [.ref 103, .int (nI j)] I J (na_v I J (wdL 3 j)) := by
  have hl : na_nl .char (wdL 3 j) := by rw [← (ltr_3 j hj).2]; exact (ltr_3 j hj).1
  refine Mt.of2 _ rfl (by decide +kernel) (Nat.le_of_ble_eq_true rfl) ?_
  refine GW.run kJ0_charAt_5068e (fun _ => false) 43 0 rfl ?_
  refine Mt.conseq (c_lat3 _ _ _) ?_
  rintro _ _ _ ⟨rfl, rfl, rfl⟩
  refine And.intro (fun hh => absurd hh (by decide)) (fun _ => ?_)
  refine Mt.conseq (c_ch1_3 _ j hj _ _) ?_
  rintro _ _ _ ⟨rfl, rfl, rfl⟩
  exact ⟨hl, rfl, rfl, rfl⟩
set_option maxRecDepth 100000 in
set_option maxHeartbeats 4000000 in
theorem c_cod4 (sx : Nat × (Nat → Int32)) (I : Mm) (J : Ml) : Mt sx MJ0_coder_7d493 [.ref 104] I J (na_v I J 0) := by
  refine Mt.of2 _ rfl (by decide +kernel) (Nat.le_of_ble_eq_true rfl) ?_
  refine GW.run kJ0_coder_7d493 (fun _ => false) 37 0 rfl ?_
  refine And.intro (fun hh => absurd hh (by decide)) (fun _ => ?_)
  exact ⟨rfl, rfl, rfl, rfl⟩
set_option maxRecDepth 100000 in
set_option maxHeartbeats 4000000 in
theorem c_lat4 (sx : Nat × (Nat → Int32)) (I : Mm) (J : Ml) : Mt sx MJ0_isLatin1_aae02 [.ref 104] I J (na_v I J 1) := by
  refine Mt.of2 _ rfl (by decide +kernel) (Nat.le_of_ble_eq_true rfl) ?_
  refine GW.run kJ0_isLatin1_aae02 (fun _ => false) 39 0 rfl ?_
  refine And.intro (fun hh => absurd hh (by decide)) (fun _ => ?_)
  refine And.intro (fun hh => absurd (by decide) hh) (fun _ => ?_)
  exact ⟨rfl, rfl, rfl, rfl⟩
set_option maxRecDepth 100000 in
set_option maxHeartbeats 4000000 in
theorem c_len4 (sx : Nat × (Nat → Int32)) (I : Mm) (J : Ml) : Mt sx MJ0_length_8abf5 [.ref 104] I J (na_v I J (nI 5)) := by
  refine Mt.of2 _ rfl (by decide +kernel) (Nat.le_of_ble_eq_true rfl) ?_
  refine GW.run kJ0_length_8abf5 (fun _ => false) 37 0 rfl ?_
  refine Mt.conseq (c_cod4 _ _ _) ?_
  rintro _ _ _ ⟨rfl, rfl, rfl⟩
  exact ⟨trivial, rfl, rfl, congrArg (fun x => some (Value.int x)) (show Int32.ofNat 5 >>> ((0 : Int32) &&& 31) = nI 5 by decide)⟩
theorem ltr_4 : ∀ j, j < 5 → na_nl .char ((na_lst [99, 104, 111, 105, 114] j &&& 255).toUInt32 % 65536).toInt32 ∧ ((na_lst [99, 104, 111, 105, 114] j &&& 255).toUInt32 % 65536).toInt32 = wdL 4 j := by
  intro j hj
  obtain rfl | rfl | rfl | rfl | rfl : j = 0 ∨ j = 1 ∨ j = 2 ∨ j = 3 ∨ j = 4 := by omega
  all_goals exact ⟨rfl, by decide⟩
set_option maxRecDepth 100000 in
set_option maxHeartbeats 4000000 in
theorem c_ch1_4 (sx : Nat × (Nat → Int32)) (j : Nat) (hj : j < 5) (I : Mm) (J : Ml) : Mt sx MJ1_charAt_3b067 [.ref 124, .int (nI j)] I J (na_v I J (wdL 4 j)) := by
  have hb : vp_in (nI j) 5 := vp_in_nI hj (by decide)
  have hc := nI_clamp (n := j) (by omega)
  have hl := ltr_4 j hj
  rw [← hc] at hl
  refine Mt.of2 _ rfl (by decide +kernel) (Nat.le_of_ble_eq_true rfl) ?_
  refine GW.run kJ1_charAt_3b067 (fun _ => false) 41 0 rfl ?_
  refine Mt.conseq (c_ci0 _ j 5 hj (by decide) _ _) ?_
  rintro _ _ _ ⟨rfl, rfl, rfl⟩
  refine And.intro (hb) ?_
  exact ⟨hl.1, rfl, rfl, congrArg (fun x => some (Value.int x)) (hl.2.trans (by rw [hc]))⟩
set_option maxRecDepth 100000 in
set_option maxHeartbeats 4000000 in
theorem c_chr4 (sx : Nat × (Nat → Int32)) (j : Nat) (hj : j < 5) (I : Mm) (J : Ml) : Mt sx MJ0_charAt_5068e [.ref 104, .int (nI j)] I J (na_v I J (wdL 4 j)) := by
  have hl : na_nl .char (wdL 4 j) := by rw [← (ltr_4 j hj).2]; exact (ltr_4 j hj).1
  refine Mt.of2 _ rfl (by decide +kernel) (Nat.le_of_ble_eq_true rfl) ?_
  refine GW.run kJ0_charAt_5068e (fun _ => false) 43 0 rfl ?_
  refine Mt.conseq (c_lat4 _ _ _) ?_
  rintro _ _ _ ⟨rfl, rfl, rfl⟩
  refine And.intro (fun hh => absurd hh (by decide)) (fun _ => ?_)
  refine Mt.conseq (c_ch1_4 _ j hj _ _) ?_
  rintro _ _ _ ⟨rfl, rfl, rfl⟩
  exact ⟨hl, rfl, rfl, rfl⟩
set_option maxRecDepth 100000 in
set_option maxHeartbeats 4000000 in
theorem c_cod5 (sx : Nat × (Nat → Int32)) (I : Mm) (J : Ml) : Mt sx MJ0_coder_7d493 [.ref 105] I J (na_v I J 0) := by
  refine Mt.of2 _ rfl (by decide +kernel) (Nat.le_of_ble_eq_true rfl) ?_
  refine GW.run kJ0_coder_7d493 (fun _ => false) 37 0 rfl ?_
  refine And.intro (fun hh => absurd hh (by decide)) (fun _ => ?_)
  exact ⟨rfl, rfl, rfl, rfl⟩
set_option maxRecDepth 100000 in
set_option maxHeartbeats 4000000 in
theorem c_lat5 (sx : Nat × (Nat → Int32)) (I : Mm) (J : Ml) : Mt sx MJ0_isLatin1_aae02 [.ref 105] I J (na_v I J 1) := by
  refine Mt.of2 _ rfl (by decide +kernel) (Nat.le_of_ble_eq_true rfl) ?_
  refine GW.run kJ0_isLatin1_aae02 (fun _ => false) 39 0 rfl ?_
  refine And.intro (fun hh => absurd hh (by decide)) (fun _ => ?_)
  refine And.intro (fun hh => absurd (by decide) hh) (fun _ => ?_)
  exact ⟨rfl, rfl, rfl, rfl⟩
set_option maxRecDepth 100000 in
set_option maxHeartbeats 4000000 in
theorem c_len5 (sx : Nat × (Nat → Int32)) (I : Mm) (J : Ml) : Mt sx MJ0_length_8abf5 [.ref 105] I J (na_v I J (nI 7)) := by
  refine Mt.of2 _ rfl (by decide +kernel) (Nat.le_of_ble_eq_true rfl) ?_
  refine GW.run kJ0_length_8abf5 (fun _ => false) 37 0 rfl ?_
  refine Mt.conseq (c_cod5 _ _ _) ?_
  rintro _ _ _ ⟨rfl, rfl, rfl⟩
  exact ⟨trivial, rfl, rfl, congrArg (fun x => some (Value.int x)) (show Int32.ofNat 7 >>> ((0 : Int32) &&& 31) = nI 7 by decide)⟩
theorem ltr_5 : ∀ j, j < 7 → na_nl .char ((na_lst [100, 114, 101, 97, 109, 101, 114] j &&& 255).toUInt32 % 65536).toInt32 ∧ ((na_lst [100, 114, 101, 97, 109, 101, 114] j &&& 255).toUInt32 % 65536).toInt32 = wdL 5 j := by
  intro j hj
  obtain rfl | rfl | rfl | rfl | rfl | rfl | rfl : j = 0 ∨ j = 1 ∨ j = 2 ∨ j = 3 ∨ j = 4 ∨ j = 5 ∨ j = 6 := by omega
  all_goals exact ⟨rfl, by decide⟩
set_option maxRecDepth 100000 in
set_option maxHeartbeats 4000000 in
theorem c_ch1_5 (sx : Nat × (Nat → Int32)) (j : Nat) (hj : j < 7) (I : Mm) (J : Ml) : Mt sx MJ1_charAt_3b067 [.ref 125, .int (nI j)] I J (na_v I J (wdL 5 j)) := by
  have hb : vp_in (nI j) 7 := vp_in_nI hj (by decide)
  have hc := nI_clamp (n := j) (by omega)
  have hl := ltr_5 j hj
  rw [← hc] at hl
  refine Mt.of2 _ rfl (by decide +kernel) (Nat.le_of_ble_eq_true rfl) ?_
  refine GW.run kJ1_charAt_3b067 (fun _ => false) 41 0 rfl ?_
  refine Mt.conseq (c_ci0 _ j 7 hj (by decide) _ _) ?_
  rintro _ _ _ ⟨rfl, rfl, rfl⟩
  refine And.intro (hb) ?_
  exact ⟨hl.1, rfl, rfl, congrArg (fun x => some (Value.int x)) (hl.2.trans (by rw [hc]))⟩
set_option maxRecDepth 100000 in
set_option maxHeartbeats 4000000 in
theorem c_chr5 (sx : Nat × (Nat → Int32)) (j : Nat) (hj : j < 7) (I : Mm) (J : Ml) : Mt sx MJ0_charAt_5068e [.ref 105, .int (nI j)] I J (na_v I J (wdL 5 j)) := by
  have hl : na_nl .char (wdL 5 j) := by rw [← (ltr_5 j hj).2]; exact (ltr_5 j hj).1
  refine Mt.of2 _ rfl (by decide +kernel) (Nat.le_of_ble_eq_true rfl) ?_
  refine GW.run kJ0_charAt_5068e (fun _ => false) 43 0 rfl ?_
  refine Mt.conseq (c_lat5 _ _ _) ?_
  rintro _ _ _ ⟨rfl, rfl, rfl⟩
  refine And.intro (fun hh => absurd hh (by decide)) (fun _ => ?_)
  refine Mt.conseq (c_ch1_5 _ j hj _ _) ?_
  rintro _ _ _ ⟨rfl, rfl, rfl⟩
  exact ⟨hl, rfl, rfl, rfl⟩
set_option maxRecDepth 100000 in
set_option maxHeartbeats 4000000 in
theorem c_cod6 (sx : Nat × (Nat → Int32)) (I : Mm) (J : Ml) : Mt sx MJ0_coder_7d493 [.ref 106] I J (na_v I J 0) := by
  refine Mt.of2 _ rfl (by decide +kernel) (Nat.le_of_ble_eq_true rfl) ?_
  refine GW.run kJ0_coder_7d493 (fun _ => false) 37 0 rfl ?_
  refine And.intro (fun hh => absurd hh (by decide)) (fun _ => ?_)
  exact ⟨rfl, rfl, rfl, rfl⟩
set_option maxRecDepth 100000 in
set_option maxHeartbeats 4000000 in
theorem c_lat6 (sx : Nat × (Nat → Int32)) (I : Mm) (J : Ml) : Mt sx MJ0_isLatin1_aae02 [.ref 106] I J (na_v I J 1) := by
  refine Mt.of2 _ rfl (by decide +kernel) (Nat.le_of_ble_eq_true rfl) ?_
  refine GW.run kJ0_isLatin1_aae02 (fun _ => false) 39 0 rfl ?_
  refine And.intro (fun hh => absurd hh (by decide)) (fun _ => ?_)
  refine And.intro (fun hh => absurd (by decide) hh) (fun _ => ?_)
  exact ⟨rfl, rfl, rfl, rfl⟩
set_option maxRecDepth 100000 in
set_option maxHeartbeats 4000000 in
theorem c_len6 (sx : Nat × (Nat → Int32)) (I : Mm) (J : Ml) : Mt sx MJ0_length_8abf5 [.ref 106] I J (na_v I J (nI 2)) := by
  refine Mt.of2 _ rfl (by decide +kernel) (Nat.le_of_ble_eq_true rfl) ?_
  refine GW.run kJ0_length_8abf5 (fun _ => false) 37 0 rfl ?_
  refine Mt.conseq (c_cod6 _ _ _) ?_
  rintro _ _ _ ⟨rfl, rfl, rfl⟩
  exact ⟨trivial, rfl, rfl, congrArg (fun x => some (Value.int x)) (show Int32.ofNat 2 >>> ((0 : Int32) &&& 31) = nI 2 by decide)⟩
theorem ltr_6 : ∀ j, j < 2 → na_nl .char ((na_lst [105, 110] j &&& 255).toUInt32 % 65536).toInt32 ∧ ((na_lst [105, 110] j &&& 255).toUInt32 % 65536).toInt32 = wdL 6 j := by
  intro j hj
  obtain rfl | rfl : j = 0 ∨ j = 1 := by omega
  all_goals exact ⟨rfl, by decide⟩
set_option maxRecDepth 100000 in
set_option maxHeartbeats 4000000 in
theorem c_ch1_6 (sx : Nat × (Nat → Int32)) (j : Nat) (hj : j < 2) (I : Mm) (J : Ml) : Mt sx MJ1_charAt_3b067 [.ref 126, .int (nI j)] I J (na_v I J (wdL 6 j)) := by
  have hb : vp_in (nI j) 2 := vp_in_nI hj (by decide)
  have hc := nI_clamp (n := j) (by omega)
  have hl := ltr_6 j hj
  rw [← hc] at hl
  refine Mt.of2 _ rfl (by decide +kernel) (Nat.le_of_ble_eq_true rfl) ?_
  refine GW.run kJ1_charAt_3b067 (fun _ => false) 41 0 rfl ?_
  refine Mt.conseq (c_ci0 _ j 2 hj (by decide) _ _) ?_
  rintro _ _ _ ⟨rfl, rfl, rfl⟩
  refine And.intro (hb) ?_
  exact ⟨hl.1, rfl, rfl, congrArg (fun x => some (Value.int x)) (hl.2.trans (by rw [hc]))⟩
set_option maxRecDepth 100000 in
set_option maxHeartbeats 4000000 in
theorem c_chr6 (sx : Nat × (Nat → Int32)) (j : Nat) (hj : j < 2) (I : Mm) (J : Ml) : Mt sx MJ0_charAt_5068e [.ref 106, .int (nI j)] I J (na_v I J (wdL 6 j)) := by
  have hl : na_nl .char (wdL 6 j) := by rw [← (ltr_6 j hj).2]; exact (ltr_6 j hj).1
  refine Mt.of2 _ rfl (by decide +kernel) (Nat.le_of_ble_eq_true rfl) ?_
  refine GW.run kJ0_charAt_5068e (fun _ => false) 43 0 rfl ?_
  refine Mt.conseq (c_lat6 _ _ _) ?_
  rintro _ _ _ ⟨rfl, rfl, rfl⟩
  refine And.intro (fun hh => absurd hh (by decide)) (fun _ => ?_)
  refine Mt.conseq (c_ch1_6 _ j hj _ _) ?_
  rintro _ _ _ ⟨rfl, rfl, rfl⟩
  exact ⟨hl, rfl, rfl, rfl⟩
set_option maxRecDepth 100000 in
set_option maxHeartbeats 4000000 in
theorem c_cod7 (sx : Nat × (Nat → Int32)) (I : Mm) (J : Ml) : Mt sx MJ0_coder_7d493 [.ref 107] I J (na_v I J 0) := by
  refine Mt.of2 _ rfl (by decide +kernel) (Nat.le_of_ble_eq_true rfl) ?_
  refine GW.run kJ0_coder_7d493 (fun _ => false) 37 0 rfl ?_
  refine And.intro (fun hh => absurd hh (by decide)) (fun _ => ?_)
  exact ⟨rfl, rfl, rfl, rfl⟩
set_option maxRecDepth 100000 in
set_option maxHeartbeats 4000000 in
theorem c_lat7 (sx : Nat × (Nat → Int32)) (I : Mm) (J : Ml) : Mt sx MJ0_isLatin1_aae02 [.ref 107] I J (na_v I J 1) := by
  refine Mt.of2 _ rfl (by decide +kernel) (Nat.le_of_ble_eq_true rfl) ?_
  refine GW.run kJ0_isLatin1_aae02 (fun _ => false) 39 0 rfl ?_
  refine And.intro (fun hh => absurd hh (by decide)) (fun _ => ?_)
  refine And.intro (fun hh => absurd (by decide) hh) (fun _ => ?_)
  exact ⟨rfl, rfl, rfl, rfl⟩
set_option maxRecDepth 100000 in
set_option maxHeartbeats 4000000 in
theorem c_len7 (sx : Nat × (Nat → Int32)) (I : Mm) (J : Ml) : Mt sx MJ0_length_8abf5 [.ref 107] I J (na_v I J (nI 4)) := by
  refine Mt.of2 _ rfl (by decide +kernel) (Nat.le_of_ble_eq_true rfl) ?_
  refine GW.run kJ0_length_8abf5 (fun _ => false) 37 0 rfl ?_
  refine Mt.conseq (c_cod7 _ _ _) ?_
  rintro _ _ _ ⟨rfl, rfl, rfl⟩
  exact ⟨trivial, rfl, rfl, congrArg (fun x => some (Value.int x)) (show Int32.ofNat 4 >>> ((0 : Int32) &&& 31) = nI 4 by decide)⟩
theorem ltr_7 : ∀ j, j < 4 → na_nl .char ((na_lst [110, 101, 101, 100] j &&& 255).toUInt32 % 65536).toInt32 ∧ ((na_lst [110, 101, 101, 100] j &&& 255).toUInt32 % 65536).toInt32 = wdL 7 j := by
  intro j hj
  obtain rfl | rfl | rfl | rfl : j = 0 ∨ j = 1 ∨ j = 2 ∨ j = 3 := by omega
  all_goals exact ⟨rfl, by decide⟩
set_option maxRecDepth 100000 in
set_option maxHeartbeats 4000000 in
theorem c_ch1_7 (sx : Nat × (Nat → Int32)) (j : Nat) (hj : j < 4) (I : Mm) (J : Ml) : Mt sx MJ1_charAt_3b067 [.ref 127, .int (nI j)] I J (na_v I J (wdL 7 j)) := by
  have hb : vp_in (nI j) 4 := vp_in_nI hj (by decide)
  have hc := nI_clamp (n := j) (by omega)
  have hl := ltr_7 j hj
  rw [← hc] at hl
  refine Mt.of2 _ rfl (by decide +kernel) (Nat.le_of_ble_eq_true rfl) ?_
  refine GW.run kJ1_charAt_3b067 (fun _ => false) 41 0 rfl ?_
  refine Mt.conseq (c_ci0 _ j 4 hj (by decide) _ _) ?_
  rintro _ _ _ ⟨rfl, rfl, rfl⟩
  refine And.intro (hb) ?_
  exact ⟨hl.1, rfl, rfl, congrArg (fun x => some (Value.int x)) (hl.2.trans (by rw [hc]))⟩
set_option maxRecDepth 100000 in
set_option maxHeartbeats 4000000 in
theorem c_chr7 (sx : Nat × (Nat → Int32)) (j : Nat) (hj : j < 4) (I : Mm) (J : Ml) : Mt sx MJ0_charAt_5068e [.ref 107, .int (nI j)] I J (na_v I J (wdL 7 j)) := by
  have hl : na_nl .char (wdL 7 j) := by rw [← (ltr_7 j hj).2]; exact (ltr_7 j hj).1
  refine Mt.of2 _ rfl (by decide +kernel) (Nat.le_of_ble_eq_true rfl) ?_
  refine GW.run kJ0_charAt_5068e (fun _ => false) 43 0 rfl ?_
  refine Mt.conseq (c_lat7 _ _ _) ?_
  rintro _ _ _ ⟨rfl, rfl, rfl⟩
  refine And.intro (fun hh => absurd hh (by decide)) (fun _ => ?_)
  refine Mt.conseq (c_ch1_7 _ j hj _ _) ?_
  rintro _ _ _ ⟨rfl, rfl, rfl⟩
  exact ⟨hl, rfl, rfl, rfl⟩
set_option maxRecDepth 100000 in
set_option maxHeartbeats 4000000 in
theorem c_cod8 (sx : Nat × (Nat → Int32)) (I : Mm) (J : Ml) : Mt sx MJ0_coder_7d493 [.ref 108] I J (na_v I J 0) := by
  refine Mt.of2 _ rfl (by decide +kernel) (Nat.le_of_ble_eq_true rfl) ?_
  refine GW.run kJ0_coder_7d493 (fun _ => false) 37 0 rfl ?_
  refine And.intro (fun hh => absurd hh (by decide)) (fun _ => ?_)
  exact ⟨rfl, rfl, rfl, rfl⟩
set_option maxRecDepth 100000 in
set_option maxHeartbeats 4000000 in
theorem c_lat8 (sx : Nat × (Nat → Int32)) (I : Mm) (J : Ml) : Mt sx MJ0_isLatin1_aae02 [.ref 108] I J (na_v I J 1) := by
  refine Mt.of2 _ rfl (by decide +kernel) (Nat.le_of_ble_eq_true rfl) ?_
  refine GW.run kJ0_isLatin1_aae02 (fun _ => false) 39 0 rfl ?_
  refine And.intro (fun hh => absurd hh (by decide)) (fun _ => ?_)
  refine And.intro (fun hh => absurd (by decide) hh) (fun _ => ?_)
  exact ⟨rfl, rfl, rfl, rfl⟩
set_option maxRecDepth 100000 in
set_option maxHeartbeats 4000000 in
theorem c_len8 (sx : Nat × (Nat → Int32)) (I : Mm) (J : Ml) : Mt sx MJ0_length_8abf5 [.ref 108] I J (na_v I J (nI 4)) := by
  refine Mt.of2 _ rfl (by decide +kernel) (Nat.le_of_ble_eq_true rfl) ?_
  refine GW.run kJ0_length_8abf5 (fun _ => false) 37 0 rfl ?_
  refine Mt.conseq (c_cod8 _ _ _) ?_
  rintro _ _ _ ⟨rfl, rfl, rfl⟩
  exact ⟨trivial, rfl, rfl, congrArg (fun x => some (Value.int x)) (show Int32.ofNat 4 >>> ((0 : Int32) &&& 31) = nI 4 by decide)⟩
theorem ltr_8 : ∀ j, j < 4 → na_nl .char ((na_lst [114, 111, 111, 109] j &&& 255).toUInt32 % 65536).toInt32 ∧ ((na_lst [114, 111, 111, 109] j &&& 255).toUInt32 % 65536).toInt32 = wdL 8 j := by
  intro j hj
  obtain rfl | rfl | rfl | rfl : j = 0 ∨ j = 1 ∨ j = 2 ∨ j = 3 := by omega
  all_goals exact ⟨rfl, by decide⟩
set_option maxRecDepth 100000 in
set_option maxHeartbeats 4000000 in
theorem c_ch1_8 (sx : Nat × (Nat → Int32)) (j : Nat) (hj : j < 4) (I : Mm) (J : Ml) : Mt sx MJ1_charAt_3b067 [.ref 128, .int (nI j)] I J (na_v I J (wdL 8 j)) := by
  have hb : vp_in (nI j) 4 := vp_in_nI hj (by decide)
  have hc := nI_clamp (n := j) (by omega)
  have hl := ltr_8 j hj
  rw [← hc] at hl
  refine Mt.of2 _ rfl (by decide +kernel) (Nat.le_of_ble_eq_true rfl) ?_
  refine GW.run kJ1_charAt_3b067 (fun _ => false) 41 0 rfl ?_
  refine Mt.conseq (c_ci0 _ j 4 hj (by decide) _ _) ?_
  rintro _ _ _ ⟨rfl, rfl, rfl⟩
  refine And.intro (hb) ?_
  exact ⟨hl.1, rfl, rfl, congrArg (fun x => some (Value.int x)) (hl.2.trans (by rw [hc]))⟩
set_option maxRecDepth 100000 in
set_option maxHeartbeats 4000000 in
theorem c_chr8 (sx : Nat × (Nat → Int32)) (j : Nat) (hj : j < 4) (I : Mm) (J : Ml) : Mt sx MJ0_charAt_5068e [.ref 108, .int (nI j)] I J (na_v I J (wdL 8 j)) := by
  have hl : na_nl .char (wdL 8 j) := by rw [← (ltr_8 j hj).2]; exact (ltr_8 j hj).1
  refine Mt.of2 _ rfl (by decide +kernel) (Nat.le_of_ble_eq_true rfl) ?_
  refine GW.run kJ0_charAt_5068e (fun _ => false) 43 0 rfl ?_
  refine Mt.conseq (c_lat8 _ _ _) ?_
  rintro _ _ _ ⟨rfl, rfl, rfl⟩
  refine And.intro (fun hh => absurd hh (by decide)) (fun _ => ?_)
  refine Mt.conseq (c_ch1_8 _ j hj _ _) ?_
  rintro _ _ _ ⟨rfl, rfl, rfl⟩
  exact ⟨hl, rfl, rfl, rfl⟩
set_option maxRecDepth 100000 in
set_option maxHeartbeats 4000000 in
theorem c_cod9 (sx : Nat × (Nat → Int32)) (I : Mm) (J : Ml) : Mt sx MJ0_coder_7d493 [.ref 109] I J (na_v I J 0) := by
  refine Mt.of2 _ rfl (by decide +kernel) (Nat.le_of_ble_eq_true rfl) ?_
  refine GW.run kJ0_coder_7d493 (fun _ => false) 37 0 rfl ?_
  refine And.intro (fun hh => absurd hh (by decide)) (fun _ => ?_)
  exact ⟨rfl, rfl, rfl, rfl⟩
set_option maxRecDepth 100000 in
set_option maxHeartbeats 4000000 in
theorem c_lat9 (sx : Nat × (Nat → Int32)) (I : Mm) (J : Ml) : Mt sx MJ0_isLatin1_aae02 [.ref 109] I J (na_v I J 1) := by
  refine Mt.of2 _ rfl (by decide +kernel) (Nat.le_of_ble_eq_true rfl) ?_
  refine GW.run kJ0_isLatin1_aae02 (fun _ => false) 39 0 rfl ?_
  refine And.intro (fun hh => absurd hh (by decide)) (fun _ => ?_)
  refine And.intro (fun hh => absurd (by decide) hh) (fun _ => ?_)
  exact ⟨rfl, rfl, rfl, rfl⟩
set_option maxRecDepth 100000 in
set_option maxHeartbeats 4000000 in
theorem c_len9 (sx : Nat × (Nat → Int32)) (I : Mm) (J : Ml) : Mt sx MJ0_length_8abf5 [.ref 109] I J (na_v I J (nI 3)) := by
  refine Mt.of2 _ rfl (by decide +kernel) (Nat.le_of_ble_eq_true rfl) ?_
  refine GW.run kJ0_length_8abf5 (fun _ => false) 37 0 rfl ?_
  refine Mt.conseq (c_cod9 _ _ _) ?_
  rintro _ _ _ ⟨rfl, rfl, rfl⟩
  exact ⟨trivial, rfl, rfl, congrArg (fun x => some (Value.int x)) (show Int32.ofNat 3 >>> ((0 : Int32) &&& 31) = nI 3 by decide)⟩
theorem ltr_9 : ∀ j, j < 3 → na_nl .char ((na_lst [97, 105, 114] j &&& 255).toUInt32 % 65536).toInt32 ∧ ((na_lst [97, 105, 114] j &&& 255).toUInt32 % 65536).toInt32 = wdL 9 j := by
  intro j hj
  obtain rfl | rfl | rfl : j = 0 ∨ j = 1 ∨ j = 2 := by omega
  all_goals exact ⟨rfl, by decide⟩
set_option maxRecDepth 100000 in
set_option maxHeartbeats 4000000 in
theorem c_ch1_9 (sx : Nat × (Nat → Int32)) (j : Nat) (hj : j < 3) (I : Mm) (J : Ml) : Mt sx MJ1_charAt_3b067 [.ref 129, .int (nI j)] I J (na_v I J (wdL 9 j)) := by
  have hb : vp_in (nI j) 3 := vp_in_nI hj (by decide)
  have hc := nI_clamp (n := j) (by omega)
  have hl := ltr_9 j hj
  rw [← hc] at hl
  refine Mt.of2 _ rfl (by decide +kernel) (Nat.le_of_ble_eq_true rfl) ?_
  refine GW.run kJ1_charAt_3b067 (fun _ => false) 41 0 rfl ?_
  refine Mt.conseq (c_ci0 _ j 3 hj (by decide) _ _) ?_
  rintro _ _ _ ⟨rfl, rfl, rfl⟩
  refine And.intro (hb) ?_
  exact ⟨hl.1, rfl, rfl, congrArg (fun x => some (Value.int x)) (hl.2.trans (by rw [hc]))⟩
set_option maxRecDepth 100000 in
set_option maxHeartbeats 4000000 in
theorem c_chr9 (sx : Nat × (Nat → Int32)) (j : Nat) (hj : j < 3) (I : Mm) (J : Ml) : Mt sx MJ0_charAt_5068e [.ref 109, .int (nI j)] I J (na_v I J (wdL 9 j)) := by
  have hl : na_nl .char (wdL 9 j) := by rw [← (ltr_9 j hj).2]; exact (ltr_9 j hj).1
  refine Mt.of2 _ rfl (by decide +kernel) (Nat.le_of_ble_eq_true rfl) ?_
  refine GW.run kJ0_charAt_5068e (fun _ => false) 43 0 rfl ?_
  refine Mt.conseq (c_lat9 _ _ _) ?_
  rintro _ _ _ ⟨rfl, rfl, rfl⟩
  refine And.intro (fun hh => absurd hh (by decide)) (fun _ => ?_)
  refine Mt.conseq (c_ch1_9 _ j hj _ _) ?_
  rintro _ _ _ ⟨rfl, rfl, rfl⟩
  exact ⟨hl, rfl, rfl, rfl⟩
set_option maxRecDepth 100000 in
set_option maxHeartbeats 4000000 in
theorem c_cod10 (sx : Nat × (Nat → Int32)) (I : Mm) (J : Ml) : Mt sx MJ0_coder_7d493 [.ref 110] I J (na_v I J 0) := by
  refine Mt.of2 _ rfl (by decide +kernel) (Nat.le_of_ble_eq_true rfl) ?_
  refine GW.run kJ0_coder_7d493 (fun _ => false) 37 0 rfl ?_
  refine And.intro (fun hh => absurd hh (by decide)) (fun _ => ?_)
  exact ⟨rfl, rfl, rfl, rfl⟩
set_option maxRecDepth 100000 in
set_option maxHeartbeats 4000000 in
theorem c_lat10 (sx : Nat × (Nat → Int32)) (I : Mm) (J : Ml) : Mt sx MJ0_isLatin1_aae02 [.ref 110] I J (na_v I J 1) := by
  refine Mt.of2 _ rfl (by decide +kernel) (Nat.le_of_ble_eq_true rfl) ?_
  refine GW.run kJ0_isLatin1_aae02 (fun _ => false) 39 0 rfl ?_
  refine And.intro (fun hh => absurd hh (by decide)) (fun _ => ?_)
  refine And.intro (fun hh => absurd (by decide) hh) (fun _ => ?_)
  exact ⟨rfl, rfl, rfl, rfl⟩
set_option maxRecDepth 100000 in
set_option maxHeartbeats 4000000 in
theorem c_len10 (sx : Nat × (Nat → Int32)) (I : Mm) (J : Ml) : Mt sx MJ0_length_8abf5 [.ref 110] I J (na_v I J (nI 5)) := by
  refine Mt.of2 _ rfl (by decide +kernel) (Nat.le_of_ble_eq_true rfl) ?_
  refine GW.run kJ0_length_8abf5 (fun _ => false) 37 0 rfl ?_
  refine Mt.conseq (c_cod10 _ _ _) ?_
  rintro _ _ _ ⟨rfl, rfl, rfl⟩
  exact ⟨trivial, rfl, rfl, congrArg (fun x => some (Value.int x)) (show Int32.ofNat 5 >>> ((0 : Int32) &&& 31) = nI 5 by decide)⟩
theorem ltr_10 : ∀ j, j < 5 → na_nl .char ((na_lst [102, 114, 111, 115, 116] j &&& 255).toUInt32 % 65536).toInt32 ∧ ((na_lst [102, 114, 111, 115, 116] j &&& 255).toUInt32 % 65536).toInt32 = wdL 10 j := by
  intro j hj
  obtain rfl | rfl | rfl | rfl | rfl : j = 0 ∨ j = 1 ∨ j = 2 ∨ j = 3 ∨ j = 4 := by omega
  all_goals exact ⟨rfl, by decide⟩
set_option maxRecDepth 100000 in
set_option maxHeartbeats 4000000 in
theorem c_ch1_10 (sx : Nat × (Nat → Int32)) (j : Nat) (hj : j < 5) (I : Mm) (J : Ml) : Mt sx MJ1_charAt_3b067 [.ref 130, .int (nI j)] I J (na_v I J (wdL 10 j)) := by
  have hb : vp_in (nI j) 5 := vp_in_nI hj (by decide)
  have hc := nI_clamp (n := j) (by omega)
  have hl := ltr_10 j hj
  rw [← hc] at hl
  refine Mt.of2 _ rfl (by decide +kernel) (Nat.le_of_ble_eq_true rfl) ?_
  refine GW.run kJ1_charAt_3b067 (fun _ => false) 41 0 rfl ?_
  refine Mt.conseq (c_ci0 _ j 5 hj (by decide) _ _) ?_
  rintro _ _ _ ⟨rfl, rfl, rfl⟩
  refine And.intro (hb) ?_
  exact ⟨hl.1, rfl, rfl, congrArg (fun x => some (Value.int x)) (hl.2.trans (by rw [hc]))⟩
set_option maxRecDepth 100000 in
set_option maxHeartbeats 4000000 in
theorem c_chr10 (sx : Nat × (Nat → Int32)) (j : Nat) (hj : j < 5) (I : Mm) (J : Ml) : Mt sx MJ0_charAt_5068e [.ref 110, .int (nI j)] I J (na_v I J (wdL 10 j)) := by
  have hl : na_nl .char (wdL 10 j) := by rw [← (ltr_10 j hj).2]; exact (ltr_10 j hj).1
  refine Mt.of2 _ rfl (by decide +kernel) (Nat.le_of_ble_eq_true rfl) ?_
  refine GW.run kJ0_charAt_5068e (fun _ => false) 43 0 rfl ?_
  refine Mt.conseq (c_lat10 _ _ _) ?_
  rintro _ _ _ ⟨rfl, rfl, rfl⟩
  refine And.intro (fun hh => absurd hh (by decide)) (fun _ => ?_)
  refine Mt.conseq (c_ch1_10 _ j hj _ _) ?_
  rintro _ _ _ ⟨rfl, rfl, rfl⟩
  exact ⟨hl, rfl, rfl, rfl⟩
set_option maxRecDepth 100000 in
set_option maxHeartbeats 4000000 in
theorem c_cod11 (sx : Nat × (Nat → Int32)) (I : Mm) (J : Ml) : Mt sx MJ0_coder_7d493 [.ref 111] I J (na_v I J 0) := by
  refine Mt.of2 _ rfl (by decide +kernel) (Nat.le_of_ble_eq_true rfl) ?_
  refine GW.run kJ0_coder_7d493 (fun _ => false) 37 0 rfl ?_
  refine And.intro (fun hh => absurd hh (by decide)) (fun _ => ?_)
  exact ⟨rfl, rfl, rfl, rfl⟩
set_option maxRecDepth 100000 in
set_option maxHeartbeats 4000000 in
theorem c_lat11 (sx : Nat × (Nat → Int32)) (I : Mm) (J : Ml) : Mt sx MJ0_isLatin1_aae02 [.ref 111] I J (na_v I J 1) := by
  refine Mt.of2 _ rfl (by decide +kernel) (Nat.le_of_ble_eq_true rfl) ?_
  refine GW.run kJ0_isLatin1_aae02 (fun _ => false) 39 0 rfl ?_
  refine And.intro (fun hh => absurd hh (by decide)) (fun _ => ?_)
  refine And.intro (fun hh => absurd (by decide) hh) (fun _ => ?_)
  exact ⟨rfl, rfl, rfl, rfl⟩
set_option maxRecDepth 100000 in
set_option maxHeartbeats 4000000 in
theorem c_len11 (sx : Nat × (Nat → Int32)) (I : Mm) (J : Ml) : Mt sx MJ0_length_8abf5 [.ref 111] I J (na_v I J (nI 4)) := by
  refine Mt.of2 _ rfl (by decide +kernel) (Nat.le_of_ble_eq_true rfl) ?_
  refine GW.run kJ0_length_8abf5 (fun _ => false) 37 0 rfl ?_
  refine Mt.conseq (c_cod11 _ _ _) ?_
  rintro _ _ _ ⟨rfl, rfl, rfl⟩
  exact ⟨trivial, rfl, rfl, congrArg (fun x => some (Value.int x)) (show Int32.ofNat 4 >>> ((0 : Int32) &&& 31) = nI 4 by decide)⟩
theorem ltr_11 : ∀ j, j < 4 → na_nl .char ((na_lst [102, 105, 114, 101] j &&& 255).toUInt32 % 65536).toInt32 ∧ ((na_lst [102, 105, 114, 101] j &&& 255).toUInt32 % 65536).toInt32 = wdL 11 j := by
  intro j hj
  obtain rfl | rfl | rfl | rfl : j = 0 ∨ j = 1 ∨ j = 2 ∨ j = 3 := by omega
  all_goals exact ⟨rfl, by decide⟩
set_option maxRecDepth 100000 in
set_option maxHeartbeats 4000000 in
theorem c_ch1_11 (sx : Nat × (Nat → Int32)) (j : Nat) (hj : j < 4) (I : Mm) (J : Ml) : Mt sx MJ1_charAt_3b067 [.ref 131, .int (nI j)] I J (na_v I J (wdL 11 j)) := by
  have hb : vp_in (nI j) 4 := vp_in_nI hj (by decide)
  have hc := nI_clamp (n := j) (by omega)
  have hl := ltr_11 j hj
  rw [← hc] at hl
  refine Mt.of2 _ rfl (by decide +kernel) (Nat.le_of_ble_eq_true rfl) ?_
  refine GW.run kJ1_charAt_3b067 (fun _ => false) 41 0 rfl ?_
  refine Mt.conseq (c_ci0 _ j 4 hj (by decide) _ _) ?_
  rintro _ _ _ ⟨rfl, rfl, rfl⟩
  refine And.intro (hb) ?_
  exact ⟨hl.1, rfl, rfl, congrArg (fun x => some (Value.int x)) (hl.2.trans (by rw [hc]))⟩
set_option maxRecDepth 100000 in
set_option maxHeartbeats 4000000 in
theorem c_chr11 (sx : Nat × (Nat → Int32)) (j : Nat) (hj : j < 4) (I : Mm) (J : Ml) : Mt sx MJ0_charAt_5068e [.ref 111, .int (nI j)] I J (na_v I J (wdL 11 j)) := by
  have hl : na_nl .char (wdL 11 j) := by rw [← (ltr_11 j hj).2]; exact (ltr_11 j hj).1
  refine Mt.of2 _ rfl (by decide +kernel) (Nat.le_of_ble_eq_true rfl) ?_
  refine GW.run kJ0_charAt_5068e (fun _ => false) 43 0 rfl ?_
  refine Mt.conseq (c_lat11 _ _ _) ?_
  rintro _ _ _ ⟨rfl, rfl, rfl⟩
  refine And.intro (fun hh => absurd hh (by decide)) (fun _ => ?_)
  refine Mt.conseq (c_ch1_11 _ j hj _ _) ?_
  rintro _ _ _ ⟨rfl, rfl, rfl⟩
  exact ⟨hl, rfl, rfl, rfl⟩
set_option maxRecDepth 100000 in
set_option maxHeartbeats 4000000 in
theorem c_cod12 (sx : Nat × (Nat → Int32)) (I : Mm) (J : Ml) : Mt sx MJ0_coder_7d493 [.ref 112] I J (na_v I J 0) := by
  refine Mt.of2 _ rfl (by decide +kernel) (Nat.le_of_ble_eq_true rfl) ?_
  refine GW.run kJ0_coder_7d493 (fun _ => false) 37 0 rfl ?_
  refine And.intro (fun hh => absurd hh (by decide)) (fun _ => ?_)
  exact ⟨rfl, rfl, rfl, rfl⟩
set_option maxRecDepth 100000 in
set_option maxHeartbeats 4000000 in
theorem c_lat12 (sx : Nat × (Nat → Int32)) (I : Mm) (J : Ml) : Mt sx MJ0_isLatin1_aae02 [.ref 112] I J (na_v I J 1) := by
  refine Mt.of2 _ rfl (by decide +kernel) (Nat.le_of_ble_eq_true rfl) ?_
  refine GW.run kJ0_isLatin1_aae02 (fun _ => false) 39 0 rfl ?_
  refine And.intro (fun hh => absurd hh (by decide)) (fun _ => ?_)
  refine And.intro (fun hh => absurd (by decide) hh) (fun _ => ?_)
  exact ⟨rfl, rfl, rfl, rfl⟩
set_option maxRecDepth 100000 in
set_option maxHeartbeats 4000000 in
theorem c_len12 (sx : Nat × (Nat → Int32)) (I : Mm) (J : Ml) : Mt sx MJ0_length_8abf5 [.ref 112] I J (na_v I J (nI 5)) := by
  refine Mt.of2 _ rfl (by decide +kernel) (Nat.le_of_ble_eq_true rfl) ?_
  refine GW.run kJ0_length_8abf5 (fun _ => false) 37 0 rfl ?_
  refine Mt.conseq (c_cod12 _ _ _) ?_
  rintro _ _ _ ⟨rfl, rfl, rfl⟩
  exact ⟨trivial, rfl, rfl, congrArg (fun x => some (Value.int x)) (show Int32.ofNat 5 >>> ((0 : Int32) &&& 31) = nI 5 by decide)⟩
theorem ltr_12 : ∀ j, j < 5 → na_nl .char ((na_lst [116, 105, 103, 104, 116] j &&& 255).toUInt32 % 65536).toInt32 ∧ ((na_lst [116, 105, 103, 104, 116] j &&& 255).toUInt32 % 65536).toInt32 = wdL 12 j := by
  intro j hj
  obtain rfl | rfl | rfl | rfl | rfl : j = 0 ∨ j = 1 ∨ j = 2 ∨ j = 3 ∨ j = 4 := by omega
  all_goals exact ⟨rfl, by decide⟩
set_option maxRecDepth 100000 in
set_option maxHeartbeats 4000000 in
theorem c_ch1_12 (sx : Nat × (Nat → Int32)) (j : Nat) (hj : j < 5) (I : Mm) (J : Ml) : Mt sx MJ1_charAt_3b067 [.ref 132, .int (nI j)] I J (na_v I J (wdL 12 j)) := by
  have hb : vp_in (nI j) 5 := vp_in_nI hj (by decide)
  have hc := nI_clamp (n := j) (by omega)
  have hl := ltr_12 j hj
  rw [← hc] at hl
  refine Mt.of2 _ rfl (by decide +kernel) (Nat.le_of_ble_eq_true rfl) ?_
  refine GW.run kJ1_charAt_3b067 (fun _ => false) 41 0 rfl ?_
  refine Mt.conseq (c_ci0 _ j 5 hj (by decide) _ _) ?_
  rintro _ _ _ ⟨rfl, rfl, rfl⟩
  refine And.intro (hb) ?_
  exact ⟨hl.1, rfl, rfl, congrArg (fun x => some (Value.int x)) (hl.2.trans (by rw [hc]))⟩
set_option maxRecDepth 100000 in
set_option maxHeartbeats 4000000 in
theorem c_chr12 (sx : Nat × (Nat → Int32)) (j : Nat) (hj : j < 5) (I : Mm) (J : Ml) : Mt sx MJ0_charAt_5068e [.ref 112, .int (nI j)] I J (na_v I J (wdL 12 j)) := by
  have hl : na_nl .char (wdL 12 j) := by rw [← (ltr_12 j hj).2]; exact (ltr_12 j hj).1
  refine Mt.of2 _ rfl (by decide +kernel) (Nat.le_of_ble_eq_true rfl) ?_
  refine GW.run kJ0_charAt_5068e (fun _ => false) 43 0 rfl ?_
  refine Mt.conseq (c_lat12 _ _ _) ?_
  rintro _ _ _ ⟨rfl, rfl, rfl⟩
  refine And.intro (fun hh => absurd hh (by decide)) (fun _ => ?_)
  refine Mt.conseq (c_ch1_12 _ j hj _ _) ?_
  rintro _ _ _ ⟨rfl, rfl, rfl⟩
  exact ⟨hl, rfl, rfl, rfl⟩
set_option maxRecDepth 100000 in
set_option maxHeartbeats 4000000 in
theorem c_cod13 (sx : Nat × (Nat → Int32)) (I : Mm) (J : Ml) : Mt sx MJ0_coder_7d493 [.ref 113] I J (na_v I J 0) := by
  refine Mt.of2 _ rfl (by decide +kernel) (Nat.le_of_ble_eq_true rfl) ?_
  refine GW.run kJ0_coder_7d493 (fun _ => false) 37 0 rfl ?_
  refine And.intro (fun hh => absurd hh (by decide)) (fun _ => ?_)
  exact ⟨rfl, rfl, rfl, rfl⟩
set_option maxRecDepth 100000 in
set_option maxHeartbeats 4000000 in
theorem c_lat13 (sx : Nat × (Nat → Int32)) (I : Mm) (J : Ml) : Mt sx MJ0_isLatin1_aae02 [.ref 113] I J (na_v I J 1) := by
  refine Mt.of2 _ rfl (by decide +kernel) (Nat.le_of_ble_eq_true rfl) ?_
  refine GW.run kJ0_isLatin1_aae02 (fun _ => false) 39 0 rfl ?_
  refine And.intro (fun hh => absurd hh (by decide)) (fun _ => ?_)
  refine And.intro (fun hh => absurd (by decide) hh) (fun _ => ?_)
  exact ⟨rfl, rfl, rfl, rfl⟩
set_option maxRecDepth 100000 in
set_option maxHeartbeats 4000000 in
theorem c_len13 (sx : Nat × (Nat → Int32)) (I : Mm) (J : Ml) : Mt sx MJ0_length_8abf5 [.ref 113] I J (na_v I J (nI 4)) := by
  refine Mt.of2 _ rfl (by decide +kernel) (Nat.le_of_ble_eq_true rfl) ?_
  refine GW.run kJ0_length_8abf5 (fun _ => false) 37 0 rfl ?_
  refine Mt.conseq (c_cod13 _ _ _) ?_
  rintro _ _ _ ⟨rfl, rfl, rfl⟩
  exact ⟨trivial, rfl, rfl, congrArg (fun x => some (Value.int x)) (show Int32.ofNat 4 >>> ((0 : Int32) &&& 31) = nI 4 by decide)⟩
theorem ltr_13 : ∀ j, j < 4 → na_nl .char ((na_lst [111, 112, 101, 110] j &&& 255).toUInt32 % 65536).toInt32 ∧ ((na_lst [111, 112, 101, 110] j &&& 255).toUInt32 % 65536).toInt32 = wdL 13 j := by
  intro j hj
  obtain rfl | rfl | rfl | rfl : j = 0 ∨ j = 1 ∨ j = 2 ∨ j = 3 := by omega
  all_goals exact ⟨rfl, by decide⟩
set_option maxRecDepth 100000 in
set_option maxHeartbeats 4000000 in
theorem c_ch1_13 (sx : Nat × (Nat → Int32)) (j : Nat) (hj : j < 4) (I : Mm) (J : Ml) : Mt sx MJ1_charAt_3b067 [.ref 133, .int (nI j)] I J (na_v I J (wdL 13 j)) := by
  have hb : vp_in (nI j) 4 := vp_in_nI hj (by decide)
  have hc := nI_clamp (n := j) (by omega)
  have hl := ltr_13 j hj
  rw [← hc] at hl
  refine Mt.of2 _ rfl (by decide +kernel) (Nat.le_of_ble_eq_true rfl) ?_
  refine GW.run kJ1_charAt_3b067 (fun _ => false) 41 0 rfl ?_
  refine Mt.conseq (c_ci0 _ j 4 hj (by decide) _ _) ?_
  rintro _ _ _ ⟨rfl, rfl, rfl⟩
  refine And.intro (hb) ?_
  exact ⟨hl.1, rfl, rfl, congrArg (fun x => some (Value.int x)) (hl.2.trans (by rw [hc]))⟩
set_option maxRecDepth 100000 in
set_option maxHeartbeats 4000000 in
theorem c_chr13 (sx : Nat × (Nat → Int32)) (j : Nat) (hj : j < 4) (I : Mm) (J : Ml) : Mt sx MJ0_charAt_5068e [.ref 113, .int (nI j)] I J (na_v I J (wdL 13 j)) := by
  have hl : na_nl .char (wdL 13 j) := by rw [← (ltr_13 j hj).2]; exact (ltr_13 j hj).1
  refine Mt.of2 _ rfl (by decide +kernel) (Nat.le_of_ble_eq_true rfl) ?_
  refine GW.run kJ0_charAt_5068e (fun _ => false) 43 0 rfl ?_
  refine Mt.conseq (c_lat13 _ _ _) ?_
  rintro _ _ _ ⟨rfl, rfl, rfl⟩
  refine And.intro (fun hh => absurd hh (by decide)) (fun _ => ?_)
  refine Mt.conseq (c_ch1_13 _ j hj _ _) ?_
  rintro _ _ _ ⟨rfl, rfl, rfl⟩
  exact ⟨hl, rfl, rfl, rfl⟩
set_option maxRecDepth 100000 in
set_option maxHeartbeats 4000000 in
theorem c_cod14 (sx : Nat × (Nat → Int32)) (I : Mm) (J : Ml) : Mt sx MJ0_coder_7d493 [.ref 114] I J (na_v I J 0) := by
  refine Mt.of2 _ rfl (by decide +kernel) (Nat.le_of_ble_eq_true rfl) ?_
  refine GW.run kJ0_coder_7d493 (fun _ => false) 37 0 rfl ?_
  refine And.intro (fun hh => absurd hh (by decide)) (fun _ => ?_)
  exact ⟨rfl, rfl, rfl, rfl⟩
set_option maxRecDepth 100000 in
set_option maxHeartbeats 4000000 in
theorem c_lat14 (sx : Nat × (Nat → Int32)) (I : Mm) (J : Ml) : Mt sx MJ0_isLatin1_aae02 [.ref 114] I J (na_v I J 1) := by
  refine Mt.of2 _ rfl (by decide +kernel) (Nat.le_of_ble_eq_true rfl) ?_
  refine GW.run kJ0_isLatin1_aae02 (fun _ => false) 39 0 rfl ?_
  refine And.intro (fun hh => absurd hh (by decide)) (fun _ => ?_)
  refine And.intro (fun hh => absurd (by decide) hh) (fun _ => ?_)
  exact ⟨rfl, rfl, rfl, rfl⟩
set_option maxRecDepth 100000 in
set_option maxHeartbeats 4000000 in
theorem c_len14 (sx : Nat × (Nat → Int32)) (I : Mm) (J : Ml) : Mt sx MJ0_length_8abf5 [.ref 114] I J (na_v I J (nI 4)) := by
  refine Mt.of2 _ rfl (by decide +kernel) (Nat.le_of_ble_eq_true rfl) ?_
  refine GW.run kJ0_length_8abf5 (fun _ => false) 37 0 rfl ?_
  refine Mt.conseq (c_cod14 _ _ _) ?_
  rintro _ _ _ ⟨rfl, rfl, rfl⟩
  exact ⟨trivial, rfl, rfl, congrArg (fun x => some (Value.int x)) (show Int32.ofNat 4 >>> ((0 : Int32) &&& 31) = nI 4 by decide)⟩
theorem ltr_14 : ∀ j, j < 4 → na_nl .char ((na_lst [115, 104, 117, 116] j &&& 255).toUInt32 % 65536).toInt32 ∧ ((na_lst [115, 104, 117, 116] j &&& 255).toUInt32 % 65536).toInt32 = wdL 14 j := by
  intro j hj
  obtain rfl | rfl | rfl | rfl : j = 0 ∨ j = 1 ∨ j = 2 ∨ j = 3 := by omega
  all_goals exact ⟨rfl, by decide⟩
set_option maxRecDepth 100000 in
set_option maxHeartbeats 4000000 in
theorem c_ch1_14 (sx : Nat × (Nat → Int32)) (j : Nat) (hj : j < 4) (I : Mm) (J : Ml) : Mt sx MJ1_charAt_3b067 [.ref 134, .int (nI j)] I J (na_v I J (wdL 14 j)) := by
  have hb : vp_in (nI j) 4 := vp_in_nI hj (by decide)
  have hc := nI_clamp (n := j) (by omega)
  have hl := ltr_14 j hj
  rw [← hc] at hl
  refine Mt.of2 _ rfl (by decide +kernel) (Nat.le_of_ble_eq_true rfl) ?_
  refine GW.run kJ1_charAt_3b067 (fun _ => false) 41 0 rfl ?_
  refine Mt.conseq (c_ci0 _ j 4 hj (by decide) _ _) ?_
  rintro _ _ _ ⟨rfl, rfl, rfl⟩
  refine And.intro (hb) ?_
  exact ⟨hl.1, rfl, rfl, congrArg (fun x => some (Value.int x)) (hl.2.trans (by rw [hc]))⟩
set_option maxRecDepth 100000 in
set_option maxHeartbeats 4000000 in
theorem c_chr14 (sx : Nat × (Nat → Int32)) (j : Nat) (hj : j < 4) (I : Mm) (J : Ml) : Mt sx MJ0_charAt_5068e [.ref 114, .int (nI j)] I J (na_v I J (wdL 14 j)) := by
  have hl : na_nl .char (wdL 14 j) := by rw [← (ltr_14 j hj).2]; exact (ltr_14 j hj).1
  refine Mt.of2 _ rfl (by decide +kernel) (Nat.le_of_ble_eq_true rfl) ?_
  refine GW.run kJ0_charAt_5068e (fun _ => false) 43 0 rfl ?_
  refine Mt.conseq (c_lat14 _ _ _) ?_
  rintro _ _ _ ⟨rfl, rfl, rfl⟩
  refine And.intro (fun hh => absurd hh (by decide)) (fun _ => ?_)
  refine Mt.conseq (c_ch1_14 _ j hj _ _) ?_
  rintro _ _ _ ⟨rfl, rfl, rfl⟩
  exact ⟨hl, rfl, rfl, rfl⟩
set_option maxRecDepth 100000 in
set_option maxHeartbeats 4000000 in
theorem c_cod15 (sx : Nat × (Nat → Int32)) (I : Mm) (J : Ml) : Mt sx MJ0_coder_7d493 [.ref 115] I J (na_v I J 0) := by
  refine Mt.of2 _ rfl (by decide +kernel) (Nat.le_of_ble_eq_true rfl) ?_
  refine GW.run kJ0_coder_7d493 (fun _ => false) 37 0 rfl ?_
  refine And.intro (fun hh => absurd hh (by decide)) (fun _ => ?_)
  exact ⟨rfl, rfl, rfl, rfl⟩
set_option maxRecDepth 100000 in
set_option maxHeartbeats 4000000 in
theorem c_lat15 (sx : Nat × (Nat → Int32)) (I : Mm) (J : Ml) : Mt sx MJ0_isLatin1_aae02 [.ref 115] I J (na_v I J 1) := by
  refine Mt.of2 _ rfl (by decide +kernel) (Nat.le_of_ble_eq_true rfl) ?_
  refine GW.run kJ0_isLatin1_aae02 (fun _ => false) 39 0 rfl ?_
  refine And.intro (fun hh => absurd hh (by decide)) (fun _ => ?_)
  refine And.intro (fun hh => absurd (by decide) hh) (fun _ => ?_)
  exact ⟨rfl, rfl, rfl, rfl⟩
set_option maxRecDepth 100000 in
set_option maxHeartbeats 4000000 in
theorem c_len15 (sx : Nat × (Nat → Int32)) (I : Mm) (J : Ml) : Mt sx MJ0_length_8abf5 [.ref 115] I J (na_v I J (nI 4)) := by
  refine Mt.of2 _ rfl (by decide +kernel) (Nat.le_of_ble_eq_true rfl) ?_
  refine GW.run kJ0_length_8abf5 (fun _ => false) 37 0 rfl ?_
  refine Mt.conseq (c_cod15 _ _ _) ?_
  rintro _ _ _ ⟨rfl, rfl, rfl⟩
  exact ⟨trivial, rfl, rfl, congrArg (fun x => some (Value.int x)) (show Int32.ofNat 4 >>> ((0 : Int32) &&& 31) = nI 4 by decide)⟩
theorem ltr_15 : ∀ j, j < 4 → na_nl .char ((na_lst [99, 111, 108, 100] j &&& 255).toUInt32 % 65536).toInt32 ∧ ((na_lst [99, 111, 108, 100] j &&& 255).toUInt32 % 65536).toInt32 = wdL 15 j := by
  intro j hj
  obtain rfl | rfl | rfl | rfl : j = 0 ∨ j = 1 ∨ j = 2 ∨ j = 3 := by omega
  all_goals exact ⟨rfl, by decide⟩
set_option maxRecDepth 100000 in
set_option maxHeartbeats 4000000 in
theorem c_ch1_15 (sx : Nat × (Nat → Int32)) (j : Nat) (hj : j < 4) (I : Mm) (J : Ml) : Mt sx MJ1_charAt_3b067 [.ref 135, .int (nI j)] I J (na_v I J (wdL 15 j)) := by
  have hb : vp_in (nI j) 4 := vp_in_nI hj (by decide)
  have hc := nI_clamp (n := j) (by omega)
  have hl := ltr_15 j hj
  rw [← hc] at hl
  refine Mt.of2 _ rfl (by decide +kernel) (Nat.le_of_ble_eq_true rfl) ?_
  refine GW.run kJ1_charAt_3b067 (fun _ => false) 41 0 rfl ?_
  refine Mt.conseq (c_ci0 _ j 4 hj (by decide) _ _) ?_
  rintro _ _ _ ⟨rfl, rfl, rfl⟩
  refine And.intro (hb) ?_
  exact ⟨hl.1, rfl, rfl, congrArg (fun x => some (Value.int x)) (hl.2.trans (by rw [hc]))⟩
set_option maxRecDepth 100000 in
set_option maxHeartbeats 4000000 in
theorem c_chr15 (sx : Nat × (Nat → Int32)) (j : Nat) (hj : j < 4) (I : Mm) (J : Ml) : Mt sx MJ0_charAt_5068e [.ref 115, .int (nI j)] I J (na_v I J (wdL 15 j)) := by
  have hl : na_nl .char (wdL 15 j) := by rw [← (ltr_15 j hj).2]; exact (ltr_15 j hj).1
  refine Mt.of2 _ rfl (by decide +kernel) (Nat.le_of_ble_eq_true rfl) ?_
  refine GW.run kJ0_charAt_5068e (fun _ => false) 43 0 rfl ?_
  refine Mt.conseq (c_lat15 _ _ _) ?_
  rintro _ _ _ ⟨rfl, rfl, rfl⟩
  refine And.intro (fun hh => absurd hh (by decide)) (fun _ => ?_)
  refine Mt.conseq (c_ch1_15 _ j hj _ _) ?_
  rintro _ _ _ ⟨rfl, rfl, rfl⟩
  exact ⟨hl, rfl, rfl, rfl⟩
set_option maxRecDepth 100000 in
set_option maxHeartbeats 4000000 in
theorem c_cod16 (sx : Nat × (Nat → Int32)) (I : Mm) (J : Ml) : Mt sx MJ0_coder_7d493 [.ref 116] I J (na_v I J 0) := by
  refine Mt.of2 _ rfl (by decide +kernel) (Nat.le_of_ble_eq_true rfl) ?_
  refine GW.run kJ0_coder_7d493 (fun _ => false) 37 0 rfl ?_
  refine And.intro (fun hh => absurd hh (by decide)) (fun _ => ?_)
  exact ⟨rfl, rfl, rfl, rfl⟩
set_option maxRecDepth 100000 in
set_option maxHeartbeats 4000000 in
theorem c_lat16 (sx : Nat × (Nat → Int32)) (I : Mm) (J : Ml) : Mt sx MJ0_isLatin1_aae02 [.ref 116] I J (na_v I J 1) := by
  refine Mt.of2 _ rfl (by decide +kernel) (Nat.le_of_ble_eq_true rfl) ?_
  refine GW.run kJ0_isLatin1_aae02 (fun _ => false) 39 0 rfl ?_
  refine And.intro (fun hh => absurd hh (by decide)) (fun _ => ?_)
  refine And.intro (fun hh => absurd (by decide) hh) (fun _ => ?_)
  exact ⟨rfl, rfl, rfl, rfl⟩
set_option maxRecDepth 100000 in
set_option maxHeartbeats 4000000 in
theorem c_len16 (sx : Nat × (Nat → Int32)) (I : Mm) (J : Ml) : Mt sx MJ0_length_8abf5 [.ref 116] I J (na_v I J (nI 4)) := by
  refine Mt.of2 _ rfl (by decide +kernel) (Nat.le_of_ble_eq_true rfl) ?_
  refine GW.run kJ0_length_8abf5 (fun _ => false) 37 0 rfl ?_
  refine Mt.conseq (c_cod16 _ _ _) ?_
  rintro _ _ _ ⟨rfl, rfl, rfl⟩
  exact ⟨trivial, rfl, rfl, congrArg (fun x => some (Value.int x)) (show Int32.ofNat 4 >>> ((0 : Int32) &&& 31) = nI 4 by decide)⟩
theorem ltr_16 : ∀ j, j < 4 → na_nl .char ((na_lst [109, 105, 108, 100] j &&& 255).toUInt32 % 65536).toInt32 ∧ ((na_lst [109, 105, 108, 100] j &&& 255).toUInt32 % 65536).toInt32 = wdL 16 j := by
  intro j hj
  obtain rfl | rfl | rfl | rfl : j = 0 ∨ j = 1 ∨ j = 2 ∨ j = 3 := by omega
  all_goals exact ⟨rfl, by decide⟩
set_option maxRecDepth 100000 in
set_option maxHeartbeats 4000000 in
theorem c_ch1_16 (sx : Nat × (Nat → Int32)) (j : Nat) (hj : j < 4) (I : Mm) (J : Ml) : Mt sx MJ1_charAt_3b067 [.ref 136, .int (nI j)] I J (na_v I J (wdL 16 j)) := by
  have hb : vp_in (nI j) 4 := vp_in_nI hj (by decide)
  have hc := nI_clamp (n := j) (by omega)
  have hl := ltr_16 j hj
  rw [← hc] at hl
  refine Mt.of2 _ rfl (by decide +kernel) (Nat.le_of_ble_eq_true rfl) ?_
  refine GW.run kJ1_charAt_3b067 (fun _ => false) 41 0 rfl ?_
  refine Mt.conseq (c_ci0 _ j 4 hj (by decide) _ _) ?_
  rintro _ _ _ ⟨rfl, rfl, rfl⟩
  refine And.intro (hb) ?_
  exact ⟨hl.1, rfl, rfl, congrArg (fun x => some (Value.int x)) (hl.2.trans (by rw [hc]))⟩
set_option maxRecDepth 100000 in
set_option maxHeartbeats 4000000 in
theorem c_chr16 (sx : Nat × (Nat → Int32)) (j : Nat) (hj : j < 4) (I : Mm) (J : Ml) : Mt sx MJ0_charAt_5068e [.ref 116, .int (nI j)] I J (na_v I J (wdL 16 j)) := by
  have hl : na_nl .char (wdL 16 j) := by rw [← (ltr_16 j hj).2]; exact (ltr_16 j hj).1
  refine Mt.of2 _ rfl (by decide +kernel) (Nat.le_of_ble_eq_true rfl) ?_
  refine GW.run kJ0_charAt_5068e (fun _ => false) 43 0 rfl ?_
  refine Mt.conseq (c_lat16 _ _ _) ?_
  rintro _ _ _ ⟨rfl, rfl, rfl⟩
  refine And.intro (fun hh => absurd hh (by decide)) (fun _ => ?_)
  refine Mt.conseq (c_ch1_16 _ j hj _ _) ?_
  rintro _ _ _ ⟨rfl, rfl, rfl⟩
  exact ⟨hl, rfl, rfl, rfl⟩
