/-! THE TAPE: words, the reference: a word is its number -/
def cd (d : Nat → Nat) : Nat → Nat
  | 0 => 0
  | n + 1 => 27 * cd d n + d n
theorem cd_inj {d v : Nat → Nat} : ∀ (D n : Nat), (∀ j, j < D → 1 ≤ d j ∧ d j ≤ 26) → (∀ j, j < n → 1 ≤ v j ∧ v j ≤ 26) → cd d D = cd v n → D = n ∧ ∀ j, j < n → d j = v j
  | 0, 0, _, _, _ => ⟨rfl, fun j hj => absurd hj (by omega)⟩
  | 0, n + 1, _, hv, h => by
    have := hv n (by omega)
    rw [cd, cd] at h
    omega
  | D + 1, 0, hd, _, h => by
    have := hd D (by omega)
    rw [cd, cd] at h
    omega
  | D + 1, n + 1, hd, hv, h => by
    have h1 := hd D (by omega)
    have h2 := hv n (by omega)
    rw [cd, cd] at h
    obtain ⟨q1, q2⟩ := cd_inj D n (fun j hj => hd j (by omega)) (fun j hj => hv j (by omega)) (by omega)
    subst q1
    refine ⟨rfl, fun j hj => ?_⟩
    by_cases e : j = D
    · subst e; omega
    · exact q2 j (by omega)
theorem cd_c {d v : Nat → Nat} : ∀ n, (∀ j, j < n → d j = v j) → cd d n = cd v n
  | 0, _ => rfl
  | n + 1, h => by rw [cd, cd, cd_c n (fun j hj => h j (by omega)), h n (by omega)]
theorem cd_lt {d : Nat → Nat} : ∀ n, (∀ j, j < n → d j ≤ 26) → cd d n < 27 ^ n
  | 0, _ => by show 0 < 1; decide
  | n + 1, h => by
    have h1 := cd_lt n (fun j hj => h j (by omega))
    have h2 := h n (by omega)
    rw [cd, Nat.pow_succ]
    omega
theorem lN_in {a b : Nat} (ha : a < 2 ^ 63) (hb : b < 2 ^ 63) (h : lN a = lN b) : a = b := by
  have q := congrArg Int64.toInt h
  unfold lN at q
  rw [Int64.toInt_ofNat', Int64.toInt_ofNat', Int.bmod_eq_of_le (by omega) (by simp only [Int64.size]; omega), Int.bmod_eq_of_le (by omega) (by simp only [Int64.size]; omega)] at q
  omega
/-- letters as numbers -/
def dgs (u : Nat → Int32) (j : Nat) : Nat := (u j).toNatClampNeg - 96
theorem dgs_of {x : Int32} (h : tb x = 0) : ∃ c, 1 ≤ c ∧ c ≤ 26 ∧ x = nI (c + 96) := by
  obtain ⟨h1, h2⟩ := tb0.mp h
  rw [le_i] at h1 h2
  have e1 : (97 : Int32).toInt = 97 := by decide
  have e2 : (122 : Int32).toInt = 122 := by decide
  obtain ⟨n, hn, e⟩ := nI_rg (b := 122) (by decide) (x := x) ⟨by omega, by omega⟩
  rw [e, nI_toInt (by omega)] at h1
  exact ⟨n - 96, by omega, by omega, by rw [e]; congr 1; omega⟩
theorem wcV_cd {B : Nat → Int32} {s : Nat} : ∀ n, n ≤ 12 → (∀ j, j < n → tb (B (s + j)) = 0) → wcV B s n = lN (cd (dgs fun j => B (s + j)) n)
  | 0, _, _ => rfl
  | n + 1, hn, h => by
    obtain ⟨c, c1, c2, e⟩ := dgs_of (h n (by omega))
    have ed : dgs (fun j => B (s + j)) n = c := by
      show (B (s + n)).toNatClampNeg - 96 = c
      rw [e, nI_clamp (by omega)]
      omega
    rw [wcV, if_pos (by omega), wcV_cd n (by omega) (fun j hj => h j (by omega)), cd, ed, e, nI_l (by omega), show (27 : Int64) = lN 27 from rfl, show (96 : Int64) = lN 96 from rfl, lN_mul, lN_add, lN_sub (by omega)]
    congr 1
theorem wcV_far {B : Nat → Int32} {s n : Nat} (h : 12 < n) : wcV B s n = -1 := by
  obtain ⟨m, rfl⟩ : ∃ m, n = m + 1 := ⟨n - 1, by omega⟩
  rw [wcV, if_neg (by omega)]
theorem weq_iff {u v : Nat → Int32} : ∀ m n, weq u v m n = true ↔ ∀ j, n ≤ j → j < n + m → u j = v j
  | 0, n => ⟨fun _ j h1 h2 => by omega, fun _ => rfl⟩
  | m + 1, n => by
    rw [weq]
    by_cases h : u n = v n
    · rw [if_pos h, weq_iff m (n + 1)]
      refine ⟨fun q j h1 h2 => ?_, fun q j h1 h2 => q j (by omega) (by omega)⟩
      by_cases e : j = n
      · subst e; exact h
      · exact q j (by omega) (by omega)
    · rw [if_neg h]
      exact ⟨fun q => absurd q (by decide), fun q => absurd (q n (by omega) (by omega)) h⟩
theorem rn_all (B : Nat → Int32) (k : Nat) : ∀ m e j, e ≤ j → j < rn B k m e → tb (B j) = k
  | 0, e, j, h1, h2 => by rw [rn] at h2; omega
  | m + 1, e, j, h1, h2 => by
    rw [rn] at h2
    split at h2
    · rename_i h
      by_cases q : j = e
      · subst q; exact h
      · exact rn_all B k m (e + 1) j (by omega) h2
    · omega
theorem word_all {B : Nat → Int32} {L e : Nat} (h : tK B L e = 0) : ∀ j, tSt B L e ≤ j → j < tE B L e → tb (B j) = 0 := by
  intro j h1 h2
  unfold tK at h
  split at h
  · cases h
  · rename_i hl
    unfold tE at h2
    rw [if_neg hl, if_pos (Or.inl h), h] at h2
    by_cases q : j = tSt B L e
    · rw [q]; exact h
    · exact rn_all B 0 _ _ j (by omega) h2
def wcd (i : Nat) : Nat := cd (dgs (wdL i)) (wdN i)
theorem wd_dg : ∀ i, i < 17 → (∀ j, j < wdN i → 1 ≤ dgs (wdL i) j ∧ dgs (wdL i) j ≤ 26) ∧ wdN i ≤ 12 ∧ wcd i < 2 ^ 63 ∧ (∀ j, j < wdN i → wdL i j = nI (dgs (wdL i) j + 96)) ∧ ¬ (-1 : Int64) = lN (wcd i) := by decide +kernel
/-- the token is word i just if it has its number -/
theorem Wd_iff {B : Nat → Int32} {L e i : Nat} (hi : i < 17) : Wd B L i e ↔ (srtI (tK B L e) = 1 ∧ weE B L e = lN (wcd i)) := by
  obtain ⟨d1, d2, d3, d4, d5⟩ := wd_dg i hi
  by_cases h : tK B L e = 0
  · have hw := word_all h
    have es : srtI (tK B L e) = 1 := by rw [h]; rfl
    have ew : weE B L e = wcV B (tSt B L e) (tE B L e - tSt B L e) := by rw [weE, if_pos h]
    have hdg : ∀ j, j < tE B L e - tSt B L e → 1 ≤ dgs (fun j => B (tSt B L e + j)) j ∧ dgs (fun j => B (tSt B L e + j)) j ≤ 26 ∧ B (tSt B L e + j) = nI (dgs (fun j => B (tSt B L e + j)) j + 96) := fun j hj => by
      obtain ⟨c, c1, c2, ec⟩ := dgs_of (hw (tSt B L e + j) (by omega) (by omega))
      have ed : dgs (fun j => B (tSt B L e + j)) j = c := by
        show (B (tSt B L e + j)).toNatClampNeg - 96 = c
        rw [ec, nI_clamp (by omega)]
        omega
      rw [ed]
      exact ⟨c1, c2, ec⟩
    rw [ew]
    refine ⟨fun q => ⟨es, ?_⟩, fun q => ⟨h, ?_⟩⟩
    · obtain ⟨-, q2, q3⟩ := q
      rw [weq_iff] at q3
      rw [q2, wcV_cd _ d2 (fun j hj => hw _ (by omega) (by omega)), wcd]
      congr 1
      exact cd_c _ (fun j hj => by show (B (tSt B L e + j)).toNatClampNeg - 96 = (wdL i j).toNatClampNeg - 96; rw [q3 j (by omega) (by omega)])
    · obtain ⟨-, q2⟩ := q
      by_cases hD : tE B L e - tSt B L e ≤ 12
      · rw [wcV_cd _ hD (fun j hj => hw _ (by omega) (by omega))] at q2
        have hlt := cd_lt (d := dgs fun j => B (tSt B L e + j)) _ (fun j hj => (hdg j hj).2.1)
        have h12 : 27 ^ (tE B L e - tSt B L e) ≤ 27 ^ 12 := Nat.pow_le_pow_right (by decide) hD
        have hb : (27 : Nat) ^ 12 < 2 ^ 63 := by decide
        obtain ⟨z1, z2⟩ := cd_inj _ _ (fun j hj => ⟨(hdg j hj).1, (hdg j hj).2.1⟩) d1 (lN_in (by omega) d3 q2)
        refine ⟨z1, (weq_iff _ _).mpr fun j _ hj => ?_⟩
        rw [Nat.zero_add] at hj
        show B (tSt B L e + j) = wdL i j
        rw [(hdg j (by omega)).2.2, z2 j hj]
        exact (d4 j hj).symm
      · rw [wcV_far (by omega)] at q2
        exact absurd q2 d5
  · refine ⟨fun q => absurd q.1 h, fun q => ?_⟩
    have q1 := q.1
    unfold srtI at q1
    rw [if_neg h] at q1
    split at q1
    · exact absurd q1 (by decide)
    · split at q1 <;> exact absurd q1 (by decide)
/-! its methods -/
def mS (B : Nat → Int32) (L : Nat) (I : Mm) (f : Nat → Int32) (e : Nat) (go : Int32) : Mm := sR f (mT B L I e go)
def jS (B : Nat → Int32) (L : Nat) (J : Ml) (e : Nat) : Ml := jW J (weE B L e)
theorem mdT_sR {I : Mm} {f : Nat → Int32} {so be en va go : Int32} : mdT (sR f I) so be en va go = sR f (mdT I so be en va go) := by
  funext a
  by_cases h : a = 44
  · subst h; rfl
  · rw [sR_off h]
    by_cases h2 : a = 43
    · subst h2; rfl
    · rw [show mdT (sR f I) so be en va go a = sR f I a from if_neg h2, sR_off h, show mdT I so be en va go a = I a from if_neg h2]
theorem mT_sR {B : Nat → Int32} {L e : Nat} {I : Mm} {f : Nat → Int32} {go : Int32} : mT B L (sR f I) e go = mS B L I f e go := mdT_sR
/-- good is another -/
theorem mS_go {B : Nat → Int32} {L e : Nat} {I : Mm} {f : Nat → Int32} {go y : Int32} : na_set (mS B L I f e go) 43 10 y = mS B L I f e y := by
  rw [← mT_sR, ← mT_sR]
  exact md_10
theorem m_advS (sx : Nat × (Nat → Int32)) (B : Nat → Int32) (L : Nat) (hL1 : L ≤ 120) (hr : ∀ j, j < L → rg 0 255 (B j)) (I : Mm) (hL : I 43 4 = nI L) (hB : ∀ j, j < L → I 47 j = B j) (f : Nat → Int32) (e : Nat) (he : e ≤ L) (go : Int32) (J : Ml) : Mt sx MX4_advance [.ref 43] (mS B L I f e go) (jS B L J e) (fun r I' J' => mS B L I f (tE B L e) go = I' ∧ jS B L J (tE B L e) = J' ∧ r = none) := by
  have h := m_adv sx B L hL1 hr (sR f I) hL hB (tE B L e) (tE_le he) (srtI (tK B L e)) (nI (tSt B L e)) (vaE B L e) go (weE B L e) J
  rw [mT_sR, mdT_sR] at h
  exact h
set_option maxRecDepth 100000 in
set_option maxHeartbeats 4000000 in
theorem m_isWd (sx : Nat × (Nat → Int32)) (w : Int64) (I : Mm) (J : Ml) : Mt sx MX4_isWord [.ref 43, .long w] I J (na_b I J (I 43 5 = 1 ∧ J 43 8 = w)) := by
  refine Mt.of2 _ rfl (by decide +kernel) (Nat.le_of_ble_eq_true rfl) ?_
  refine GW.run kX4_isWord (fun _ => false) 43 0 rfl ?_
  refine And.intro (fun h1 => ?_) (fun h1 => ?_)
  · -- pc 5 .if_icmp .ne 16: yes
    exact ⟨na_nl_b0, rfl, rfl, Or.inr ⟨fun z => h1 z.1, rfl⟩⟩
  · -- pc 5 .if_icmp .ne 16: no
    refine And.intro (fun h2 => ?_) (fun h2 => ?_)
    · -- pc 14 .ifCond .ne 7: yes
      exact ⟨na_nl_b0, rfl, rfl, Or.inr ⟨fun z => h2 ((lg_cmp_eq _ _).mpr z.2), rfl⟩⟩
    · -- pc 14 .ifCond .ne 7: no
      exact ⟨na_nl_b1, rfl, rfl, Or.inl ⟨⟨h1, (lg_cmp_eq _ _).mp h2⟩, rfl⟩⟩
theorem wcds : lN (wcd 0) = 232608281 ∧ lN (wcd 1) = 58204971 ∧ lN (wcd 2) = 7535943612 ∧ lN (wcd 3) = 123002136 ∧ lN (wcd 4) = 1762983 ∧ lN (wcd 5) = 1810648800 ∧ lN (wcd 6) = 257 ∧ lN (wcd 7) = 279346 ∧ lN (wcd 8) = 365647 ∧ lN (wcd 9) = 990 ∧ lN (wcd 10) = 3554408 ∧ lN (wcd 11) = 125150 ∧ lN (wcd 12) = 10811306 ∧ lN (wcd 13) = 307058 ∧ lN (wcd 14) = 380396 ∧ lN (wcd 15) = 70312 ∧ lN (wcd 16) = 262768 := by decide +kernel
theorem m_isW (sx : Nat × (Nat → Int32)) (B : Nat → Int32) (L : Nat) (I : Mm) (f : Nat → Int32) (e i : Nat) (hi : i < 17) {w : Int64} (hw : lN (wcd i) = w) (go : Int32) (J : Ml) : Mt sx MX4_isWord [.ref 43, .long w] (mS B L I f e go) (jS B L J e) (na_b (mS B L I f e go) (jS B L J e) (Wd B L i e)) := by
  refine Mt.conseq (m_isWd sx w (mS B L I f e go) (jS B L J e)) ?_
  have hE : (mS B L I f e go 43 5 = 1 ∧ jS B L J e 43 8 = w) ↔ Wd B L i e := by
    rw [Wd_iff hi, hw]
    exact Iff.rfl
  rintro r I' J' ⟨h1, h2, h3⟩
  rw [hE] at h3
  exact ⟨h1, h2, h3⟩
theorem wcd_0 : lN (wcd 0) = 232608281 := wcds.1
theorem wcd_1 : lN (wcd 1) = 58204971 := wcds.2.1
theorem wcd_2 : lN (wcd 2) = 7535943612 := wcds.2.2.1
theorem wcd_3 : lN (wcd 3) = 123002136 := wcds.2.2.2.1
theorem wcd_4 : lN (wcd 4) = 1762983 := wcds.2.2.2.2.1
theorem wcd_5 : lN (wcd 5) = 1810648800 := wcds.2.2.2.2.2.1
theorem wcd_6 : lN (wcd 6) = 257 := wcds.2.2.2.2.2.2.1
theorem wcd_7 : lN (wcd 7) = 279346 := wcds.2.2.2.2.2.2.2.1
theorem wcd_8 : lN (wcd 8) = 365647 := wcds.2.2.2.2.2.2.2.2.1
theorem wcd_9 : lN (wcd 9) = 990 := wcds.2.2.2.2.2.2.2.2.2.1
theorem wcd_10 : lN (wcd 10) = 3554408 := wcds.2.2.2.2.2.2.2.2.2.2.1
theorem wcd_11 : lN (wcd 11) = 125150 := wcds.2.2.2.2.2.2.2.2.2.2.2.1
theorem wcd_12 : lN (wcd 12) = 10811306 := wcds.2.2.2.2.2.2.2.2.2.2.2.2.1
theorem wcd_13 : lN (wcd 13) = 307058 := wcds.2.2.2.2.2.2.2.2.2.2.2.2.2.1
theorem wcd_14 : lN (wcd 14) = 380396 := wcds.2.2.2.2.2.2.2.2.2.2.2.2.2.2.1
theorem wcd_15 : lN (wcd 15) = 70312 := wcds.2.2.2.2.2.2.2.2.2.2.2.2.2.2.2.1
theorem wcd_16 : lN (wcd 16) = 262768 := wcds.2.2.2.2.2.2.2.2.2.2.2.2.2.2.2.2
