/-! PAIRS: book, read -/
theorem Sim.booked {I : Mm} {J : Ml} (h : Sim I J) {s L : Nat} (hs : s < 4) (hL : I (34 + 2 * s) 2 = nI L) (hL4 : L ≤ 40) {v w : Nat → Int64} (hv : ∀ j, j < L → v j = w j) : Sim I (wJ (wJ J (35 + 2 * s) 0 L v) 50 (40 * s) L w) := by
  refine h.sheetJ (s := s) (fun x hx hne j hj => ⟨?_, ?_⟩) (fun m hm e2 j hj => ?_)
  · rw [wJ_off (by omega), wJ_off (by omega)]
  · rw [wJ_on, if_neg (by omega), wJ_off (by omega)]
  · have c3 : m = L := (nI_eq (by omega) (by omega)).mp (e2.symm.trans hL)
    rw [wJ_off (by omega), wJ_on, if_pos (by omega), wJ_on, if_pos (by omega), hv _ (by omega)]
    congr 1
    omega
def bkV (b : Int32) (P r : Nat) (N : Mm) (i : Nat) : Int64 := nwC b (itH P i N 1 r).toInt64
def bkW (b : Int32) (P r : Nat) (f : Nat → Int32) (i : Nat) : Int64 := nwC b (itM P i f (4 + 4 * r + 0)).toInt64
theorem bk_eq {b : Int32} {P r : Nat} {f : Nat → Int32} {N M : Mm} (hN : NOk P N) (ha : Agr P (vN f) N) (hM : Agr P M N) (hr : r < 8) (i : Nat) : bkV b P r M i = bkW b P r f i := by
  have e1 : itM P i f (4 + 4 * r + 0) = itH P i N 1 r := (itM_ag hN.2.2.2.1 ha hN.1 hN.2.1 i).2.1 1 r (by decide) (by decide) hr
  have e2 : itH P i M 1 r = itH P i N 1 r := (itH_c hM hN.2.1.pl i).2.1 1 r (by decide) (by decide) hr
  rw [bkV, bkW, e1, e2]
set_option maxRecDepth 100000 in
set_option maxHeartbeats 4000000 in
theorem l_bkC0 (sx : Nat × (Nat → Int32)) (P : Nat) (hP8 : P ≤ 8) (M : Mm) (hP : M 0 7 = nI P) (hpl : (∀ p, p < P → vp_in (M 6 p) 8)) (r : Nat) (hr : r < 8) (L : Nat) (hL : L ≤ 40) (I : Mm) (hI : I 34 2 = nI L) (J : Ml) (Rt : Option Value → Mm → Ml → Prop) (hR : Rt (some (.int (nI L))) (pN 21 (itH P L M) I) (wJ J 35 0 L (bkV (I 34 1) P r M))) : ∀ m n , n + m = L → GW sx (na_mi MX3_book) Rt 58 [some (.ref 0), some (.int 0), some (.int (nI r)), some (.ref 34), some (.ref 21), some (.int (nI n))] [] (pN 21 (itH P n M) I) (wJ J 35 0 n (bkV (I 34 1) P r M)) := by
  have hbr : vp_in (nI r) 8 := vp_in_nI (by omega) (by omega)
  have hcr := nI_clamp (n := r) (by omega)
  intro m
  induction m with
  | zero =>
    intro n  hn 
    obtain rfl : L = n := by omega
    have hz : I 34 2 ≤ nI L := by rw [hI]; exact Int32.le_refl _
    refine GW.run kX3_book (fun pc => Nat.beq pc 58) 81 31 rfl ?_
    refine And.intro (fun _ => ?_) (fun hh => absurd hz hh)
    exact ⟨trivial, by have z := hR; rw [← hI] at z; exact z⟩
  | succ m ih =>
    intro n  hn 
    have hz : ¬ I 34 2 ≤ nI n := by rw [hI]; exact nI_ge (by omega) (by omega)
    have ih := ih (n + 1) (by omega)
    have hb : vp_in (nI n) 40 := vp_in_nI (by omega) (by omega)
    have hc := nI_clamp (n := n) (by omega)
    refine GW.run kX3_book (fun pc => Nat.beq pc 58) 81 31 rfl ?_
    refine And.intro (fun hh => absurd hh hz) (fun _ => ?_)
    refine And.intro (hbr) ?_
    refine Mt.conseq (c_put0 _ (nI n) hb _ _ _) ?_
    rintro _ _ _ ⟨rfl, rfl, rfl⟩
    refine Mt.conseq (c_hr _ 21 (Or.inr rfl) (itH P n M) P (by rw [itH_0 (by decide)]; exact hP) hP8 (by rw [itH_keep (by decide)]; exact hpl) _ _) ?_
    rintro _ _ _ ⟨rfl, rfl, rfl⟩
    refine GW.weak (GW.eqIJ rfl ?_ ih) ⟨rfl, rfl, rfl, rfl, rfl, by rw [nI_1], trivial⟩
    rw [hc, hcr]
    exact wJ_s0 J 35 n _ rfl
set_option maxRecDepth 100000 in
set_option maxHeartbeats 4000000 in
theorem l_bkM0 (sx : Nat × (Nat → Int32)) (P : Nat) (hP8 : P ≤ 8) (f t : Nat → Int32) (ht : E76 t f) (hP : f 3 = nI P) (hpl : (∀ p, p < P → vp_in (f (36 + 5 * p + 1)) 8)) (r : Nat) (hr : r < 8) (L : Nat) (hL : L ≤ 40) (I : Mm) (hI : I 49 0 = nI L) (J : Ml) (Rt : Option Value → Mm → Ml → Prop) (hR : ∀ g, E76 g f → Rt (some (.int (nI L))) (sR g (sA 46 t I)) (wJ J 50 0 L (bkW (I 48 0) P r f))) : ∀ m n , n + m = L → GW sx (na_mi MX4_book) Rt 42 [some (.ref 43), some (.int 0), some (.int (nI r)), none, some (.int (nI n))] [] (sR (itM P n f) (sA 46 t I)) (wJ J 50 0 n (bkW (I 48 0) P r f)) := by
  intro m
  induction m with
  | zero =>
    intro n  hn 
    obtain rfl : L = n := by omega
    have hz : I 49 0 ≤ nI L := by rw [hI]; exact Int32.le_refl _
    refine GW.run kX4_book (fun pc => Nat.beq pc 42) 92 24 rfl ?_
    refine And.intro (by unfold vp_in; decide) ?_
    refine And.intro (fun _ => ?_) (fun hh => absurd hz hh)
    refine Mt.conseq (m_rs1 _ _ t f ht _ _) ?_
    rintro _ _ _ ⟨⟨g2, rfl, h1⟩, rfl, rfl⟩
    have hg2 := h1
    refine And.intro (by unfold vp_in; decide) ?_
    exact ⟨trivial, by have z := hR g2 hg2; rw [← hI] at z; exact z⟩
  | succ m ih =>
    intro n  hn 
    have hz : ¬ I 49 0 ≤ nI n := by rw [hI]; exact nI_ge (by omega) (by omega)
    have ih := ih (n + 1) (by omega)
    have hix : (40 : Int32) * 0 + nI n = nI (0 + n) := by rw [show (40 : Int32) * 0 = nI 0 by decide, nI_add]
    have hbx : vp_in ((40 : Int32) * 0 + nI n) 160 := by rw [hix]; exact vp_in_nI (by omega) (by omega)
    have hcx : ((40 : Int32) * 0 + nI n).toNatClampNeg = 0 + n := by rw [hix, nI_clamp (by omega)]
    refine GW.run kX4_book (fun pc => Nat.beq pc 42) 92 24 rfl ?_
    refine And.intro (by unfold vp_in; decide) ?_
    refine And.intro (fun hh => absurd hh hz) (fun _ => ?_)
    refine And.intro (by unfold vp_in; decide) ?_
    refine Mt.conseq (m_there _ r 0 (by omega) (by decide) _ (by decide) _ _ _) ?_
    rintro _ _ _ ⟨rfl, rfl, rfl⟩
    refine Mt.conseq (m_nar _ _ _ _ _) ?_
    rintro _ _ _ ⟨rfl, rfl, rfl⟩
    refine And.intro (hbx) ?_
    refine Mt.conseq (m_hour _ (itM P n f) P (by rw [itM_3]; exact hP) hP8 (fun p hp => by rw [itM_pl P f hpl p n]; exact hpl p hp) _ _) ?_
    rintro _ _ _ ⟨rfl, rfl, rfl⟩
    refine GW.weak (GW.eqIJ rfl ?_ ih) ⟨rfl, rfl, rfl, by rw [nI_1], trivial⟩
    rw [hcx]
    exact wJ_s J 50 0 n _ rfl
set_option maxRecDepth 100000 in
set_option maxHeartbeats 4000000 in
theorem l_bkC1 (sx : Nat × (Nat → Int32)) (P : Nat) (hP8 : P ≤ 8) (M : Mm) (hP : M 0 7 = nI P) (hpl : (∀ p, p < P → vp_in (M 6 p) 8)) (r : Nat) (hr : r < 8) (L : Nat) (hL : L ≤ 40) (I : Mm) (hI : I 36 2 = nI L) (J : Ml) (Rt : Option Value → Mm → Ml → Prop) (hR : Rt (some (.int (nI L))) (pN 21 (itH P L M) I) (wJ J 37 0 L (bkV (I 36 1) P r M))) : ∀ m n , n + m = L → GW sx (na_mi MX3_book) Rt 58 [some (.ref 0), some (.int 1), some (.int (nI r)), some (.ref 36), some (.ref 21), some (.int (nI n))] [] (pN 21 (itH P n M) I) (wJ J 37 0 n (bkV (I 36 1) P r M)) := by
  have hbr : vp_in (nI r) 8 := vp_in_nI (by omega) (by omega)
  have hcr := nI_clamp (n := r) (by omega)
  intro m
  induction m with
  | zero =>
    intro n  hn 
    obtain rfl : L = n := by omega
    have hz : I 36 2 ≤ nI L := by rw [hI]; exact Int32.le_refl _
    refine GW.run kX3_book (fun pc => Nat.beq pc 58) 81 31 rfl ?_
    refine And.intro (fun _ => ?_) (fun hh => absurd hz hh)
    exact ⟨trivial, by have z := hR; rw [← hI] at z; exact z⟩
  | succ m ih =>
    intro n  hn 
    have hz : ¬ I 36 2 ≤ nI n := by rw [hI]; exact nI_ge (by omega) (by omega)
    have ih := ih (n + 1) (by omega)
    have hb : vp_in (nI n) 40 := vp_in_nI (by omega) (by omega)
    have hc := nI_clamp (n := n) (by omega)
    refine GW.run kX3_book (fun pc => Nat.beq pc 58) 81 31 rfl ?_
    refine And.intro (fun hh => absurd hh hz) (fun _ => ?_)
    refine And.intro (hbr) ?_
    refine Mt.conseq (c_put1 _ (nI n) hb _ _ _) ?_
    rintro _ _ _ ⟨rfl, rfl, rfl⟩
    refine Mt.conseq (c_hr _ 21 (Or.inr rfl) (itH P n M) P (by rw [itH_0 (by decide)]; exact hP) hP8 (by rw [itH_keep (by decide)]; exact hpl) _ _) ?_
    rintro _ _ _ ⟨rfl, rfl, rfl⟩
    refine GW.weak (GW.eqIJ rfl ?_ ih) ⟨rfl, rfl, rfl, rfl, rfl, by rw [nI_1], trivial⟩
    rw [hc, hcr]
    exact wJ_s0 J 37 n _ rfl
set_option maxRecDepth 100000 in
set_option maxHeartbeats 4000000 in
theorem l_bkM1 (sx : Nat × (Nat → Int32)) (P : Nat) (hP8 : P ≤ 8) (f t : Nat → Int32) (ht : E76 t f) (hP : f 3 = nI P) (hpl : (∀ p, p < P → vp_in (f (36 + 5 * p + 1)) 8)) (r : Nat) (hr : r < 8) (L : Nat) (hL : L ≤ 40) (I : Mm) (hI : I 49 1 = nI L) (J : Ml) (Rt : Option Value → Mm → Ml → Prop) (hR : ∀ g, E76 g f → Rt (some (.int (nI L))) (sR g (sA 46 t I)) (wJ J 50 40 L (bkW (I 48 1) P r f))) : ∀ m n , n + m = L → GW sx (na_mi MX4_book) Rt 42 [some (.ref 43), some (.int 1), some (.int (nI r)), none, some (.int (nI n))] [] (sR (itM P n f) (sA 46 t I)) (wJ J 50 40 n (bkW (I 48 1) P r f)) := by
  intro m
  induction m with
  | zero =>
    intro n  hn 
    obtain rfl : L = n := by omega
    have hz : I 49 1 ≤ nI L := by rw [hI]; exact Int32.le_refl _
    refine GW.run kX4_book (fun pc => Nat.beq pc 42) 92 24 rfl ?_
    refine And.intro (by unfold vp_in; decide) ?_
    refine And.intro (fun _ => ?_) (fun hh => absurd hz hh)
    refine Mt.conseq (m_rs1 _ _ t f ht _ _) ?_
    rintro _ _ _ ⟨⟨g2, rfl, h1⟩, rfl, rfl⟩
    have hg2 := h1
    refine And.intro (by unfold vp_in; decide) ?_
    exact ⟨trivial, by have z := hR g2 hg2; rw [← hI] at z; exact z⟩
  | succ m ih =>
    intro n  hn 
    have hz : ¬ I 49 1 ≤ nI n := by rw [hI]; exact nI_ge (by omega) (by omega)
    have ih := ih (n + 1) (by omega)
    have hix : (40 : Int32) * 1 + nI n = nI (40 + n) := by rw [show (40 : Int32) * 1 = nI 40 by decide, nI_add]
    have hbx : vp_in ((40 : Int32) * 1 + nI n) 160 := by rw [hix]; exact vp_in_nI (by omega) (by omega)
    have hcx : ((40 : Int32) * 1 + nI n).toNatClampNeg = 40 + n := by rw [hix, nI_clamp (by omega)]
    refine GW.run kX4_book (fun pc => Nat.beq pc 42) 92 24 rfl ?_
    refine And.intro (by unfold vp_in; decide) ?_
    refine And.intro (fun hh => absurd hh hz) (fun _ => ?_)
    refine And.intro (by unfold vp_in; decide) ?_
    refine Mt.conseq (m_there _ r 0 (by omega) (by decide) _ (by decide) _ _ _) ?_
    rintro _ _ _ ⟨rfl, rfl, rfl⟩
    refine Mt.conseq (m_nar _ _ _ _ _) ?_
    rintro _ _ _ ⟨rfl, rfl, rfl⟩
    refine And.intro (hbx) ?_
    refine Mt.conseq (m_hour _ (itM P n f) P (by rw [itM_3]; exact hP) hP8 (fun p hp => by rw [itM_pl P f hpl p n]; exact hpl p hp) _ _) ?_
    rintro _ _ _ ⟨rfl, rfl, rfl⟩
    refine GW.weak (GW.eqIJ rfl ?_ ih) ⟨rfl, rfl, rfl, by rw [nI_1], trivial⟩
    rw [hcx]
    exact wJ_s J 50 40 n _ rfl
set_option maxRecDepth 100000 in
set_option maxHeartbeats 4000000 in
theorem l_bkC2 (sx : Nat × (Nat → Int32)) (P : Nat) (hP8 : P ≤ 8) (M : Mm) (hP : M 0 7 = nI P) (hpl : (∀ p, p < P → vp_in (M 6 p) 8)) (r : Nat) (hr : r < 8) (L : Nat) (hL : L ≤ 40) (I : Mm) (hI : I 38 2 = nI L) (J : Ml) (Rt : Option Value → Mm → Ml → Prop) (hR : Rt (some (.int (nI L))) (pN 21 (itH P L M) I) (wJ J 39 0 L (bkV (I 38 1) P r M))) : ∀ m n , n + m = L → GW sx (na_mi MX3_book) Rt 58 [some (.ref 0), some (.int 2), some (.int (nI r)), some (.ref 38), some (.ref 21), some (.int (nI n))] [] (pN 21 (itH P n M) I) (wJ J 39 0 n (bkV (I 38 1) P r M)) := by
  have hbr : vp_in (nI r) 8 := vp_in_nI (by omega) (by omega)
  have hcr := nI_clamp (n := r) (by omega)
  intro m
  induction m with
  | zero =>
    intro n  hn 
    obtain rfl : L = n := by omega
    have hz : I 38 2 ≤ nI L := by rw [hI]; exact Int32.le_refl _
    refine GW.run kX3_book (fun pc => Nat.beq pc 58) 81 31 rfl ?_
    refine And.intro (fun _ => ?_) (fun hh => absurd hz hh)
    exact ⟨trivial, by have z := hR; rw [← hI] at z; exact z⟩
  | succ m ih =>
    intro n  hn 
    have hz : ¬ I 38 2 ≤ nI n := by rw [hI]; exact nI_ge (by omega) (by omega)
    have ih := ih (n + 1) (by omega)
    have hb : vp_in (nI n) 40 := vp_in_nI (by omega) (by omega)
    have hc := nI_clamp (n := n) (by omega)
    refine GW.run kX3_book (fun pc => Nat.beq pc 58) 81 31 rfl ?_
    refine And.intro (fun hh => absurd hh hz) (fun _ => ?_)
    refine And.intro (hbr) ?_
    refine Mt.conseq (c_put2 _ (nI n) hb _ _ _) ?_
    rintro _ _ _ ⟨rfl, rfl, rfl⟩
    refine Mt.conseq (c_hr _ 21 (Or.inr rfl) (itH P n M) P (by rw [itH_0 (by decide)]; exact hP) hP8 (by rw [itH_keep (by decide)]; exact hpl) _ _) ?_
    rintro _ _ _ ⟨rfl, rfl, rfl⟩
    refine GW.weak (GW.eqIJ rfl ?_ ih) ⟨rfl, rfl, rfl, rfl, rfl, by rw [nI_1], trivial⟩
    rw [hc, hcr]
    exact wJ_s0 J 39 n _ rfl
set_option maxRecDepth 100000 in
set_option maxHeartbeats 4000000 in
theorem l_bkM2 (sx : Nat × (Nat → Int32)) (P : Nat) (hP8 : P ≤ 8) (f t : Nat → Int32) (ht : E76 t f) (hP : f 3 = nI P) (hpl : (∀ p, p < P → vp_in (f (36 + 5 * p + 1)) 8)) (r : Nat) (hr : r < 8) (L : Nat) (hL : L ≤ 40) (I : Mm) (hI : I 49 2 = nI L) (J : Ml) (Rt : Option Value → Mm → Ml → Prop) (hR : ∀ g, E76 g f → Rt (some (.int (nI L))) (sR g (sA 46 t I)) (wJ J 50 80 L (bkW (I 48 2) P r f))) : ∀ m n , n + m = L → GW sx (na_mi MX4_book) Rt 42 [some (.ref 43), some (.int 2), some (.int (nI r)), none, some (.int (nI n))] [] (sR (itM P n f) (sA 46 t I)) (wJ J 50 80 n (bkW (I 48 2) P r f)) := by
  intro m
  induction m with
  | zero =>
    intro n  hn 
    obtain rfl : L = n := by omega
    have hz : I 49 2 ≤ nI L := by rw [hI]; exact Int32.le_refl _
    refine GW.run kX4_book (fun pc => Nat.beq pc 42) 92 24 rfl ?_
    refine And.intro (by unfold vp_in; decide) ?_
    refine And.intro (fun _ => ?_) (fun hh => absurd hz hh)
    refine Mt.conseq (m_rs1 _ _ t f ht _ _) ?_
    rintro _ _ _ ⟨⟨g2, rfl, h1⟩, rfl, rfl⟩
    have hg2 := h1
    refine And.intro (by unfold vp_in; decide) ?_
    exact ⟨trivial, by have z := hR g2 hg2; rw [← hI] at z; exact z⟩
  | succ m ih =>
    intro n  hn 
    have hz : ¬ I 49 2 ≤ nI n := by rw [hI]; exact nI_ge (by omega) (by omega)
    have ih := ih (n + 1) (by omega)
    have hix : (40 : Int32) * 2 + nI n = nI (80 + n) := by rw [show (40 : Int32) * 2 = nI 80 by decide, nI_add]
    have hbx : vp_in ((40 : Int32) * 2 + nI n) 160 := by rw [hix]; exact vp_in_nI (by omega) (by omega)
    have hcx : ((40 : Int32) * 2 + nI n).toNatClampNeg = 80 + n := by rw [hix, nI_clamp (by omega)]
    refine GW.run kX4_book (fun pc => Nat.beq pc 42) 92 24 rfl ?_
    refine And.intro (by unfold vp_in; decide) ?_
    refine And.intro (fun hh => absurd hh hz) (fun _ => ?_)
    refine And.intro (by unfold vp_in; decide) ?_
    refine Mt.conseq (m_there _ r 0 (by omega) (by decide) _ (by decide) _ _ _) ?_
    rintro _ _ _ ⟨rfl, rfl, rfl⟩
    refine Mt.conseq (m_nar _ _ _ _ _) ?_
    rintro _ _ _ ⟨rfl, rfl, rfl⟩
    refine And.intro (hbx) ?_
    refine Mt.conseq (m_hour _ (itM P n f) P (by rw [itM_3]; exact hP) hP8 (fun p hp => by rw [itM_pl P f hpl p n]; exact hpl p hp) _ _) ?_
    rintro _ _ _ ⟨rfl, rfl, rfl⟩
    refine GW.weak (GW.eqIJ rfl ?_ ih) ⟨rfl, rfl, rfl, by rw [nI_1], trivial⟩
    rw [hcx]
    exact wJ_s J 50 80 n _ rfl
set_option maxRecDepth 100000 in
set_option maxHeartbeats 4000000 in
theorem l_bkC3 (sx : Nat × (Nat → Int32)) (P : Nat) (hP8 : P ≤ 8) (M : Mm) (hP : M 0 7 = nI P) (hpl : (∀ p, p < P → vp_in (M 6 p) 8)) (r : Nat) (hr : r < 8) (L : Nat) (hL : L ≤ 40) (I : Mm) (hI : I 40 2 = nI L) (J : Ml) (Rt : Option Value → Mm → Ml → Prop) (hR : Rt (some (.int (nI L))) (pN 21 (itH P L M) I) (wJ J 41 0 L (bkV (I 40 1) P r M))) : ∀ m n , n + m = L → GW sx (na_mi MX3_book) Rt 58 [some (.ref 0), some (.int 3), some (.int (nI r)), some (.ref 40), some (.ref 21), some (.int (nI n))] [] (pN 21 (itH P n M) I) (wJ J 41 0 n (bkV (I 40 1) P r M)) := by
  have hbr : vp_in (nI r) 8 := vp_in_nI (by omega) (by omega)
  have hcr := nI_clamp (n := r) (by omega)
  intro m
  induction m with
  | zero =>
    intro n  hn 
    obtain rfl : L = n := by omega
    have hz : I 40 2 ≤ nI L := by rw [hI]; exact Int32.le_refl _
    refine GW.run kX3_book (fun pc => Nat.beq pc 58) 81 31 rfl ?_
    refine And.intro (fun _ => ?_) (fun hh => absurd hz hh)
    exact ⟨trivial, by have z := hR; rw [← hI] at z; exact z⟩
  | succ m ih =>
    intro n  hn 
    have hz : ¬ I 40 2 ≤ nI n := by rw [hI]; exact nI_ge (by omega) (by omega)
    have ih := ih (n + 1) (by omega)
    have hb : vp_in (nI n) 40 := vp_in_nI (by omega) (by omega)
    have hc := nI_clamp (n := n) (by omega)
    refine GW.run kX3_book (fun pc => Nat.beq pc 58) 81 31 rfl ?_
    refine And.intro (fun hh => absurd hh hz) (fun _ => ?_)
    refine And.intro (hbr) ?_
    refine Mt.conseq (c_put3 _ (nI n) hb _ _ _) ?_
    rintro _ _ _ ⟨rfl, rfl, rfl⟩
    refine Mt.conseq (c_hr _ 21 (Or.inr rfl) (itH P n M) P (by rw [itH_0 (by decide)]; exact hP) hP8 (by rw [itH_keep (by decide)]; exact hpl) _ _) ?_
    rintro _ _ _ ⟨rfl, rfl, rfl⟩
    refine GW.weak (GW.eqIJ rfl ?_ ih) ⟨rfl, rfl, rfl, rfl, rfl, by rw [nI_1], trivial⟩
    rw [hc, hcr]
    exact wJ_s0 J 41 n _ rfl
set_option maxRecDepth 100000 in
set_option maxHeartbeats 4000000 in
theorem l_bkM3 (sx : Nat × (Nat → Int32)) (P : Nat) (hP8 : P ≤ 8) (f t : Nat → Int32) (ht : E76 t f) (hP : f 3 = nI P) (hpl : (∀ p, p < P → vp_in (f (36 + 5 * p + 1)) 8)) (r : Nat) (hr : r < 8) (L : Nat) (hL : L ≤ 40) (I : Mm) (hI : I 49 3 = nI L) (J : Ml) (Rt : Option Value → Mm → Ml → Prop) (hR : ∀ g, E76 g f → Rt (some (.int (nI L))) (sR g (sA 46 t I)) (wJ J 50 120 L (bkW (I 48 3) P r f))) : ∀ m n , n + m = L → GW sx (na_mi MX4_book) Rt 42 [some (.ref 43), some (.int 3), some (.int (nI r)), none, some (.int (nI n))] [] (sR (itM P n f) (sA 46 t I)) (wJ J 50 120 n (bkW (I 48 3) P r f)) := by
  intro m
  induction m with
  | zero =>
    intro n  hn 
    obtain rfl : L = n := by omega
    have hz : I 49 3 ≤ nI L := by rw [hI]; exact Int32.le_refl _
    refine GW.run kX4_book (fun pc => Nat.beq pc 42) 92 24 rfl ?_
    refine And.intro (by unfold vp_in; decide) ?_
    refine And.intro (fun _ => ?_) (fun hh => absurd hz hh)
    refine Mt.conseq (m_rs1 _ _ t f ht _ _) ?_
    rintro _ _ _ ⟨⟨g2, rfl, h1⟩, rfl, rfl⟩
    have hg2 := h1
    refine And.intro (by unfold vp_in; decide) ?_
    exact ⟨trivial, by have z := hR g2 hg2; rw [← hI] at z; exact z⟩
  | succ m ih =>
    intro n  hn 
    have hz : ¬ I 49 3 ≤ nI n := by rw [hI]; exact nI_ge (by omega) (by omega)
    have ih := ih (n + 1) (by omega)
    have hix : (40 : Int32) * 3 + nI n = nI (120 + n) := by rw [show (40 : Int32) * 3 = nI 120 by decide, nI_add]
    have hbx : vp_in ((40 : Int32) * 3 + nI n) 160 := by rw [hix]; exact vp_in_nI (by omega) (by omega)
    have hcx : ((40 : Int32) * 3 + nI n).toNatClampNeg = 120 + n := by rw [hix, nI_clamp (by omega)]
    refine GW.run kX4_book (fun pc => Nat.beq pc 42) 92 24 rfl ?_
    refine And.intro (by unfold vp_in; decide) ?_
    refine And.intro (fun hh => absurd hh hz) (fun _ => ?_)
    refine And.intro (by unfold vp_in; decide) ?_
    refine Mt.conseq (m_there _ r 0 (by omega) (by decide) _ (by decide) _ _ _) ?_
    rintro _ _ _ ⟨rfl, rfl, rfl⟩
    refine Mt.conseq (m_nar _ _ _ _ _) ?_
    rintro _ _ _ ⟨rfl, rfl, rfl⟩
    refine And.intro (hbx) ?_
    refine Mt.conseq (m_hour _ (itM P n f) P (by rw [itM_3]; exact hP) hP8 (fun p hp => by rw [itM_pl P f hpl p n]; exact hpl p hp) _ _) ?_
    rintro _ _ _ ⟨rfl, rfl, rfl⟩
    refine GW.weak (GW.eqIJ rfl ?_ ih) ⟨rfl, rfl, rfl, by rw [nI_1], trivial⟩
    rw [hcx]
    exact wJ_s J 50 120 n _ rfl
set_option maxRecDepth 100000 in
set_option maxHeartbeats 4000000 in
theorem pr_book0 (sx : Nat × (Nat → Int32)) (r : Int32) : PrI sx MX3_book MX4_book [.int 0, .int r] := by
  intro I J hS
  obtain ⟨P, hN, ha, hP8, hP1, hP3, hpl⟩ := hS.nt
  have e73 : I 44 3 = I 1 7 := hP3.trans hP1.symm
  obtain ⟨s1, s2, n, s3, s4, s5, s6⟩ := hS.2.2.2.1 0 (by decide)
  have s45 : I 34 2 = I 49 0 := s4.trans s5.symm
  refine Mt.of2 _ rfl (by decide +kernel) (Nat.le_of_ble_eq_true rfl) ?_
  refine GW.run kX3_book (fun pc => Nat.beq pc 58) 81 0 rfl ?_
  refine Mt.conseq (c_noSheet _ _ _ _) ?_
  rintro _ _ _ ⟨rfl, rfl, ⟨h1, rfl⟩ | ⟨h1, rfl⟩⟩
  · -- pc 1 call X3_noSheet true
    exact absurd h1 (by decide)
  · -- pc 1 call X3_noSheet false
    refine And.intro (fun _ => ?_) (fun hh => absurd hh (by decide))
    refine And.intro (by unfold vp_in; decide) ?_
    refine Mt.conseq (c_miss0 _ _ _) ?_
    rintro _ _ _ ⟨rfl, rfl, ⟨h2, rfl⟩ | ⟨h2, rfl⟩⟩
    · -- pc 22 call X1_isMissing true
      refine And.intro (fun hh => absurd hh (by decide)) (fun _ => ?_)
      refine Mt.conseq (c_fnd5 _ _ _) ?_
      rintro _ _ _ ⟨rfl, rfl, rfl⟩
      refine ⟨trivial, _, rfl, ?_⟩
      refine Mt.of2 _ rfl (by decide +kernel) (Nat.le_of_ble_eq_true rfl) ?_
      refine GW.run kX4_book (fun pc => Nat.beq pc 42) 92 0 rfl ?_
      refine Mt.conseq (m_bad0 _ _ _) ?_
      rintro _ _ _ ⟨rfl, rfl, ⟨g1, rfl⟩ | ⟨g1, rfl⟩⟩
      · -- pc 2 call X4_badSheet true
        refine And.intro (fun hh => absurd hh (by decide)) (fun _ => ?_)
        refine Mt.conseq (m_fnd5 _ _ _) ?_
        rintro _ _ _ ⟨rfl, rfl, rfl⟩
        exact ⟨trivial, rfl, hS.found (by decide)⟩
      · -- pc 2 call X4_badSheet false
        exact absurd (show I 48 0 = 0 from s1.symm.trans h2) g1
    · -- pc 22 call X1_isMissing false
      refine And.intro (fun _ => ?_) (fun hh => absurd hh (by decide))
      refine Mt.conseq (c_noRoom _ _ _ _) ?_
      rintro _ _ _ ⟨rfl, rfl, ⟨h4, rfl⟩ | ⟨h4, rfl⟩⟩
      · -- pc 36 call X3_noRoom true
        refine And.intro (fun hh => absurd hh (by decide)) (fun _ => ?_)
        refine Mt.conseq (c_fnd0 _ _ _) ?_
        rintro _ _ _ ⟨rfl, rfl, rfl⟩
        refine ⟨trivial, _, rfl, ?_⟩
        refine Mt.of2 _ rfl (by decide +kernel) (Nat.le_of_ble_eq_true rfl) ?_
        refine GW.run kX4_book (fun pc => Nat.beq pc 42) 92 0 rfl ?_
        refine Mt.conseq (m_bad0 _ _ _) ?_
        rintro _ _ _ ⟨rfl, rfl, ⟨g1, rfl⟩ | ⟨g1, rfl⟩⟩
        · -- pc 2 call X4_badSheet true
          exact absurd (show I 34 1 = 0 from s1.trans g1) h2
        · -- pc 2 call X4_badSheet false
          refine And.intro (fun _ => ?_) (fun hh => absurd hh (by decide))
          refine Mt.conseq (m_isRoom _ _ _ _) ?_
          rintro _ _ _ ⟨rfl, rfl, ⟨g2, rfl⟩ | ⟨g2, rfl⟩⟩
          · -- pc 17 call X4_isRoom true
            exact (out_in h4 g2).elim
          · -- pc 17 call X4_isRoom false
            refine And.intro (fun hh => absurd hh (by decide)) (fun _ => ?_)
            refine Mt.conseq (m_fnd0 _ _ _) ?_
            rintro _ _ _ ⟨rfl, rfl, rfl⟩
            exact ⟨trivial, rfl, hS.found (by decide)⟩
      · -- pc 36 call X3_noRoom false
        obtain ⟨r', hr, rfl⟩ := nout_nI (b := 7) (by decide) h4
        refine And.intro (fun _ => ?_) (fun hh => absurd hh (by decide))
        refine Mt.conseq (c_sah _ P hP8 I hP1 _) ?_
        rintro _ _ _ ⟨⟨M, rfl, h6⟩, rfl, rfl⟩
        have hM := h6
        refine GW.weak (GW.eqIJ rfl (wJ_0 J 35 0 _).symm (l_bkC0 sx P hP8 M (Agr.ok hM hN).1 (Agr.ok hM hN).2 r' (by omega) n s3 I s4 J _ ?_ n 0 (by omega))) ⟨rfl, rfl, rfl, rfl, rfl, rfl, trivial⟩
        refine ⟨_, rfl, ?_⟩
        refine Mt.of2 _ rfl (by decide +kernel) (Nat.le_of_ble_eq_true rfl) ?_
        refine GW.run kX4_book (fun pc => Nat.beq pc 42) 92 0 rfl ?_
        refine Mt.conseq (m_bad0 _ _ _) ?_
        rintro _ _ _ ⟨rfl, rfl, ⟨g1, rfl⟩ | ⟨g1, rfl⟩⟩
        · -- pc 2 call X4_badSheet true
          exact absurd (show I 34 1 = 0 from s1.trans g1) h2
        · -- pc 2 call X4_badSheet false
          refine And.intro (fun _ => ?_) (fun hh => absurd hh (by decide))
          refine Mt.conseq (m_isRoom _ _ _ _) ?_
          rintro _ _ _ ⟨rfl, rfl, ⟨g2, rfl⟩ | ⟨g2, rfl⟩⟩
          · -- pc 17 call X4_isRoom true
            refine And.intro (fun _ => ?_) (fun hh => absurd hh (by decide))
            refine Mt.conseq ((by have h := m_kp1 sx (I 44) (pN 21 (itH P n M) I) (wJ J 35 0 n (bkV (I 34 1) P r' M)); rw [show sR (I 44) (pN 21 (itH P n M) I) = pN 21 (itH P n M) I from sR_self (pN 21 (itH P n M) I)] at h; exact h)) ?_
            rintro _ _ _ ⟨⟨t, rfl, g3⟩, rfl, rfl⟩
            have ht := g3
            refine GW.weak (GW.eqIJ rfl (wJ_0 (wJ J 35 0 n (bkV (I 34 1) P r' M)) 50 0 _).symm (l_bkM0 sx P hP8 (I 44) t ht hP3 hpl r' (by omega) n s3 (pN 21 (itH P n M) I) s5 _ _ ?_ n 0 (by omega))) ⟨rfl, rfl, rfl, rfl, trivial⟩
            intro g hg
            exact ⟨rfl, Sim.junk (hS.booked (s := 0) (by decide) s4 s3 (fun j _ => by rw [s1]; exact bk_eq hN ha hM (by omega) j)) hg⟩
          · -- pc 17 call X4_isRoom false
            exact (nout_nin h4 g2).elim
set_option maxRecDepth 100000 in
set_option maxHeartbeats 4000000 in
theorem pr_book1 (sx : Nat × (Nat → Int32)) (r : Int32) : PrI sx MX3_book MX4_book [.int 1, .int r] := by
  intro I J hS
  obtain ⟨P, hN, ha, hP8, hP1, hP3, hpl⟩ := hS.nt
  have e73 : I 44 3 = I 1 7 := hP3.trans hP1.symm
  obtain ⟨s1, s2, n, s3, s4, s5, s6⟩ := hS.2.2.2.1 1 (by decide)
  have s45 : I 36 2 = I 49 1 := s4.trans s5.symm
  refine Mt.of2 _ rfl (by decide +kernel) (Nat.le_of_ble_eq_true rfl) ?_
  refine GW.run kX3_book (fun pc => Nat.beq pc 58) 81 0 rfl ?_
  refine Mt.conseq (c_noSheet _ _ _ _) ?_
  rintro _ _ _ ⟨rfl, rfl, ⟨h1, rfl⟩ | ⟨h1, rfl⟩⟩
  · -- pc 1 call X3_noSheet true
    exact absurd h1 (by decide)
  · -- pc 1 call X3_noSheet false
    refine And.intro (fun _ => ?_) (fun hh => absurd hh (by decide))
    refine And.intro (by unfold vp_in; decide) ?_
    refine Mt.conseq (c_miss1 _ _ _) ?_
    rintro _ _ _ ⟨rfl, rfl, ⟨h2, rfl⟩ | ⟨h2, rfl⟩⟩
    · -- pc 22 call X1_isMissing true
      refine And.intro (fun hh => absurd hh (by decide)) (fun _ => ?_)
      refine Mt.conseq (c_fnd5 _ _ _) ?_
      rintro _ _ _ ⟨rfl, rfl, rfl⟩
      refine ⟨trivial, _, rfl, ?_⟩
      refine Mt.of2 _ rfl (by decide +kernel) (Nat.le_of_ble_eq_true rfl) ?_
      refine GW.run kX4_book (fun pc => Nat.beq pc 42) 92 0 rfl ?_
      refine Mt.conseq (m_bad1 _ _ _) ?_
      rintro _ _ _ ⟨rfl, rfl, ⟨g1, rfl⟩ | ⟨g1, rfl⟩⟩
      · -- pc 2 call X4_badSheet true
        refine And.intro (fun hh => absurd hh (by decide)) (fun _ => ?_)
        refine Mt.conseq (m_fnd5 _ _ _) ?_
        rintro _ _ _ ⟨rfl, rfl, rfl⟩
        exact ⟨trivial, rfl, hS.found (by decide)⟩
      · -- pc 2 call X4_badSheet false
        exact absurd (show I 48 1 = 0 from s1.symm.trans h2) g1
    · -- pc 22 call X1_isMissing false
      refine And.intro (fun _ => ?_) (fun hh => absurd hh (by decide))
      refine Mt.conseq (c_noRoom _ _ _ _) ?_
      rintro _ _ _ ⟨rfl, rfl, ⟨h4, rfl⟩ | ⟨h4, rfl⟩⟩
      · -- pc 36 call X3_noRoom true
        refine And.intro (fun hh => absurd hh (by decide)) (fun _ => ?_)
        refine Mt.conseq (c_fnd0 _ _ _) ?_
        rintro _ _ _ ⟨rfl, rfl, rfl⟩
        refine ⟨trivial, _, rfl, ?_⟩
        refine Mt.of2 _ rfl (by decide +kernel) (Nat.le_of_ble_eq_true rfl) ?_
        refine GW.run kX4_book (fun pc => Nat.beq pc 42) 92 0 rfl ?_
        refine Mt.conseq (m_bad1 _ _ _) ?_
        rintro _ _ _ ⟨rfl, rfl, ⟨g1, rfl⟩ | ⟨g1, rfl⟩⟩
        · -- pc 2 call X4_badSheet true
          exact absurd (show I 36 1 = 0 from s1.trans g1) h2
        · -- pc 2 call X4_badSheet false
          refine And.intro (fun _ => ?_) (fun hh => absurd hh (by decide))
          refine Mt.conseq (m_isRoom _ _ _ _) ?_
          rintro _ _ _ ⟨rfl, rfl, ⟨g2, rfl⟩ | ⟨g2, rfl⟩⟩
          · -- pc 17 call X4_isRoom true
            exact (out_in h4 g2).elim
          · -- pc 17 call X4_isRoom false
            refine And.intro (fun hh => absurd hh (by decide)) (fun _ => ?_)
            refine Mt.conseq (m_fnd0 _ _ _) ?_
            rintro _ _ _ ⟨rfl, rfl, rfl⟩
            exact ⟨trivial, rfl, hS.found (by decide)⟩
      · -- pc 36 call X3_noRoom false
        obtain ⟨r', hr, rfl⟩ := nout_nI (b := 7) (by decide) h4
        refine And.intro (fun _ => ?_) (fun hh => absurd hh (by decide))
        refine Mt.conseq (c_sah _ P hP8 I hP1 _) ?_
        rintro _ _ _ ⟨⟨M, rfl, h6⟩, rfl, rfl⟩
        have hM := h6
        refine GW.weak (GW.eqIJ rfl (wJ_0 J 37 0 _).symm (l_bkC1 sx P hP8 M (Agr.ok hM hN).1 (Agr.ok hM hN).2 r' (by omega) n s3 I s4 J _ ?_ n 0 (by omega))) ⟨rfl, rfl, rfl, rfl, rfl, rfl, trivial⟩
        refine ⟨_, rfl, ?_⟩
        refine Mt.of2 _ rfl (by decide +kernel) (Nat.le_of_ble_eq_true rfl) ?_
        refine GW.run kX4_book (fun pc => Nat.beq pc 42) 92 0 rfl ?_
        refine Mt.conseq (m_bad1 _ _ _) ?_
        rintro _ _ _ ⟨rfl, rfl, ⟨g1, rfl⟩ | ⟨g1, rfl⟩⟩
        · -- pc 2 call X4_badSheet true
          exact absurd (show I 36 1 = 0 from s1.trans g1) h2
        · -- pc 2 call X4_badSheet false
          refine And.intro (fun _ => ?_) (fun hh => absurd hh (by decide))
          refine Mt.conseq (m_isRoom _ _ _ _) ?_
          rintro _ _ _ ⟨rfl, rfl, ⟨g2, rfl⟩ | ⟨g2, rfl⟩⟩
          · -- pc 17 call X4_isRoom true
            refine And.intro (fun _ => ?_) (fun hh => absurd hh (by decide))
            refine Mt.conseq ((by have h := m_kp1 sx (I 44) (pN 21 (itH P n M) I) (wJ J 37 0 n (bkV (I 36 1) P r' M)); rw [show sR (I 44) (pN 21 (itH P n M) I) = pN 21 (itH P n M) I from sR_self (pN 21 (itH P n M) I)] at h; exact h)) ?_
            rintro _ _ _ ⟨⟨t, rfl, g3⟩, rfl, rfl⟩
            have ht := g3
            refine GW.weak (GW.eqIJ rfl (wJ_0 (wJ J 37 0 n (bkV (I 36 1) P r' M)) 50 40 _).symm (l_bkM1 sx P hP8 (I 44) t ht hP3 hpl r' (by omega) n s3 (pN 21 (itH P n M) I) s5 _ _ ?_ n 0 (by omega))) ⟨rfl, rfl, rfl, rfl, trivial⟩
            intro g hg
            exact ⟨rfl, Sim.junk (hS.booked (s := 1) (by decide) s4 s3 (fun j _ => by rw [s1]; exact bk_eq hN ha hM (by omega) j)) hg⟩
          · -- pc 17 call X4_isRoom false
            exact (nout_nin h4 g2).elim
set_option maxRecDepth 100000 in
set_option maxHeartbeats 4000000 in
theorem pr_book2 (sx : Nat × (Nat → Int32)) (r : Int32) : PrI sx MX3_book MX4_book [.int 2, .int r] := by
  intro I J hS
  obtain ⟨P, hN, ha, hP8, hP1, hP3, hpl⟩ := hS.nt
  have e73 : I 44 3 = I 1 7 := hP3.trans hP1.symm
  obtain ⟨s1, s2, n, s3, s4, s5, s6⟩ := hS.2.2.2.1 2 (by decide)
  have s45 : I 38 2 = I 49 2 := s4.trans s5.symm
  refine Mt.of2 _ rfl (by decide +kernel) (Nat.le_of_ble_eq_true rfl) ?_
  refine GW.run kX3_book (fun pc => Nat.beq pc 58) 81 0 rfl ?_
  refine Mt.conseq (c_noSheet _ _ _ _) ?_
  rintro _ _ _ ⟨rfl, rfl, ⟨h1, rfl⟩ | ⟨h1, rfl⟩⟩
  · -- pc 1 call X3_noSheet true
    exact absurd h1 (by decide)
  · -- pc 1 call X3_noSheet false
    refine And.intro (fun _ => ?_) (fun hh => absurd hh (by decide))
    refine And.intro (by unfold vp_in; decide) ?_
    refine Mt.conseq (c_miss2 _ _ _) ?_
    rintro _ _ _ ⟨rfl, rfl, ⟨h2, rfl⟩ | ⟨h2, rfl⟩⟩
    · -- pc 22 call X1_isMissing true
      refine And.intro (fun hh => absurd hh (by decide)) (fun _ => ?_)
      refine Mt.conseq (c_fnd5 _ _ _) ?_
      rintro _ _ _ ⟨rfl, rfl, rfl⟩
      refine ⟨trivial, _, rfl, ?_⟩
      refine Mt.of2 _ rfl (by decide +kernel) (Nat.le_of_ble_eq_true rfl) ?_
      refine GW.run kX4_book (fun pc => Nat.beq pc 42) 92 0 rfl ?_
      refine Mt.conseq (m_bad2 _ _ _) ?_
      rintro _ _ _ ⟨rfl, rfl, ⟨g1, rfl⟩ | ⟨g1, rfl⟩⟩
      · -- pc 2 call X4_badSheet true
        refine And.intro (fun hh => absurd hh (by decide)) (fun _ => ?_)
        refine Mt.conseq (m_fnd5 _ _ _) ?_
        rintro _ _ _ ⟨rfl, rfl, rfl⟩
        exact ⟨trivial, rfl, hS.found (by decide)⟩
      · -- pc 2 call X4_badSheet false
        exact absurd (show I 48 2 = 0 from s1.symm.trans h2) g1
    · -- pc 22 call X1_isMissing false
      refine And.intro (fun _ => ?_) (fun hh => absurd hh (by decide))
      refine Mt.conseq (c_noRoom _ _ _ _) ?_
      rintro _ _ _ ⟨rfl, rfl, ⟨h4, rfl⟩ | ⟨h4, rfl⟩⟩
      · -- pc 36 call X3_noRoom true
        refine And.intro (fun hh => absurd hh (by decide)) (fun _ => ?_)
        refine Mt.conseq (c_fnd0 _ _ _) ?_
        rintro _ _ _ ⟨rfl, rfl, rfl⟩
        refine ⟨trivial, _, rfl, ?_⟩
        refine Mt.of2 _ rfl (by decide +kernel) (Nat.le_of_ble_eq_true rfl) ?_
        refine GW.run kX4_book (fun pc => Nat.beq pc 42) 92 0 rfl ?_
        refine Mt.conseq (m_bad2 _ _ _) ?_
        rintro _ _ _ ⟨rfl, rfl, ⟨g1, rfl⟩ | ⟨g1, rfl⟩⟩
        · -- pc 2 call X4_badSheet true
          exact absurd (show I 38 1 = 0 from s1.trans g1) h2
        · -- pc 2 call X4_badSheet false
          refine And.intro (fun _ => ?_) (fun hh => absurd hh (by decide))
          refine Mt.conseq (m_isRoom _ _ _ _) ?_
          rintro _ _ _ ⟨rfl, rfl, ⟨g2, rfl⟩ | ⟨g2, rfl⟩⟩
          · -- pc 17 call X4_isRoom true
            exact (out_in h4 g2).elim
          · -- pc 17 call X4_isRoom false
            refine And.intro (fun hh => absurd hh (by decide)) (fun _ => ?_)
            refine Mt.conseq (m_fnd0 _ _ _) ?_
            rintro _ _ _ ⟨rfl, rfl, rfl⟩
            exact ⟨trivial, rfl, hS.found (by decide)⟩
      · -- pc 36 call X3_noRoom false
        obtain ⟨r', hr, rfl⟩ := nout_nI (b := 7) (by decide) h4
        refine And.intro (fun _ => ?_) (fun hh => absurd hh (by decide))
        refine Mt.conseq (c_sah _ P hP8 I hP1 _) ?_
        rintro _ _ _ ⟨⟨M, rfl, h6⟩, rfl, rfl⟩
        have hM := h6
        refine GW.weak (GW.eqIJ rfl (wJ_0 J 39 0 _).symm (l_bkC2 sx P hP8 M (Agr.ok hM hN).1 (Agr.ok hM hN).2 r' (by omega) n s3 I s4 J _ ?_ n 0 (by omega))) ⟨rfl, rfl, rfl, rfl, rfl, rfl, trivial⟩
        refine ⟨_, rfl, ?_⟩
        refine Mt.of2 _ rfl (by decide +kernel) (Nat.le_of_ble_eq_true rfl) ?_
        refine GW.run kX4_book (fun pc => Nat.beq pc 42) 92 0 rfl ?_
        refine Mt.conseq (m_bad2 _ _ _) ?_
        rintro _ _ _ ⟨rfl, rfl, ⟨g1, rfl⟩ | ⟨g1, rfl⟩⟩
        · -- pc 2 call X4_badSheet true
          exact absurd (show I 38 1 = 0 from s1.trans g1) h2
        · -- pc 2 call X4_badSheet false
          refine And.intro (fun _ => ?_) (fun hh => absurd hh (by decide))
          refine Mt.conseq (m_isRoom _ _ _ _) ?_
          rintro _ _ _ ⟨rfl, rfl, ⟨g2, rfl⟩ | ⟨g2, rfl⟩⟩
          · -- pc 17 call X4_isRoom true
            refine And.intro (fun _ => ?_) (fun hh => absurd hh (by decide))
            refine Mt.conseq ((by have h := m_kp1 sx (I 44) (pN 21 (itH P n M) I) (wJ J 39 0 n (bkV (I 38 1) P r' M)); rw [show sR (I 44) (pN 21 (itH P n M) I) = pN 21 (itH P n M) I from sR_self (pN 21 (itH P n M) I)] at h; exact h)) ?_
            rintro _ _ _ ⟨⟨t, rfl, g3⟩, rfl, rfl⟩
            have ht := g3
            refine GW.weak (GW.eqIJ rfl (wJ_0 (wJ J 39 0 n (bkV (I 38 1) P r' M)) 50 80 _).symm (l_bkM2 sx P hP8 (I 44) t ht hP3 hpl r' (by omega) n s3 (pN 21 (itH P n M) I) s5 _ _ ?_ n 0 (by omega))) ⟨rfl, rfl, rfl, rfl, trivial⟩
            intro g hg
            exact ⟨rfl, Sim.junk (hS.booked (s := 2) (by decide) s4 s3 (fun j _ => by rw [s1]; exact bk_eq hN ha hM (by omega) j)) hg⟩
          · -- pc 17 call X4_isRoom false
            exact (nout_nin h4 g2).elim
set_option maxRecDepth 100000 in
set_option maxHeartbeats 4000000 in
theorem pr_book3 (sx : Nat × (Nat → Int32)) (r : Int32) : PrI sx MX3_book MX4_book [.int 3, .int r] := by
  intro I J hS
  obtain ⟨P, hN, ha, hP8, hP1, hP3, hpl⟩ := hS.nt
  have e73 : I 44 3 = I 1 7 := hP3.trans hP1.symm
  obtain ⟨s1, s2, n, s3, s4, s5, s6⟩ := hS.2.2.2.1 3 (by decide)
  have s45 : I 40 2 = I 49 3 := s4.trans s5.symm
  refine Mt.of2 _ rfl (by decide +kernel) (Nat.le_of_ble_eq_true rfl) ?_
  refine GW.run kX3_book (fun pc => Nat.beq pc 58) 81 0 rfl ?_
  refine Mt.conseq (c_noSheet _ _ _ _) ?_
  rintro _ _ _ ⟨rfl, rfl, ⟨h1, rfl⟩ | ⟨h1, rfl⟩⟩
  · -- pc 1 call X3_noSheet true
    exact absurd h1 (by decide)
  · -- pc 1 call X3_noSheet false
    refine And.intro (fun _ => ?_) (fun hh => absurd hh (by decide))
    refine And.intro (by unfold vp_in; decide) ?_
    refine Mt.conseq (c_miss3 _ _ _) ?_
    rintro _ _ _ ⟨rfl, rfl, ⟨h2, rfl⟩ | ⟨h2, rfl⟩⟩
    · -- pc 22 call X1_isMissing true
      refine And.intro (fun hh => absurd hh (by decide)) (fun _ => ?_)
      refine Mt.conseq (c_fnd5 _ _ _) ?_
      rintro _ _ _ ⟨rfl, rfl, rfl⟩
      refine ⟨trivial, _, rfl, ?_⟩
      refine Mt.of2 _ rfl (by decide +kernel) (Nat.le_of_ble_eq_true rfl) ?_
      refine GW.run kX4_book (fun pc => Nat.beq pc 42) 92 0 rfl ?_
      refine Mt.conseq (m_bad3 _ _ _) ?_
      rintro _ _ _ ⟨rfl, rfl, ⟨g1, rfl⟩ | ⟨g1, rfl⟩⟩
      · -- pc 2 call X4_badSheet true
        refine And.intro (fun hh => absurd hh (by decide)) (fun _ => ?_)
        refine Mt.conseq (m_fnd5 _ _ _) ?_
        rintro _ _ _ ⟨rfl, rfl, rfl⟩
        exact ⟨trivial, rfl, hS.found (by decide)⟩
      · -- pc 2 call X4_badSheet false
        exact absurd (show I 48 3 = 0 from s1.symm.trans h2) g1
    · -- pc 22 call X1_isMissing false
      refine And.intro (fun _ => ?_) (fun hh => absurd hh (by decide))
      refine Mt.conseq (c_noRoom _ _ _ _) ?_
      rintro _ _ _ ⟨rfl, rfl, ⟨h4, rfl⟩ | ⟨h4, rfl⟩⟩
      · -- pc 36 call X3_noRoom true
        refine And.intro (fun hh => absurd hh (by decide)) (fun _ => ?_)
        refine Mt.conseq (c_fnd0 _ _ _) ?_
        rintro _ _ _ ⟨rfl, rfl, rfl⟩
        refine ⟨trivial, _, rfl, ?_⟩
        refine Mt.of2 _ rfl (by decide +kernel) (Nat.le_of_ble_eq_true rfl) ?_
        refine GW.run kX4_book (fun pc => Nat.beq pc 42) 92 0 rfl ?_
        refine Mt.conseq (m_bad3 _ _ _) ?_
        rintro _ _ _ ⟨rfl, rfl, ⟨g1, rfl⟩ | ⟨g1, rfl⟩⟩
        · -- pc 2 call X4_badSheet true
          exact absurd (show I 40 1 = 0 from s1.trans g1) h2
        · -- pc 2 call X4_badSheet false
          refine And.intro (fun _ => ?_) (fun hh => absurd hh (by decide))
          refine Mt.conseq (m_isRoom _ _ _ _) ?_
          rintro _ _ _ ⟨rfl, rfl, ⟨g2, rfl⟩ | ⟨g2, rfl⟩⟩
          · -- pc 17 call X4_isRoom true
            exact (out_in h4 g2).elim
          · -- pc 17 call X4_isRoom false
            refine And.intro (fun hh => absurd hh (by decide)) (fun _ => ?_)
            refine Mt.conseq (m_fnd0 _ _ _) ?_
            rintro _ _ _ ⟨rfl, rfl, rfl⟩
            exact ⟨trivial, rfl, hS.found (by decide)⟩
      · -- pc 36 call X3_noRoom false
        obtain ⟨r', hr, rfl⟩ := nout_nI (b := 7) (by decide) h4
        refine And.intro (fun _ => ?_) (fun hh => absurd hh (by decide))
        refine Mt.conseq (c_sah _ P hP8 I hP1 _) ?_
        rintro _ _ _ ⟨⟨M, rfl, h6⟩, rfl, rfl⟩
        have hM := h6
        refine GW.weak (GW.eqIJ rfl (wJ_0 J 41 0 _).symm (l_bkC3 sx P hP8 M (Agr.ok hM hN).1 (Agr.ok hM hN).2 r' (by omega) n s3 I s4 J _ ?_ n 0 (by omega))) ⟨rfl, rfl, rfl, rfl, rfl, rfl, trivial⟩
        refine ⟨_, rfl, ?_⟩
        refine Mt.of2 _ rfl (by decide +kernel) (Nat.le_of_ble_eq_true rfl) ?_
        refine GW.run kX4_book (fun pc => Nat.beq pc 42) 92 0 rfl ?_
        refine Mt.conseq (m_bad3 _ _ _) ?_
        rintro _ _ _ ⟨rfl, rfl, ⟨g1, rfl⟩ | ⟨g1, rfl⟩⟩
        · -- pc 2 call X4_badSheet true
          exact absurd (show I 40 1 = 0 from s1.trans g1) h2
        · -- pc 2 call X4_badSheet false
          refine And.intro (fun _ => ?_) (fun hh => absurd hh (by decide))
          refine Mt.conseq (m_isRoom _ _ _ _) ?_
          rintro _ _ _ ⟨rfl, rfl, ⟨g2, rfl⟩ | ⟨g2, rfl⟩⟩
          · -- pc 17 call X4_isRoom true
            refine And.intro (fun _ => ?_) (fun hh => absurd hh (by decide))
            refine Mt.conseq ((by have h := m_kp1 sx (I 44) (pN 21 (itH P n M) I) (wJ J 41 0 n (bkV (I 40 1) P r' M)); rw [show sR (I 44) (pN 21 (itH P n M) I) = pN 21 (itH P n M) I from sR_self (pN 21 (itH P n M) I)] at h; exact h)) ?_
            rintro _ _ _ ⟨⟨t, rfl, g3⟩, rfl, rfl⟩
            have ht := g3
            refine GW.weak (GW.eqIJ rfl (wJ_0 (wJ J 41 0 n (bkV (I 40 1) P r' M)) 50 120 _).symm (l_bkM3 sx P hP8 (I 44) t ht hP3 hpl r' (by omega) n s3 (pN 21 (itH P n M) I) s5 _ _ ?_ n 0 (by omega))) ⟨rfl, rfl, rfl, rfl, trivial⟩
            intro g hg
            exact ⟨rfl, Sim.junk (hS.booked (s := 3) (by decide) s4 s3 (fun j _ => by rw [s1]; exact bk_eq hN ha hM (by omega) j)) hg⟩
          · -- pc 17 call X4_isRoom false
            exact (nout_nin h4 g2).elim
set_option maxRecDepth 100000 in
set_option maxHeartbeats 4000000 in
theorem pr_bookx (sx : Nat × (Nat → Int32)) (s r : Int32) (hx : outP s 0 3) : PrI sx MX3_book MX4_book [.int s, .int r] := by
  intro I J hS
  refine Mt.of2 _ rfl (by decide +kernel) (Nat.le_of_ble_eq_true rfl) ?_
  refine GW.run kX3_book (fun _ => false) 81 0 rfl ?_
  refine Mt.conseq (c_noSheet _ _ _ _) ?_
  rintro _ _ _ ⟨rfl, rfl, ⟨h1, rfl⟩ | ⟨h1, rfl⟩⟩
  · -- pc 1 call X3_noSheet true
    refine And.intro (fun hh => absurd hh (by decide)) (fun _ => ?_)
    refine Mt.conseq (c_fnd0 _ _ _) ?_
    rintro _ _ _ ⟨rfl, rfl, rfl⟩
    refine ⟨trivial, _, rfl, ?_⟩
    refine Mt.of2 _ rfl (by decide +kernel) (Nat.le_of_ble_eq_true rfl) ?_
    refine GW.run kX4_book (fun _ => false) 92 0 rfl ?_
    refine Mt.conseq (m_badx _ _ hx _ _) ?_
    rintro _ _ _ ⟨rfl, rfl, rfl⟩
    refine And.intro (fun hh => absurd hh (by decide)) (fun _ => ?_)
    refine Mt.conseq (m_fnd0 _ _ _) ?_
    rintro _ _ _ ⟨rfl, rfl, rfl⟩
    exact ⟨trivial, rfl, hS.found (by decide)⟩
  · -- pc 1 call X3_noSheet false
    exact absurd hx h1
theorem pr_book (sx : Nat × (Nat → Int32)) (s r : Int32) : PrI sx MX3_book MX4_book [.int s, .int r] := by
  by_cases hx : outP s 0 3
  · exact pr_bookx sx s r hx
  · obtain ⟨t, ht, rfl⟩ := nout_nI (b := 3) (by decide) hx
    obtain rfl | rfl | rfl | rfl : t = 0 ∨ t = 1 ∨ t = 2 ∨ t = 3 := by omega
    · exact pr_book0 sx r
    · exact pr_book1 sx r
    · exact pr_book2 sx r
    · exact pr_book3 sx r
/-- does it go as it was told, from i on -/
def rdB (P r : Nat) (u : Nat → Int64) : Nat → Nat → Mm → Bool
  | 0, _, _ => true
  | m + 1, i, N => if (N 1 r).toInt64 = u i then rdB P r u m (i + 1) (hrN P N) else false
theorem rdB_c {P r : Nat} (hr : r < 8) {u w : Nat → Int64} : ∀ (m i : Nat) {M N : Mm}, Agr P M N → (∀ p, p < P → vp_in (N 6 p) 8) → (∀ j, i ≤ j → j < i + m → u j = w j) → rdB P r u m i M = rdB P r w m i N
  | 0, i, M, N, h, hpl, hu => rfl
  | m + 1, i, M, N, h, hpl, hu => by rw [rdB, rdB, h.2.1 1 r (by decide) (by decide) hr, hu i (by omega) (by omega), rdB_c hr m (i + 1) (hrN_c h hpl) (by rw [hrN_keep (by decide)]; exact hpl) (fun j h1 h2 => hu j (by omega) (by omega))]
def cnB (c : Nat → Bool) : Nat → Int32
  | 0 => 0
  | n + 1 => if c n = true then cnB c n + 1 else cnB c n
theorem cnB_c {c d : Nat → Bool} : ∀ n, (∀ j, j < n → c j = d j) → cnB c n = cnB d n
  | 0, _ => rfl
  | n + 1, h => by rw [cnB, cnB, cnB_c n (fun j hj => h j (by omega)), h n (by omega)]
def rdT (P r L : Nat) (u : Nat → Int64) (N : Mm) (k : Nat) : Bool := rdB P r u L 0 (na_set (na_set N 4 r (nI (k / 100))) 3 r (nI (k % 100)))
set_option maxRecDepth 100000 in
set_option maxHeartbeats 4000000 in
theorem l_ga0 (sx : Nat × (Nat → Int32)) (P : Nat) (hP8 : P ≤ 8) (r : Nat) (hr : r < 8) (L : Nat) (hL : L ≤ 40) (I : Mm) (hI : I 34 2 = nI L) (T : Bool) (J : Ml) (Rt : Option Value → Mm → Ml → Prop) (hR1 : ∀ X, T = true → Rt (some (.int 1)) (pN 21 X I) J) (hR2 : ∀ X, T = false → Rt (some (.int 0)) (pN 21 X I) J) : ∀ m n N, n + m = L → N 0 7 = nI P → (∀ p, p < P → vp_in (N 6 p) 8) → rdB P r (J 35) m n N = T → GW sx (na_mi MX0_goesAsTold) Rt 2 [some (.ref 21), some (.int (nI r)), some (.ref 34), some (.int (nI n))] [] (pN 21 N I) J := by
  have hbr : vp_in (nI r) 8 := vp_in_nI (by omega) (by omega)
  have hcr := nI_clamp (n := r) (by omega)
  intro m
  induction m with
  | zero =>
    intro n N hn hP hpl hw
    obtain rfl : L = n := by omega
    have hz : I 34 2 ≤ nI L := by rw [hI]; exact Int32.le_refl _
    refine GW.run kX0_goesAsTold (fun pc => Nat.beq pc 2) 56 2 rfl ?_
    refine And.intro (fun _ => ?_) (fun hh => absurd hz hh)
    exact ⟨na_nl_b1, hR1 N hw.symm⟩
  | succ m ih =>
    intro n N hn hP hpl hw
    have hz : ¬ I 34 2 ≤ nI n := by rw [hI]; exact nI_ge (by omega) (by omega)
    have hb : vp_in (nI n) 40 := vp_in_nI (by omega) (by omega)
    have hc := nI_clamp (n := n) (by omega)
    refine GW.run kX0_goesAsTold (fun pc => Nat.beq pc 2) 56 2 rfl ?_
    refine And.intro (fun hh => absurd hh hz) (fun _ => ?_)
    refine And.intro (hbr) ?_
    refine And.intro (hb) ?_
    refine And.intro (fun h1 => ?_) (fun h1 => ?_)
    · -- pc 24 .ifCond .eq 5: yes
      refine Mt.conseq (c_hr _ 21 (Or.inr rfl) N P hP hP8 hpl _ _) ?_
      rintro _ _ _ ⟨rfl, rfl, rfl⟩
      rw [rdB, if_pos (show (N 1 r).toInt64 = J 35 n from by have z := (lg_cmp_eq _ _).mp h1; rw [hc, hcr] at z; exact z)] at hw
      exact GW.weak (ih (n + 1) (hrN P N) (by omega) (by rw [hrN_0 (by decide)]; exact hP) (by rw [hrN_keep (by decide)]; exact hpl) hw) ⟨rfl, rfl, rfl, by rw [nI_1], trivial⟩
    · -- pc 24 .ifCond .eq 5: no
      rw [rdB, if_neg (fun z => h1 ((lg_cmp_eq _ _).mpr (by rw [hc, hcr]; exact z)))] at hw
      exact ⟨na_nl_b0, hR2 N hw.symm⟩
set_option maxRecDepth 100000 in
set_option maxHeartbeats 4000000 in
theorem c_ga0 (sx : Nat × (Nat → Int32)) (P : Nat) (hP8 : P ≤ 8) (N : Mm) (hP : N 0 7 = nI P) (hpl : (∀ p, p < P → vp_in (N 6 p) 8)) (r : Nat) (hr : r < 8) (L : Nat) (hL : L ≤ 40) (I : Mm) (hI : I 34 2 = nI L) (J : Ml) {T : Bool} (hT : rdB P r (J 35) L 0 N = T) : Mt sx MX0_goesAsTold [.ref 21, .int (nI r), .ref 34] (pN 21 N I) J (fun v I' J' => (∃ X, pN 21 X I = I') ∧ J = J' ∧ ((T = true ∧ v = some (.int 1)) ∨ (T = false ∧ v = some (.int 0)))) := by
  refine Mt.of2 _ rfl (by decide +kernel) (Nat.le_of_ble_eq_true rfl) ?_
  refine GW.run kX0_goesAsTold (fun pc => Nat.beq pc 2) 56 0 rfl ?_
  exact GW.weak (l_ga0 sx P hP8 r hr L hL I hI T J _ (fun X hb => ⟨⟨X, rfl⟩, rfl, Or.inl ⟨hb, rfl⟩⟩) (fun X hb => ⟨⟨X, rfl⟩, rfl, Or.inr ⟨hb, rfl⟩⟩) L 0 N (by omega) hP hpl hT) ⟨rfl, rfl, rfl, rfl, trivial⟩
set_option maxRecDepth 100000 in
set_option maxHeartbeats 4000000 in
theorem l_rdI0 (sx : Nat × (Nat → Int32)) (P : Nat) (hP8 : P ≤ 8) (I : Mm) (hP1 : I 1 7 = nI P) (hN : NOk P (gN 1 I)) (r : Nat) (hr : r < 8) (L : Nat) (hL : L ≤ 40) (hI : I 34 2 = nI L) (t : Nat) (ht : t < 10) (J : Ml) (Rt : Option Value → Mm → Ml → Prop) (hR : ∀ X, GW sx (na_mi MX3_read) Rt 115 [some (.ref 0), some (.int 0), some (.int (nI r)), some (.ref 34), some (.int (cnB (rdT P r L (J 35) (gN 1 I)) (100 * t + 100))), some (.int (nI t)), none, none] [] (pN 21 X I) J) : ∀ m n X, n + m = 100 → GW sx (na_mi MX3_read) Rt 65 [some (.ref 0), some (.int 0), some (.int (nI r)), some (.ref 34), some (.int (cnB (rdT P r L (J 35) (gN 1 I)) (100 * t + n))), some (.int (nI t)), some (.int (nI n)), none] [] (pN 21 X I) J := by
  have hbr : vp_in (nI r) 8 := vp_in_nI (by omega) (by omega)
  have hcr := nI_clamp (n := r) (by omega)
  intro m
  induction m with
  | zero =>
    intro n X hn 
    obtain rfl : n = 100 := by omega
    have hz : (99 : Int32) < nI 100 := by decide
    refine GW.run kX3_read (fun pc => Nat.beq pc 65 || Nat.beq pc 115) 93 35 rfl ?_
    refine And.intro (fun _ => ?_) (fun hh => absurd hz hh)
    exact GW.weak (hR X) ⟨rfl, rfl, rfl, rfl, rfl, rfl, trivial⟩
  | succ m ih =>
    intro n X hn 
    have hz : ¬ (99 : Int32) < nI n := nI_nlt (a := 99) (b := n) (by omega) (by omega)
    refine GW.run kX3_read (fun pc => Nat.beq pc 65 || Nat.beq pc 115) 93 35 rfl ?_
    refine And.intro (fun hh => absurd hh hz) (fun _ => ?_)
    refine Mt.conseq (c_sah2 _ P hP8 I hP1 _ _) ?_
    rintro _ _ _ ⟨⟨M, rfl, h1⟩, rfl, rfl⟩
    have hM2 := Agr.set (Agr.set h1 4 r (nI t)) 3 r (nI n)
    have hN3 := (hN.r4 (j := r) (rg9 (n := t) (by omega))).r3 (j := r) (rg99 (n := n) (by omega))
    have hok := Agr.ok hM2 hN3
    have ev : rdB P r (J 35) L 0 (na_set (na_set M 4 r (nI t)) 3 r (nI n)) = (rdT P r L (J 35) (gN 1 I)) (100 * t + n) := by
      rw [rdT, show (100 * t + n) / 100 = t by omega, show (100 * t + n) % 100 = n by omega]
      exact rdB_c hr L 0 hM2 hN3.2.1.pl (fun _ _ _ => rfl)
    refine And.intro (hbr) ?_
    refine And.intro (hbr) ?_
    refine Mt.conseq ((by have h := c_ga0 sx P hP8 (na_set (na_set M 4 r (nI t)) 3 r (nI n)) hok.1 hok.2 r hr L hL I hI J ev; rw [← pN_set (pl := 24) (by decide) rfl, ← pN_set (pl := 25) (by decide) rfl] at h; rw [hcr]; exact h)) ?_
    rintro _ _ _ ⟨⟨X2, rfl⟩, rfl, ⟨hw1, rfl⟩ | ⟨hw1, rfl⟩⟩
    · -- pc 100 call X0_goesAsTold true
      refine And.intro (fun hh => absurd hh (by decide)) (fun _ => ?_)
      exact GW.weak (ih (n + 1) X2 (by omega)) ⟨rfl, rfl, rfl, rfl, by rw [show 100 * t + (n + 1) = 100 * t + n + 1 by omega, cnB, if_pos hw1], rfl, by rw [nI_1], trivial⟩
    · -- pc 100 call X0_goesAsTold false
      refine And.intro (fun _ => ?_) (fun hh => absurd hh (by decide))
      exact GW.weak (ih (n + 1) X2 (by omega)) ⟨rfl, rfl, rfl, rfl, by rw [show 100 * t + (n + 1) = 100 * t + n + 1 by omega, cnB, if_neg (by rw [hw1]; decide)], rfl, by rw [nI_1], trivial⟩
set_option maxRecDepth 100000 in
set_option maxHeartbeats 4000000 in
theorem l_rdO0 (sx : Nat × (Nat → Int32)) (P : Nat) (hP8 : P ≤ 8) (I : Mm) (hP1 : I 1 7 = nI P) (hN : NOk P (gN 1 I)) (r : Nat) (hr : r < 8) (L : Nat) (hL : L ≤ 40) (hI : I 34 2 = nI L) (J : Ml) (Rt : Option Value → Mm → Ml → Prop) (hR : ∀ X, Rt (some (.int (cnB (rdT P r L (J 35) (gN 1 I)) 1000))) (pN 21 X I) J) : ∀ m n X, n + m = 10 → GW sx (na_mi MX3_read) Rt 55 [some (.ref 0), some (.int 0), some (.int (nI r)), some (.ref 34), some (.int (cnB (rdT P r L (J 35) (gN 1 I)) (100 * n))), some (.int (nI n)), none, none] [] (pN 21 X I) J := by
  intro m
  induction m with
  | zero =>
    intro n X hn 
    obtain rfl : n = 10 := by omega
    have hz : (9 : Int32) < nI 10 := by decide
    refine GW.run kX3_read (fun pc => Nat.beq pc 55 || Nat.beq pc 65) 93 30 rfl ?_
    refine And.intro (fun _ => ?_) (fun hh => absurd hz hh)
    exact ⟨trivial, hR X⟩
  | succ m ih =>
    intro n X hn 
    have hz : ¬ (9 : Int32) < nI n := nI_nlt (a := 9) (b := n) (by omega) (by omega)
    refine GW.run kX3_read (fun pc => Nat.beq pc 55 || Nat.beq pc 65) 93 30 rfl ?_
    refine And.intro (fun hh => absurd hh hz) (fun _ => ?_)
    refine GW.weak (l_rdI0 sx P hP8 I hP1 hN r hr L hL hI n (by omega) J Rt (fun X => ?_) 100 0 X rfl) ⟨rfl, rfl, rfl, rfl, rfl, rfl, rfl, trivial⟩
    refine GW.run kX3_read (fun pc => Nat.beq pc 55) 93 59 rfl ?_
    exact GW.weak (ih (n + 1) X (by omega)) ⟨rfl, rfl, rfl, rfl, by rw [show 100 * (n + 1) = 100 * n + 100 by omega], by rw [nI_1], trivial⟩
set_option maxRecDepth 100000 in
set_option maxHeartbeats 4000000 in
theorem l_so0_0 (sx : Nat × (Nat → Int32)) (f : Nat → Int32) (x : Int32) (I : Mm) (J : Ml) (Rt : Option Value → Mm → Ml → Prop) (hR : Rt (some (.int 0)) (sR f I) J) : GW sx (na_mi MX4_isSo) Rt 5 [some (.ref 43), some (.int 0), none, some (.int 0), some (.int x)] [] (sR f I) J := by
  refine GW.run kX4_isSo (fun _ => false) 67 4 rfl ?_
  refine And.intro (by unfold vp_in; decide) ?_
  refine And.intro (fun h1 => ?_) (fun h1 => ?_)
  · -- pc 13 .if_icmp .ge 46: yes
    exact ⟨na_nl_b0, hR⟩
  · -- pc 13 .if_icmp .ge 46: no
    refine And.intro (fun _ => ?_) (fun hh => absurd hh (by decide))
    exact ⟨na_nl_b0, hR⟩
set_option maxRecDepth 100000 in
set_option maxHeartbeats 4000000 in
theorem l_so0 (sx : Nat × (Nat → Int32)) (P : Nat) (hP8 : P ≤ 8) (r : Nat) (hr : r < 8) (L : Nat) (hL : L ≤ 40) (I : Mm) (hI : I 49 0 = nI L) (T : Bool) (J : Ml) (Rt : Option Value → Mm → Ml → Prop) (hR1 : ∀ g, T = true → Rt (some (.int 1)) (sR g I) J) (hR2 : ∀ g, T = false → Rt (some (.int 0)) (sR g I) J) : ∀ m n f N, n + m = L → Agr P (vN f) N → InvR N → InvP P N → N 0 7 = nI P → rdB P r (fun j => J 50 (0 + j)) m n N = T → GW sx (na_mi MX4_isSo) Rt 5 [some (.ref 43), some (.int 0), some (.int (nI r)), some (.int 1), some (.int (nI n))] [] (sR f I) J := by
  intro m
  induction m with
  | zero =>
    intro n f N hn ha hr0 hi0 hP hw
    obtain rfl : L = n := by omega
    have hz : I 49 0 ≤ nI L := by rw [hI]; exact Int32.le_refl _
    refine GW.run kX4_isSo (fun pc => Nat.beq pc 5) 67 4 rfl ?_
    refine And.intro (by unfold vp_in; decide) ?_
    refine And.intro (fun _ => ?_) (fun hh => absurd hz hh)
    exact ⟨na_nl_b1, hR1 f hw.symm⟩
  | succ m ih =>
    intro n f N hn ha hr0 hi0 hP hw
    have hz : ¬ I 49 0 ≤ nI n := by rw [hI]; exact nI_ge (by omega) (by omega)
    have hix : (40 : Int32) * 0 + nI n = nI (0 + n) := by rw [show (40 : Int32) * 0 = nI 0 by decide, nI_add]
    have hbx : vp_in ((40 : Int32) * 0 + nI n) 160 := by rw [hix]; exact vp_in_nI (by omega) (by omega)
    have hcx : ((40 : Int32) * 0 + nI n).toNatClampNeg = 0 + n := by rw [hix, nI_clamp (by omega)]
    have h10 : ¬ (1 : Int32) = 0 := by decide
    have e1 : f (4 + 4 * r + 0) = N 1 r := ha.2.1 1 r (by decide) (by decide) hr
    have hP3 : f 3 = nI P := (ha.1 7 (by decide) (by decide)).trans hP
    have hpl : (∀ p, p < P → vp_in (f (36 + 5 * p + 1)) 8) := fun p hp => by rw [show f (36 + 5 * p + 1) = N 6 p from ha.2.2 6 p (by decide) (by decide) hp]; exact hi0.pl p hp
    refine GW.run kX4_isSo (fun pc => Nat.beq pc 5) 67 4 rfl ?_
    refine And.intro (by unfold vp_in; decide) ?_
    refine And.intro (fun hh => absurd hh hz) (fun _ => ?_)
    refine And.intro (fun hh => absurd hh h10) (fun _ => ?_)
    refine And.intro (hbx) ?_
    refine Mt.conseq (m_there _ r 0 (by omega) (by decide) _ (by decide) _ _ _) ?_
    rintro _ _ _ ⟨rfl, rfl, rfl⟩
    refine And.intro (fun h2 => ?_) (fun h2 => ?_)
    · -- pc 40 .ifCond .ne 7: yes
      refine Mt.conseq (m_hour _ f P hP3 hP8 hpl _ _) ?_
      rintro _ _ _ ⟨rfl, rfl, rfl⟩
      rw [rdB, if_neg (fun z => h2 ((lg_cmp_eq _ _).mpr (by rw [hcx, e1]; exact z.symm)))] at hw
      exact GW.weak (l_so0_0 sx (hrM P f) _ I J Rt (hR2 _ hw.symm)) ⟨rfl, rfl, rfl, rfl, trivial⟩
    · -- pc 40 .ifCond .ne 7: no
      refine Mt.conseq (m_hour _ f P hP3 hP8 hpl _ _) ?_
      rintro _ _ _ ⟨rfl, rfl, rfl⟩
      rw [rdB, if_pos (show (N 1 r).toInt64 = J 50 (0 + n) from by have z := (lg_cmp_eq _ _).mp h2; rw [hcx, e1] at z; exact z.symm)] at hw
      exact GW.weak (ih (n + 1) (hrM P f) (hrN P N) (by omega) (hrM_ag hP8 ha hr0 hi0) (hrN_inv hP8 hr0 hi0).1 (hrN_inv hP8 hr0 hi0).2 (by rw [hrN_0 (by decide)]; exact hP) hw) ⟨rfl, rfl, rfl, rfl, by rw [nI_1], trivial⟩
set_option maxRecDepth 100000 in
set_option maxHeartbeats 4000000 in
theorem m_so_0 (sx : Nat × (Nat → Int32)) (P : Nat) (hP8 : P ≤ 8) (f : Nat → Int32) (N : Mm) (hN : NOk P N) (ha : Agr P (vN f) N) (r : Nat) (hr : r < 8) (L : Nat) (hL : L ≤ 40) (I : Mm) (hI : I 49 0 = nI L) (J : Ml) {T : Bool} (hT : rdB P r (fun j => J 50 (0 + j)) L 0 N = T) : Mt sx MX4_isSo [.ref 43, .int 0, .int (nI r)] (sR f I) J (fun v I' J' => (∃ g, sR g I = I') ∧ J = J' ∧ ((T = true ∧ v = some (.int 1)) ∨ (T = false ∧ v = some (.int 0)))) := by
  refine Mt.of2 _ rfl (by decide +kernel) (Nat.le_of_ble_eq_true rfl) ?_
  refine GW.run kX4_isSo (fun pc => Nat.beq pc 5) 67 0 rfl ?_
  exact GW.weak (l_so0 sx P hP8 r hr L hL I hI T J _ (fun g hb => ⟨⟨g, rfl⟩, rfl, Or.inl ⟨hb, rfl⟩⟩) (fun g hb => ⟨⟨g, rfl⟩, rfl, Or.inr ⟨hb, rfl⟩⟩) L 0 f N (by omega) ha hN.1 hN.2.1 hN.2.2.1 hT) ⟨rfl, rfl, rfl, rfl, rfl, trivial⟩
set_option maxRecDepth 100000 in
set_option maxHeartbeats 4000000 in
theorem l_rdM0 (sx : Nat × (Nat → Int32)) (f t : Nat → Int32) (ht : E76 t f) (N : Mm) (P : Nat) (hP8 : P ≤ 8) (hN : NOk P N) (ha : Agr P (vN f) N) (r : Nat) (hr : r < 8) (L : Nat) (hL : L ≤ 40) (I : Mm) (hI : I 49 0 = nI L) (J : Ml) (Rt : Option Value → Mm → Ml → Prop) (hR : ∀ g, E76 g f → Rt (some (.int (cnB (rdT P r L (fun j => J 50 (0 + j)) N) 1000))) (sR g (sA 46 t I)) J) : ∀ m n g, n + m = 1000 → E76 g f → GW sx (na_mi MX4_read) Rt 45 [some (.ref 43), some (.int 0), some (.int (nI r)), none, some (.int (cnB (rdT P r L (fun j => J 50 (0 + j)) N) n)), some (.int (nI n))] [] (sR g (sA 46 t I)) J := by
  intro m
  induction m with
  | zero =>
    intro n g hn hg
    obtain rfl : n = 1000 := by omega
    have hz : (1000 : Int32) ≤ nI 1000 := by decide
    refine GW.run kX4_read (fun pc => Nat.beq pc 45) 93 26 rfl ?_
    refine And.intro (fun _ => ?_) (fun hh => absurd hz hh)
    exact ⟨trivial, hR g hg⟩
  | succ m ih =>
    intro n g hn hg
    have hz : ¬ (1000 : Int32) ≤ nI n := nI_ge (a := n) (b := 1000) (by omega) (by omega)
    have hd : nI n / 100 = nI (n / 100) := pk_div (d := 100) (by omega) (by decide) (by decide)
    have hm : nI n - nI n / 100 * 100 = nI (n % 100) := pk_rem (d := 100) (by omega) (by decide) (by decide)
    have hu : (upd (upd g (4 + 4 * r + 3) (mx (nI n / 100))) (4 + 4 * r + 2) (mx (nI n - nI n / 100 * 100))) = upd (upd g (4 + 4 * r + 3) (nI (n / 100))) (4 + 4 * r + 2) (nI (n % 100)) := by rw [hm, hd, mx_nI (by omega), mx_nI (by omega)]
    have hN3 := (hN.r4 (j := r) (rg9 (n := n / 100) (by omega))).r3 (j := r) (rg99 (n := n % 100) (by omega))
    have hga : Agr P (vN (upd (upd g (4 + 4 * r + 3) (mx (nI n / 100))) (4 + 4 * r + 2) (mx (nI n - nI n / 100 * 100)))) (na_set (na_set N 4 r (nI (n / 100))) 3 r (nI (n % 100))) := by
      rw [hu]
      exact agR hP8 (agR hP8 ((hg.agr hP8).trans ha) hr (w := 3) (by decide) _) hr (w := 2) (by decide) _
    refine GW.run kX4_read (fun pc => Nat.beq pc 45) 93 26 rfl ?_
    refine And.intro (fun hh => absurd hh hz) (fun _ => ?_)
    refine And.intro (by decide) ?_
    refine Mt.conseq (m_lies _ (nI n / 100) r 3 (by omega) (by decide) _ (by decide) _ _ _) ?_
    rintro _ _ _ ⟨rfl, rfl, rfl⟩
    refine And.intro (by decide) ?_
    refine Mt.conseq (m_lies _ (nI n - nI n / 100 * 100) r 2 (by omega) (by decide) _ (by decide) _ _ _) ?_
    rintro _ _ _ ⟨rfl, rfl, rfl⟩
    refine Mt.conseq (m_so_0 _ P hP8 (upd (upd g (4 + 4 * r + 3) (mx (nI n / 100))) (4 + 4 * r + 2) (mx (nI n - nI n / 100 * 100))) _ hN3 hga r hr L hL (sA 46 t I) hI J (T := (rdT P r L (fun j => J 50 (0 + j)) N) n) rfl) ?_
    rintro _ _ _ ⟨⟨g1, rfl⟩, rfl, ⟨hw1, rfl⟩ | ⟨hw1, rfl⟩⟩
    · -- pc 80 call X4_isSo true
      refine And.intro (fun hh => absurd hh (by decide)) (fun _ => ?_)
      refine Mt.conseq (m_rs1 _ _ t f ht _ _) ?_
      rintro _ _ _ ⟨⟨g2, rfl, h4⟩, rfl, rfl⟩
      exact GW.weak (ih (n + 1) g2 (by omega) h4) ⟨rfl, rfl, rfl, by rw [cnB, if_pos hw1], by rw [nI_1], trivial⟩
    · -- pc 80 call X4_isSo false
      refine And.intro (fun _ => ?_) (fun hh => absurd hh (by decide))
      refine Mt.conseq (m_rs1 _ _ t f ht _ _) ?_
      rintro _ _ _ ⟨⟨g2, rfl, h5⟩, rfl, rfl⟩
      exact GW.weak (ih (n + 1) g2 (by omega) h5) ⟨rfl, rfl, rfl, by rw [cnB, if_neg (by rw [hw1]; decide), Int32.add_zero], by rw [nI_1], trivial⟩
set_option maxRecDepth 100000 in
set_option maxHeartbeats 4000000 in
theorem l_ga1 (sx : Nat × (Nat → Int32)) (P : Nat) (hP8 : P ≤ 8) (r : Nat) (hr : r < 8) (L : Nat) (hL : L ≤ 40) (I : Mm) (hI : I 36 2 = nI L) (T : Bool) (J : Ml) (Rt : Option Value → Mm → Ml → Prop) (hR1 : ∀ X, T = true → Rt (some (.int 1)) (pN 21 X I) J) (hR2 : ∀ X, T = false → Rt (some (.int 0)) (pN 21 X I) J) : ∀ m n N, n + m = L → N 0 7 = nI P → (∀ p, p < P → vp_in (N 6 p) 8) → rdB P r (J 37) m n N = T → GW sx (na_mi MX0_goesAsTold) Rt 2 [some (.ref 21), some (.int (nI r)), some (.ref 36), some (.int (nI n))] [] (pN 21 N I) J := by
  have hbr : vp_in (nI r) 8 := vp_in_nI (by omega) (by omega)
  have hcr := nI_clamp (n := r) (by omega)
  intro m
  induction m with
  | zero =>
    intro n N hn hP hpl hw
    obtain rfl : L = n := by omega
    have hz : I 36 2 ≤ nI L := by rw [hI]; exact Int32.le_refl _
    refine GW.run kX0_goesAsTold (fun pc => Nat.beq pc 2) 56 2 rfl ?_
    refine And.intro (fun _ => ?_) (fun hh => absurd hz hh)
    exact ⟨na_nl_b1, hR1 N hw.symm⟩
  | succ m ih =>
    intro n N hn hP hpl hw
    have hz : ¬ I 36 2 ≤ nI n := by rw [hI]; exact nI_ge (by omega) (by omega)
    have hb : vp_in (nI n) 40 := vp_in_nI (by omega) (by omega)
    have hc := nI_clamp (n := n) (by omega)
    refine GW.run kX0_goesAsTold (fun pc => Nat.beq pc 2) 56 2 rfl ?_
    refine And.intro (fun hh => absurd hh hz) (fun _ => ?_)
    refine And.intro (hbr) ?_
    refine And.intro (hb) ?_
    refine And.intro (fun h1 => ?_) (fun h1 => ?_)
    · -- pc 24 .ifCond .eq 5: yes
      refine Mt.conseq (c_hr _ 21 (Or.inr rfl) N P hP hP8 hpl _ _) ?_
      rintro _ _ _ ⟨rfl, rfl, rfl⟩
      rw [rdB, if_pos (show (N 1 r).toInt64 = J 37 n from by have z := (lg_cmp_eq _ _).mp h1; rw [hc, hcr] at z; exact z)] at hw
      exact GW.weak (ih (n + 1) (hrN P N) (by omega) (by rw [hrN_0 (by decide)]; exact hP) (by rw [hrN_keep (by decide)]; exact hpl) hw) ⟨rfl, rfl, rfl, by rw [nI_1], trivial⟩
    · -- pc 24 .ifCond .eq 5: no
      rw [rdB, if_neg (fun z => h1 ((lg_cmp_eq _ _).mpr (by rw [hc, hcr]; exact z)))] at hw
      exact ⟨na_nl_b0, hR2 N hw.symm⟩
set_option maxRecDepth 100000 in
set_option maxHeartbeats 4000000 in
theorem c_ga1 (sx : Nat × (Nat → Int32)) (P : Nat) (hP8 : P ≤ 8) (N : Mm) (hP : N 0 7 = nI P) (hpl : (∀ p, p < P → vp_in (N 6 p) 8)) (r : Nat) (hr : r < 8) (L : Nat) (hL : L ≤ 40) (I : Mm) (hI : I 36 2 = nI L) (J : Ml) {T : Bool} (hT : rdB P r (J 37) L 0 N = T) : Mt sx MX0_goesAsTold [.ref 21, .int (nI r), .ref 36] (pN 21 N I) J (fun v I' J' => (∃ X, pN 21 X I = I') ∧ J = J' ∧ ((T = true ∧ v = some (.int 1)) ∨ (T = false ∧ v = some (.int 0)))) := by
  refine Mt.of2 _ rfl (by decide +kernel) (Nat.le_of_ble_eq_true rfl) ?_
  refine GW.run kX0_goesAsTold (fun pc => Nat.beq pc 2) 56 0 rfl ?_
  exact GW.weak (l_ga1 sx P hP8 r hr L hL I hI T J _ (fun X hb => ⟨⟨X, rfl⟩, rfl, Or.inl ⟨hb, rfl⟩⟩) (fun X hb => ⟨⟨X, rfl⟩, rfl, Or.inr ⟨hb, rfl⟩⟩) L 0 N (by omega) hP hpl hT) ⟨rfl, rfl, rfl, rfl, trivial⟩
set_option maxRecDepth 100000 in
set_option maxHeartbeats 4000000 in
theorem l_rdI1 (sx : Nat × (Nat → Int32)) (P : Nat) (hP8 : P ≤ 8) (I : Mm) (hP1 : I 1 7 = nI P) (hN : NOk P (gN 1 I)) (r : Nat) (hr : r < 8) (L : Nat) (hL : L ≤ 40) (hI : I 36 2 = nI L) (t : Nat) (ht : t < 10) (J : Ml) (Rt : Option Value → Mm → Ml → Prop) (hR : ∀ X, GW sx (na_mi MX3_read) Rt 115 [some (.ref 0), some (.int 1), some (.int (nI r)), some (.ref 36), some (.int (cnB (rdT P r L (J 37) (gN 1 I)) (100 * t + 100))), some (.int (nI t)), none, none] [] (pN 21 X I) J) : ∀ m n X, n + m = 100 → GW sx (na_mi MX3_read) Rt 65 [some (.ref 0), some (.int 1), some (.int (nI r)), some (.ref 36), some (.int (cnB (rdT P r L (J 37) (gN 1 I)) (100 * t + n))), some (.int (nI t)), some (.int (nI n)), none] [] (pN 21 X I) J := by
  have hbr : vp_in (nI r) 8 := vp_in_nI (by omega) (by omega)
  have hcr := nI_clamp (n := r) (by omega)
  intro m
  induction m with
  | zero =>
    intro n X hn 
    obtain rfl : n = 100 := by omega
    have hz : (99 : Int32) < nI 100 := by decide
    refine GW.run kX3_read (fun pc => Nat.beq pc 65 || Nat.beq pc 115) 93 35 rfl ?_
    refine And.intro (fun _ => ?_) (fun hh => absurd hz hh)
    exact GW.weak (hR X) ⟨rfl, rfl, rfl, rfl, rfl, rfl, trivial⟩
  | succ m ih =>
    intro n X hn 
    have hz : ¬ (99 : Int32) < nI n := nI_nlt (a := 99) (b := n) (by omega) (by omega)
    refine GW.run kX3_read (fun pc => Nat.beq pc 65 || Nat.beq pc 115) 93 35 rfl ?_
    refine And.intro (fun hh => absurd hh hz) (fun _ => ?_)
    refine Mt.conseq (c_sah2 _ P hP8 I hP1 _ _) ?_
    rintro _ _ _ ⟨⟨M, rfl, h1⟩, rfl, rfl⟩
    have hM2 := Agr.set (Agr.set h1 4 r (nI t)) 3 r (nI n)
    have hN3 := (hN.r4 (j := r) (rg9 (n := t) (by omega))).r3 (j := r) (rg99 (n := n) (by omega))
    have hok := Agr.ok hM2 hN3
    have ev : rdB P r (J 37) L 0 (na_set (na_set M 4 r (nI t)) 3 r (nI n)) = (rdT P r L (J 37) (gN 1 I)) (100 * t + n) := by
      rw [rdT, show (100 * t + n) / 100 = t by omega, show (100 * t + n) % 100 = n by omega]
      exact rdB_c hr L 0 hM2 hN3.2.1.pl (fun _ _ _ => rfl)
    refine And.intro (hbr) ?_
    refine And.intro (hbr) ?_
    refine Mt.conseq ((by have h := c_ga1 sx P hP8 (na_set (na_set M 4 r (nI t)) 3 r (nI n)) hok.1 hok.2 r hr L hL I hI J ev; rw [← pN_set (pl := 24) (by decide) rfl, ← pN_set (pl := 25) (by decide) rfl] at h; rw [hcr]; exact h)) ?_
    rintro _ _ _ ⟨⟨X2, rfl⟩, rfl, ⟨hw1, rfl⟩ | ⟨hw1, rfl⟩⟩
    · -- pc 100 call X0_goesAsTold true
      refine And.intro (fun hh => absurd hh (by decide)) (fun _ => ?_)
      exact GW.weak (ih (n + 1) X2 (by omega)) ⟨rfl, rfl, rfl, rfl, by rw [show 100 * t + (n + 1) = 100 * t + n + 1 by omega, cnB, if_pos hw1], rfl, by rw [nI_1], trivial⟩
    · -- pc 100 call X0_goesAsTold false
      refine And.intro (fun _ => ?_) (fun hh => absurd hh (by decide))
      exact GW.weak (ih (n + 1) X2 (by omega)) ⟨rfl, rfl, rfl, rfl, by rw [show 100 * t + (n + 1) = 100 * t + n + 1 by omega, cnB, if_neg (by rw [hw1]; decide)], rfl, by rw [nI_1], trivial⟩
set_option maxRecDepth 100000 in
set_option maxHeartbeats 4000000 in
theorem l_rdO1 (sx : Nat × (Nat → Int32)) (P : Nat) (hP8 : P ≤ 8) (I : Mm) (hP1 : I 1 7 = nI P) (hN : NOk P (gN 1 I)) (r : Nat) (hr : r < 8) (L : Nat) (hL : L ≤ 40) (hI : I 36 2 = nI L) (J : Ml) (Rt : Option Value → Mm → Ml → Prop) (hR : ∀ X, Rt (some (.int (cnB (rdT P r L (J 37) (gN 1 I)) 1000))) (pN 21 X I) J) : ∀ m n X, n + m = 10 → GW sx (na_mi MX3_read) Rt 55 [some (.ref 0), some (.int 1), some (.int (nI r)), some (.ref 36), some (.int (cnB (rdT P r L (J 37) (gN 1 I)) (100 * n))), some (.int (nI n)), none, none] [] (pN 21 X I) J := by
  intro m
  induction m with
  | zero =>
    intro n X hn 
    obtain rfl : n = 10 := by omega
    have hz : (9 : Int32) < nI 10 := by decide
    refine GW.run kX3_read (fun pc => Nat.beq pc 55 || Nat.beq pc 65) 93 30 rfl ?_
    refine And.intro (fun _ => ?_) (fun hh => absurd hz hh)
    exact ⟨trivial, hR X⟩
  | succ m ih =>
    intro n X hn 
    have hz : ¬ (9 : Int32) < nI n := nI_nlt (a := 9) (b := n) (by omega) (by omega)
    refine GW.run kX3_read (fun pc => Nat.beq pc 55 || Nat.beq pc 65) 93 30 rfl ?_
    refine And.intro (fun hh => absurd hh hz) (fun _ => ?_)
    refine GW.weak (l_rdI1 sx P hP8 I hP1 hN r hr L hL hI n (by omega) J Rt (fun X => ?_) 100 0 X rfl) ⟨rfl, rfl, rfl, rfl, rfl, rfl, rfl, trivial⟩
    refine GW.run kX3_read (fun pc => Nat.beq pc 55) 93 59 rfl ?_
    exact GW.weak (ih (n + 1) X (by omega)) ⟨rfl, rfl, rfl, rfl, by rw [show 100 * (n + 1) = 100 * n + 100 by omega], by rw [nI_1], trivial⟩
set_option maxRecDepth 100000 in
set_option maxHeartbeats 4000000 in
theorem l_so0_1 (sx : Nat × (Nat → Int32)) (f : Nat → Int32) (x : Int32) (I : Mm) (J : Ml) (Rt : Option Value → Mm → Ml → Prop) (hR : Rt (some (.int 0)) (sR f I) J) : GW sx (na_mi MX4_isSo) Rt 5 [some (.ref 43), some (.int 1), none, some (.int 0), some (.int x)] [] (sR f I) J := by
  refine GW.run kX4_isSo (fun _ => false) 67 4 rfl ?_
  refine And.intro (by unfold vp_in; decide) ?_
  refine And.intro (fun h1 => ?_) (fun h1 => ?_)
  · -- pc 13 .if_icmp .ge 46: yes
    exact ⟨na_nl_b0, hR⟩
  · -- pc 13 .if_icmp .ge 46: no
    refine And.intro (fun _ => ?_) (fun hh => absurd hh (by decide))
    exact ⟨na_nl_b0, hR⟩
set_option maxRecDepth 100000 in
set_option maxHeartbeats 4000000 in
theorem l_so1 (sx : Nat × (Nat → Int32)) (P : Nat) (hP8 : P ≤ 8) (r : Nat) (hr : r < 8) (L : Nat) (hL : L ≤ 40) (I : Mm) (hI : I 49 1 = nI L) (T : Bool) (J : Ml) (Rt : Option Value → Mm → Ml → Prop) (hR1 : ∀ g, T = true → Rt (some (.int 1)) (sR g I) J) (hR2 : ∀ g, T = false → Rt (some (.int 0)) (sR g I) J) : ∀ m n f N, n + m = L → Agr P (vN f) N → InvR N → InvP P N → N 0 7 = nI P → rdB P r (fun j => J 50 (40 + j)) m n N = T → GW sx (na_mi MX4_isSo) Rt 5 [some (.ref 43), some (.int 1), some (.int (nI r)), some (.int 1), some (.int (nI n))] [] (sR f I) J := by
  intro m
  induction m with
  | zero =>
    intro n f N hn ha hr0 hi0 hP hw
    obtain rfl : L = n := by omega
    have hz : I 49 1 ≤ nI L := by rw [hI]; exact Int32.le_refl _
    refine GW.run kX4_isSo (fun pc => Nat.beq pc 5) 67 4 rfl ?_
    refine And.intro (by unfold vp_in; decide) ?_
    refine And.intro (fun _ => ?_) (fun hh => absurd hz hh)
    exact ⟨na_nl_b1, hR1 f hw.symm⟩
  | succ m ih =>
    intro n f N hn ha hr0 hi0 hP hw
    have hz : ¬ I 49 1 ≤ nI n := by rw [hI]; exact nI_ge (by omega) (by omega)
    have hix : (40 : Int32) * 1 + nI n = nI (40 + n) := by rw [show (40 : Int32) * 1 = nI 40 by decide, nI_add]
    have hbx : vp_in ((40 : Int32) * 1 + nI n) 160 := by rw [hix]; exact vp_in_nI (by omega) (by omega)
    have hcx : ((40 : Int32) * 1 + nI n).toNatClampNeg = 40 + n := by rw [hix, nI_clamp (by omega)]
    have h10 : ¬ (1 : Int32) = 0 := by decide
    have e1 : f (4 + 4 * r + 0) = N 1 r := ha.2.1 1 r (by decide) (by decide) hr
    have hP3 : f 3 = nI P := (ha.1 7 (by decide) (by decide)).trans hP
    have hpl : (∀ p, p < P → vp_in (f (36 + 5 * p + 1)) 8) := fun p hp => by rw [show f (36 + 5 * p + 1) = N 6 p from ha.2.2 6 p (by decide) (by decide) hp]; exact hi0.pl p hp
    refine GW.run kX4_isSo (fun pc => Nat.beq pc 5) 67 4 rfl ?_
    refine And.intro (by unfold vp_in; decide) ?_
    refine And.intro (fun hh => absurd hh hz) (fun _ => ?_)
    refine And.intro (fun hh => absurd hh h10) (fun _ => ?_)
    refine And.intro (hbx) ?_
    refine Mt.conseq (m_there _ r 0 (by omega) (by decide) _ (by decide) _ _ _) ?_
    rintro _ _ _ ⟨rfl, rfl, rfl⟩
    refine And.intro (fun h2 => ?_) (fun h2 => ?_)
    · -- pc 40 .ifCond .ne 7: yes
      refine Mt.conseq (m_hour _ f P hP3 hP8 hpl _ _) ?_
      rintro _ _ _ ⟨rfl, rfl, rfl⟩
      rw [rdB, if_neg (fun z => h2 ((lg_cmp_eq _ _).mpr (by rw [hcx, e1]; exact z.symm)))] at hw
      exact GW.weak (l_so0_1 sx (hrM P f) _ I J Rt (hR2 _ hw.symm)) ⟨rfl, rfl, rfl, rfl, trivial⟩
    · -- pc 40 .ifCond .ne 7: no
      refine Mt.conseq (m_hour _ f P hP3 hP8 hpl _ _) ?_
      rintro _ _ _ ⟨rfl, rfl, rfl⟩
      rw [rdB, if_pos (show (N 1 r).toInt64 = J 50 (40 + n) from by have z := (lg_cmp_eq _ _).mp h2; rw [hcx, e1] at z; exact z.symm)] at hw
      exact GW.weak (ih (n + 1) (hrM P f) (hrN P N) (by omega) (hrM_ag hP8 ha hr0 hi0) (hrN_inv hP8 hr0 hi0).1 (hrN_inv hP8 hr0 hi0).2 (by rw [hrN_0 (by decide)]; exact hP) hw) ⟨rfl, rfl, rfl, rfl, by rw [nI_1], trivial⟩
set_option maxRecDepth 100000 in
set_option maxHeartbeats 4000000 in
theorem m_so_1 (sx : Nat × (Nat → Int32)) (P : Nat) (hP8 : P ≤ 8) (f : Nat → Int32) (N : Mm) (hN : NOk P N) (ha : Agr P (vN f) N) (r : Nat) (hr : r < 8) (L : Nat) (hL : L ≤ 40) (I : Mm) (hI : I 49 1 = nI L) (J : Ml) {T : Bool} (hT : rdB P r (fun j => J 50 (40 + j)) L 0 N = T) : Mt sx MX4_isSo [.ref 43, .int 1, .int (nI r)] (sR f I) J (fun v I' J' => (∃ g, sR g I = I') ∧ J = J' ∧ ((T = true ∧ v = some (.int 1)) ∨ (T = false ∧ v = some (.int 0)))) := by
  refine Mt.of2 _ rfl (by decide +kernel) (Nat.le_of_ble_eq_true rfl) ?_
  refine GW.run kX4_isSo (fun pc => Nat.beq pc 5) 67 0 rfl ?_
  exact GW.weak (l_so1 sx P hP8 r hr L hL I hI T J _ (fun g hb => ⟨⟨g, rfl⟩, rfl, Or.inl ⟨hb, rfl⟩⟩) (fun g hb => ⟨⟨g, rfl⟩, rfl, Or.inr ⟨hb, rfl⟩⟩) L 0 f N (by omega) ha hN.1 hN.2.1 hN.2.2.1 hT) ⟨rfl, rfl, rfl, rfl, rfl, trivial⟩
set_option maxRecDepth 100000 in
set_option maxHeartbeats 4000000 in
theorem l_rdM1 (sx : Nat × (Nat → Int32)) (f t : Nat → Int32) (ht : E76 t f) (N : Mm) (P : Nat) (hP8 : P ≤ 8) (hN : NOk P N) (ha : Agr P (vN f) N) (r : Nat) (hr : r < 8) (L : Nat) (hL : L ≤ 40) (I : Mm) (hI : I 49 1 = nI L) (J : Ml) (Rt : Option Value → Mm → Ml → Prop) (hR : ∀ g, E76 g f → Rt (some (.int (cnB (rdT P r L (fun j => J 50 (40 + j)) N) 1000))) (sR g (sA 46 t I)) J) : ∀ m n g, n + m = 1000 → E76 g f → GW sx (na_mi MX4_read) Rt 45 [some (.ref 43), some (.int 1), some (.int (nI r)), none, some (.int (cnB (rdT P r L (fun j => J 50 (40 + j)) N) n)), some (.int (nI n))] [] (sR g (sA 46 t I)) J := by
  intro m
  induction m with
  | zero =>
    intro n g hn hg
    obtain rfl : n = 1000 := by omega
    have hz : (1000 : Int32) ≤ nI 1000 := by decide
    refine GW.run kX4_read (fun pc => Nat.beq pc 45) 93 26 rfl ?_
    refine And.intro (fun _ => ?_) (fun hh => absurd hz hh)
    exact ⟨trivial, hR g hg⟩
  | succ m ih =>
    intro n g hn hg
    have hz : ¬ (1000 : Int32) ≤ nI n := nI_ge (a := n) (b := 1000) (by omega) (by omega)
    have hd : nI n / 100 = nI (n / 100) := pk_div (d := 100) (by omega) (by decide) (by decide)
    have hm : nI n - nI n / 100 * 100 = nI (n % 100) := pk_rem (d := 100) (by omega) (by decide) (by decide)
    have hu : (upd (upd g (4 + 4 * r + 3) (mx (nI n / 100))) (4 + 4 * r + 2) (mx (nI n - nI n / 100 * 100))) = upd (upd g (4 + 4 * r + 3) (nI (n / 100))) (4 + 4 * r + 2) (nI (n % 100)) := by rw [hm, hd, mx_nI (by omega), mx_nI (by omega)]
    have hN3 := (hN.r4 (j := r) (rg9 (n := n / 100) (by omega))).r3 (j := r) (rg99 (n := n % 100) (by omega))
    have hga : Agr P (vN (upd (upd g (4 + 4 * r + 3) (mx (nI n / 100))) (4 + 4 * r + 2) (mx (nI n - nI n / 100 * 100)))) (na_set (na_set N 4 r (nI (n / 100))) 3 r (nI (n % 100))) := by
      rw [hu]
      exact agR hP8 (agR hP8 ((hg.agr hP8).trans ha) hr (w := 3) (by decide) _) hr (w := 2) (by decide) _
    refine GW.run kX4_read (fun pc => Nat.beq pc 45) 93 26 rfl ?_
    refine And.intro (fun hh => absurd hh hz) (fun _ => ?_)
    refine And.intro (by decide) ?_
    refine Mt.conseq (m_lies _ (nI n / 100) r 3 (by omega) (by decide) _ (by decide) _ _ _) ?_
    rintro _ _ _ ⟨rfl, rfl, rfl⟩
    refine And.intro (by decide) ?_
    refine Mt.conseq (m_lies _ (nI n - nI n / 100 * 100) r 2 (by omega) (by decide) _ (by decide) _ _ _) ?_
    rintro _ _ _ ⟨rfl, rfl, rfl⟩
    refine Mt.conseq (m_so_1 _ P hP8 (upd (upd g (4 + 4 * r + 3) (mx (nI n / 100))) (4 + 4 * r + 2) (mx (nI n - nI n / 100 * 100))) _ hN3 hga r hr L hL (sA 46 t I) hI J (T := (rdT P r L (fun j => J 50 (40 + j)) N) n) rfl) ?_
    rintro _ _ _ ⟨⟨g1, rfl⟩, rfl, ⟨hw1, rfl⟩ | ⟨hw1, rfl⟩⟩
    · -- pc 80 call X4_isSo true
      refine And.intro (fun hh => absurd hh (by decide)) (fun _ => ?_)
      refine Mt.conseq (m_rs1 _ _ t f ht _ _) ?_
      rintro _ _ _ ⟨⟨g2, rfl, h4⟩, rfl, rfl⟩
      exact GW.weak (ih (n + 1) g2 (by omega) h4) ⟨rfl, rfl, rfl, by rw [cnB, if_pos hw1], by rw [nI_1], trivial⟩
    · -- pc 80 call X4_isSo false
      refine And.intro (fun _ => ?_) (fun hh => absurd hh (by decide))
      refine Mt.conseq (m_rs1 _ _ t f ht _ _) ?_
      rintro _ _ _ ⟨⟨g2, rfl, h5⟩, rfl, rfl⟩
      exact GW.weak (ih (n + 1) g2 (by omega) h5) ⟨rfl, rfl, rfl, by rw [cnB, if_neg (by rw [hw1]; decide), Int32.add_zero], by rw [nI_1], trivial⟩
set_option maxRecDepth 100000 in
set_option maxHeartbeats 4000000 in
theorem l_ga2 (sx : Nat × (Nat → Int32)) (P : Nat) (hP8 : P ≤ 8) (r : Nat) (hr : r < 8) (L : Nat) (hL : L ≤ 40) (I : Mm) (hI : I 38 2 = nI L) (T : Bool) (J : Ml) (Rt : Option Value → Mm → Ml → Prop) (hR1 : ∀ X, T = true → Rt (some (.int 1)) (pN 21 X I) J) (hR2 : ∀ X, T = false → Rt (some (.int 0)) (pN 21 X I) J) : ∀ m n N, n + m = L → N 0 7 = nI P → (∀ p, p < P → vp_in (N 6 p) 8) → rdB P r (J 39) m n N = T → GW sx (na_mi MX0_goesAsTold) Rt 2 [some (.ref 21), some (.int (nI r)), some (.ref 38), some (.int (nI n))] [] (pN 21 N I) J := by
  have hbr : vp_in (nI r) 8 := vp_in_nI (by omega) (by omega)
  have hcr := nI_clamp (n := r) (by omega)
  intro m
  induction m with
  | zero =>
    intro n N hn hP hpl hw
    obtain rfl : L = n := by omega
    have hz : I 38 2 ≤ nI L := by rw [hI]; exact Int32.le_refl _
    refine GW.run kX0_goesAsTold (fun pc => Nat.beq pc 2) 56 2 rfl ?_
    refine And.intro (fun _ => ?_) (fun hh => absurd hz hh)
    exact ⟨na_nl_b1, hR1 N hw.symm⟩
  | succ m ih =>
    intro n N hn hP hpl hw
    have hz : ¬ I 38 2 ≤ nI n := by rw [hI]; exact nI_ge (by omega) (by omega)
    have hb : vp_in (nI n) 40 := vp_in_nI (by omega) (by omega)
    have hc := nI_clamp (n := n) (by omega)
    refine GW.run kX0_goesAsTold (fun pc => Nat.beq pc 2) 56 2 rfl ?_
    refine And.intro (fun hh => absurd hh hz) (fun _ => ?_)
    refine And.intro (hbr) ?_
    refine And.intro (hb) ?_
    refine And.intro (fun h1 => ?_) (fun h1 => ?_)
    · -- pc 24 .ifCond .eq 5: yes
      refine Mt.conseq (c_hr _ 21 (Or.inr rfl) N P hP hP8 hpl _ _) ?_
      rintro _ _ _ ⟨rfl, rfl, rfl⟩
      rw [rdB, if_pos (show (N 1 r).toInt64 = J 39 n from by have z := (lg_cmp_eq _ _).mp h1; rw [hc, hcr] at z; exact z)] at hw
      exact GW.weak (ih (n + 1) (hrN P N) (by omega) (by rw [hrN_0 (by decide)]; exact hP) (by rw [hrN_keep (by decide)]; exact hpl) hw) ⟨rfl, rfl, rfl, by rw [nI_1], trivial⟩
    · -- pc 24 .ifCond .eq 5: no
      rw [rdB, if_neg (fun z => h1 ((lg_cmp_eq _ _).mpr (by rw [hc, hcr]; exact z)))] at hw
      exact ⟨na_nl_b0, hR2 N hw.symm⟩
set_option maxRecDepth 100000 in
set_option maxHeartbeats 4000000 in
theorem c_ga2 (sx : Nat × (Nat → Int32)) (P : Nat) (hP8 : P ≤ 8) (N : Mm) (hP : N 0 7 = nI P) (hpl : (∀ p, p < P → vp_in (N 6 p) 8)) (r : Nat) (hr : r < 8) (L : Nat) (hL : L ≤ 40) (I : Mm) (hI : I 38 2 = nI L) (J : Ml) {T : Bool} (hT : rdB P r (J 39) L 0 N = T) : Mt sx MX0_goesAsTold [.ref 21, .int (nI r), .ref 38] (pN 21 N I) J (fun v I' J' => (∃ X, pN 21 X I = I') ∧ J = J' ∧ ((T = true ∧ v = some (.int 1)) ∨ (T = false ∧ v = some (.int 0)))) := by
  refine Mt.of2 _ rfl (by decide +kernel) (Nat.le_of_ble_eq_true rfl) ?_
  refine GW.run kX0_goesAsTold (fun pc => Nat.beq pc 2) 56 0 rfl ?_
  exact GW.weak (l_ga2 sx P hP8 r hr L hL I hI T J _ (fun X hb => ⟨⟨X, rfl⟩, rfl, Or.inl ⟨hb, rfl⟩⟩) (fun X hb => ⟨⟨X, rfl⟩, rfl, Or.inr ⟨hb, rfl⟩⟩) L 0 N (by omega) hP hpl hT) ⟨rfl, rfl, rfl, rfl, trivial⟩
set_option maxRecDepth 100000 in
set_option maxHeartbeats 4000000 in
theorem l_rdI2 (sx : Nat × (Nat → Int32)) (P : Nat) (hP8 : P ≤ 8) (I : Mm) (hP1 : I 1 7 = nI P) (hN : NOk P (gN 1 I)) (r : Nat) (hr : r < 8) (L : Nat) (hL : L ≤ 40) (hI : I 38 2 = nI L) (t : Nat) (ht : t < 10) (J : Ml) (Rt : Option Value → Mm → Ml → Prop) (hR : ∀ X, GW sx (na_mi MX3_read) Rt 115 [some (.ref 0), some (.int 2), some (.int (nI r)), some (.ref 38), some (.int (cnB (rdT P r L (J 39) (gN 1 I)) (100 * t + 100))), some (.int (nI t)), none, none] [] (pN 21 X I) J) : ∀ m n X, n + m = 100 → GW sx (na_mi MX3_read) Rt 65 [some (.ref 0), some (.int 2), some (.int (nI r)), some (.ref 38), some (.int (cnB (rdT P r L (J 39) (gN 1 I)) (100 * t + n))), some (.int (nI t)), some (.int (nI n)), none] [] (pN 21 X I) J := by
  have hbr : vp_in (nI r) 8 := vp_in_nI (by omega) (by omega)
  have hcr := nI_clamp (n := r) (by omega)
  intro m
  induction m with
  | zero =>
    intro n X hn 
    obtain rfl : n = 100 := by omega
    have hz : (99 : Int32) < nI 100 := by decide
    refine GW.run kX3_read (fun pc => Nat.beq pc 65 || Nat.beq pc 115) 93 35 rfl ?_
    refine And.intro (fun _ => ?_) (fun hh => absurd hz hh)
    exact GW.weak (hR X) ⟨rfl, rfl, rfl, rfl, rfl, rfl, trivial⟩
  | succ m ih =>
    intro n X hn 
    have hz : ¬ (99 : Int32) < nI n := nI_nlt (a := 99) (b := n) (by omega) (by omega)
    refine GW.run kX3_read (fun pc => Nat.beq pc 65 || Nat.beq pc 115) 93 35 rfl ?_
    refine And.intro (fun hh => absurd hh hz) (fun _ => ?_)
    refine Mt.conseq (c_sah2 _ P hP8 I hP1 _ _) ?_
    rintro _ _ _ ⟨⟨M, rfl, h1⟩, rfl, rfl⟩
    have hM2 := Agr.set (Agr.set h1 4 r (nI t)) 3 r (nI n)
    have hN3 := (hN.r4 (j := r) (rg9 (n := t) (by omega))).r3 (j := r) (rg99 (n := n) (by omega))
    have hok := Agr.ok hM2 hN3
    have ev : rdB P r (J 39) L 0 (na_set (na_set M 4 r (nI t)) 3 r (nI n)) = (rdT P r L (J 39) (gN 1 I)) (100 * t + n) := by
      rw [rdT, show (100 * t + n) / 100 = t by omega, show (100 * t + n) % 100 = n by omega]
      exact rdB_c hr L 0 hM2 hN3.2.1.pl (fun _ _ _ => rfl)
    refine And.intro (hbr) ?_
    refine And.intro (hbr) ?_
    refine Mt.conseq ((by have h := c_ga2 sx P hP8 (na_set (na_set M 4 r (nI t)) 3 r (nI n)) hok.1 hok.2 r hr L hL I hI J ev; rw [← pN_set (pl := 24) (by decide) rfl, ← pN_set (pl := 25) (by decide) rfl] at h; rw [hcr]; exact h)) ?_
    rintro _ _ _ ⟨⟨X2, rfl⟩, rfl, ⟨hw1, rfl⟩ | ⟨hw1, rfl⟩⟩
    · -- pc 100 call X0_goesAsTold true
      refine And.intro (fun hh => absurd hh (by decide)) (fun _ => ?_)
      exact GW.weak (ih (n + 1) X2 (by omega)) ⟨rfl, rfl, rfl, rfl, by rw [show 100 * t + (n + 1) = 100 * t + n + 1 by omega, cnB, if_pos hw1], rfl, by rw [nI_1], trivial⟩
    · -- pc 100 call X0_goesAsTold false
      refine And.intro (fun _ => ?_) (fun hh => absurd hh (by decide))
      exact GW.weak (ih (n + 1) X2 (by omega)) ⟨rfl, rfl, rfl, rfl, by rw [show 100 * t + (n + 1) = 100 * t + n + 1 by omega, cnB, if_neg (by rw [hw1]; decide)], rfl, by rw [nI_1], trivial⟩
set_option maxRecDepth 100000 in
set_option maxHeartbeats 4000000 in
theorem l_rdO2 (sx : Nat × (Nat → Int32)) (P : Nat) (hP8 : P ≤ 8) (I : Mm) (hP1 : I 1 7 = nI P) (hN : NOk P (gN 1 I)) (r : Nat) (hr : r < 8) (L : Nat) (hL : L ≤ 40) (hI : I 38 2 = nI L) (J : Ml) (Rt : Option Value → Mm → Ml → Prop) (hR : ∀ X, Rt (some (.int (cnB (rdT P r L (J 39) (gN 1 I)) 1000))) (pN 21 X I) J) : ∀ m n X, n + m = 10 → GW sx (na_mi MX3_read) Rt 55 [some (.ref 0), some (.int 2), some (.int (nI r)), some (.ref 38), some (.int (cnB (rdT P r L (J 39) (gN 1 I)) (100 * n))), some (.int (nI n)), none, none] [] (pN 21 X I) J := by
  intro m
  induction m with
  | zero =>
    intro n X hn 
    obtain rfl : n = 10 := by omega
    have hz : (9 : Int32) < nI 10 := by decide
    refine GW.run kX3_read (fun pc => Nat.beq pc 55 || Nat.beq pc 65) 93 30 rfl ?_
    refine And.intro (fun _ => ?_) (fun hh => absurd hz hh)
    exact ⟨trivial, hR X⟩
  | succ m ih =>
    intro n X hn 
    have hz : ¬ (9 : Int32) < nI n := nI_nlt (a := 9) (b := n) (by omega) (by omega)
    refine GW.run kX3_read (fun pc => Nat.beq pc 55 || Nat.beq pc 65) 93 30 rfl ?_
    refine And.intro (fun hh => absurd hh hz) (fun _ => ?_)
    refine GW.weak (l_rdI2 sx P hP8 I hP1 hN r hr L hL hI n (by omega) J Rt (fun X => ?_) 100 0 X rfl) ⟨rfl, rfl, rfl, rfl, rfl, rfl, rfl, trivial⟩
    refine GW.run kX3_read (fun pc => Nat.beq pc 55) 93 59 rfl ?_
    exact GW.weak (ih (n + 1) X (by omega)) ⟨rfl, rfl, rfl, rfl, by rw [show 100 * (n + 1) = 100 * n + 100 by omega], by rw [nI_1], trivial⟩
set_option maxRecDepth 100000 in
set_option maxHeartbeats 4000000 in
theorem l_so0_2 (sx : Nat × (Nat → Int32)) (f : Nat → Int32) (x : Int32) (I : Mm) (J : Ml) (Rt : Option Value → Mm → Ml → Prop) (hR : Rt (some (.int 0)) (sR f I) J) : GW sx (na_mi MX4_isSo) Rt 5 [some (.ref 43), some (.int 2), none, some (.int 0), some (.int x)] [] (sR f I) J := by
  refine GW.run kX4_isSo (fun _ => false) 67 4 rfl ?_
  refine And.intro (by unfold vp_in; decide) ?_
  refine And.intro (fun h1 => ?_) (fun h1 => ?_)
  · -- pc 13 .if_icmp .ge 46: yes
    exact ⟨na_nl_b0, hR⟩
  · -- pc 13 .if_icmp .ge 46: no
    refine And.intro (fun _ => ?_) (fun hh => absurd hh (by decide))
    exact ⟨na_nl_b0, hR⟩
set_option maxRecDepth 100000 in
set_option maxHeartbeats 4000000 in
theorem l_so2 (sx : Nat × (Nat → Int32)) (P : Nat) (hP8 : P ≤ 8) (r : Nat) (hr : r < 8) (L : Nat) (hL : L ≤ 40) (I : Mm) (hI : I 49 2 = nI L) (T : Bool) (J : Ml) (Rt : Option Value → Mm → Ml → Prop) (hR1 : ∀ g, T = true → Rt (some (.int 1)) (sR g I) J) (hR2 : ∀ g, T = false → Rt (some (.int 0)) (sR g I) J) : ∀ m n f N, n + m = L → Agr P (vN f) N → InvR N → InvP P N → N 0 7 = nI P → rdB P r (fun j => J 50 (80 + j)) m n N = T → GW sx (na_mi MX4_isSo) Rt 5 [some (.ref 43), some (.int 2), some (.int (nI r)), some (.int 1), some (.int (nI n))] [] (sR f I) J := by
  intro m
  induction m with
  | zero =>
    intro n f N hn ha hr0 hi0 hP hw
    obtain rfl : L = n := by omega
    have hz : I 49 2 ≤ nI L := by rw [hI]; exact Int32.le_refl _
    refine GW.run kX4_isSo (fun pc => Nat.beq pc 5) 67 4 rfl ?_
    refine And.intro (by unfold vp_in; decide) ?_
    refine And.intro (fun _ => ?_) (fun hh => absurd hz hh)
    exact ⟨na_nl_b1, hR1 f hw.symm⟩
  | succ m ih =>
    intro n f N hn ha hr0 hi0 hP hw
    have hz : ¬ I 49 2 ≤ nI n := by rw [hI]; exact nI_ge (by omega) (by omega)
    have hix : (40 : Int32) * 2 + nI n = nI (80 + n) := by rw [show (40 : Int32) * 2 = nI 80 by decide, nI_add]
    have hbx : vp_in ((40 : Int32) * 2 + nI n) 160 := by rw [hix]; exact vp_in_nI (by omega) (by omega)
    have hcx : ((40 : Int32) * 2 + nI n).toNatClampNeg = 80 + n := by rw [hix, nI_clamp (by omega)]
    have h10 : ¬ (1 : Int32) = 0 := by decide
    have e1 : f (4 + 4 * r + 0) = N 1 r := ha.2.1 1 r (by decide) (by decide) hr
    have hP3 : f 3 = nI P := (ha.1 7 (by decide) (by decide)).trans hP
    have hpl : (∀ p, p < P → vp_in (f (36 + 5 * p + 1)) 8) := fun p hp => by rw [show f (36 + 5 * p + 1) = N 6 p from ha.2.2 6 p (by decide) (by decide) hp]; exact hi0.pl p hp
    refine GW.run kX4_isSo (fun pc => Nat.beq pc 5) 67 4 rfl ?_
    refine And.intro (by unfold vp_in; decide) ?_
    refine And.intro (fun hh => absurd hh hz) (fun _ => ?_)
    refine And.intro (fun hh => absurd hh h10) (fun _ => ?_)
    refine And.intro (hbx) ?_
    refine Mt.conseq (m_there _ r 0 (by omega) (by decide) _ (by decide) _ _ _) ?_
    rintro _ _ _ ⟨rfl, rfl, rfl⟩
    refine And.intro (fun h2 => ?_) (fun h2 => ?_)
    · -- pc 40 .ifCond .ne 7: yes
      refine Mt.conseq (m_hour _ f P hP3 hP8 hpl _ _) ?_
      rintro _ _ _ ⟨rfl, rfl, rfl⟩
      rw [rdB, if_neg (fun z => h2 ((lg_cmp_eq _ _).mpr (by rw [hcx, e1]; exact z.symm)))] at hw
      exact GW.weak (l_so0_2 sx (hrM P f) _ I J Rt (hR2 _ hw.symm)) ⟨rfl, rfl, rfl, rfl, trivial⟩
    · -- pc 40 .ifCond .ne 7: no
      refine Mt.conseq (m_hour _ f P hP3 hP8 hpl _ _) ?_
      rintro _ _ _ ⟨rfl, rfl, rfl⟩
      rw [rdB, if_pos (show (N 1 r).toInt64 = J 50 (80 + n) from by have z := (lg_cmp_eq _ _).mp h2; rw [hcx, e1] at z; exact z.symm)] at hw
      exact GW.weak (ih (n + 1) (hrM P f) (hrN P N) (by omega) (hrM_ag hP8 ha hr0 hi0) (hrN_inv hP8 hr0 hi0).1 (hrN_inv hP8 hr0 hi0).2 (by rw [hrN_0 (by decide)]; exact hP) hw) ⟨rfl, rfl, rfl, rfl, by rw [nI_1], trivial⟩
set_option maxRecDepth 100000 in
set_option maxHeartbeats 4000000 in
theorem m_so_2 (sx : Nat × (Nat → Int32)) (P : Nat) (hP8 : P ≤ 8) (f : Nat → Int32) (N : Mm) (hN : NOk P N) (ha : Agr P (vN f) N) (r : Nat) (hr : r < 8) (L : Nat) (hL : L ≤ 40) (I : Mm) (hI : I 49 2 = nI L) (J : Ml) {T : Bool} (hT : rdB P r (fun j => J 50 (80 + j)) L 0 N = T) : Mt sx MX4_isSo [.ref 43, .int 2, .int (nI r)] (sR f I) J (fun v I' J' => (∃ g, sR g I = I') ∧ J = J' ∧ ((T = true ∧ v = some (.int 1)) ∨ (T = false ∧ v = some (.int 0)))) := by
  refine Mt.of2 _ rfl (by decide +kernel) (Nat.le_of_ble_eq_true rfl) ?_
  refine GW.run kX4_isSo (fun pc => Nat.beq pc 5) 67 0 rfl ?_
  exact GW.weak (l_so2 sx P hP8 r hr L hL I hI T J _ (fun g hb => ⟨⟨g, rfl⟩, rfl, Or.inl ⟨hb, rfl⟩⟩) (fun g hb => ⟨⟨g, rfl⟩, rfl, Or.inr ⟨hb, rfl⟩⟩) L 0 f N (by omega) ha hN.1 hN.2.1 hN.2.2.1 hT) ⟨rfl, rfl, rfl, rfl, rfl, trivial⟩
set_option maxRecDepth 100000 in
set_option maxHeartbeats 4000000 in
theorem l_rdM2 (sx : Nat × (Nat → Int32)) (f t : Nat → Int32) (ht : E76 t f) (N : Mm) (P : Nat) (hP8 : P ≤ 8) (hN : NOk P N) (ha : Agr P (vN f) N) (r : Nat) (hr : r < 8) (L : Nat) (hL : L ≤ 40) (I : Mm) (hI : I 49 2 = nI L) (J : Ml) (Rt : Option Value → Mm → Ml → Prop) (hR : ∀ g, E76 g f → Rt (some (.int (cnB (rdT P r L (fun j => J 50 (80 + j)) N) 1000))) (sR g (sA 46 t I)) J) : ∀ m n g, n + m = 1000 → E76 g f → GW sx (na_mi MX4_read) Rt 45 [some (.ref 43), some (.int 2), some (.int (nI r)), none, some (.int (cnB (rdT P r L (fun j => J 50 (80 + j)) N) n)), some (.int (nI n))] [] (sR g (sA 46 t I)) J := by
  intro m
  induction m with
  | zero =>
    intro n g hn hg
    obtain rfl : n = 1000 := by omega
    have hz : (1000 : Int32) ≤ nI 1000 := by decide
    refine GW.run kX4_read (fun pc => Nat.beq pc 45) 93 26 rfl ?_
    refine And.intro (fun _ => ?_) (fun hh => absurd hz hh)
    exact ⟨trivial, hR g hg⟩
  | succ m ih =>
    intro n g hn hg
    have hz : ¬ (1000 : Int32) ≤ nI n := nI_ge (a := n) (b := 1000) (by omega) (by omega)
    have hd : nI n / 100 = nI (n / 100) := pk_div (d := 100) (by omega) (by decide) (by decide)
    have hm : nI n - nI n / 100 * 100 = nI (n % 100) := pk_rem (d := 100) (by omega) (by decide) (by decide)
    have hu : (upd (upd g (4 + 4 * r + 3) (mx (nI n / 100))) (4 + 4 * r + 2) (mx (nI n - nI n / 100 * 100))) = upd (upd g (4 + 4 * r + 3) (nI (n / 100))) (4 + 4 * r + 2) (nI (n % 100)) := by rw [hm, hd, mx_nI (by omega), mx_nI (by omega)]
    have hN3 := (hN.r4 (j := r) (rg9 (n := n / 100) (by omega))).r3 (j := r) (rg99 (n := n % 100) (by omega))
    have hga : Agr P (vN (upd (upd g (4 + 4 * r + 3) (mx (nI n / 100))) (4 + 4 * r + 2) (mx (nI n - nI n / 100 * 100)))) (na_set (na_set N 4 r (nI (n / 100))) 3 r (nI (n % 100))) := by
      rw [hu]
      exact agR hP8 (agR hP8 ((hg.agr hP8).trans ha) hr (w := 3) (by decide) _) hr (w := 2) (by decide) _
    refine GW.run kX4_read (fun pc => Nat.beq pc 45) 93 26 rfl ?_
    refine And.intro (fun hh => absurd hh hz) (fun _ => ?_)
    refine And.intro (by decide) ?_
    refine Mt.conseq (m_lies _ (nI n / 100) r 3 (by omega) (by decide) _ (by decide) _ _ _) ?_
    rintro _ _ _ ⟨rfl, rfl, rfl⟩
    refine And.intro (by decide) ?_
    refine Mt.conseq (m_lies _ (nI n - nI n / 100 * 100) r 2 (by omega) (by decide) _ (by decide) _ _ _) ?_
    rintro _ _ _ ⟨rfl, rfl, rfl⟩
    refine Mt.conseq (m_so_2 _ P hP8 (upd (upd g (4 + 4 * r + 3) (mx (nI n / 100))) (4 + 4 * r + 2) (mx (nI n - nI n / 100 * 100))) _ hN3 hga r hr L hL (sA 46 t I) hI J (T := (rdT P r L (fun j => J 50 (80 + j)) N) n) rfl) ?_
    rintro _ _ _ ⟨⟨g1, rfl⟩, rfl, ⟨hw1, rfl⟩ | ⟨hw1, rfl⟩⟩
    · -- pc 80 call X4_isSo true
      refine And.intro (fun hh => absurd hh (by decide)) (fun _ => ?_)
      refine Mt.conseq (m_rs1 _ _ t f ht _ _) ?_
      rintro _ _ _ ⟨⟨g2, rfl, h4⟩, rfl, rfl⟩
      exact GW.weak (ih (n + 1) g2 (by omega) h4) ⟨rfl, rfl, rfl, by rw [cnB, if_pos hw1], by rw [nI_1], trivial⟩
    · -- pc 80 call X4_isSo false
      refine And.intro (fun _ => ?_) (fun hh => absurd hh (by decide))
      refine Mt.conseq (m_rs1 _ _ t f ht _ _) ?_
      rintro _ _ _ ⟨⟨g2, rfl, h5⟩, rfl, rfl⟩
      exact GW.weak (ih (n + 1) g2 (by omega) h5) ⟨rfl, rfl, rfl, by rw [cnB, if_neg (by rw [hw1]; decide), Int32.add_zero], by rw [nI_1], trivial⟩
set_option maxRecDepth 100000 in
set_option maxHeartbeats 4000000 in
theorem l_ga3 (sx : Nat × (Nat → Int32)) (P : Nat) (hP8 : P ≤ 8) (r : Nat) (hr : r < 8) (L : Nat) (hL : L ≤ 40) (I : Mm) (hI : I 40 2 = nI L) (T : Bool) (J : Ml) (Rt : Option Value → Mm → Ml → Prop) (hR1 : ∀ X, T = true → Rt (some (.int 1)) (pN 21 X I) J) (hR2 : ∀ X, T = false → Rt (some (.int 0)) (pN 21 X I) J) : ∀ m n N, n + m = L → N 0 7 = nI P → (∀ p, p < P → vp_in (N 6 p) 8) → rdB P r (J 41) m n N = T → GW sx (na_mi MX0_goesAsTold) Rt 2 [some (.ref 21), some (.int (nI r)), some (.ref 40), some (.int (nI n))] [] (pN 21 N I) J := by
  have hbr : vp_in (nI r) 8 := vp_in_nI (by omega) (by omega)
  have hcr := nI_clamp (n := r) (by omega)
  intro m
  induction m with
  | zero =>
    intro n N hn hP hpl hw
    obtain rfl : L = n := by omega
    have hz : I 40 2 ≤ nI L := by rw [hI]; exact Int32.le_refl _
    refine GW.run kX0_goesAsTold (fun pc => Nat.beq pc 2) 56 2 rfl ?_
    refine And.intro (fun _ => ?_) (fun hh => absurd hz hh)
    exact ⟨na_nl_b1, hR1 N hw.symm⟩
  | succ m ih =>
    intro n N hn hP hpl hw
    have hz : ¬ I 40 2 ≤ nI n := by rw [hI]; exact nI_ge (by omega) (by omega)
    have hb : vp_in (nI n) 40 := vp_in_nI (by omega) (by omega)
    have hc := nI_clamp (n := n) (by omega)
    refine GW.run kX0_goesAsTold (fun pc => Nat.beq pc 2) 56 2 rfl ?_
    refine And.intro (fun hh => absurd hh hz) (fun _ => ?_)
    refine And.intro (hbr) ?_
    refine And.intro (hb) ?_
    refine And.intro (fun h1 => ?_) (fun h1 => ?_)
    · -- pc 24 .ifCond .eq 5: yes
      refine Mt.conseq (c_hr _ 21 (Or.inr rfl) N P hP hP8 hpl _ _) ?_
      rintro _ _ _ ⟨rfl, rfl, rfl⟩
      rw [rdB, if_pos (show (N 1 r).toInt64 = J 41 n from by have z := (lg_cmp_eq _ _).mp h1; rw [hc, hcr] at z; exact z)] at hw
      exact GW.weak (ih (n + 1) (hrN P N) (by omega) (by rw [hrN_0 (by decide)]; exact hP) (by rw [hrN_keep (by decide)]; exact hpl) hw) ⟨rfl, rfl, rfl, by rw [nI_1], trivial⟩
    · -- pc 24 .ifCond .eq 5: no
      rw [rdB, if_neg (fun z => h1 ((lg_cmp_eq _ _).mpr (by rw [hc, hcr]; exact z)))] at hw
      exact ⟨na_nl_b0, hR2 N hw.symm⟩
set_option maxRecDepth 100000 in
set_option maxHeartbeats 4000000 in
theorem c_ga3 (sx : Nat × (Nat → Int32)) (P : Nat) (hP8 : P ≤ 8) (N : Mm) (hP : N 0 7 = nI P) (hpl : (∀ p, p < P → vp_in (N 6 p) 8)) (r : Nat) (hr : r < 8) (L : Nat) (hL : L ≤ 40) (I : Mm) (hI : I 40 2 = nI L) (J : Ml) {T : Bool} (hT : rdB P r (J 41) L 0 N = T) : Mt sx MX0_goesAsTold [.ref 21, .int (nI r), .ref 40] (pN 21 N I) J (fun v I' J' => (∃ X, pN 21 X I = I') ∧ J = J' ∧ ((T = true ∧ v = some (.int 1)) ∨ (T = false ∧ v = some (.int 0)))) := by
  refine Mt.of2 _ rfl (by decide +kernel) (Nat.le_of_ble_eq_true rfl) ?_
  refine GW.run kX0_goesAsTold (fun pc => Nat.beq pc 2) 56 0 rfl ?_
  exact GW.weak (l_ga3 sx P hP8 r hr L hL I hI T J _ (fun X hb => ⟨⟨X, rfl⟩, rfl, Or.inl ⟨hb, rfl⟩⟩) (fun X hb => ⟨⟨X, rfl⟩, rfl, Or.inr ⟨hb, rfl⟩⟩) L 0 N (by omega) hP hpl hT) ⟨rfl, rfl, rfl, rfl, trivial⟩
set_option maxRecDepth 100000 in
set_option maxHeartbeats 4000000 in
theorem l_rdI3 (sx : Nat × (Nat → Int32)) (P : Nat) (hP8 : P ≤ 8) (I : Mm) (hP1 : I 1 7 = nI P) (hN : NOk P (gN 1 I)) (r : Nat) (hr : r < 8) (L : Nat) (hL : L ≤ 40) (hI : I 40 2 = nI L) (t : Nat) (ht : t < 10) (J : Ml) (Rt : Option Value → Mm → Ml → Prop) (hR : ∀ X, GW sx (na_mi MX3_read) Rt 115 [some (.ref 0), some (.int 3), some (.int (nI r)), some (.ref 40), some (.int (cnB (rdT P r L (J 41) (gN 1 I)) (100 * t + 100))), some (.int (nI t)), none, none] [] (pN 21 X I) J) : ∀ m n X, n + m = 100 → GW sx (na_mi MX3_read) Rt 65 [some (.ref 0), some (.int 3), some (.int (nI r)), some (.ref 40), some (.int (cnB (rdT P r L (J 41) (gN 1 I)) (100 * t + n))), some (.int (nI t)), some (.int (nI n)), none] [] (pN 21 X I) J := by
  have hbr : vp_in (nI r) 8 := vp_in_nI (by omega) (by omega)
  have hcr := nI_clamp (n := r) (by omega)
  intro m
  induction m with
  | zero =>
    intro n X hn 
    obtain rfl : n = 100 := by omega
    have hz : (99 : Int32) < nI 100 := by decide
    refine GW.run kX3_read (fun pc => Nat.beq pc 65 || Nat.beq pc 115) 93 35 rfl ?_
    refine And.intro (fun _ => ?_) (fun hh => absurd hz hh)
    exact GW.weak (hR X) ⟨rfl, rfl, rfl, rfl, rfl, rfl, trivial⟩
  | succ m ih =>
    intro n X hn 
    have hz : ¬ (99 : Int32) < nI n := nI_nlt (a := 99) (b := n) (by omega) (by omega)
    refine GW.run kX3_read (fun pc => Nat.beq pc 65 || Nat.beq pc 115) 93 35 rfl ?_
    refine And.intro (fun hh => absurd hh hz) (fun _ => ?_)
    refine Mt.conseq (c_sah2 _ P hP8 I hP1 _ _) ?_
    rintro _ _ _ ⟨⟨M, rfl, h1⟩, rfl, rfl⟩
    have hM2 := Agr.set (Agr.set h1 4 r (nI t)) 3 r (nI n)
    have hN3 := (hN.r4 (j := r) (rg9 (n := t) (by omega))).r3 (j := r) (rg99 (n := n) (by omega))
    have hok := Agr.ok hM2 hN3
    have ev : rdB P r (J 41) L 0 (na_set (na_set M 4 r (nI t)) 3 r (nI n)) = (rdT P r L (J 41) (gN 1 I)) (100 * t + n) := by
      rw [rdT, show (100 * t + n) / 100 = t by omega, show (100 * t + n) % 100 = n by omega]
      exact rdB_c hr L 0 hM2 hN3.2.1.pl (fun _ _ _ => rfl)
    refine And.intro (hbr) ?_
    refine And.intro (hbr) ?_
    refine Mt.conseq ((by have h := c_ga3 sx P hP8 (na_set (na_set M 4 r (nI t)) 3 r (nI n)) hok.1 hok.2 r hr L hL I hI J ev; rw [← pN_set (pl := 24) (by decide) rfl, ← pN_set (pl := 25) (by decide) rfl] at h; rw [hcr]; exact h)) ?_
    rintro _ _ _ ⟨⟨X2, rfl⟩, rfl, ⟨hw1, rfl⟩ | ⟨hw1, rfl⟩⟩
    · -- pc 100 call X0_goesAsTold true
      refine And.intro (fun hh => absurd hh (by decide)) (fun _ => ?_)
      exact GW.weak (ih (n + 1) X2 (by omega)) ⟨rfl, rfl, rfl, rfl, by rw [show 100 * t + (n + 1) = 100 * t + n + 1 by omega, cnB, if_pos hw1], rfl, by rw [nI_1], trivial⟩
    · -- pc 100 call X0_goesAsTold false
      refine And.intro (fun _ => ?_) (fun hh => absurd hh (by decide))
      exact GW.weak (ih (n + 1) X2 (by omega)) ⟨rfl, rfl, rfl, rfl, by rw [show 100 * t + (n + 1) = 100 * t + n + 1 by omega, cnB, if_neg (by rw [hw1]; decide)], rfl, by rw [nI_1], trivial⟩
set_option maxRecDepth 100000 in
set_option maxHeartbeats 4000000 in
theorem l_rdO3 (sx : Nat × (Nat → Int32)) (P : Nat) (hP8 : P ≤ 8) (I : Mm) (hP1 : I 1 7 = nI P) (hN : NOk P (gN 1 I)) (r : Nat) (hr : r < 8) (L : Nat) (hL : L ≤ 40) (hI : I 40 2 = nI L) (J : Ml) (Rt : Option Value → Mm → Ml → Prop) (hR : ∀ X, Rt (some (.int (cnB (rdT P r L (J 41) (gN 1 I)) 1000))) (pN 21 X I) J) : ∀ m n X, n + m = 10 → GW sx (na_mi MX3_read) Rt 55 [some (.ref 0), some (.int 3), some (.int (nI r)), some (.ref 40), some (.int (cnB (rdT P r L (J 41) (gN 1 I)) (100 * n))), some (.int (nI n)), none, none] [] (pN 21 X I) J := by
  intro m
  induction m with
  | zero =>
    intro n X hn 
    obtain rfl : n = 10 := by omega
    have hz : (9 : Int32) < nI 10 := by decide
    refine GW.run kX3_read (fun pc => Nat.beq pc 55 || Nat.beq pc 65) 93 30 rfl ?_
    refine And.intro (fun _ => ?_) (fun hh => absurd hz hh)
    exact ⟨trivial, hR X⟩
  | succ m ih =>
    intro n X hn 
    have hz : ¬ (9 : Int32) < nI n := nI_nlt (a := 9) (b := n) (by omega) (by omega)
    refine GW.run kX3_read (fun pc => Nat.beq pc 55 || Nat.beq pc 65) 93 30 rfl ?_
    refine And.intro (fun hh => absurd hh hz) (fun _ => ?_)
    refine GW.weak (l_rdI3 sx P hP8 I hP1 hN r hr L hL hI n (by omega) J Rt (fun X => ?_) 100 0 X rfl) ⟨rfl, rfl, rfl, rfl, rfl, rfl, rfl, trivial⟩
    refine GW.run kX3_read (fun pc => Nat.beq pc 55) 93 59 rfl ?_
    exact GW.weak (ih (n + 1) X (by omega)) ⟨rfl, rfl, rfl, rfl, by rw [show 100 * (n + 1) = 100 * n + 100 by omega], by rw [nI_1], trivial⟩
set_option maxRecDepth 100000 in
set_option maxHeartbeats 4000000 in
theorem l_so0_3 (sx : Nat × (Nat → Int32)) (f : Nat → Int32) (x : Int32) (I : Mm) (J : Ml) (Rt : Option Value → Mm → Ml → Prop) (hR : Rt (some (.int 0)) (sR f I) J) : GW sx (na_mi MX4_isSo) Rt 5 [some (.ref 43), some (.int 3), none, some (.int 0), some (.int x)] [] (sR f I) J := by
  refine GW.run kX4_isSo (fun _ => false) 67 4 rfl ?_
  refine And.intro (by unfold vp_in; decide) ?_
  refine And.intro (fun h1 => ?_) (fun h1 => ?_)
  · -- pc 13 .if_icmp .ge 46: yes
    exact ⟨na_nl_b0, hR⟩
  · -- pc 13 .if_icmp .ge 46: no
    refine And.intro (fun _ => ?_) (fun hh => absurd hh (by decide))
    exact ⟨na_nl_b0, hR⟩
set_option maxRecDepth 100000 in
set_option maxHeartbeats 4000000 in
theorem l_so3 (sx : Nat × (Nat → Int32)) (P : Nat) (hP8 : P ≤ 8) (r : Nat) (hr : r < 8) (L : Nat) (hL : L ≤ 40) (I : Mm) (hI : I 49 3 = nI L) (T : Bool) (J : Ml) (Rt : Option Value → Mm → Ml → Prop) (hR1 : ∀ g, T = true → Rt (some (.int 1)) (sR g I) J) (hR2 : ∀ g, T = false → Rt (some (.int 0)) (sR g I) J) : ∀ m n f N, n + m = L → Agr P (vN f) N → InvR N → InvP P N → N 0 7 = nI P → rdB P r (fun j => J 50 (120 + j)) m n N = T → GW sx (na_mi MX4_isSo) Rt 5 [some (.ref 43), some (.int 3), some (.int (nI r)), some (.int 1), some (.int (nI n))] [] (sR f I) J := by
  intro m
  induction m with
  | zero =>
    intro n f N hn ha hr0 hi0 hP hw
    obtain rfl : L = n := by omega
    have hz : I 49 3 ≤ nI L := by rw [hI]; exact Int32.le_refl _
    refine GW.run kX4_isSo (fun pc => Nat.beq pc 5) 67 4 rfl ?_
    refine And.intro (by unfold vp_in; decide) ?_
    refine And.intro (fun _ => ?_) (fun hh => absurd hz hh)
    exact ⟨na_nl_b1, hR1 f hw.symm⟩
  | succ m ih =>
    intro n f N hn ha hr0 hi0 hP hw
    have hz : ¬ I 49 3 ≤ nI n := by rw [hI]; exact nI_ge (by omega) (by omega)
    have hix : (40 : Int32) * 3 + nI n = nI (120 + n) := by rw [show (40 : Int32) * 3 = nI 120 by decide, nI_add]
    have hbx : vp_in ((40 : Int32) * 3 + nI n) 160 := by rw [hix]; exact vp_in_nI (by omega) (by omega)
    have hcx : ((40 : Int32) * 3 + nI n).toNatClampNeg = 120 + n := by rw [hix, nI_clamp (by omega)]
    have h10 : ¬ (1 : Int32) = 0 := by decide
    have e1 : f (4 + 4 * r + 0) = N 1 r := ha.2.1 1 r (by decide) (by decide) hr
    have hP3 : f 3 = nI P := (ha.1 7 (by decide) (by decide)).trans hP
    have hpl : (∀ p, p < P → vp_in (f (36 + 5 * p + 1)) 8) := fun p hp => by rw [show f (36 + 5 * p + 1) = N 6 p from ha.2.2 6 p (by decide) (by decide) hp]; exact hi0.pl p hp
    refine GW.run kX4_isSo (fun pc => Nat.beq pc 5) 67 4 rfl ?_
    refine And.intro (by unfold vp_in; decide) ?_
    refine And.intro (fun hh => absurd hh hz) (fun _ => ?_)
    refine And.intro (fun hh => absurd hh h10) (fun _ => ?_)
    refine And.intro (hbx) ?_
    refine Mt.conseq (m_there _ r 0 (by omega) (by decide) _ (by decide) _ _ _) ?_
    rintro _ _ _ ⟨rfl, rfl, rfl⟩
    refine And.intro (fun h2 => ?_) (fun h2 => ?_)
    · -- pc 40 .ifCond .ne 7: yes
      refine Mt.conseq (m_hour _ f P hP3 hP8 hpl _ _) ?_
      rintro _ _ _ ⟨rfl, rfl, rfl⟩
      rw [rdB, if_neg (fun z => h2 ((lg_cmp_eq _ _).mpr (by rw [hcx, e1]; exact z.symm)))] at hw
      exact GW.weak (l_so0_3 sx (hrM P f) _ I J Rt (hR2 _ hw.symm)) ⟨rfl, rfl, rfl, rfl, trivial⟩
    · -- pc 40 .ifCond .ne 7: no
      refine Mt.conseq (m_hour _ f P hP3 hP8 hpl _ _) ?_
      rintro _ _ _ ⟨rfl, rfl, rfl⟩
      rw [rdB, if_pos (show (N 1 r).toInt64 = J 50 (120 + n) from by have z := (lg_cmp_eq _ _).mp h2; rw [hcx, e1] at z; exact z.symm)] at hw
      exact GW.weak (ih (n + 1) (hrM P f) (hrN P N) (by omega) (hrM_ag hP8 ha hr0 hi0) (hrN_inv hP8 hr0 hi0).1 (hrN_inv hP8 hr0 hi0).2 (by rw [hrN_0 (by decide)]; exact hP) hw) ⟨rfl, rfl, rfl, rfl, by rw [nI_1], trivial⟩
set_option maxRecDepth 100000 in
set_option maxHeartbeats 4000000 in
theorem m_so_3 (sx : Nat × (Nat → Int32)) (P : Nat) (hP8 : P ≤ 8) (f : Nat → Int32) (N : Mm) (hN : NOk P N) (ha : Agr P (vN f) N) (r : Nat) (hr : r < 8) (L : Nat) (hL : L ≤ 40) (I : Mm) (hI : I 49 3 = nI L) (J : Ml) {T : Bool} (hT : rdB P r (fun j => J 50 (120 + j)) L 0 N = T) : Mt sx MX4_isSo [.ref 43, .int 3, .int (nI r)] (sR f I) J (fun v I' J' => (∃ g, sR g I = I') ∧ J = J' ∧ ((T = true ∧ v = some (.int 1)) ∨ (T = false ∧ v = some (.int 0)))) := by
  refine Mt.of2 _ rfl (by decide +kernel) (Nat.le_of_ble_eq_true rfl) ?_
  refine GW.run kX4_isSo (fun pc => Nat.beq pc 5) 67 0 rfl ?_
  exact GW.weak (l_so3 sx P hP8 r hr L hL I hI T J _ (fun g hb => ⟨⟨g, rfl⟩, rfl, Or.inl ⟨hb, rfl⟩⟩) (fun g hb => ⟨⟨g, rfl⟩, rfl, Or.inr ⟨hb, rfl⟩⟩) L 0 f N (by omega) ha hN.1 hN.2.1 hN.2.2.1 hT) ⟨rfl, rfl, rfl, rfl, rfl, trivial⟩
set_option maxRecDepth 100000 in
set_option maxHeartbeats 4000000 in
theorem l_rdM3 (sx : Nat × (Nat → Int32)) (f t : Nat → Int32) (ht : E76 t f) (N : Mm) (P : Nat) (hP8 : P ≤ 8) (hN : NOk P N) (ha : Agr P (vN f) N) (r : Nat) (hr : r < 8) (L : Nat) (hL : L ≤ 40) (I : Mm) (hI : I 49 3 = nI L) (J : Ml) (Rt : Option Value → Mm → Ml → Prop) (hR : ∀ g, E76 g f → Rt (some (.int (cnB (rdT P r L (fun j => J 50 (120 + j)) N) 1000))) (sR g (sA 46 t I)) J) : ∀ m n g, n + m = 1000 → E76 g f → GW sx (na_mi MX4_read) Rt 45 [some (.ref 43), some (.int 3), some (.int (nI r)), none, some (.int (cnB (rdT P r L (fun j => J 50 (120 + j)) N) n)), some (.int (nI n))] [] (sR g (sA 46 t I)) J := by
  intro m
  induction m with
  | zero =>
    intro n g hn hg
    obtain rfl : n = 1000 := by omega
    have hz : (1000 : Int32) ≤ nI 1000 := by decide
    refine GW.run kX4_read (fun pc => Nat.beq pc 45) 93 26 rfl ?_
    refine And.intro (fun _ => ?_) (fun hh => absurd hz hh)
    exact ⟨trivial, hR g hg⟩
  | succ m ih =>
    intro n g hn hg
    have hz : ¬ (1000 : Int32) ≤ nI n := nI_ge (a := n) (b := 1000) (by omega) (by omega)
    have hd : nI n / 100 = nI (n / 100) := pk_div (d := 100) (by omega) (by decide) (by decide)
    have hm : nI n - nI n / 100 * 100 = nI (n % 100) := pk_rem (d := 100) (by omega) (by decide) (by decide)
    have hu : (upd (upd g (4 + 4 * r + 3) (mx (nI n / 100))) (4 + 4 * r + 2) (mx (nI n - nI n / 100 * 100))) = upd (upd g (4 + 4 * r + 3) (nI (n / 100))) (4 + 4 * r + 2) (nI (n % 100)) := by rw [hm, hd, mx_nI (by omega), mx_nI (by omega)]
    have hN3 := (hN.r4 (j := r) (rg9 (n := n / 100) (by omega))).r3 (j := r) (rg99 (n := n % 100) (by omega))
    have hga : Agr P (vN (upd (upd g (4 + 4 * r + 3) (mx (nI n / 100))) (4 + 4 * r + 2) (mx (nI n - nI n / 100 * 100)))) (na_set (na_set N 4 r (nI (n / 100))) 3 r (nI (n % 100))) := by
      rw [hu]
      exact agR hP8 (agR hP8 ((hg.agr hP8).trans ha) hr (w := 3) (by decide) _) hr (w := 2) (by decide) _
    refine GW.run kX4_read (fun pc => Nat.beq pc 45) 93 26 rfl ?_
    refine And.intro (fun hh => absurd hh hz) (fun _ => ?_)
    refine And.intro (by decide) ?_
    refine Mt.conseq (m_lies _ (nI n / 100) r 3 (by omega) (by decide) _ (by decide) _ _ _) ?_
    rintro _ _ _ ⟨rfl, rfl, rfl⟩
    refine And.intro (by decide) ?_
    refine Mt.conseq (m_lies _ (nI n - nI n / 100 * 100) r 2 (by omega) (by decide) _ (by decide) _ _ _) ?_
    rintro _ _ _ ⟨rfl, rfl, rfl⟩
    refine Mt.conseq (m_so_3 _ P hP8 (upd (upd g (4 + 4 * r + 3) (mx (nI n / 100))) (4 + 4 * r + 2) (mx (nI n - nI n / 100 * 100))) _ hN3 hga r hr L hL (sA 46 t I) hI J (T := (rdT P r L (fun j => J 50 (120 + j)) N) n) rfl) ?_
    rintro _ _ _ ⟨⟨g1, rfl⟩, rfl, ⟨hw1, rfl⟩ | ⟨hw1, rfl⟩⟩
    · -- pc 80 call X4_isSo true
      refine And.intro (fun hh => absurd hh (by decide)) (fun _ => ?_)
      refine Mt.conseq (m_rs1 _ _ t f ht _ _) ?_
      rintro _ _ _ ⟨⟨g2, rfl, h4⟩, rfl, rfl⟩
      exact GW.weak (ih (n + 1) g2 (by omega) h4) ⟨rfl, rfl, rfl, by rw [cnB, if_pos hw1], by rw [nI_1], trivial⟩
    · -- pc 80 call X4_isSo false
      refine And.intro (fun _ => ?_) (fun hh => absurd hh (by decide))
      refine Mt.conseq (m_rs1 _ _ t f ht _ _) ?_
      rintro _ _ _ ⟨⟨g2, rfl, h5⟩, rfl, rfl⟩
      exact GW.weak (ih (n + 1) g2 (by omega) h5) ⟨rfl, rfl, rfl, by rw [cnB, if_neg (by rw [hw1]; decide), Int32.add_zero], by rw [nI_1], trivial⟩
set_option maxRecDepth 100000 in
set_option maxHeartbeats 4000000 in
theorem pr_read0 (sx : Nat × (Nat → Int32)) (r : Int32) : PrI sx MX3_read MX4_read [.int 0, .int r] := by
  intro I J hS
  obtain ⟨P, hN, ha, hP8, hP1, hP3, hpl⟩ := hS.nt
  have e73 : I 44 3 = I 1 7 := hP3.trans hP1.symm
  obtain ⟨s1, s2, n, s3, s4, s5, s6⟩ := hS.2.2.2.1 0 (by decide)
  have s45 : I 34 2 = I 49 0 := s4.trans s5.symm
  refine Mt.of2 _ rfl (by decide +kernel) (Nat.le_of_ble_eq_true rfl) ?_
  refine GW.run kX3_read (fun pc => Nat.beq pc 55) 93 0 rfl ?_
  refine Mt.conseq (c_noSheet _ _ _ _) ?_
  rintro _ _ _ ⟨rfl, rfl, ⟨h1, rfl⟩ | ⟨h1, rfl⟩⟩
  · -- pc 1 call X3_noSheet true
    exact absurd h1 (by decide)
  · -- pc 1 call X3_noSheet false
    refine And.intro (fun _ => ?_) (fun hh => absurd hh (by decide))
    refine And.intro (by unfold vp_in; decide) ?_
    refine Mt.conseq (c_miss0 _ _ _) ?_
    rintro _ _ _ ⟨rfl, rfl, ⟨h2, rfl⟩ | ⟨h2, rfl⟩⟩
    · -- pc 22 call X1_isMissing true
      refine And.intro (fun hh => absurd hh (by decide)) (fun _ => ?_)
      refine Mt.conseq (c_fnd5 _ _ _) ?_
      rintro _ _ _ ⟨rfl, rfl, rfl⟩
      refine ⟨trivial, _, rfl, ?_⟩
      refine Mt.of2 _ rfl (by decide +kernel) (Nat.le_of_ble_eq_true rfl) ?_
      refine GW.run kX4_read (fun pc => Nat.beq pc 45) 93 0 rfl ?_
      refine Mt.conseq (m_bad0 _ _ _) ?_
      rintro _ _ _ ⟨rfl, rfl, ⟨g1, rfl⟩ | ⟨g1, rfl⟩⟩
      · -- pc 2 call X4_badSheet true
        refine And.intro (fun hh => absurd hh (by decide)) (fun _ => ?_)
        refine Mt.conseq (m_fnd5 _ _ _) ?_
        rintro _ _ _ ⟨rfl, rfl, rfl⟩
        exact ⟨trivial, rfl, hS.found (by decide)⟩
      · -- pc 2 call X4_badSheet false
        exact absurd (show I 48 0 = 0 from s1.symm.trans h2) g1
    · -- pc 22 call X1_isMissing false
      refine And.intro (fun _ => ?_) (fun hh => absurd hh (by decide))
      refine Mt.conseq (c_noRoom _ _ _ _) ?_
      rintro _ _ _ ⟨rfl, rfl, ⟨h4, rfl⟩ | ⟨h4, rfl⟩⟩
      · -- pc 36 call X3_noRoom true
        refine And.intro (fun hh => absurd hh (by decide)) (fun _ => ?_)
        refine Mt.conseq (c_fnd0 _ _ _) ?_
        rintro _ _ _ ⟨rfl, rfl, rfl⟩
        refine ⟨trivial, _, rfl, ?_⟩
        refine Mt.of2 _ rfl (by decide +kernel) (Nat.le_of_ble_eq_true rfl) ?_
        refine GW.run kX4_read (fun pc => Nat.beq pc 45) 93 0 rfl ?_
        refine Mt.conseq (m_bad0 _ _ _) ?_
        rintro _ _ _ ⟨rfl, rfl, ⟨g1, rfl⟩ | ⟨g1, rfl⟩⟩
        · -- pc 2 call X4_badSheet true
          exact absurd (show I 34 1 = 0 from s1.trans g1) h2
        · -- pc 2 call X4_badSheet false
          refine And.intro (fun _ => ?_) (fun hh => absurd hh (by decide))
          refine Mt.conseq (m_isRoom _ _ _ _) ?_
          rintro _ _ _ ⟨rfl, rfl, ⟨g2, rfl⟩ | ⟨g2, rfl⟩⟩
          · -- pc 17 call X4_isRoom true
            exact (out_in h4 g2).elim
          · -- pc 17 call X4_isRoom false
            refine And.intro (fun hh => absurd hh (by decide)) (fun _ => ?_)
            refine Mt.conseq (m_fnd0 _ _ _) ?_
            rintro _ _ _ ⟨rfl, rfl, rfl⟩
            exact ⟨trivial, rfl, hS.found (by decide)⟩
      · -- pc 36 call X3_noRoom false
        obtain ⟨r', hr, rfl⟩ := nout_nI (b := 7) (by decide) h4
        refine And.intro (fun _ => ?_) (fun hh => absurd hh (by decide))
        refine GW.weak (GW.eqI ?_ (l_rdO0 sx P hP8 I hP1 hN r' (by omega) n s3 s4 J _ (fun X => ?_) 10 0 (gN 21 I) rfl)) ⟨rfl, rfl, rfl, rfl, rfl, rfl, trivial⟩
        · rw [pN_gN]
        refine ⟨_, rfl, ?_⟩
        refine Mt.of2 _ rfl (by decide +kernel) (Nat.le_of_ble_eq_true rfl) ?_
        refine GW.run kX4_read (fun pc => Nat.beq pc 45) 93 0 rfl ?_
        refine Mt.conseq (m_bad0 _ _ _) ?_
        rintro _ _ _ ⟨rfl, rfl, ⟨g1, rfl⟩ | ⟨g1, rfl⟩⟩
        · -- pc 2 call X4_badSheet true
          exact absurd (show I 34 1 = 0 from s1.trans g1) h2
        · -- pc 2 call X4_badSheet false
          refine And.intro (fun _ => ?_) (fun hh => absurd hh (by decide))
          refine Mt.conseq (m_isRoom _ _ _ _) ?_
          rintro _ _ _ ⟨rfl, rfl, ⟨g2, rfl⟩ | ⟨g2, rfl⟩⟩
          · -- pc 17 call X4_isRoom true
            refine And.intro (fun _ => ?_) (fun hh => absurd hh (by decide))
            refine Mt.conseq ((by have h := m_kp1 sx (I 44) (pN 21 X I) J; rw [show sR (I 44) (pN 21 X I) = pN 21 X I from sR_self (pN 21 X I)] at h; exact h)) ?_
            rintro _ _ _ ⟨⟨t, rfl, g3⟩, rfl, rfl⟩
            have ht := g3
            refine GW.weak (l_rdM0 sx (I 44) t ht (gN 1 I) P hP8 hN ha r' (by omega) n s3 (pN 21 X I) s5 J _ (fun g hg => ⟨?_, hS.junk hg⟩) 1000 0 (I 44) rfl (fun _ _ => rfl)) ⟨rfl, rfl, rfl, rfl, rfl, trivial⟩
            refine congrArg (fun x => some (Value.int x)) (cnB_c 1000 fun k hk => ?_)
            have hN3 := (hN.r4 (j := r') (rg9 (n := k / 100) (by omega))).r3 (j := r') (rg99 (n := k % 100) (by omega))
            exact rdB_c (by omega) n 0 (Agr.refl _ _) hN3.2.1.pl (fun j _ h => (s6 j (by omega)).symm)
          · -- pc 17 call X4_isRoom false
            exact (nout_nin h4 g2).elim
set_option maxRecDepth 100000 in
set_option maxHeartbeats 4000000 in
theorem pr_read1 (sx : Nat × (Nat → Int32)) (r : Int32) : PrI sx MX3_read MX4_read [.int 1, .int r] := by
  intro I J hS
  obtain ⟨P, hN, ha, hP8, hP1, hP3, hpl⟩ := hS.nt
  have e73 : I 44 3 = I 1 7 := hP3.trans hP1.symm
  obtain ⟨s1, s2, n, s3, s4, s5, s6⟩ := hS.2.2.2.1 1 (by decide)
  have s45 : I 36 2 = I 49 1 := s4.trans s5.symm
  refine Mt.of2 _ rfl (by decide +kernel) (Nat.le_of_ble_eq_true rfl) ?_
  refine GW.run kX3_read (fun pc => Nat.beq pc 55) 93 0 rfl ?_
  refine Mt.conseq (c_noSheet _ _ _ _) ?_
  rintro _ _ _ ⟨rfl, rfl, ⟨h1, rfl⟩ | ⟨h1, rfl⟩⟩
  · -- pc 1 call X3_noSheet true
    exact absurd h1 (by decide)
  · -- pc 1 call X3_noSheet false
    refine And.intro (fun _ => ?_) (fun hh => absurd hh (by decide))
    refine And.intro (by unfold vp_in; decide) ?_
    refine Mt.conseq (c_miss1 _ _ _) ?_
    rintro _ _ _ ⟨rfl, rfl, ⟨h2, rfl⟩ | ⟨h2, rfl⟩⟩
    · -- pc 22 call X1_isMissing true
      refine And.intro (fun hh => absurd hh (by decide)) (fun _ => ?_)
      refine Mt.conseq (c_fnd5 _ _ _) ?_
      rintro _ _ _ ⟨rfl, rfl, rfl⟩
      refine ⟨trivial, _, rfl, ?_⟩
      refine Mt.of2 _ rfl (by decide +kernel) (Nat.le_of_ble_eq_true rfl) ?_
      refine GW.run kX4_read (fun pc => Nat.beq pc 45) 93 0 rfl ?_
      refine Mt.conseq (m_bad1 _ _ _) ?_
      rintro _ _ _ ⟨rfl, rfl, ⟨g1, rfl⟩ | ⟨g1, rfl⟩⟩
      · -- pc 2 call X4_badSheet true
        refine And.intro (fun hh => absurd hh (by decide)) (fun _ => ?_)
        refine Mt.conseq (m_fnd5 _ _ _) ?_
        rintro _ _ _ ⟨rfl, rfl, rfl⟩
        exact ⟨trivial, rfl, hS.found (by decide)⟩
      · -- pc 2 call X4_badSheet false
        exact absurd (show I 48 1 = 0 from s1.symm.trans h2) g1
    · -- pc 22 call X1_isMissing false
      refine And.intro (fun _ => ?_) (fun hh => absurd hh (by decide))
      refine Mt.conseq (c_noRoom _ _ _ _) ?_
      rintro _ _ _ ⟨rfl, rfl, ⟨h4, rfl⟩ | ⟨h4, rfl⟩⟩
      · -- pc 36 call X3_noRoom true
        refine And.intro (fun hh => absurd hh (by decide)) (fun _ => ?_)
        refine Mt.conseq (c_fnd0 _ _ _) ?_
        rintro _ _ _ ⟨rfl, rfl, rfl⟩
        refine ⟨trivial, _, rfl, ?_⟩
        refine Mt.of2 _ rfl (by decide +kernel) (Nat.le_of_ble_eq_true rfl) ?_
        refine GW.run kX4_read (fun pc => Nat.beq pc 45) 93 0 rfl ?_
        refine Mt.conseq (m_bad1 _ _ _) ?_
        rintro _ _ _ ⟨rfl, rfl, ⟨g1, rfl⟩ | ⟨g1, rfl⟩⟩
        · -- pc 2 call X4_badSheet true
          exact absurd (show I 36 1 = 0 from s1.trans g1) h2
        · -- pc 2 call X4_badSheet false
          refine And.intro (fun _ => ?_) (fun hh => absurd hh (by decide))
          refine Mt.conseq (m_isRoom _ _ _ _) ?_
          rintro _ _ _ ⟨rfl, rfl, ⟨g2, rfl⟩ | ⟨g2, rfl⟩⟩
          · -- pc 17 call X4_isRoom true
            exact (out_in h4 g2).elim
          · -- pc 17 call X4_isRoom false
            refine And.intro (fun hh => absurd hh (by decide)) (fun _ => ?_)
            refine Mt.conseq (m_fnd0 _ _ _) ?_
            rintro _ _ _ ⟨rfl, rfl, rfl⟩
            exact ⟨trivial, rfl, hS.found (by decide)⟩
      · -- pc 36 call X3_noRoom false
        obtain ⟨r', hr, rfl⟩ := nout_nI (b := 7) (by decide) h4
        refine And.intro (fun _ => ?_) (fun hh => absurd hh (by decide))
        refine GW.weak (GW.eqI ?_ (l_rdO1 sx P hP8 I hP1 hN r' (by omega) n s3 s4 J _ (fun X => ?_) 10 0 (gN 21 I) rfl)) ⟨rfl, rfl, rfl, rfl, rfl, rfl, trivial⟩
        · rw [pN_gN]
        refine ⟨_, rfl, ?_⟩
        refine Mt.of2 _ rfl (by decide +kernel) (Nat.le_of_ble_eq_true rfl) ?_
        refine GW.run kX4_read (fun pc => Nat.beq pc 45) 93 0 rfl ?_
        refine Mt.conseq (m_bad1 _ _ _) ?_
        rintro _ _ _ ⟨rfl, rfl, ⟨g1, rfl⟩ | ⟨g1, rfl⟩⟩
        · -- pc 2 call X4_badSheet true
          exact absurd (show I 36 1 = 0 from s1.trans g1) h2
        · -- pc 2 call X4_badSheet false
          refine And.intro (fun _ => ?_) (fun hh => absurd hh (by decide))
          refine Mt.conseq (m_isRoom _ _ _ _) ?_
          rintro _ _ _ ⟨rfl, rfl, ⟨g2, rfl⟩ | ⟨g2, rfl⟩⟩
          · -- pc 17 call X4_isRoom true
            refine And.intro (fun _ => ?_) (fun hh => absurd hh (by decide))
            refine Mt.conseq ((by have h := m_kp1 sx (I 44) (pN 21 X I) J; rw [show sR (I 44) (pN 21 X I) = pN 21 X I from sR_self (pN 21 X I)] at h; exact h)) ?_
            rintro _ _ _ ⟨⟨t, rfl, g3⟩, rfl, rfl⟩
            have ht := g3
            refine GW.weak (l_rdM1 sx (I 44) t ht (gN 1 I) P hP8 hN ha r' (by omega) n s3 (pN 21 X I) s5 J _ (fun g hg => ⟨?_, hS.junk hg⟩) 1000 0 (I 44) rfl (fun _ _ => rfl)) ⟨rfl, rfl, rfl, rfl, rfl, trivial⟩
            refine congrArg (fun x => some (Value.int x)) (cnB_c 1000 fun k hk => ?_)
            have hN3 := (hN.r4 (j := r') (rg9 (n := k / 100) (by omega))).r3 (j := r') (rg99 (n := k % 100) (by omega))
            exact rdB_c (by omega) n 0 (Agr.refl _ _) hN3.2.1.pl (fun j _ h => (s6 j (by omega)).symm)
          · -- pc 17 call X4_isRoom false
            exact (nout_nin h4 g2).elim
set_option maxRecDepth 100000 in
set_option maxHeartbeats 4000000 in
theorem pr_read2 (sx : Nat × (Nat → Int32)) (r : Int32) : PrI sx MX3_read MX4_read [.int 2, .int r] := by
  intro I J hS
  obtain ⟨P, hN, ha, hP8, hP1, hP3, hpl⟩ := hS.nt
  have e73 : I 44 3 = I 1 7 := hP3.trans hP1.symm
  obtain ⟨s1, s2, n, s3, s4, s5, s6⟩ := hS.2.2.2.1 2 (by decide)
  have s45 : I 38 2 = I 49 2 := s4.trans s5.symm
  refine Mt.of2 _ rfl (by decide +kernel) (Nat.le_of_ble_eq_true rfl) ?_
  refine GW.run kX3_read (fun pc => Nat.beq pc 55) 93 0 rfl ?_
  refine Mt.conseq (c_noSheet _ _ _ _) ?_
  rintro _ _ _ ⟨rfl, rfl, ⟨h1, rfl⟩ | ⟨h1, rfl⟩⟩
  · -- pc 1 call X3_noSheet true
    exact absurd h1 (by decide)
  · -- pc 1 call X3_noSheet false
    refine And.intro (fun _ => ?_) (fun hh => absurd hh (by decide))
    refine And.intro (by unfold vp_in; decide) ?_
    refine Mt.conseq (c_miss2 _ _ _) ?_
    rintro _ _ _ ⟨rfl, rfl, ⟨h2, rfl⟩ | ⟨h2, rfl⟩⟩
    · -- pc 22 call X1_isMissing true
      refine And.intro (fun hh => absurd hh (by decide)) (fun _ => ?_)
      refine Mt.conseq (c_fnd5 _ _ _) ?_
      rintro _ _ _ ⟨rfl, rfl, rfl⟩
      refine ⟨trivial, _, rfl, ?_⟩
      refine Mt.of2 _ rfl (by decide +kernel) (Nat.le_of_ble_eq_true rfl) ?_
      refine GW.run kX4_read (fun pc => Nat.beq pc 45) 93 0 rfl ?_
      refine Mt.conseq (m_bad2 _ _ _) ?_
      rintro _ _ _ ⟨rfl, rfl, ⟨g1, rfl⟩ | ⟨g1, rfl⟩⟩
      · -- pc 2 call X4_badSheet true
        refine And.intro (fun hh => absurd hh (by decide)) (fun _ => ?_)
        refine Mt.conseq (m_fnd5 _ _ _) ?_
        rintro _ _ _ ⟨rfl, rfl, rfl⟩
        exact ⟨trivial, rfl, hS.found (by decide)⟩
      · -- pc 2 call X4_badSheet false
        exact absurd (show I 48 2 = 0 from s1.symm.trans h2) g1
    · -- pc 22 call X1_isMissing false
      refine And.intro (fun _ => ?_) (fun hh => absurd hh (by decide))
      refine Mt.conseq (c_noRoom _ _ _ _) ?_
      rintro _ _ _ ⟨rfl, rfl, ⟨h4, rfl⟩ | ⟨h4, rfl⟩⟩
      · -- pc 36 call X3_noRoom true
        refine And.intro (fun hh => absurd hh (by decide)) (fun _ => ?_)
        refine Mt.conseq (c_fnd0 _ _ _) ?_
        rintro _ _ _ ⟨rfl, rfl, rfl⟩
        refine ⟨trivial, _, rfl, ?_⟩
        refine Mt.of2 _ rfl (by decide +kernel) (Nat.le_of_ble_eq_true rfl) ?_
        refine GW.run kX4_read (fun pc => Nat.beq pc 45) 93 0 rfl ?_
        refine Mt.conseq (m_bad2 _ _ _) ?_
        rintro _ _ _ ⟨rfl, rfl, ⟨g1, rfl⟩ | ⟨g1, rfl⟩⟩
        · -- pc 2 call X4_badSheet true
          exact absurd (show I 38 1 = 0 from s1.trans g1) h2
        · -- pc 2 call X4_badSheet false
          refine And.intro (fun _ => ?_) (fun hh => absurd hh (by decide))
          refine Mt.conseq (m_isRoom _ _ _ _) ?_
          rintro _ _ _ ⟨rfl, rfl, ⟨g2, rfl⟩ | ⟨g2, rfl⟩⟩
          · -- pc 17 call X4_isRoom true
            exact (out_in h4 g2).elim
          · -- pc 17 call X4_isRoom false
            refine And.intro (fun hh => absurd hh (by decide)) (fun _ => ?_)
            refine Mt.conseq (m_fnd0 _ _ _) ?_
            rintro _ _ _ ⟨rfl, rfl, rfl⟩
            exact ⟨trivial, rfl, hS.found (by decide)⟩
      · -- pc 36 call X3_noRoom false
        obtain ⟨r', hr, rfl⟩ := nout_nI (b := 7) (by decide) h4
        refine And.intro (fun _ => ?_) (fun hh => absurd hh (by decide))
        refine GW.weak (GW.eqI ?_ (l_rdO2 sx P hP8 I hP1 hN r' (by omega) n s3 s4 J _ (fun X => ?_) 10 0 (gN 21 I) rfl)) ⟨rfl, rfl, rfl, rfl, rfl, rfl, trivial⟩
        · rw [pN_gN]
        refine ⟨_, rfl, ?_⟩
        refine Mt.of2 _ rfl (by decide +kernel) (Nat.le_of_ble_eq_true rfl) ?_
        refine GW.run kX4_read (fun pc => Nat.beq pc 45) 93 0 rfl ?_
        refine Mt.conseq (m_bad2 _ _ _) ?_
        rintro _ _ _ ⟨rfl, rfl, ⟨g1, rfl⟩ | ⟨g1, rfl⟩⟩
        · -- pc 2 call X4_badSheet true
          exact absurd (show I 38 1 = 0 from s1.trans g1) h2
        · -- pc 2 call X4_badSheet false
          refine And.intro (fun _ => ?_) (fun hh => absurd hh (by decide))
          refine Mt.conseq (m_isRoom _ _ _ _) ?_
          rintro _ _ _ ⟨rfl, rfl, ⟨g2, rfl⟩ | ⟨g2, rfl⟩⟩
          · -- pc 17 call X4_isRoom true
            refine And.intro (fun _ => ?_) (fun hh => absurd hh (by decide))
            refine Mt.conseq ((by have h := m_kp1 sx (I 44) (pN 21 X I) J; rw [show sR (I 44) (pN 21 X I) = pN 21 X I from sR_self (pN 21 X I)] at h; exact h)) ?_
            rintro _ _ _ ⟨⟨t, rfl, g3⟩, rfl, rfl⟩
            have ht := g3
            refine GW.weak (l_rdM2 sx (I 44) t ht (gN 1 I) P hP8 hN ha r' (by omega) n s3 (pN 21 X I) s5 J _ (fun g hg => ⟨?_, hS.junk hg⟩) 1000 0 (I 44) rfl (fun _ _ => rfl)) ⟨rfl, rfl, rfl, rfl, rfl, trivial⟩
            refine congrArg (fun x => some (Value.int x)) (cnB_c 1000 fun k hk => ?_)
            have hN3 := (hN.r4 (j := r') (rg9 (n := k / 100) (by omega))).r3 (j := r') (rg99 (n := k % 100) (by omega))
            exact rdB_c (by omega) n 0 (Agr.refl _ _) hN3.2.1.pl (fun j _ h => (s6 j (by omega)).symm)
          · -- pc 17 call X4_isRoom false
            exact (nout_nin h4 g2).elim
set_option maxRecDepth 100000 in
set_option maxHeartbeats 4000000 in
theorem pr_read3 (sx : Nat × (Nat → Int32)) (r : Int32) : PrI sx MX3_read MX4_read [.int 3, .int r] := by
  intro I J hS
  obtain ⟨P, hN, ha, hP8, hP1, hP3, hpl⟩ := hS.nt
  have e73 : I 44 3 = I 1 7 := hP3.trans hP1.symm
  obtain ⟨s1, s2, n, s3, s4, s5, s6⟩ := hS.2.2.2.1 3 (by decide)
  have s45 : I 40 2 = I 49 3 := s4.trans s5.symm
  refine Mt.of2 _ rfl (by decide +kernel) (Nat.le_of_ble_eq_true rfl) ?_
  refine GW.run kX3_read (fun pc => Nat.beq pc 55) 93 0 rfl ?_
  refine Mt.conseq (c_noSheet _ _ _ _) ?_
  rintro _ _ _ ⟨rfl, rfl, ⟨h1, rfl⟩ | ⟨h1, rfl⟩⟩
  · -- pc 1 call X3_noSheet true
    exact absurd h1 (by decide)
  · -- pc 1 call X3_noSheet false
    refine And.intro (fun _ => ?_) (fun hh => absurd hh (by decide))
    refine And.intro (by unfold vp_in; decide) ?_
    refine Mt.conseq (c_miss3 _ _ _) ?_
    rintro _ _ _ ⟨rfl, rfl, ⟨h2, rfl⟩ | ⟨h2, rfl⟩⟩
    · -- pc 22 call X1_isMissing true
      refine And.intro (fun hh => absurd hh (by decide)) (fun _ => ?_)
      refine Mt.conseq (c_fnd5 _ _ _) ?_
      rintro _ _ _ ⟨rfl, rfl, rfl⟩
      refine ⟨trivial, _, rfl, ?_⟩
      refine Mt.of2 _ rfl (by decide +kernel) (Nat.le_of_ble_eq_true rfl) ?_
      refine GW.run kX4_read (fun pc => Nat.beq pc 45) 93 0 rfl ?_
      refine Mt.conseq (m_bad3 _ _ _) ?_
      rintro _ _ _ ⟨rfl, rfl, ⟨g1, rfl⟩ | ⟨g1, rfl⟩⟩
      · -- pc 2 call X4_badSheet true
        refine And.intro (fun hh => absurd hh (by decide)) (fun _ => ?_)
        refine Mt.conseq (m_fnd5 _ _ _) ?_
        rintro _ _ _ ⟨rfl, rfl, rfl⟩
        exact ⟨trivial, rfl, hS.found (by decide)⟩
      · -- pc 2 call X4_badSheet false
        exact absurd (show I 48 3 = 0 from s1.symm.trans h2) g1
    · -- pc 22 call X1_isMissing false
      refine And.intro (fun _ => ?_) (fun hh => absurd hh (by decide))
      refine Mt.conseq (c_noRoom _ _ _ _) ?_
      rintro _ _ _ ⟨rfl, rfl, ⟨h4, rfl⟩ | ⟨h4, rfl⟩⟩
      · -- pc 36 call X3_noRoom true
        refine And.intro (fun hh => absurd hh (by decide)) (fun _ => ?_)
        refine Mt.conseq (c_fnd0 _ _ _) ?_
        rintro _ _ _ ⟨rfl, rfl, rfl⟩
        refine ⟨trivial, _, rfl, ?_⟩
        refine Mt.of2 _ rfl (by decide +kernel) (Nat.le_of_ble_eq_true rfl) ?_
        refine GW.run kX4_read (fun pc => Nat.beq pc 45) 93 0 rfl ?_
        refine Mt.conseq (m_bad3 _ _ _) ?_
        rintro _ _ _ ⟨rfl, rfl, ⟨g1, rfl⟩ | ⟨g1, rfl⟩⟩
        · -- pc 2 call X4_badSheet true
          exact absurd (show I 40 1 = 0 from s1.trans g1) h2
        · -- pc 2 call X4_badSheet false
          refine And.intro (fun _ => ?_) (fun hh => absurd hh (by decide))
          refine Mt.conseq (m_isRoom _ _ _ _) ?_
          rintro _ _ _ ⟨rfl, rfl, ⟨g2, rfl⟩ | ⟨g2, rfl⟩⟩
          · -- pc 17 call X4_isRoom true
            exact (out_in h4 g2).elim
          · -- pc 17 call X4_isRoom false
            refine And.intro (fun hh => absurd hh (by decide)) (fun _ => ?_)
            refine Mt.conseq (m_fnd0 _ _ _) ?_
            rintro _ _ _ ⟨rfl, rfl, rfl⟩
            exact ⟨trivial, rfl, hS.found (by decide)⟩
      · -- pc 36 call X3_noRoom false
        obtain ⟨r', hr, rfl⟩ := nout_nI (b := 7) (by decide) h4
        refine And.intro (fun _ => ?_) (fun hh => absurd hh (by decide))
        refine GW.weak (GW.eqI ?_ (l_rdO3 sx P hP8 I hP1 hN r' (by omega) n s3 s4 J _ (fun X => ?_) 10 0 (gN 21 I) rfl)) ⟨rfl, rfl, rfl, rfl, rfl, rfl, trivial⟩
        · rw [pN_gN]
        refine ⟨_, rfl, ?_⟩
        refine Mt.of2 _ rfl (by decide +kernel) (Nat.le_of_ble_eq_true rfl) ?_
        refine GW.run kX4_read (fun pc => Nat.beq pc 45) 93 0 rfl ?_
        refine Mt.conseq (m_bad3 _ _ _) ?_
        rintro _ _ _ ⟨rfl, rfl, ⟨g1, rfl⟩ | ⟨g1, rfl⟩⟩
        · -- pc 2 call X4_badSheet true
          exact absurd (show I 40 1 = 0 from s1.trans g1) h2
        · -- pc 2 call X4_badSheet false
          refine And.intro (fun _ => ?_) (fun hh => absurd hh (by decide))
          refine Mt.conseq (m_isRoom _ _ _ _) ?_
          rintro _ _ _ ⟨rfl, rfl, ⟨g2, rfl⟩ | ⟨g2, rfl⟩⟩
          · -- pc 17 call X4_isRoom true
            refine And.intro (fun _ => ?_) (fun hh => absurd hh (by decide))
            refine Mt.conseq ((by have h := m_kp1 sx (I 44) (pN 21 X I) J; rw [show sR (I 44) (pN 21 X I) = pN 21 X I from sR_self (pN 21 X I)] at h; exact h)) ?_
            rintro _ _ _ ⟨⟨t, rfl, g3⟩, rfl, rfl⟩
            have ht := g3
            refine GW.weak (l_rdM3 sx (I 44) t ht (gN 1 I) P hP8 hN ha r' (by omega) n s3 (pN 21 X I) s5 J _ (fun g hg => ⟨?_, hS.junk hg⟩) 1000 0 (I 44) rfl (fun _ _ => rfl)) ⟨rfl, rfl, rfl, rfl, rfl, trivial⟩
            refine congrArg (fun x => some (Value.int x)) (cnB_c 1000 fun k hk => ?_)
            have hN3 := (hN.r4 (j := r') (rg9 (n := k / 100) (by omega))).r3 (j := r') (rg99 (n := k % 100) (by omega))
            exact rdB_c (by omega) n 0 (Agr.refl _ _) hN3.2.1.pl (fun j _ h => (s6 j (by omega)).symm)
          · -- pc 17 call X4_isRoom false
            exact (nout_nin h4 g2).elim
set_option maxRecDepth 100000 in
set_option maxHeartbeats 4000000 in
theorem pr_readx (sx : Nat × (Nat → Int32)) (s r : Int32) (hx : outP s 0 3) : PrI sx MX3_read MX4_read [.int s, .int r] := by
  intro I J hS
  refine Mt.of2 _ rfl (by decide +kernel) (Nat.le_of_ble_eq_true rfl) ?_
  refine GW.run kX3_read (fun _ => false) 93 0 rfl ?_
  refine Mt.conseq (c_noSheet _ _ _ _) ?_
  rintro _ _ _ ⟨rfl, rfl, ⟨h1, rfl⟩ | ⟨h1, rfl⟩⟩
  · -- pc 1 call X3_noSheet true
    refine And.intro (fun hh => absurd hh (by decide)) (fun _ => ?_)
    refine Mt.conseq (c_fnd0 _ _ _) ?_
    rintro _ _ _ ⟨rfl, rfl, rfl⟩
    refine ⟨trivial, _, rfl, ?_⟩
    refine Mt.of2 _ rfl (by decide +kernel) (Nat.le_of_ble_eq_true rfl) ?_
    refine GW.run kX4_read (fun _ => false) 93 0 rfl ?_
    refine Mt.conseq (m_badx _ _ hx _ _) ?_
    rintro _ _ _ ⟨rfl, rfl, rfl⟩
    refine And.intro (fun hh => absurd hh (by decide)) (fun _ => ?_)
    refine Mt.conseq (m_fnd0 _ _ _) ?_
    rintro _ _ _ ⟨rfl, rfl, rfl⟩
    exact ⟨trivial, rfl, hS.found (by decide)⟩
  · -- pc 1 call X3_noSheet false
    exact absurd hx h1
theorem pr_read (sx : Nat × (Nat → Int32)) (s r : Int32) : PrI sx MX3_read MX4_read [.int s, .int r] := by
  by_cases hx : outP s 0 3
  · exact pr_readx sx s r hx
  · obtain ⟨t, ht, rfl⟩ := nout_nI (b := 3) (by decide) hx
    obtain rfl | rfl | rfl | rfl : t = 0 ∨ t = 1 ∨ t = 2 ∨ t = 3 := by omega
    · exact pr_read0 sx r
    · exact pr_read1 sx r
    · exact pr_read2 sx r
    · exact pr_read3 sx r
