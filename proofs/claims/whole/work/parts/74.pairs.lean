/-! PAIRS: kind (1: the class) -/
theorem bcn_bt : ∀ s, s < 256 → bcn (nI s) = btM (nI s) 8 := by decide +kernel
/-- how many are stifled after hours: both sides -/
theorem so_eq {P K : Nat} {f : Nat → Int32} {N M : Mm} (hP8 : P ≤ 8) (hr : InvR N) (hi : InvP P N) (ha : Agr P (vN f) N) (hM : Agr P M N) : btM (stf (vN (itM P K f)) P) 8 = bcn (stf (itH P K M) P) := by
  rw [stf_c (itM_ag hP8 ha hr hi K) P (Nat.le_refl _), stf_c (itH_c hM hi.pl K) P (Nat.le_refl _), stf_s hP8 (itH_inv hP8 hr hi K).2 P (Nat.le_refl _)]
  exact (bcn_bt _ (s256 hP8 _)).symm
/-- the first lowest below b -/
def loF (v : Nat → Int32) (a b : Int32) : Nat → Int32 × Int32
  | 0 => (a, b)
  | n + 1 => if v n < (loF v a b n).2 then (nI n, v n) else loF v a b n
def kdV (P K p : Nat) (N : Mm) (i : Nat) : Int32 := bcn (stf (itH P K (na_set N 5 p (nI i))) P)
set_option maxRecDepth 100000 in
set_option maxHeartbeats 4000000 in
theorem l_kdC (sx : Nat × (Nat → Int32)) (P : Nat) (hP8 : P ≤ 8) (I : Mm) (hP1 : I 1 7 = nI P) (hN : NOk P (gN 1 I)) (p : Nat) (hp : p < P) (K : Nat) (hK : K ≤ 40) (J : Ml) (Rt : Option Value → Mm → Ml → Prop) (hR : ∀ X, Rt (some (.int (loF (kdV P K p (gN 1 I)) 0 9 6).1)) (pN 21 X I) J) : ∀ m n X, n + m = 6 → GW sx (na_mi MX3_kind) Rt 34 [some (.ref 0), some (.int (nI p)), some (.int (nI K)), some (.int (loF (kdV P K p (gN 1 I)) 0 9 n).1), some (.int (loF (kdV P K p (gN 1 I)) 0 9 n).2), some (.int (nI n)), none, none] [] (pN 21 X I) J := by
  have hbp : vp_in (nI p) 8 := vp_in_nI (by omega) (by omega)
  have hcp := nI_clamp (n := p) (by omega)
  intro m
  induction m with
  | zero =>
    intro n X hn
    obtain rfl : n = 6 := by omega
    have hz : (6 : Int32) ≤ nI 6 := by decide
    refine GW.run kX3_kind (fun pc => Nat.beq pc 34) 75 19 rfl ?_
    refine And.intro (fun _ => ?_) (fun hh => absurd hz hh)
    exact ⟨trivial, hR X⟩
  | succ m ih =>
    intro n X hn
    have hz : ¬ (6 : Int32) ≤ nI n := nI_ge (a := n) (b := 6) (by omega) (by omega)
    refine GW.run kX3_kind (fun pc => Nat.beq pc 34) 75 19 rfl ?_
    refine And.intro (fun hh => absurd hh hz) (fun _ => ?_)
    refine Mt.conseq (c_sah2 _ P hP8 I hP1 _ _) ?_
    rintro _ _ _ ⟨⟨M, rfl, h1⟩, rfl, rfl⟩
    have hM2 := Agr.set h1 5 p (nI n)
    have hok : na_set M 5 p (nI n) 0 7 = nI P := (Agr.ok h1 hN).1
    have hpl2 : ∀ q, q < P → vp_in (na_set M 5 p (nI n) 6 q) 8 := (Agr.ok h1 hN).2
    have ev : bcn (stf (itH P K (na_set M 5 p (nI n))) P) = kdV P K p (gN 1 I) n := by
      rw [kdV, stf_c (itH_c hM2 hN.2.1.pl K) P (Nat.le_refl _)]
    refine And.intro (hbp) ?_
    refine Mt.conseq ((by have h := c_sa sx 21 (Or.inr rfl) (na_set M 5 p (nI n)) P hok hP8 hpl2 K (by omega) I J; rw [← pN_set (pl := 26) (by decide) rfl, ev] at h; rw [hcp]; exact h)) ?_
    rintro _ _ _ ⟨⟨X2, rfl⟩, rfl, rfl⟩
    refine And.intro (fun h3 => ?_) (fun h3 => ?_)
    · -- pc 68 .if_icmp .ge 10: yes
      exact GW.weak (ih (n + 1) X2 (by omega)) ⟨rfl, rfl, rfl, by rw [loF, if_neg (Int32.not_lt.mpr h3)], by rw [loF, if_neg (Int32.not_lt.mpr h3)], by rw [nI_1], trivial⟩
    · -- pc 68 .if_icmp .ge 10: no
      exact GW.weak (ih (n + 1) X2 (by omega)) ⟨rfl, rfl, rfl, by rw [loF, if_pos (Int32.not_le.mp h3)], by rw [loF, if_pos (Int32.not_le.mp h3)], by rw [nI_1], trivial⟩
