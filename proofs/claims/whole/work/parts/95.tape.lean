/-! THE TAPE: what an item keeps; the class's tell -/
theorem rgW {w : Nat} (hw : w < 4) {P r : Nat} {N : Mm} (h : NOk P N) {v : Int32} (hv : ¬ outP v 0 (mxW w)) : NOk P (na_set N (w + 1) r v) := by
  obtain rfl | rfl | rfl | rfl : w = 0 ∨ w = 1 ∨ w = 2 ∨ w = 3 := by omega
  · exact h.r1 (nout_rg (a := 0) (b := 9999) (by decide) (by decide) hv)
  · exact h.r2 (nout_rg (a := 0) (b := 9999) (by decide) (by decide) hv)
  · exact h.r3 (nout_rg (a := 0) (b := 99) (by decide) (by decide) hv)
  · exact h.r4 (nout_rg (a := 0) (b := 9) (by decide) (by decide) hv)
theorem tE_ge {B : Nat → Int32} {L e : Nat} (h : e ≤ L) : e ≤ tE B L e := Nat.le_trans (tSt_b h).1 (tE_b h).1
theorem myR_ok {B : Nat → Int32} {L w r e e' P : Nat} {N N' : Mm} (hw : w < 4) (he : e ≤ L) (h : NOk P N) (hR : myR B L w r e N = .inr (e', N')) : NOk P N' ∧ e ≤ e' ∧ e' ≤ L := by
  rw [myR] at hR
  split at hR
  · split at hR
    · rename_i q
      cases hR
      exact ⟨rgW hw h q.2, Nat.le_trans (tE_ge he) (tE_ge (tE_le he)), tE_le (tE_le he)⟩
    · cases hR
  · cases hR
    exact ⟨h, Nat.le_refl _, he⟩
theorem bindR_inv {R : TR} {k : Nat → Mm → TR} {e : Nat} {N : Mm} (h : bindR R k = .inr (e, N)) : ∃ e1 N1, R = .inr (e1, N1) ∧ k e1 N1 = .inr (e, N) := by
  cases R with
  | inl x => cases h
  | inr q => exact ⟨q.1, q.2, rfl, h⟩
theorem rmB_ok {B : Nat → Int32} {L r e e' P : Nat} {N N' : Mm} (he : e ≤ L) (h : NOk P N) (hR : rmB B L r e N = .inr (e', N')) : NOk P N' ∧ e ≤ e' ∧ e' ≤ L := by
  rw [rmB] at hR
  obtain ⟨e0, N0, h0, hR⟩ := bindR_inv hR
  obtain ⟨q0, a0, b0⟩ := myR_ok (by decide) he h h0
  obtain ⟨e1, N1, h1, hR⟩ := bindR_inv hR
  obtain ⟨q1, a1, b1⟩ := myR_ok (by decide) b0 q0 h1
  obtain ⟨e2, N2, h2, hR⟩ := bindR_inv hR
  obtain ⟨q2, a2, b2⟩ := myR_ok (by decide) b1 q1 h2
  obtain ⟨q3, a3, b3⟩ := myR_ok (by decide) b2 q2 hR
  exact ⟨q3, by omega, b3⟩
theorem tdN_ok {P : Nat} {N : Mm} (h : NOk P N) {d v : Nat} (hd : d < 7) (hv : v < 2) : NOk P (tdN N (nI d) (nI v)) := by
  obtain ⟨op, hop, eo⟩ := nI_rg (b := 127) (by decide) h.2.2.2.2.1
  have q := (doorbits op (by omega) d hd v hv).2
  refine h.opn ?_
  rw [tdW, eo]
  exact ⟨q.2, by omega⟩
theorem oneC_ok {B : Nat → Int32} {L e e' P : Nat} {kd rm : Int32} {N N' : Mm} (he : e ≤ L) (h : NOk P N) (hP7 : P < 8) (hk : rg 0 5 kd) (hr : rg 0 7 rm) (hR : oneC B L kd rm e N = .inr (e', N')) : NOk (P + 1) N' ∧ e ≤ e' ∧ e' ≤ L := by
  have hc : (N 0 7).toNatClampNeg = P := by rw [h.2.2.1]; exact nI_clamp (by omega)
  rw [oneC, hc] at hR
  split at hR
  · split at hR
    · rename_i q
      cases hR
      exact ⟨adN_ok h hP7 hk hr (nout_rg (a := 1) (b := 20) (by decide) (by decide) q.2), Nat.le_trans (tE_ge he) (tE_ge (tE_le he)), tE_le (tE_le he)⟩
    · cases hR
  · cases hR
    exact ⟨adN_ok h hP7 hk hr ⟨by decide, by decide⟩, Nat.le_refl _, he⟩
theorem oneR_ok {B : Nat → Int32} {L e e' P : Nat} {kd : Int32} {N N' : Mm} (he : e ≤ L) (h : NOk P N) (hk : rg 0 5 kd) (hR : oneR B L kd e N = .inr (e', N')) : (∃ P', NOk P' N') ∧ e ≤ e' ∧ e' ≤ L := by
  rw [oneR] at hR
  split at hR
  · cases hR
  · rename_i hf
    have hP7 := nfull h.2.2.1 h.2.2.2.1 hf
    rw [oneA] at hR
    split at hR
    · rw [oneB] at hR
      split at hR
      · rename_i q
        obtain ⟨z, a, b⟩ := oneC_ok (tE_le (tE_le (tE_le he))) h hP7 hk (nout_rg (a := 0) (b := 7) (by decide) (by decide) q.2) hR
        have := tE_ge (B := B) he
        have := tE_ge (B := B) (tE_le (B := B) he)
        have := tE_ge (B := B) (tE_le (B := B) (tE_le (B := B) he))
        exact ⟨⟨_, z⟩, by omega, b⟩
      · cases hR
    · cases hR
theorem dorR_ok {B : Nat → Int32} {L e e' P v : Nat} {N N' : Mm} (hv : v < 2) (he : e ≤ L) (h : NOk P N) (hR : dorR B L (nI v) e N = .inr (e', N')) : NOk P N' ∧ e ≤ e' ∧ e' ≤ L := by
  rw [dorR] at hR
  split at hR
  · rename_i q
    obtain ⟨d, hd, ed⟩ := nout_nI (b := 6) (by decide) q.2
    rw [ed] at hR
    cases hR
    exact ⟨tdN_ok h (by omega) hv, Nat.le_trans (tE_ge he) (tE_ge (tE_le he)), tE_le (tE_le he)⟩
  · cases hR
theorem cold_ok {P : Nat} {N : Mm} (h : NOk P N) {v : Int32} (hv : v = 0 ∨ v = 1) : NOk P (na_set N 0 5 v) := ⟨h.1.off (Or.inl rfl), h.2.1.set (by decide), h.2.2.1, h.2.2.2.1, h.2.2.2.2.1, by rw [na_set_get, if_pos ⟨rfl, rfl⟩]; exact hv, h.2.2.2.2.2.2⟩
theorem rmR2_ok {B : Nat → Int32} {L e e' P : Nat} {N N' : Mm} (he : e ≤ L) (h : NOk P N) (hR : rmR2 B L e N = .inr (e', N')) : NOk P N' ∧ e ≤ e' ∧ e' ≤ L := by
  rw [rmR2] at hR
  split at hR
  · obtain ⟨z, a, b⟩ := rmB_ok (tE_le (tE_le he)) h hR
    exact ⟨z, Nat.le_trans (Nat.le_trans (tE_ge he) (tE_ge (tE_le he))) a, b⟩
  · cases hR
theorem tiR_ok {B : Nat → Int32} {L e e' : Nat} {N N' : Mm} (he : e ≤ L) (h : ∃ P, NOk P N) (hR : tiR B L e N = .inr (e', N')) : (∃ P', NOk P' N') ∧ e ≤ e' ∧ e' ≤ L := by
  obtain ⟨P, h⟩ := h
  rw [tiR] at hR
  split at hR
  · exact oneR_ok he h ⟨by decide, by decide⟩ hR
  split at hR
  · exact oneR_ok he h ⟨by decide, by decide⟩ hR
  split at hR
  · exact oneR_ok he h ⟨by decide, by decide⟩ hR
  split at hR
  · exact oneR_ok he h ⟨by decide, by decide⟩ hR
  split at hR
  · exact oneR_ok he h ⟨by decide, by decide⟩ hR
  split at hR
  · exact oneR_ok he h ⟨by decide, by decide⟩ hR
  rw [tiB] at hR
  split at hR
  · have q := rmR2_ok he h hR; exact ⟨⟨P, q.1⟩, q.2⟩
  split at hR
  · have q := dorR_ok (v := 1) (by decide) he h hR; exact ⟨⟨P, q.1⟩, q.2⟩
  split at hR
  · have q := dorR_ok (v := 0) (by decide) he h hR; exact ⟨⟨P, q.1⟩, q.2⟩
  split at hR
  · cases hR
    exact ⟨⟨P, cold_ok h (Or.inr rfl)⟩, tE_ge he, tE_le he⟩
  split at hR
  · cases hR
    exact ⟨⟨P, cold_ok h (Or.inl rfl)⟩, tE_ge he, tE_le he⟩
  · cases hR
/-- the items one behind another -/
def plR (B : Nat → Int32) (L : Nat) : Nat → Nat → Mm → Nat → TR
  | 0, e, _, _ => .inl e
  | m + 1, e, N, k => bindR (tiR B L e N) fun e' N' => if tK B L e' = 3 then .inr (k, N') else if tK B L e' = 2 then plR B L m (tE B L e') N' (k + 1) else .inl e'
set_option maxRecDepth 100000 in
set_option maxHeartbeats 4000000 in
theorem l_tell (sx : Nat × (Nat → Int32)) (L : Nat) (hL1 : L ≤ 120) (I : Mm) (hL : I 31 1 = nI L) (R : TR) (J : Ml) (Rt : Option Value → Mm → Ml → Prop) (hR1 : ∀ e N x k, R = .inr (k, N) → 1 ≤ k → k ≤ 120 → e ≤ L → (∃ P, NOk P N) → Rt (some (.int (nI k))) (yS I N L e x) J) (hR2 : ∀ e N x, R = .inl e → e ≤ L → Rt (some (.int (-1 - nI (tSt (I 32) L e)))) (yS I N L e x) J) : ∀ m n e N x, n + m = 120 → e ≤ L → (∃ P, NOk P N) → plR (I 32) L m e N (n + 1) = R → GW sx (na_mi MX2_tell) Rt 11 [some (.ref 31), some (.ref 21), some (.int (nI (n + 1)))] [] (yS I N L e x) J := by
  intro m
  induction m with
  | zero =>
    intro n e N x hn he hNO hw
    obtain rfl : n = 120 := by omega
    have hz : (120 : Int32) < nI (120 + 1) := by decide
    refine GW.run kX2_tell (fun pc => Nat.beq pc 11) 73 7 rfl ?_
    refine And.intro (fun _ => ?_) (fun hh => absurd hz hh)
    exact ⟨trivial, hR2 e N x hw.symm he⟩
  | succ m ih =>
    intro n e N x hn he hNO hw
    have hz : ¬ (120 : Int32) < nI (n + 1) := nI_nlt (a := 120) (b := n + 1) (by omega) (by omega)
    obtain ⟨P, hNO2⟩ := hNO
    have hNO : ∃ P, NOk P N := ⟨P, hNO2⟩
    refine GW.run kX2_tell (fun pc => Nat.beq pc 11) 73 7 rfl ?_
    refine And.intro (fun hh => absurd hh hz) (fun _ => ?_)
    refine Mt.conseq (c_titem _ L hL1 I hL N P hNO2.2.2.1 hNO2.2.2.2.1 e he x _) ?_
    rintro _ _ _ ⟨rfl, ⟨eZ, NZ, yZ, h1, heZ, rfl, rfl⟩ | ⟨eZ, NZ, yZ, h1, heZ, rfl, rfl⟩⟩
    · -- pc 19 call X2_tellItem ok
      refine And.intro (fun _ => ?_) (fun hh => absurd hh (by decide))
      refine And.intro (fun h2 => ?_) (fun h2 => ?_)
      · -- pc 37 .if_icmp .ne 5: yes
        refine And.intro (fun h3 => ?_) (fun h3 => ?_)
        · -- pc 47 .if_icmp .eq 10: yes
          refine Mt.conseq (y_step _ L hL1 I hL NZ eZ heZ yZ _) ?_
          rintro _ _ _ ⟨rfl, rfl, rfl⟩
          rw [plR, bindR_ok h1, if_neg (fun z => h2 (by show nI (tK (I 32) L eZ) = 3; rw [z]; rfl)), if_pos (by have z : nI (tK (I 32) L eZ) = nI 2 := h3; exact (nI_eq (by have := tK_5 (I 32) L eZ; omega) (by omega)).mp z)] at hw
          exact GW.weak (ih (n + 1) (tE (I 32) L eZ) NZ yZ (by omega) (tE_le heZ) (tiR_ok he hNO h1).1 hw) ⟨rfl, rfl, by rw [nI_1], trivial⟩
        · -- pc 47 .if_icmp .eq 10: no
          rw [plR, bindR_ok h1, if_neg (fun z => h2 (by show nI (tK (I 32) L eZ) = 3; rw [z]; rfl)), if_neg (fun z => h3 (by show nI (tK (I 32) L eZ) = 2; rw [z]; rfl))] at hw
          exact ⟨trivial, hR2 eZ NZ yZ hw.symm heZ⟩
      · -- pc 37 .if_icmp .ne 5: no
        rw [plR, bindR_ok h1, if_pos (by have z : nI (tK (I 32) L eZ) = nI 3 := h2; exact (nI_eq (by have := tK_5 (I 32) L eZ; omega) (by omega)).mp z)] at hw
        exact ⟨trivial, hR1 eZ NZ yZ (n + 1) hw.symm (by omega) (by omega) heZ (tiR_ok he hNO h1).1⟩
    · -- pc 19 call X2_tellItem er
      refine And.intro (fun hh => absurd hh (by decide)) (fun _ => ?_)
      rw [plR, bindR_er h1] at hw
      exact ⟨trivial, hR2 eZ NZ yZ hw.symm heZ⟩
set_option maxRecDepth 100000 in
set_option maxHeartbeats 4000000 in
theorem c_tell (sx : Nat × (Nat → Int32)) (L : Nat) (hL1 : L ≤ 120) (I : Mm) (hL : I 31 1 = nI L) (N : Mm) (hNO : ∃ P, NOk P N) (J : Ml) : Mt sx MX2_tell [.ref 31, .ref 21] (pN 21 N I) J (fun r I' J' => J = J' ∧ ((∃ e N' x k, plR (I 32) L 120 0 N 1 = .inr (k, N') ∧ 1 ≤ k ∧ k ≤ 120 ∧ e ≤ L ∧ (∃ P, NOk P N') ∧ yS I N' L e x = I' ∧ r = some (.int (nI k))) ∨ (∃ e N' x, plR (I 32) L 120 0 N 1 = .inl e ∧ e ≤ L ∧ yS I N' L e x = I' ∧ r = some (.int (-1 - nI (tSt (I 32) L e)))))) := by
  have h0 : na_set (pN 21 N I) 31 4 0 = clT (pN 21 N I) (pN 21 N I 31 2) (pN 21 N I 31 3) (nI 0) (pN 21 N I 31 5) := by
    have q := clT_4 (I := pN 21 N I) (t := pN 21 N I 31 2) (s := pN 21 N I 31 3) (b := pN 21 N I 31 4) (x := pN 21 N I 31 5) (y := nI 0)
    rw [clT_self] at q
    exact q
  refine Mt.of2 _ rfl (by decide +kernel) (Nat.le_of_ble_eq_true rfl) ?_
  refine GW.run kX2_tell (fun pc => Nat.beq pc 11) 73 0 rfl ?_
  refine Mt.conseq (Mt.eqI h0 (c_step _ L hL1 (pN 21 N I) hL 0 (Nat.zero_le _) _ _ _ _)) ?_
  rintro _ _ _ ⟨rfl, rfl, rfl⟩
  refine GW.weak (GW.eqI cS_y (l_tell sx L hL1 I hL (plR (I 32) L 120 0 N 1) J _ (fun e N x k h1 h2 h3 h4 h5 => ⟨rfl, Or.inl ⟨e, N, x, k, h1, h2, h3, h4, h5, rfl, rfl⟩⟩) (fun e N x h1 h2 => ⟨rfl, Or.inr ⟨e, N, x, h1, h2, rfl, rfl⟩⟩) 120 0 0 N _ rfl (Nat.zero_le _) hNO rfl)) ⟨rfl, rfl, rfl, trivial⟩
