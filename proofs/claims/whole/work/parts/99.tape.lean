/-! THE TAPE: a room, an item, the reference -/
theorem na_set_self (N : Mm) (k j : Nat) : na_set N k j (N k j) = N := by
  funext a b
  rw [na_set_get]
  split
  · rename_i h
    rw [h.1, h.2]
  · rfl
theorem my_mw {B : Nat → Int32} {L w r e e' : Nat} {N : Mm} {v : Int32} (h : mwV B L (9 + w) 0 (mxW w) e (N (w + 1) r) = .inr (e', v)) : myR B L w r e N = .inr (e', na_set N (w + 1) r v) ∧ (¬ outP (N (w + 1) r) 0 (mxW w) → ¬ outP v 0 (mxW w)) := by
  rw [mwV] at h
  rw [myR]
  split at h
  · rename_i q1
    split at h
    · rename_i q2
      cases h
      rw [if_pos q1, if_pos q2]
      exact ⟨rfl, fun _ => q2.2⟩
    · cases h
  · rename_i q1
    cases h
    rw [if_neg q1, na_set_self]
    exact ⟨rfl, fun z => z⟩
theorem my_mw0 {B : Nat → Int32} {L w r e e' : Nat} {N : Mm} {ot : Int32} (h : mwV B L (9 + w) 0 (mxW w) e ot = .inl e') : myR B L w r e N = .inl e' := by
  rw [mwV] at h
  rw [myR]
  split at h
  · rename_i q1
    split at h
    · cases h
    · rename_i q2
      cases h
      rw [if_pos q1, if_neg q2]
  · cases h
theorem row_nout {P r w : Nat} {N : Mm} (h : NOk P N) (hr : r < 8) (hw : w < 4) : ¬ outP (N (w + 1) r) 0 (mxW w) := by
  obtain ⟨h1, h2, h3, h4⟩ := h.1 r hr
  have e9 : (99 : Int32).toInt = 99 := by decide
  obtain rfl | rfl | rfl | rfl : w = 0 ∨ w = 1 ∨ w = 2 ∨ w = 3 := by omega
  · exact in_nout ⟨by rw [le_i, i0]; exact h1.1, by rw [le_i]; exact h1.2⟩
  · exact in_nout ⟨by rw [le_i, i0]; exact h2.1, by rw [le_i]; exact h2.2⟩
  · exact in_nout ⟨by rw [le_i, i0]; exact h3.1, by rw [le_i]; exact h3.2⟩
  · exact in_nout ⟨by rw [le_i, i0]; exact h4.1, by rw [le_i]; exact h4.2⟩
theorem mx_W {v : Int32} {w : Nat} (hw : w < 4) (h : ¬ outP v 0 (mxW w)) : mx v = v := by
  obtain rfl | rfl | rfl | rfl : w = 0 ∨ w = 1 ∨ w = 2 ∨ w = 3 := by omega
  · exact mx_id (nout_rg (a := 0) (b := 9999) (by decide) (by decide) h).2
  · exact mx_id (nout_rg (a := 0) (b := 9999) (by decide) (by decide) h).2
  · exact mx_id (Int.le_trans (nout_rg (a := 0) (b := 99) (by decide) (by decide) h).2 (by decide))
  · exact mx_id (Int.le_trans (nout_rg (a := 0) (b := 9) (by decide) (by decide) h).2 (by decide))
/-- one step of a room's words: the reference's row is written at the end -/
theorem rm_st {B : Nat → Int32} {L w r e e' P : Nat} {N : Mm} {v ot : Int32} (hN : NOk P N) (hr : r < 8) (hw : w < 4) (eo : ot = N (w + 1) r) (h : mwV B L (9 + w) 0 (mxW w) e ot = .inr (e', v)) : myR B L w r e N = .inr (e', na_set N (w + 1) r v) ∧ NOk P (na_set N (w + 1) r v) ∧ mx v = v := by
  rw [eo] at h
  obtain ⟨h1, h2⟩ := my_mw h
  have h3 := h2 (row_nout hN hr hw)
  exact ⟨h1, rgW hw hN h3, mx_W hw h3⟩
theorem na_set_row {N : Mm} {k a j b : Nat} {v : Int32} (h : a ≠ k) : na_set N k j v a b = N a b := by rw [na_set_off h]
theorem rm_er0 {B : Nat → Int32} {L r e P : Nat} {N : Mm} {f : Nat → Int32} (hN : NOk P N) (hP8 : P ≤ 8) (ha : Agr P (vN f) N) (hr : r < 8) {e0 : Nat} (h0 : mwV B L 9 0 9999 e (f (4 + 4 * r + 0)) = .inl e0) : rmB B L r e N = .inl e0 := by
  rw [rmB, bindR_er (my_mw0 (w := 0) h0)]
theorem rm_er1 {B : Nat → Int32} {L r e P : Nat} {N : Mm} {f : Nat → Int32} (hN : NOk P N) (hP8 : P ≤ 8) (ha : Agr P (vN f) N) (hr : r < 8) {e0 : Nat} {v0 : Int32} (h0 : mwV B L 9 0 9999 e (f (4 + 4 * r + 0)) = .inr (e0, v0)) {e1 : Nat} (h1 : mwV B L 10 0 9999 e0 (f (4 + 4 * r + 1)) = .inl e1) : rmB B L r e N = .inl e1 := by
  have q0 := rm_st (w := 0) (N := N) hN hr (by decide) (show f (4 + 4 * r + 0) = N 1 r from ha.2.1 1 r (by decide) (by decide) hr) h0
  rw [rmB, bindR_ok q0.1, bindR_er (my_mw0 (w := 1) h1)]
theorem rm_er2 {B : Nat → Int32} {L r e P : Nat} {N : Mm} {f : Nat → Int32} (hN : NOk P N) (hP8 : P ≤ 8) (ha : Agr P (vN f) N) (hr : r < 8) {e0 : Nat} {v0 : Int32} (h0 : mwV B L 9 0 9999 e (f (4 + 4 * r + 0)) = .inr (e0, v0)) {e1 : Nat} {v1 : Int32} (h1 : mwV B L 10 0 9999 e0 (f (4 + 4 * r + 1)) = .inr (e1, v1)) {e2 : Nat} (h2 : mwV B L 11 0 99 e1 (f (4 + 4 * r + 2)) = .inl e2) : rmB B L r e N = .inl e2 := by
  have q0 := rm_st (w := 0) (N := N) hN hr (by decide) (show f (4 + 4 * r + 0) = N 1 r from ha.2.1 1 r (by decide) (by decide) hr) h0
  have q1 := rm_st (w := 1) (N := (na_set N 1 r v0)) q0.2.1 hr (by decide) (show f (4 + 4 * r + 1) = (na_set N 1 r v0) 2 r from (ha.2.1 2 r (by decide) (by decide) hr).trans (by rw [na_set_row (show (2 : Nat) ≠ 1 by decide)])) h1
  rw [rmB, bindR_ok q0.1, bindR_ok q1.1, bindR_er (my_mw0 (w := 2) h2)]
theorem rm_er3 {B : Nat → Int32} {L r e P : Nat} {N : Mm} {f : Nat → Int32} (hN : NOk P N) (hP8 : P ≤ 8) (ha : Agr P (vN f) N) (hr : r < 8) {e0 : Nat} {v0 : Int32} (h0 : mwV B L 9 0 9999 e (f (4 + 4 * r + 0)) = .inr (e0, v0)) {e1 : Nat} {v1 : Int32} (h1 : mwV B L 10 0 9999 e0 (f (4 + 4 * r + 1)) = .inr (e1, v1)) {e2 : Nat} {v2 : Int32} (h2 : mwV B L 11 0 99 e1 (f (4 + 4 * r + 2)) = .inr (e2, v2)) {e3 : Nat} (h3 : mwV B L 12 0 9 e2 (f (4 + 4 * r + 3)) = .inl e3) : rmB B L r e N = .inl e3 := by
  have q0 := rm_st (w := 0) (N := N) hN hr (by decide) (show f (4 + 4 * r + 0) = N 1 r from ha.2.1 1 r (by decide) (by decide) hr) h0
  have q1 := rm_st (w := 1) (N := (na_set N 1 r v0)) q0.2.1 hr (by decide) (show f (4 + 4 * r + 1) = (na_set N 1 r v0) 2 r from (ha.2.1 2 r (by decide) (by decide) hr).trans (by rw [na_set_row (show (2 : Nat) ≠ 1 by decide)])) h1
  have q2 := rm_st (w := 2) (N := (na_set (na_set N 1 r v0) 2 r v1)) q1.2.1 hr (by decide) (show f (4 + 4 * r + 2) = (na_set (na_set N 1 r v0) 2 r v1) 3 r from (ha.2.1 3 r (by decide) (by decide) hr).trans (by rw [na_set_row (show (3 : Nat) ≠ 2 by decide), na_set_row (show (3 : Nat) ≠ 1 by decide)])) h2
  rw [rmB, bindR_ok q0.1, bindR_ok q1.1, bindR_ok q2.1, my_mw0 (w := 3) h3]
theorem rm_all {B : Nat → Int32} {L r e P : Nat} {N : Mm} {f : Nat → Int32} (hN : NOk P N) (hP8 : P ≤ 8) (ha : Agr P (vN f) N) (hr : r < 8) {e0 : Nat} {v0 : Int32} (h0 : mwV B L 9 0 9999 e (f (4 + 4 * r + 0)) = .inr (e0, v0)) {e1 : Nat} {v1 : Int32} (h1 : mwV B L 10 0 9999 e0 (f (4 + 4 * r + 1)) = .inr (e1, v1)) {e2 : Nat} {v2 : Int32} (h2 : mwV B L 11 0 99 e1 (f (4 + 4 * r + 2)) = .inr (e2, v2)) {e3 : Nat} {v3 : Int32} (h3 : mwV B L 12 0 9 e2 (f (4 + 4 * r + 3)) = .inr (e3, v3)) : rmB B L r e N = .inr (e3, (na_set (na_set (na_set (na_set N 1 r v0) 2 r v1) 3 r v2) 4 r v3)) ∧ NOk P (na_set (na_set (na_set (na_set N 1 r v0) 2 r v1) 3 r v2) 4 r v3) ∧ Agr P (vN (upd (upd (upd (upd f (4 + 4 * r + 0) (mx v0)) (4 + 4 * r + 1) (mx v1)) (4 + 4 * r + 2) (mx v2)) (4 + 4 * r + 3) (mx v3))) (na_set (na_set (na_set (na_set N 1 r v0) 2 r v1) 3 r v2) 4 r v3) := by
  have q0 := rm_st (w := 0) (N := N) hN hr (by decide) (show f (4 + 4 * r + 0) = N 1 r from ha.2.1 1 r (by decide) (by decide) hr) h0
  have q1 := rm_st (w := 1) (N := (na_set N 1 r v0)) q0.2.1 hr (by decide) (show f (4 + 4 * r + 1) = (na_set N 1 r v0) 2 r from (ha.2.1 2 r (by decide) (by decide) hr).trans (by rw [na_set_row (show (2 : Nat) ≠ 1 by decide)])) h1
  have q2 := rm_st (w := 2) (N := (na_set (na_set N 1 r v0) 2 r v1)) q1.2.1 hr (by decide) (show f (4 + 4 * r + 2) = (na_set (na_set N 1 r v0) 2 r v1) 3 r from (ha.2.1 3 r (by decide) (by decide) hr).trans (by rw [na_set_row (show (3 : Nat) ≠ 2 by decide), na_set_row (show (3 : Nat) ≠ 1 by decide)])) h2
  have q3 := rm_st (w := 3) (N := (na_set (na_set (na_set N 1 r v0) 2 r v1) 3 r v2)) q2.2.1 hr (by decide) (show f (4 + 4 * r + 3) = (na_set (na_set (na_set N 1 r v0) 2 r v1) 3 r v2) 4 r from (ha.2.1 4 r (by decide) (by decide) hr).trans (by rw [na_set_row (show (4 : Nat) ≠ 3 by decide), na_set_row (show (4 : Nat) ≠ 2 by decide), na_set_row (show (4 : Nat) ≠ 1 by decide)])) h3
  refine ⟨by rw [rmB, bindR_ok q0.1, bindR_ok q1.1, bindR_ok q2.1, q3.1], q3.2.1, ?_⟩
  rw [q0.2.2, q1.2.2, q2.2.2, q3.2.2]
  exact agR hP8 (agR hP8 (agR hP8 (agR hP8 ha hr (w := 0) (by decide) _) hr (w := 1) (by decide) _) hr (w := 2) (by decide) _) hr (w := 3) (by decide) _
set_option maxRecDepth 100000 in
set_option maxHeartbeats 4000000 in
theorem m_wroom (sx : Nat × (Nat → Int32)) (B : Nat → Int32) (L : Nat) (hL1 : L ≤ 120) (hr : ∀ j, j < L → rg 0 255 (B j)) (I : Mm) (hL : I 43 4 = nI L) (hB : ∀ j, j < L → I 47 j = B j) (N : Mm) (P : Nat) (hN : NOk P N) (f : Nat → Int32) (ha : Agr P (vN f) N) (e : Nat) (he : e ≤ L) (J : Ml) : Mt sx MX4_wantRoom [.ref 43] (mS B L I f e 1) (jS B L J e) (wiP B L I J (rmR2 B L e N)) := by
  have hP8 := hN.2.2.2.1
  have hrr : Nm B L 0 7 (tE B L e) → (vlE B L (tE B L e)).toNatClampNeg < 8 ∧ vlE B L (tE B L e) = nI (vlE B L (tE B L e)).toNatClampNeg := fun z => by
    obtain ⟨r, hr, er⟩ := nout_nI (b := 7) (by decide) z.2
    rw [er, nI_clamp (by omega)]
    exact ⟨by omega, rfl⟩
  refine Mt.of2 _ rfl (by decide +kernel) (Nat.le_of_ble_eq_true rfl) ?_
  refine GW.run kX4_wantRoom (fun _ => false) 105 0 rfl ?_
  refine Mt.conseq (m_advS _ B L hL1 hr I hL hB f e he 1 J) ?_
  rintro _ _ _ ⟨rfl, rfl, rfl⟩
  refine Mt.conseq (m_wn _ B L hL1 hr I hL hB f (tE B L e) (tE_le he) 0 7 J) ?_
  rintro _ _ _ (⟨h2, rfl, rfl, rfl⟩ | ⟨h2, rfl, rfl, ⟨y1, rfl⟩⟩)
  · -- pc 8 call X4_wantNumber ok
    refine And.intro (fun _ => ?_) (fun hh => absurd hh (show ¬ (1 : Int32) = 0 by decide))
    refine Mt.conseq (m_there2 _ _ (vlE B L (tE B L e)).toNatClampNeg (hrr h2).2 0 (hrr h2).1 (by decide) _ (by decide) f _ _) ?_
    rintro _ _ _ ⟨rfl, rfl, rfl⟩
    refine Mt.conseq (m_mw _ B L hL1 hr I hL hB f (tE B L (tE B L e)) (tE_le (tE_le he)) 9 (by decide) wcd_9 0 9999 (f (4 + 4 * (vlE B L (tE B L e)).toNatClampNeg + 0)) J) ?_
    rintro _ _ _ (⟨e0, v0, h4, he0, rfl, rfl, rfl⟩ | ⟨e0, v0, h4, he0, rfl, rfl, rfl⟩)
    · -- pc 34 call X4_mayWant ok
      refine Mt.conseq (m_there2 _ _ (vlE B L (tE B L e)).toNatClampNeg (hrr h2).2 1 (hrr h2).1 (by decide) _ (by decide) f _ _) ?_
      rintro _ _ _ ⟨rfl, rfl, rfl⟩
      refine Mt.conseq (m_mw _ B L hL1 hr I hL hB f e0 he0 10 (by decide) wcd_10 0 9999 (f (4 + 4 * (vlE B L (tE B L e)).toNatClampNeg + 1)) J) ?_
      rintro _ _ _ (⟨e1, v1, h6, he1, rfl, rfl, rfl⟩ | ⟨e1, v1, h6, he1, rfl, rfl, rfl⟩)
      · -- pc 52 call X4_mayWant ok
        refine Mt.conseq (m_there2 _ _ (vlE B L (tE B L e)).toNatClampNeg (hrr h2).2 2 (hrr h2).1 (by decide) _ (by decide) f _ _) ?_
        rintro _ _ _ ⟨rfl, rfl, rfl⟩
        refine Mt.conseq (m_mw _ B L hL1 hr I hL hB f e1 he1 11 (by decide) wcd_11 0 99 (f (4 + 4 * (vlE B L (tE B L e)).toNatClampNeg + 2)) J) ?_
        rintro _ _ _ (⟨e2, v2, h8, he2, rfl, rfl, rfl⟩ | ⟨e2, v2, h8, he2, rfl, rfl, rfl⟩)
        · -- pc 69 call X4_mayWant ok
          refine Mt.conseq (m_there2 _ _ (vlE B L (tE B L e)).toNatClampNeg (hrr h2).2 3 (hrr h2).1 (by decide) _ (by decide) f _ _) ?_
          rintro _ _ _ ⟨rfl, rfl, rfl⟩
          refine Mt.conseq (m_mw _ B L hL1 hr I hL hB f e2 he2 12 (by decide) wcd_12 0 9 (f (4 + 4 * (vlE B L (tE B L e)).toNatClampNeg + 3)) J) ?_
          rintro _ _ _ (⟨e3, v3, h10, he3, rfl, rfl, rfl⟩ | ⟨e3, v3, h10, he3, rfl, rfl, rfl⟩)
          · -- pc 87 call X4_mayWant ok
            refine And.intro (fun hh => absurd hh (show ¬ (1 : Int32) = 0 by decide)) (fun _ => ?_)
            refine Mt.conseq (m_lies2 _ v0 _ (vlE B L (tE B L e)).toNatClampNeg (hrr h2).2 0 (hrr h2).1 (by decide) _ (by decide) _ _ _) ?_
            rintro _ _ _ ⟨rfl, rfl, rfl⟩
            refine Mt.conseq (m_lies2 _ v1 _ (vlE B L (tE B L e)).toNatClampNeg (hrr h2).2 1 (hrr h2).1 (by decide) _ (by decide) _ _ _) ?_
            rintro _ _ _ ⟨rfl, rfl, rfl⟩
            refine Mt.conseq (m_lies2 _ v2 _ (vlE B L (tE B L e)).toNatClampNeg (hrr h2).2 2 (hrr h2).1 (by decide) _ (by decide) _ _ _) ?_
            rintro _ _ _ ⟨rfl, rfl, rfl⟩
            refine Mt.conseq (m_lies2 _ v3 _ (vlE B L (tE B L e)).toNatClampNeg (hrr h2).2 3 (hrr h2).1 (by decide) _ (by decide) _ _ _) ?_
            rintro _ _ _ ⟨rfl, rfl, rfl⟩
            have q := rm_all hN hP8 ha (hrr h2).1 h4 h6 h8 h10
            exact ⟨rfl, Or.inl ⟨_, _, _, P, by rw [rmR2, if_pos h2, q.1], he3, q.2.1, q.2.2, rfl, rfl⟩⟩
          · -- pc 87 call X4_mayWant er
            refine And.intro (fun _ => ?_) (fun hh => absurd (show (0 : Int32) = 0 from rfl) hh)
            exact ⟨rfl, Or.inr ⟨_, f, by rw [rmR2, if_pos h2, rm_er3 hN hP8 ha (hrr h2).1 h4 h6 h8 h10], he3, rfl, rfl⟩⟩
        · -- pc 69 call X4_mayWant er
          refine Mt.conseq (m_there2 _ _ (vlE B L (tE B L e)).toNatClampNeg (hrr h2).2 3 (hrr h2).1 (by decide) _ (by decide) f _ _) ?_
          rintro _ _ _ ⟨rfl, rfl, rfl⟩
          refine Mt.conseq (m_mw0 _ B L I _ _ _ _ _ _ _) ?_
          rintro _ _ _ ⟨rfl, rfl, rfl⟩
          refine And.intro (fun _ => ?_) (fun hh => absurd (show (0 : Int32) = 0 from rfl) hh)
          exact ⟨rfl, Or.inr ⟨_, f, by rw [rmR2, if_pos h2, rm_er2 hN hP8 ha (hrr h2).1 h4 h6 h8], he2, rfl, rfl⟩⟩
      · -- pc 52 call X4_mayWant er
        refine Mt.conseq (m_there2 _ _ (vlE B L (tE B L e)).toNatClampNeg (hrr h2).2 2 (hrr h2).1 (by decide) _ (by decide) f _ _) ?_
        rintro _ _ _ ⟨rfl, rfl, rfl⟩
        refine Mt.conseq (m_mw0 _ B L I _ _ _ _ _ _ _) ?_
        rintro _ _ _ ⟨rfl, rfl, rfl⟩
        refine Mt.conseq (m_there2 _ _ (vlE B L (tE B L e)).toNatClampNeg (hrr h2).2 3 (hrr h2).1 (by decide) _ (by decide) f _ _) ?_
        rintro _ _ _ ⟨rfl, rfl, rfl⟩
        refine Mt.conseq (m_mw0 _ B L I _ _ _ _ _ _ _) ?_
        rintro _ _ _ ⟨rfl, rfl, rfl⟩
        refine And.intro (fun _ => ?_) (fun hh => absurd (show (0 : Int32) = 0 from rfl) hh)
        exact ⟨rfl, Or.inr ⟨_, f, by rw [rmR2, if_pos h2, rm_er1 hN hP8 ha (hrr h2).1 h4 h6], he1, rfl, rfl⟩⟩
    · -- pc 34 call X4_mayWant er
      refine Mt.conseq (m_there2 _ _ (vlE B L (tE B L e)).toNatClampNeg (hrr h2).2 1 (hrr h2).1 (by decide) _ (by decide) f _ _) ?_
      rintro _ _ _ ⟨rfl, rfl, rfl⟩
      refine Mt.conseq (m_mw0 _ B L I _ _ _ _ _ _ _) ?_
      rintro _ _ _ ⟨rfl, rfl, rfl⟩
      refine Mt.conseq (m_there2 _ _ (vlE B L (tE B L e)).toNatClampNeg (hrr h2).2 2 (hrr h2).1 (by decide) _ (by decide) f _ _) ?_
      rintro _ _ _ ⟨rfl, rfl, rfl⟩
      refine Mt.conseq (m_mw0 _ B L I _ _ _ _ _ _ _) ?_
      rintro _ _ _ ⟨rfl, rfl, rfl⟩
      refine Mt.conseq (m_there2 _ _ (vlE B L (tE B L e)).toNatClampNeg (hrr h2).2 3 (hrr h2).1 (by decide) _ (by decide) f _ _) ?_
      rintro _ _ _ ⟨rfl, rfl, rfl⟩
      refine Mt.conseq (m_mw0 _ B L I _ _ _ _ _ _ _) ?_
      rintro _ _ _ ⟨rfl, rfl, rfl⟩
      refine And.intro (fun _ => ?_) (fun hh => absurd (show (0 : Int32) = 0 from rfl) hh)
      exact ⟨rfl, Or.inr ⟨_, f, by rw [rmR2, if_pos h2, rm_er0 hN hP8 ha (hrr h2).1 h4], he0, rfl, rfl⟩⟩
  · -- pc 8 call X4_wantNumber er
    refine And.intro (fun hh => absurd (show (0 : Int32) = 0 from rfl) hh) (fun _ => ?_)
    exact ⟨rfl, Or.inr ⟨_, f, by rw [rmR2, if_neg h2], (tE_le he), rfl, rfl⟩⟩
set_option maxRecDepth 100000 in
set_option maxHeartbeats 4000000 in
theorem m_kind (sx : Nat × (Nat → Int32)) (B : Nat → Int32) (L : Nat) (I : Mm) (f : Nat → Int32) (e : Nat) (J : Ml) : Mt sx MX4_kindHere [.ref 43] (mS B L I f e 1) (jS B L J e) (fun r I' J' => mS B L I f e 1 = I' ∧ jS B L J e = J' ∧ ((Wd B L 0 e ∧ r = some (.int 0)) ∨ (¬ Wd B L 0 e ∧ Wd B L 1 e ∧ r = some (.int 1)) ∨ (¬ Wd B L 0 e ∧ ¬ Wd B L 1 e ∧ Wd B L 2 e ∧ r = some (.int 2)) ∨ (¬ Wd B L 0 e ∧ ¬ Wd B L 1 e ∧ ¬ Wd B L 2 e ∧ Wd B L 3 e ∧ r = some (.int 3)) ∨ (¬ Wd B L 0 e ∧ ¬ Wd B L 1 e ∧ ¬ Wd B L 2 e ∧ ¬ Wd B L 3 e ∧ Wd B L 4 e ∧ r = some (.int 4)) ∨ (¬ Wd B L 0 e ∧ ¬ Wd B L 1 e ∧ ¬ Wd B L 2 e ∧ ¬ Wd B L 3 e ∧ ¬ Wd B L 4 e ∧ Wd B L 5 e ∧ r = some (.int 5)) ∨ (¬ Wd B L 0 e ∧ ¬ Wd B L 1 e ∧ ¬ Wd B L 2 e ∧ ¬ Wd B L 3 e ∧ ¬ Wd B L 4 e ∧ ¬ Wd B L 5 e ∧ r = some (.int (-1))))) := by
  refine Mt.of2 _ rfl (by decide +kernel) (Nat.le_of_ble_eq_true rfl) ?_
  refine GW.run kX4_kindHere (fun _ => false) 68 0 rfl ?_
  refine Mt.conseq (m_isW _ B L I f e 0 (by decide) wcd_0 1 J) ?_
  rintro _ _ _ ⟨rfl, rfl, ⟨h1, rfl⟩ | ⟨h1, rfl⟩⟩
  · -- pc 4 call X4_isWord true
    refine And.intro (fun hh => absurd hh (by decide)) (fun _ => ?_)
    exact ⟨trivial, rfl, rfl, Or.inl ⟨h1, rfl⟩⟩
  · -- pc 4 call X4_isWord false
    refine And.intro (fun _ => ?_) (fun hh => absurd hh (by decide))
    refine Mt.conseq (m_isW _ B L I f e 1 (by decide) wcd_1 1 J) ?_
    rintro _ _ _ ⟨rfl, rfl, ⟨h2, rfl⟩ | ⟨h2, rfl⟩⟩
    · -- pc 18 call X4_isWord true
      refine And.intro (fun hh => absurd hh (by decide)) (fun _ => ?_)
      exact ⟨trivial, rfl, rfl, Or.inr (Or.inl ⟨h1, h2, rfl⟩)⟩
    · -- pc 18 call X4_isWord false
      refine And.intro (fun _ => ?_) (fun hh => absurd hh (by decide))
      refine Mt.conseq (m_isW _ B L I f e 2 (by decide) wcd_2 1 J) ?_
      rintro _ _ _ ⟨rfl, rfl, ⟨h3, rfl⟩ | ⟨h3, rfl⟩⟩
      · -- pc 32 call X4_isWord true
        refine And.intro (fun hh => absurd hh (by decide)) (fun _ => ?_)
        exact ⟨trivial, rfl, rfl, Or.inr (Or.inr (Or.inl ⟨h1, h2, h3, rfl⟩))⟩
      · -- pc 32 call X4_isWord false
        refine And.intro (fun _ => ?_) (fun hh => absurd hh (by decide))
        refine Mt.conseq (m_isW _ B L I f e 3 (by decide) wcd_3 1 J) ?_
        rintro _ _ _ ⟨rfl, rfl, ⟨h4, rfl⟩ | ⟨h4, rfl⟩⟩
        · -- pc 46 call X4_isWord true
          refine And.intro (fun hh => absurd hh (by decide)) (fun _ => ?_)
          exact ⟨trivial, rfl, rfl, Or.inr (Or.inr (Or.inr (Or.inl ⟨h1, h2, h3, h4, rfl⟩)))⟩
        · -- pc 46 call X4_isWord false
          refine And.intro (fun _ => ?_) (fun hh => absurd hh (by decide))
          refine Mt.conseq (m_isW _ B L I f e 4 (by decide) wcd_4 1 J) ?_
          rintro _ _ _ ⟨rfl, rfl, ⟨h5, rfl⟩ | ⟨h5, rfl⟩⟩
          · -- pc 60 call X4_isWord true
            refine And.intro (fun hh => absurd hh (by decide)) (fun _ => ?_)
            exact ⟨trivial, rfl, rfl, Or.inr (Or.inr (Or.inr (Or.inr (Or.inl ⟨h1, h2, h3, h4, h5, rfl⟩))))⟩
          · -- pc 60 call X4_isWord false
            refine And.intro (fun _ => ?_) (fun hh => absurd hh (by decide))
            refine Mt.conseq (m_isW _ B L I f e 5 (by decide) wcd_5 1 J) ?_
            rintro _ _ _ ⟨rfl, rfl, ⟨h6, rfl⟩ | ⟨h6, rfl⟩⟩
            · -- pc 74 call X4_isWord true
              refine And.intro (fun hh => absurd hh (by decide)) (fun _ => ?_)
              exact ⟨trivial, rfl, rfl, Or.inr (Or.inr (Or.inr (Or.inr (Or.inr (Or.inl ⟨h1, h2, h3, h4, h5, h6, rfl⟩)))))⟩
            · -- pc 74 call X4_isWord false
              refine And.intro (fun _ => ?_) (fun hh => absurd hh (by decide))
              exact ⟨trivial, rfl, rfl, Or.inr (Or.inr (Or.inr (Or.inr (Or.inr (Or.inr (⟨h1, h2, h3, h4, h5, h6, rfl⟩))))))⟩
set_option maxRecDepth 100000 in
set_option maxHeartbeats 4000000 in
theorem m_witem (sx : Nat × (Nat → Int32)) (B : Nat → Int32) (L : Nat) (hL1 : L ≤ 120) (hr : ∀ j, j < L → rg 0 255 (B j)) (I : Mm) (hL : I 43 4 = nI L) (hB : ∀ j, j < L → I 47 j = B j) (N : Mm) (P : Nat) (hN : NOk P N) (f : Nat → Int32) (ha : Agr P (vN f) N) (e : Nat) (he : e ≤ L) (J : Ml) : Mt sx MX4_wantItem [.ref 43] (mS B L I f e 1) (jS B L J e) (wiP B L I J (tiR B L e N)) := by
  refine Mt.of2 _ rfl (by decide +kernel) (Nat.le_of_ble_eq_true rfl) ?_
  refine GW.run kX4_wantItem (fun _ => false) 87 0 rfl ?_
  refine Mt.conseq (m_kind _ B L I f e J) ?_
  rintro _ _ _ ⟨rfl, rfl, ⟨h0_0, rfl⟩ | ⟨h1_0, h1_1, rfl⟩ | ⟨h2_0, h2_1, h2_2, rfl⟩ | ⟨h3_0, h3_1, h3_2, h3_3, rfl⟩ | ⟨h4_0, h4_1, h4_2, h4_3, h4_4, rfl⟩ | ⟨h5_0, h5_1, h5_2, h5_3, h5_4, h5_5, rfl⟩ | ⟨h6_0, h6_1, h6_2, h6_3, h6_4, h6_5, rfl⟩⟩
  · -- pc 1 call X4_kindHere k0
    refine And.intro (fun hh => absurd hh (by decide)) (fun _ => ?_)
    refine Mt.conseq (m_kind _ B L I f e J) ?_
    rintro _ _ _ ⟨rfl, rfl, ⟨u0_0, rfl⟩ | ⟨u1_0, u1_1, rfl⟩ | ⟨u2_0, u2_1, u2_2, rfl⟩ | ⟨u3_0, u3_1, u3_2, u3_3, rfl⟩ | ⟨u4_0, u4_1, u4_2, u4_3, u4_4, rfl⟩ | ⟨u5_0, u5_1, u5_2, u5_3, u5_4, u5_5, rfl⟩ | ⟨u6_0, u6_1, u6_2, u6_3, u6_4, u6_5, rfl⟩⟩
    · -- pc 9 call X4_kindHere k0
      refine Mt.conseq (m_wone _ B L hL1 hr I hL hB N P hN f ha e he 0 ⟨by decide, by decide⟩ J) ?_
      rintro _ _ _ ⟨rfl, h3⟩
      have q := h3
      rw [← show tiR B L e N = oneR B L 0 e N by rw [tiR, if_pos h0_0]] at q
      exact ⟨rfl, q⟩
    · -- pc 9 call X4_kindHere k1
      exact absurd h0_0 u1_0
    · -- pc 9 call X4_kindHere k2
      exact absurd h0_0 u2_0
    · -- pc 9 call X4_kindHere k3
      exact absurd h0_0 u3_0
    · -- pc 9 call X4_kindHere k4
      exact absurd h0_0 u4_0
    · -- pc 9 call X4_kindHere k5
      exact absurd h0_0 u5_0
    · -- pc 9 call X4_kindHere k6
      exact absurd h0_0 u6_0
  · -- pc 1 call X4_kindHere k1
    refine And.intro (fun hh => absurd hh (by decide)) (fun _ => ?_)
    refine Mt.conseq (m_kind _ B L I f e J) ?_
    rintro _ _ _ ⟨rfl, rfl, ⟨u0_0, rfl⟩ | ⟨u1_0, u1_1, rfl⟩ | ⟨u2_0, u2_1, u2_2, rfl⟩ | ⟨u3_0, u3_1, u3_2, u3_3, rfl⟩ | ⟨u4_0, u4_1, u4_2, u4_3, u4_4, rfl⟩ | ⟨u5_0, u5_1, u5_2, u5_3, u5_4, u5_5, rfl⟩ | ⟨u6_0, u6_1, u6_2, u6_3, u6_4, u6_5, rfl⟩⟩
    · -- pc 9 call X4_kindHere k0
      exact absurd u0_0 h1_0
    · -- pc 9 call X4_kindHere k1
      refine Mt.conseq (m_wone _ B L hL1 hr I hL hB N P hN f ha e he 1 ⟨by decide, by decide⟩ J) ?_
      rintro _ _ _ ⟨rfl, h5⟩
      have q := h5
      rw [← show tiR B L e N = oneR B L 1 e N by rw [tiR, if_neg h1_0, if_pos h1_1]] at q
      exact ⟨rfl, q⟩
    · -- pc 9 call X4_kindHere k2
      exact absurd h1_1 u2_1
    · -- pc 9 call X4_kindHere k3
      exact absurd h1_1 u3_1
    · -- pc 9 call X4_kindHere k4
      exact absurd h1_1 u4_1
    · -- pc 9 call X4_kindHere k5
      exact absurd h1_1 u5_1
    · -- pc 9 call X4_kindHere k6
      exact absurd h1_1 u6_1
  · -- pc 1 call X4_kindHere k2
    refine And.intro (fun hh => absurd hh (by decide)) (fun _ => ?_)
    refine Mt.conseq (m_kind _ B L I f e J) ?_
    rintro _ _ _ ⟨rfl, rfl, ⟨u0_0, rfl⟩ | ⟨u1_0, u1_1, rfl⟩ | ⟨u2_0, u2_1, u2_2, rfl⟩ | ⟨u3_0, u3_1, u3_2, u3_3, rfl⟩ | ⟨u4_0, u4_1, u4_2, u4_3, u4_4, rfl⟩ | ⟨u5_0, u5_1, u5_2, u5_3, u5_4, u5_5, rfl⟩ | ⟨u6_0, u6_1, u6_2, u6_3, u6_4, u6_5, rfl⟩⟩
    · -- pc 9 call X4_kindHere k0
      exact absurd u0_0 h2_0
    · -- pc 9 call X4_kindHere k1
      exact absurd u1_1 h2_1
    · -- pc 9 call X4_kindHere k2
      refine Mt.conseq (m_wone _ B L hL1 hr I hL hB N P hN f ha e he 2 ⟨by decide, by decide⟩ J) ?_
      rintro _ _ _ ⟨rfl, h7⟩
      have q := h7
      rw [← show tiR B L e N = oneR B L 2 e N by rw [tiR, if_neg h2_0, if_neg h2_1, if_pos h2_2]] at q
      exact ⟨rfl, q⟩
    · -- pc 9 call X4_kindHere k3
      exact absurd h2_2 u3_2
    · -- pc 9 call X4_kindHere k4
      exact absurd h2_2 u4_2
    · -- pc 9 call X4_kindHere k5
      exact absurd h2_2 u5_2
    · -- pc 9 call X4_kindHere k6
      exact absurd h2_2 u6_2
  · -- pc 1 call X4_kindHere k3
    refine And.intro (fun hh => absurd hh (by decide)) (fun _ => ?_)
    refine Mt.conseq (m_kind _ B L I f e J) ?_
    rintro _ _ _ ⟨rfl, rfl, ⟨u0_0, rfl⟩ | ⟨u1_0, u1_1, rfl⟩ | ⟨u2_0, u2_1, u2_2, rfl⟩ | ⟨u3_0, u3_1, u3_2, u3_3, rfl⟩ | ⟨u4_0, u4_1, u4_2, u4_3, u4_4, rfl⟩ | ⟨u5_0, u5_1, u5_2, u5_3, u5_4, u5_5, rfl⟩ | ⟨u6_0, u6_1, u6_2, u6_3, u6_4, u6_5, rfl⟩⟩
    · -- pc 9 call X4_kindHere k0
      exact absurd u0_0 h3_0
    · -- pc 9 call X4_kindHere k1
      exact absurd u1_1 h3_1
    · -- pc 9 call X4_kindHere k2
      exact absurd u2_2 h3_2
    · -- pc 9 call X4_kindHere k3
      refine Mt.conseq (m_wone _ B L hL1 hr I hL hB N P hN f ha e he 3 ⟨by decide, by decide⟩ J) ?_
      rintro _ _ _ ⟨rfl, h9⟩
      have q := h9
      rw [← show tiR B L e N = oneR B L 3 e N by rw [tiR, if_neg h3_0, if_neg h3_1, if_neg h3_2, if_pos h3_3]] at q
      exact ⟨rfl, q⟩
    · -- pc 9 call X4_kindHere k4
      exact absurd h3_3 u4_3
    · -- pc 9 call X4_kindHere k5
      exact absurd h3_3 u5_3
    · -- pc 9 call X4_kindHere k6
      exact absurd h3_3 u6_3
  · -- pc 1 call X4_kindHere k4
    refine And.intro (fun hh => absurd hh (by decide)) (fun _ => ?_)
    refine Mt.conseq (m_kind _ B L I f e J) ?_
    rintro _ _ _ ⟨rfl, rfl, ⟨u0_0, rfl⟩ | ⟨u1_0, u1_1, rfl⟩ | ⟨u2_0, u2_1, u2_2, rfl⟩ | ⟨u3_0, u3_1, u3_2, u3_3, rfl⟩ | ⟨u4_0, u4_1, u4_2, u4_3, u4_4, rfl⟩ | ⟨u5_0, u5_1, u5_2, u5_3, u5_4, u5_5, rfl⟩ | ⟨u6_0, u6_1, u6_2, u6_3, u6_4, u6_5, rfl⟩⟩
    · -- pc 9 call X4_kindHere k0
      exact absurd u0_0 h4_0
    · -- pc 9 call X4_kindHere k1
      exact absurd u1_1 h4_1
    · -- pc 9 call X4_kindHere k2
      exact absurd u2_2 h4_2
    · -- pc 9 call X4_kindHere k3
      exact absurd u3_3 h4_3
    · -- pc 9 call X4_kindHere k4
      refine Mt.conseq (m_wone _ B L hL1 hr I hL hB N P hN f ha e he 4 ⟨by decide, by decide⟩ J) ?_
      rintro _ _ _ ⟨rfl, h11⟩
      have q := h11
      rw [← show tiR B L e N = oneR B L 4 e N by rw [tiR, if_neg h4_0, if_neg h4_1, if_neg h4_2, if_neg h4_3, if_pos h4_4]] at q
      exact ⟨rfl, q⟩
    · -- pc 9 call X4_kindHere k5
      exact absurd h4_4 u5_4
    · -- pc 9 call X4_kindHere k6
      exact absurd h4_4 u6_4
  · -- pc 1 call X4_kindHere k5
    refine And.intro (fun hh => absurd hh (by decide)) (fun _ => ?_)
    refine Mt.conseq (m_kind _ B L I f e J) ?_
    rintro _ _ _ ⟨rfl, rfl, ⟨u0_0, rfl⟩ | ⟨u1_0, u1_1, rfl⟩ | ⟨u2_0, u2_1, u2_2, rfl⟩ | ⟨u3_0, u3_1, u3_2, u3_3, rfl⟩ | ⟨u4_0, u4_1, u4_2, u4_3, u4_4, rfl⟩ | ⟨u5_0, u5_1, u5_2, u5_3, u5_4, u5_5, rfl⟩ | ⟨u6_0, u6_1, u6_2, u6_3, u6_4, u6_5, rfl⟩⟩
    · -- pc 9 call X4_kindHere k0
      exact absurd u0_0 h5_0
    · -- pc 9 call X4_kindHere k1
      exact absurd u1_1 h5_1
    · -- pc 9 call X4_kindHere k2
      exact absurd u2_2 h5_2
    · -- pc 9 call X4_kindHere k3
      exact absurd u3_3 h5_3
    · -- pc 9 call X4_kindHere k4
      exact absurd u4_4 h5_4
    · -- pc 9 call X4_kindHere k5
      refine Mt.conseq (m_wone _ B L hL1 hr I hL hB N P hN f ha e he 5 ⟨by decide, by decide⟩ J) ?_
      rintro _ _ _ ⟨rfl, h13⟩
      have q := h13
      rw [← show tiR B L e N = oneR B L 5 e N by rw [tiR, if_neg h5_0, if_neg h5_1, if_neg h5_2, if_neg h5_3, if_neg h5_4, if_pos h5_5]] at q
      exact ⟨rfl, q⟩
    · -- pc 9 call X4_kindHere k6
      exact absurd h5_5 u6_5
  · -- pc 1 call X4_kindHere k6
    refine And.intro (fun _ => ?_) (fun hh => absurd hh (by decide))
    refine Mt.conseq (m_isW _ B L I f e 8 (by decide) wcd_8 1 J) ?_
    rintro _ _ _ ⟨rfl, rfl, ⟨h14, rfl⟩ | ⟨h14, rfl⟩⟩
    · -- pc 22 call X4_isWord true
      refine And.intro (fun hh => absurd hh (by decide)) (fun _ => ?_)
      refine Mt.conseq (m_wroom _ B L hL1 hr I hL hB N P hN f ha e he J) ?_
      rintro _ _ _ ⟨rfl, h15⟩
      have q := h15
      rw [← show tiR B L e N = rmR2 B L e N by rw [tiR, if_neg h6_0, if_neg h6_1, if_neg h6_2, if_neg h6_3, if_neg h6_4, if_neg h6_5, tiB, if_pos h14]] at q
      exact ⟨rfl, q⟩
    · -- pc 22 call X4_isWord false
      refine And.intro (fun _ => ?_) (fun hh => absurd hh (by decide))
      refine Mt.conseq (m_isW _ B L I f e 13 (by decide) wcd_13 1 J) ?_
      rintro _ _ _ ⟨rfl, rfl, ⟨h16, rfl⟩ | ⟨h16, rfl⟩⟩
      · -- pc 39 call X4_isWord true
        refine And.intro (fun hh => absurd hh (by decide)) (fun _ => ?_)
        refine Mt.conseq (m_wdoor _ B L hL1 hr I hL hB N P hN f ha e he 1 (by decide) J) ?_
        rintro _ _ _ ⟨rfl, h17⟩
        have q := h17
        rw [← show tiR B L e N = dorR B L (nI 1) e N by rw [tiR, if_neg h6_0, if_neg h6_1, if_neg h6_2, if_neg h6_3, if_neg h6_4, if_neg h6_5, tiB, if_neg h14, if_pos h16]; rfl] at q
        exact ⟨rfl, q⟩
      · -- pc 39 call X4_isWord false
        refine And.intro (fun _ => ?_) (fun hh => absurd hh (by decide))
        refine Mt.conseq (m_isW _ B L I f e 14 (by decide) wcd_14 1 J) ?_
        rintro _ _ _ ⟨rfl, rfl, ⟨h18, rfl⟩ | ⟨h18, rfl⟩⟩
        · -- pc 57 call X4_isWord true
          refine And.intro (fun hh => absurd hh (by decide)) (fun _ => ?_)
          refine Mt.conseq (m_wdoor _ B L hL1 hr I hL hB N P hN f ha e he 0 (by decide) J) ?_
          rintro _ _ _ ⟨rfl, h19⟩
          have q := h19
          rw [← show tiR B L e N = dorR B L (nI 0) e N by rw [tiR, if_neg h6_0, if_neg h6_1, if_neg h6_2, if_neg h6_3, if_neg h6_4, if_neg h6_5, tiB, if_neg h14, if_neg h16, if_pos h18]; rfl] at q
          exact ⟨rfl, q⟩
        · -- pc 57 call X4_isWord false
          refine And.intro (fun _ => ?_) (fun hh => absurd hh (by decide))
          refine Mt.conseq (m_isW _ B L I f e 15 (by decide) wcd_15 1 J) ?_
          rintro _ _ _ ⟨rfl, rfl, ⟨h20, rfl⟩ | ⟨h20, rfl⟩⟩
          · -- pc 75 call X4_isWord true
            refine And.intro (fun _ => ?_) (fun hh => absurd hh (by decide))
            refine Mt.conseq (m_isW _ B L I f e 15 (by decide) wcd_15 1 J) ?_
            rintro _ _ _ ⟨rfl, rfl, ⟨h21, rfl⟩ | ⟨h21, rfl⟩⟩
            · -- pc 100 call X4_isWord true
              refine And.intro (fun hh => absurd hh (by decide)) (fun _ => ?_)
              refine And.intro (by unfold vp_in; decide) ?_
              refine Mt.conseq (Mt.eqI (show na_set (mS B L I f e 1) 44 1 1 = mS B L I (upd f 1 1) e 1 from sR_set) (m_advS _ B L hL1 hr I hL hB (upd f 1 1) e he 1 J)) ?_
              rintro _ _ _ ⟨rfl, rfl, rfl⟩
              exact ⟨rfl, Or.inl ⟨_, _, upd f 1 1, P, by rw [tiR, if_neg h6_0, if_neg h6_1, if_neg h6_2, if_neg h6_3, if_neg h6_4, if_neg h6_5, tiB, if_neg h14, if_neg h16, if_neg h18, if_pos h20], (tE_le he), cold_ok hN (by decide), agS ha (w := 1) (by decide) _, rfl, rfl⟩⟩
            · -- pc 100 call X4_isWord false
              exact absurd h20 h21
          · -- pc 75 call X4_isWord false
            refine And.intro (fun hh => absurd hh (by decide)) (fun _ => ?_)
            refine Mt.conseq (m_isW _ B L I f e 16 (by decide) wcd_16 1 J) ?_
            rintro _ _ _ ⟨rfl, rfl, ⟨h23, rfl⟩ | ⟨h23, rfl⟩⟩
            · -- pc 85 call X4_isWord true
              refine And.intro (fun hh => absurd hh (by decide)) (fun _ => ?_)
              refine Mt.conseq (m_isW _ B L I f e 15 (by decide) wcd_15 1 J) ?_
              rintro _ _ _ ⟨rfl, rfl, ⟨h24, rfl⟩ | ⟨h24, rfl⟩⟩
              · -- pc 100 call X4_isWord true
                exact absurd h24 h20
              · -- pc 100 call X4_isWord false
                refine And.intro (fun _ => ?_) (fun hh => absurd hh (by decide))
                refine And.intro (by unfold vp_in; decide) ?_
                refine Mt.conseq (Mt.eqI (show na_set (mS B L I f e 1) 44 1 0 = mS B L I (upd f 1 0) e 1 from sR_set) (m_advS _ B L hL1 hr I hL hB (upd f 1 0) e he 1 J)) ?_
                rintro _ _ _ ⟨rfl, rfl, rfl⟩
                exact ⟨rfl, Or.inl ⟨_, _, upd f 1 0, P, by rw [tiR, if_neg h6_0, if_neg h6_1, if_neg h6_2, if_neg h6_3, if_neg h6_4, if_neg h6_5, tiB, if_neg h14, if_neg h16, if_neg h18, if_neg h20, if_pos h23], (tE_le he), cold_ok hN (by decide), agS ha (w := 1) (by decide) _, rfl, rfl⟩⟩
            · -- pc 85 call X4_isWord false
              refine And.intro (fun _ => ?_) (fun hh => absurd hh (by decide))
              refine And.intro (by first | exact Or.inl rfl | exact Or.inr rfl) ?_
              exact ⟨rfl, Or.inr ⟨e, f, by rw [tiR, if_neg h6_0, if_neg h6_1, if_neg h6_2, if_neg h6_3, if_neg h6_4, if_neg h6_5, tiB, if_neg h14, if_neg h16, if_neg h18, if_neg h20, if_neg h23], he, mS_go.symm, rfl⟩⟩
