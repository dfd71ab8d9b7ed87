/-! THE TAPE: items, the reference -/
theorem srt2 {k : Nat} : srtI k = 2 ↔ k = 1 := by
  unfold srtI
  split
  · rename_i h; exact ⟨fun q => absurd q (by decide), fun q => by omega⟩
  · split
    · rename_i h; exact ⟨fun _ => h, fun _ => rfl⟩
    · rename_i h
      split <;> exact ⟨fun q => absurd q (by decide), fun q => absurd q h⟩
theorem vaE_1 {B : Nat → Int32} {L e : Nat} (h : tK B L e = 1) : vaE B L e = vlE B L e := if_pos h
theorem in_nout {v a b : Int32} (h : a ≤ v ∧ v ≤ b) : ¬ outP v a b := fun z => out_in z h
def mwV (B : Nat → Int32) (L i : Nat) (lo hi : Int32) (e : Nat) (ot : Int32) : Nat ⊕ (Nat × Int32) := if Wd B L i e then (if Nm B L lo hi (tE B L e) then .inr (tE B L (tE B L e), vlE B L (tE B L e)) else .inl (tE B L e)) else .inr (e, ot)
def wiP (B : Nat → Int32) (L : Nat) (I : Mm) (J : Ml) (R : TR) : Option Value → Mm → Ml → Prop := fun r I' J' => r = none ∧ ((∃ e N f P, R = .inr (e, N) ∧ e ≤ L ∧ NOk P N ∧ Agr P (vN f) N ∧ mS B L I f e 1 = I' ∧ jS B L J e = J') ∨ (∃ e f, R = .inl e ∧ e ≤ L ∧ mS B L I f e 0 = I' ∧ jS B L J e = J'))
theorem m_there2 (sx : Nat × (Nat → Int32)) (x : Int32) (r : Nat) (hxr : x = nI r) (w : Nat) (hr : r < 8) (hw : w < 4) (y : Int32) (hy : y = nI w) (f : Nat → Int32) (I : Mm) (J : Ml) : Mt sx MX4_there [.ref 43, .int x, .int y] (sR f I) J (na_v (sR f I) J (f (4 + 4 * r + w))) := by
  subst hxr
  exact m_there sx r w hr hw y hy f I J
theorem m_lies2 (sx : Nat × (Nat → Int32)) (v x : Int32) (r : Nat) (hxr : x = nI r) (w : Nat) (hr : r < 8) (hw : w < 4) (y : Int32) (hy : y = nI w) (f : Nat → Int32) (I : Mm) (J : Ml) : Mt sx MX4_lies [.ref 43, .int x, .int y, .int v] (sR f I) J (fun r' I' J' => sR (upd f (4 + 4 * r + w) (mx v)) I = I' ∧ J = J' ∧ r' = none) := by
  subst hxr
  exact m_lies sx v r w hr hw y hy f I J
theorem opM_ag {P : Nat} {f : Nat → Int32} {N : Mm} (h : NOk P N) (ha : Agr P (vN f) N) {d v : Nat} (hd : d < 7) (hv : v < 2) : Agr P (vN (opM f (nI d) (nI v))) (tdN N (nI d) (nI v)) := by
  have e2 : f 2 = N 0 4 := ha.1 4 (by decide) (by decide)
  obtain ⟨op, hop, eo⟩ := nI_rg (b := 127) (by decide) h.2.2.2.2.1
  have q := (doorbits op (by omega) d hd v hv).1
  rw [opM, tdN, tdW, e2, eo, q]
  exact agS ha (w := 2) (by decide) _
set_option maxRecDepth 100000 in
set_option maxHeartbeats 4000000 in
theorem m_wn (sx : Nat × (Nat → Int32)) (B : Nat → Int32) (L : Nat) (hL1 : L ≤ 120) (hr : ∀ j, j < L → rg 0 255 (B j)) (I : Mm) (hL : I 43 4 = nI L) (hB : ∀ j, j < L → I 47 j = B j) (f : Nat → Int32) (e : Nat) (he : e ≤ L) (lo hi : Int32) (J : Ml) : Mt sx MX4_wantNumber [.ref 43, .int lo, .int hi] (mS B L I f e 1) (jS B L J e) (fun r I' J' => (Nm B L lo hi e ∧ mS B L I f (tE B L e) 1 = I' ∧ jS B L J (tE B L e) = J' ∧ r = some (.int (vlE B L e))) ∨ (¬ Nm B L lo hi e ∧ mS B L I f e 0 = I' ∧ jS B L J e = J' ∧ ∃ y, r = some (.int y))) := by
  refine Mt.of2 _ rfl (by decide +kernel) (Nat.le_of_ble_eq_true rfl) ?_
  refine GW.run kX4_wantNumber (fun _ => false) 57 0 rfl ?_
  refine And.intro (fun hh => absurd hh (show ¬ (1 : Int32) = 0 by decide)) (fun _ => ?_)
  refine And.intro (fun h1 => ?_) (fun h1 => ?_)
  · -- pc 18 .if_icmp .ne 16: yes
    refine And.intro (by first | exact Or.inl rfl | exact Or.inr rfl) ?_
    refine And.intro (fun _ => ?_) (fun hh => absurd (show (0 : Int32) = 0 from rfl) hh)
    exact ⟨trivial, Or.inr ⟨fun z => h1 (srt2.mpr z.1), mS_go.symm, rfl, _, rfl⟩⟩
  · -- pc 18 .if_icmp .ne 16: no
    refine Mt.conseq (m_in _ _ _ _ _ _) ?_
    rintro _ _ _ ⟨rfl, rfl, ⟨h2, rfl⟩ | ⟨h2, rfl⟩⟩
    · -- pc 24 call X4_in true
      refine And.intro (fun hh => absurd hh (by decide)) (fun _ => ?_)
      refine And.intro (by first | exact Or.inl rfl | exact Or.inr rfl) ?_
      refine And.intro (fun hh => absurd hh (show ¬ (1 : Int32) = 0 by decide)) (fun _ => ?_)
      refine Mt.conseq (Mt.eqI mS_go (m_advS _ B L hL1 hr I hL hB f e he 1 J)) ?_
      rintro _ _ _ ⟨rfl, rfl, rfl⟩
      have k1 : tK B L e = 1 := srt2.mp h1
      exact ⟨trivial, Or.inl ⟨⟨k1, in_nout (by have q : lo ≤ vaE B L e ∧ vaE B L e ≤ hi := h2; rw [vaE_1 k1] at q; exact q)⟩, rfl, rfl, congrArg (fun x => some (Value.int x)) (vaE_1 k1)⟩⟩
    · -- pc 24 call X4_in false
      refine And.intro (fun _ => ?_) (fun hh => absurd hh (by decide))
      refine And.intro (by first | exact Or.inl rfl | exact Or.inr rfl) ?_
      refine And.intro (fun _ => ?_) (fun hh => absurd (show (0 : Int32) = 0 from rfl) hh)
      have k1 : tK B L e = 1 := srt2.mp h1
      exact ⟨trivial, Or.inr ⟨fun z => nout_nin z.2 (by have q : ¬ (lo ≤ vaE B L e ∧ vaE B L e ≤ hi) := h2; rw [vaE_1 k1] at q; exact q), mS_go.symm, rfl, _, rfl⟩⟩
set_option maxRecDepth 100000 in
set_option maxHeartbeats 4000000 in
theorem m_mw (sx : Nat × (Nat → Int32)) (B : Nat → Int32) (L : Nat) (hL1 : L ≤ 120) (hr : ∀ j, j < L → rg 0 255 (B j)) (I : Mm) (hL : I 43 4 = nI L) (hB : ∀ j, j < L → I 47 j = B j) (f : Nat → Int32) (e : Nat) (he : e ≤ L) (i : Nat) (hi17 : i < 17) {w : Int64} (hw : lN (wcd i) = w) (lo hi ot : Int32) (J : Ml) : Mt sx MX4_mayWant [.ref 43, .long w, .int lo, .int hi, .int ot] (mS B L I f e 1) (jS B L J e) (fun r I' J' => (∃ e' v, mwV B L i lo hi e ot = .inr (e', v) ∧ e' ≤ L ∧ mS B L I f e' 1 = I' ∧ jS B L J e' = J' ∧ r = some (.int v)) ∨ (∃ e' y, mwV B L i lo hi e ot = .inl e' ∧ e' ≤ L ∧ mS B L I f e' 0 = I' ∧ jS B L J e' = J' ∧ r = some (.int y))) := by
  refine Mt.of2 _ rfl (by decide +kernel) (Nat.le_of_ble_eq_true rfl) ?_
  refine GW.run kX4_mayWant (fun _ => false) 46 0 rfl ?_
  refine And.intro (fun hh => absurd hh (show ¬ (1 : Int32) = 0 by decide)) (fun _ => ?_)
  refine Mt.conseq (m_isW _ B L I f e i hi17 hw 1 J) ?_
  rintro _ _ _ ⟨rfl, rfl, ⟨h1, rfl⟩ | ⟨h1, rfl⟩⟩
  · -- pc 9 call X4_isWord true
    refine And.intro (fun _ => ?_) (fun hh => absurd hh (by decide))
    refine Mt.conseq (m_advS _ B L hL1 hr I hL hB f e he 1 J) ?_
    rintro _ _ _ ⟨rfl, rfl, rfl⟩
    refine Mt.conseq (m_wn _ B L hL1 hr I hL hB f (tE B L e) (tE_le he) lo hi J) ?_
    rintro _ _ _ (⟨h3, rfl, rfl, rfl⟩ | ⟨h3, rfl, rfl, ⟨y1, rfl⟩⟩)
    · -- pc 26 call X4_wantNumber ok
      exact ⟨trivial, Or.inl ⟨_, _, by rw [mwV, if_pos h1, if_pos h3], (tE_le (tE_le he)), rfl, rfl, rfl⟩⟩
    · -- pc 26 call X4_wantNumber er
      exact ⟨trivial, Or.inr ⟨_, y1, by rw [mwV, if_pos h1, if_neg h3], (tE_le he), rfl, rfl, rfl⟩⟩
  · -- pc 9 call X4_isWord false
    refine And.intro (fun hh => absurd hh (by decide)) (fun _ => ?_)
    exact ⟨trivial, Or.inl ⟨e, ot, by rw [mwV, if_neg h1], he, rfl, rfl, rfl⟩⟩
set_option maxRecDepth 100000 in
set_option maxHeartbeats 4000000 in
theorem m_mw0 (sx : Nat × (Nat → Int32)) (B : Nat → Int32) (L : Nat) (I : Mm) (f : Nat → Int32) (e : Nat) (w : Int64) (lo hi ot : Int32) (J : Ml) : Mt sx MX4_mayWant [.ref 43, .long w, .int lo, .int hi, .int ot] (mS B L I f e 0) J (na_v (mS B L I f e 0) J ot) := by
  refine Mt.of2 _ rfl (by decide +kernel) (Nat.le_of_ble_eq_true rfl) ?_
  refine GW.run kX4_mayWant (fun _ => false) 46 0 rfl ?_
  refine And.intro (fun _ => ?_) (fun hh => absurd (show (0 : Int32) = 0 from rfl) hh)
  exact ⟨trivial, rfl, rfl, rfl⟩
set_option maxRecDepth 100000 in
set_option maxHeartbeats 4000000 in
theorem m_wdoor (sx : Nat × (Nat → Int32)) (B : Nat → Int32) (L : Nat) (hL1 : L ≤ 120) (hr : ∀ j, j < L → rg 0 255 (B j)) (I : Mm) (hL : I 43 4 = nI L) (hB : ∀ j, j < L → I 47 j = B j) (N : Mm) (P : Nat) (hN : NOk P N) (f : Nat → Int32) (ha : Agr P (vN f) N) (e : Nat) (he : e ≤ L) (v : Nat) (hv : v < 2) (J : Ml) : Mt sx MX4_wantDoor [.ref 43, .int (nI v)] (mS B L I f e 1) (jS B L J e) (wiP B L I J (dorR B L (nI v) e N)) := by
  refine Mt.of2 _ rfl (by decide +kernel) (Nat.le_of_ble_eq_true rfl) ?_
  refine GW.run kX4_wantDoor (fun _ => false) 45 0 rfl ?_
  refine Mt.conseq (m_advS _ B L hL1 hr I hL hB f e he 1 J) ?_
  rintro _ _ _ ⟨rfl, rfl, rfl⟩
  refine Mt.conseq (m_wn _ B L hL1 hr I hL hB f (tE B L e) (tE_le he) 0 6 J) ?_
  rintro _ _ _ (⟨h2, rfl, rfl, rfl⟩ | ⟨h2, rfl, rfl, ⟨y1, rfl⟩⟩)
  · -- pc 8 call X4_wantNumber ok
    refine And.intro (fun hh => absurd hh (show ¬ (1 : Int32) = 0 by decide)) (fun _ => ?_)
    refine Mt.conseq (m_op _ _ _ f _ _) ?_
    rintro _ _ _ ⟨rfl, rfl, rfl⟩
    obtain ⟨d, hd, ed⟩ := nout_nI (b := 6) (by decide) (h2).2
    refine ⟨rfl, Or.inl ⟨_, _, opM f (vlE B L (tE B L e)) (nI v), P, by rw [dorR, if_pos h2], (tE_le (tE_le he)), ?_, ?_, rfl, rfl⟩⟩
    · rw [ed]; exact tdN_ok hN (by omega) hv
    · rw [ed]; exact opM_ag hN ha (by omega) hv
  · -- pc 8 call X4_wantNumber er
    refine And.intro (fun _ => ?_) (fun hh => absurd (show (0 : Int32) = 0 from rfl) hh)
    exact ⟨rfl, Or.inr ⟨_, f, by rw [dorR, if_neg h2], (tE_le he), rfl, rfl⟩⟩
theorem one_ag {P : Nat} {f : Nat → Int32} {N : Mm} (h : NOk P N) (ha : Agr P (vN f) N) (hP7 : P < 8) {kd rm nd : Int32} : Agr (P + 1) (vN (adM f P kd rm nd)) (adN N (N 0 7).toNatClampNeg kd rm nd) := by
  have hc : (N 0 7).toNatClampNeg = P := by rw [h.2.2.1]; exact nI_clamp (by omega)
  rw [hc]
  exact Agr.more hP7 ((ha.1 7 (by decide) (by decide)).trans h.2.2.1) ha kd rm nd
theorem one_ok {P : Nat} {N : Mm} (h : NOk P N) (hP7 : P < 8) {kd rm nd : Int32} (hk : rg 0 5 kd) (hr : rg 0 7 rm) (hn : rg 1 20 nd) : NOk (P + 1) (adN N (N 0 7).toNatClampNeg kd rm nd) := by
  have hc : (N 0 7).toNatClampNeg = P := by rw [h.2.2.1]; exact nI_clamp (by omega)
  rw [hc]
  exact adN_ok h hP7 hk hr hn
theorem mw_need {B : Nat → Int32} {L e e' : Nat} {kd rm v : Int32} {N : Mm} (h : mwV B L 7 1 20 e 3 = .inr (e', v)) : oneC B L kd rm e N = .inr (e', adN N (N 0 7).toNatClampNeg kd rm v) ∧ rg 1 20 v := by
  rw [mwV] at h
  rw [oneC]
  split at h
  · rename_i q1
    split at h
    · rename_i q2
      cases h
      rw [if_pos q1, if_pos q2]
      exact ⟨rfl, nout_rg (a := 1) (b := 20) (by decide) (by decide) q2.2⟩
    · cases h
  · rename_i q1
    cases h
    rw [if_neg q1]
    exact ⟨rfl, by decide, by decide⟩
theorem mw_need0 {B : Nat → Int32} {L e e' : Nat} {kd rm : Int32} {N : Mm} (h : mwV B L 7 1 20 e 3 = .inl e') : oneC B L kd rm e N = .inl e' := by
  rw [mwV] at h
  rw [oneC]
  split at h
  · rename_i q1
    split at h
    · cases h
    · rename_i q2
      cases h
      rw [if_pos q1, if_neg q2]
  · cases h
set_option maxRecDepth 100000 in
set_option maxHeartbeats 4000000 in
theorem m_wone (sx : Nat × (Nat → Int32)) (B : Nat → Int32) (L : Nat) (hL1 : L ≤ 120) (hr : ∀ j, j < L → rg 0 255 (B j)) (I : Mm) (hL : I 43 4 = nI L) (hB : ∀ j, j < L → I 47 j = B j) (N : Mm) (P : Nat) (hN : NOk P N) (f : Nat → Int32) (ha : Agr P (vN f) N) (e : Nat) (he : e ≤ L) (kd : Int32) (hk : rg 0 5 kd) (J : Ml) : Mt sx MX4_wantOne [.ref 43, .int kd] (mS B L I f e 1) (jS B L J e) (wiP B L I J (oneR B L kd e N)) := by
  have e73 : f 3 = N 0 7 := ha.1 7 (by decide) (by decide)
  have hP3 : f 3 = nI P := e73.trans hN.2.2.1
  refine Mt.of2 _ rfl (by decide +kernel) (Nat.le_of_ble_eq_true rfl) ?_
  refine GW.run kX4_wantOne (fun _ => false) 79 0 rfl ?_
  refine And.intro (by unfold vp_in; decide) ?_
  refine And.intro (fun h1 => ?_) (fun h1 => ?_)
  · -- pc 9 .if_icmp .ge 7: yes
    refine And.intro (by first | exact Or.inl rfl | exact Or.inr rfl) ?_
    refine And.intro (fun hh => absurd (show (0 : Int32) = 0 from rfl) hh) (fun _ => ?_)
    exact ⟨rfl, Or.inr ⟨e, f, by rw [oneR, if_pos (by rw [← e73]; exact h1)], he, mS_go.symm, rfl⟩⟩
  · -- pc 9: not full
    have hP7 := nfull hP3 hN.2.2.2.1 h1
    refine And.intro (by first | exact Or.inl rfl | exact Or.inr rfl) ?_
    refine And.intro (fun _ => ?_) (fun hh => absurd hh (show ¬ (1 : Int32) = 0 by decide))
    refine Mt.conseq (Mt.eqI mS_go (m_advS _ B L hL1 hr I hL hB f e he 1 J)) ?_
    rintro _ _ _ ⟨rfl, rfl, rfl⟩
    refine Mt.conseq (m_isW _ B L I f (tE B L e) 6 (by decide) wcd_6 1 J) ?_
    rintro _ _ _ ⟨rfl, rfl, ⟨h3, rfl⟩ | ⟨h3, rfl⟩⟩
    · -- pc 37 call X4_isWord true
      refine And.intro (by first | exact Or.inl rfl | exact Or.inr rfl) ?_
      refine And.intro (fun _ => ?_) (fun hh => absurd hh (show ¬ (1 : Int32) = 0 by decide))
      refine Mt.conseq (Mt.eqI mS_go (m_advS _ B L hL1 hr I hL hB f (tE B L e) (tE_le he) 1 J)) ?_
      rintro _ _ _ ⟨rfl, rfl, rfl⟩
      refine Mt.conseq (m_wn _ B L hL1 hr I hL hB f (tE B L (tE B L e)) (tE_le (tE_le he)) 0 7 J) ?_
      rintro _ _ _ (⟨h5, rfl, rfl, rfl⟩ | ⟨h5, rfl, rfl, ⟨y1, rfl⟩⟩)
      · -- pc 59 call X4_wantNumber ok
        refine Mt.conseq (m_mw _ B L hL1 hr I hL hB f (tE B L (tE B L (tE B L e))) (tE_le (tE_le (tE_le he))) 7 (by decide) wcd_7 1 20 3 J) ?_
        rintro _ _ _ (⟨eQ, vQ, h6, heQ, rfl, rfl, rfl⟩ | ⟨eQ, vQ, h6, heQ, rfl, rfl, rfl⟩)
        · -- pc 71 call X4_mayWant ok
          refine And.intro (fun hh => absurd hh (show ¬ (1 : Int32) = 0 by decide)) (fun _ => ?_)
          refine Mt.conseq (m_ad _ kd (vlE B L (tE B L (tE B L e))) vQ f P hP3 hP7 _ _) ?_
          rintro _ _ _ ⟨rfl, rfl, rfl⟩
          exact ⟨rfl, Or.inl ⟨_, _, _, P + 1, by rw [oneR, if_neg (by rw [← e73]; exact h1), oneA, if_pos h3, oneB, if_pos h5, (mw_need h6).1], heQ, one_ok hN hP7 hk (nout_rg (a := 0) (b := 7) (by decide) (by decide) (h5).2) (mw_need (B := B) (L := L) (e := (tE B L (tE B L (tE B L e)))) (kd := kd) (rm := 0) (N := N) h6).2, one_ag hN ha hP7, rfl, rfl⟩⟩
        · -- pc 71 call X4_mayWant er
          refine And.intro (fun _ => ?_) (fun hh => absurd (show (0 : Int32) = 0 from rfl) hh)
          exact ⟨rfl, Or.inr ⟨_, f, by rw [oneR, if_neg (by rw [← e73]; exact h1), oneA, if_pos h3, oneB, if_pos h5, mw_need0 h6], heQ, rfl, rfl⟩⟩
      · -- pc 59 call X4_wantNumber er
        refine Mt.conseq (m_mw0 _ B L I _ _ _ _ _ _ _) ?_
        rintro _ _ _ ⟨rfl, rfl, rfl⟩
        refine And.intro (fun _ => ?_) (fun hh => absurd (show (0 : Int32) = 0 from rfl) hh)
        exact ⟨rfl, Or.inr ⟨_, f, by rw [oneR, if_neg (by rw [← e73]; exact h1), oneA, if_pos h3, oneB, if_neg h5], (tE_le (tE_le he)), rfl, rfl⟩⟩
    · -- pc 37 call X4_isWord false
      refine And.intro (by first | exact Or.inl rfl | exact Or.inr rfl) ?_
      refine And.intro (fun hh => absurd (show (0 : Int32) = 0 from rfl) hh) (fun _ => ?_)
      exact ⟨rfl, Or.inr ⟨_, f, by rw [oneR, if_neg (by rw [← e73]; exact h1), oneA, if_neg h3], (tE_le he), mS_go.symm, rfl⟩⟩
