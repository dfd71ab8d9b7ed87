/-! PAIRS: doors, what is kept, well, when -/
theorem doorbits : ∀ op, op < 128 → ∀ d, d < 7 → ∀ v, v < 2 → nI op ^^^ ((((nI op >>> (nI d &&& 31)) &&& 1) ^^^ nI v) <<< (nI d &&& 31)) = (nI op &&& ((1 <<< (nI d &&& 31)) ^^^ -1)) ||| (nI v <<< (nI d &&& 31)) ∧ (nI op ^^^ ((((nI op >>> (nI d &&& 31)) &&& 1) ^^^ nI v) <<< (nI d &&& 31))).toInt < 128 ∧ 0 ≤ (nI op ^^^ ((((nI op >>> (nI d &&& 31)) &&& 1) ^^^ nI v) <<< (nI d &&& 31))).toInt := by decide +kernel
theorem nI_rg {x : Int32} {b : Nat} (hb : b < 2147483647) (h : rg 0 b x) : ∃ n, n ≤ b ∧ x = nI n := by
  refine ⟨x.toInt.toNat, by have := h.2; omega, Int32.toInt_inj.mp ?_⟩
  rw [nI_toInt (by have := h.1; have := h.2; omega)]
  have := h.1
  omega
theorem nout_nI {v : Int32} {b : Nat} {B : Int32} (hB : B.toInt = b) (h : ¬ outP v 0 B) : ∃ n, n ≤ b ∧ v = nI n := by
  have h1 : ¬ v < 0 := fun q => h (Or.inl q)
  have h2 : v ≤ B := Int32.not_lt.mp fun q => h (Or.inr q)
  exact nI_of2 hB h1 h2
theorem NOk.opn {P : Nat} {N : Mm} (h : NOk P N) {v : Int32} (hv : rg 0 127 v) : NOk P (na_set N 0 4 v) := ⟨h.1.off (Or.inl rfl), h.2.1.set (by decide), h.2.2.1, h.2.2.2.1, by rw [na_set_get, if_pos ⟨rfl, rfl⟩]; exact hv, h.2.2.2.2.2.1, h.2.2.2.2.2.2⟩
set_option maxRecDepth 100000 in
set_option maxHeartbeats 4000000 in
theorem pr_door (sx : Nat × (Nat → Int32)) (d v : Int32) : PrI sx MX3_door MX4_door [.int d, .int v] := by
  intro I J hS
  refine Mt.of2 _ rfl (by decide +kernel) (Nat.le_of_ble_eq_true rfl) ?_
  refine GW.run kX3_door (fun _ => false) 50 0 rfl ?_
  refine Mt.conseq (c_outside _ _ _ _ _ _) ?_
  rintro _ _ _ ⟨rfl, rfl, ⟨h1, rfl⟩ | ⟨h1, rfl⟩⟩
  · -- pc 4 call X3_outside true
    refine And.intro (fun _ => ?_) (fun hh => absurd hh (by decide))
    refine Mt.conseq (c_fnd0 _ _ _) ?_
    rintro _ _ _ ⟨rfl, rfl, rfl⟩
    refine ⟨trivial, _, rfl, ?_⟩
    refine Mt.of2 _ rfl (by decide +kernel) (Nat.le_of_ble_eq_true rfl) ?_
    refine GW.run kX4_door (fun _ => false) 59 0 rfl ?_
    refine Mt.conseq (m_in _ _ _ _ _ _) ?_
    rintro _ _ _ ⟨rfl, rfl, ⟨g1, rfl⟩ | ⟨g1, rfl⟩⟩
    · -- pc 4 call X4_in true
      exact (out_in h1 g1).elim
    · -- pc 4 call X4_in false
      refine And.intro (fun _ => ?_) (fun hh => absurd hh (by decide))
      refine Mt.conseq (m_fnd0 _ _ _) ?_
      rintro _ _ _ ⟨rfl, rfl, rfl⟩
      exact ⟨trivial, rfl, hS.found (by decide)⟩
  · -- pc 4 call X3_outside false
    refine And.intro (fun hh => absurd hh (by decide)) (fun _ => ?_)
    refine Mt.conseq (c_outside _ _ _ _ _ _) ?_
    rintro _ _ _ ⟨rfl, rfl, ⟨h3, rfl⟩ | ⟨h3, rfl⟩⟩
    · -- pc 13 call X3_outside true
      refine And.intro (fun hh => absurd hh (by decide)) (fun _ => ?_)
      refine Mt.conseq (c_fnd0 _ _ _) ?_
      rintro _ _ _ ⟨rfl, rfl, rfl⟩
      refine ⟨trivial, _, rfl, ?_⟩
      refine Mt.of2 _ rfl (by decide +kernel) (Nat.le_of_ble_eq_true rfl) ?_
      refine GW.run kX4_door (fun _ => false) 59 0 rfl ?_
      refine Mt.conseq (m_in _ _ _ _ _ _) ?_
      rintro _ _ _ ⟨rfl, rfl, ⟨g1, rfl⟩ | ⟨g1, rfl⟩⟩
      · -- pc 4 call X4_in true
        refine And.intro (fun hh => absurd hh (by decide)) (fun _ => ?_)
        refine Mt.conseq (m_in _ _ _ _ _ _) ?_
        rintro _ _ _ ⟨rfl, rfl, ⟨g2, rfl⟩ | ⟨g2, rfl⟩⟩
        · -- pc 13 call X4_in true
          exact (out_in h3 g2).elim
        · -- pc 13 call X4_in false
          refine And.intro (fun hh => absurd hh (by decide)) (fun _ => ?_)
          refine Mt.conseq (m_fnd0 _ _ _) ?_
          rintro _ _ _ ⟨rfl, rfl, rfl⟩
          exact ⟨trivial, rfl, hS.found (by decide)⟩
      · -- pc 4 call X4_in false
        exact (nout_nin h1 g1).elim
    · -- pc 13 call X3_outside false
      refine And.intro (fun _ => ?_) (fun hh => absurd hh (by decide))
      refine Mt.conseq ((by have h := c_td sx 1 (Or.inl rfl) d v (gN 1 I) I J; rw [pN_gN] at h; exact h)) ?_
      rintro _ _ _ ⟨rfl, rfl, rfl⟩
      refine ⟨trivial, _, rfl, ?_⟩
      refine Mt.of2 _ rfl (by decide +kernel) (Nat.le_of_ble_eq_true rfl) ?_
      refine GW.run kX4_door (fun _ => false) 59 0 rfl ?_
      refine Mt.conseq (m_in _ _ _ _ _ _) ?_
      rintro _ _ _ ⟨rfl, rfl, ⟨g1, rfl⟩ | ⟨g1, rfl⟩⟩
      · -- pc 4 call X4_in true
        refine And.intro (fun hh => absurd hh (by decide)) (fun _ => ?_)
        refine Mt.conseq (m_in _ _ _ _ _ _) ?_
        rintro _ _ _ ⟨rfl, rfl, ⟨g2, rfl⟩ | ⟨g2, rfl⟩⟩
        · -- pc 13 call X4_in true
          refine And.intro (fun _ => ?_) (fun hh => absurd hh (by decide))
          refine And.intro (by unfold vp_in; decide) ?_
          refine Mt.conseq ((by have h := m_op sx d v (pN 1 (tdN (gN 1 I) d v) I 44) (pN 1 (tdN (gN 1 I) d v) I) J; rw [sR_self] at h; exact h)) ?_
          rintro _ _ _ ⟨rfl, rfl, rfl⟩
          obtain ⟨d', hd, rfl⟩ := nout_nI (b := 6) (by decide) h1
          obtain ⟨v', hv, rfl⟩ := nout_nI (b := 1) (by decide) h3
          obtain ⟨P, hN, ha⟩ := hS.1
          have e4 : I 44 2 = I 1 4 := ha.1 4 (by decide) (by decide)
          obtain ⟨op, hop, eo⟩ := nI_rg (b := 127) (by decide) hN.2.2.2.2.1
          have eo : I 1 4 = nI op := eo
          have hb := doorbits op (by omega) d' (by omega) v' (by omega)
          refine ⟨trivial, ?_, ?_⟩
          · exact congrArg (fun x => some (Value.int ((x >>> (nI d' &&& 31)) &&& 1))) e4
          · have hx : opM (I 44) (nI d') (nI v') = upd (I 44) 2 (I 1 4 ^^^ (((I 1 4 >>> (nI d' &&& 31)) &&& 1 ^^^ nI v') <<< (nI d' &&& 31))) := by rw [opM, e4, eo, hb.1]
            rw [show sR (opM (pN 1 (tdN (gN 1 I) (nI d') (nI v')) I 44) (nI d') (nI v')) (pN 1 (tdN (gN 1 I) (nI d') (nI v')) I) = sR (opM (I 44) (nI d') (nI v')) (pN 1 (tdN (gN 1 I) (nI d') (nI v')) I) from rfl, hx]
            exact hS.night (hN.opn ⟨by show 0 ≤ (I 1 4 ^^^ (((I 1 4 >>> (nI d' &&& 31)) &&& 1 ^^^ nI v') <<< (nI d' &&& 31))).toInt; rw [eo]; exact hb.2.2, by show (I 1 4 ^^^ (((I 1 4 >>> (nI d' &&& 31)) &&& 1 ^^^ nI v') <<< (nI d' &&& 31))).toInt ≤ 127; rw [eo]; have := hb.2.1; omega⟩) (agS ha (w := 2) (by decide) _) (set_hi (by decide) fun a ha => gN_hi ha)
        · -- pc 13 call X4_in false
          exact (nout_nin h3 g2).elim
      · -- pc 4 call X4_in false
        exact (nout_nin h1 g1).elim
theorem Sim.nt {I : Mm} {J : Ml} (h : Sim I J) : ∃ P, NOk P (gN 1 I) ∧ Agr P (vN (I 44)) (gN 1 I) ∧ P ≤ 8 ∧ I 1 7 = nI P ∧ I 44 3 = nI P ∧ (∀ p, p < P → vp_in (I 44 (36 + 5 * p + 1)) 8) := by
  obtain ⟨P, hN, ha⟩ := h.1
  have e7 : I 44 3 = I 1 7 := ha.1 7 (by decide) (by decide)
  refine ⟨P, hN, ha, hN.2.2.2.1, hN.2.2.1, e7.trans hN.2.2.1, fun p hp => ?_⟩
  have := ha.2.2 6 p (by decide) (by decide) hp
  rw [show I 44 (36 + 5 * p + 1) = gN 1 I 6 p from this]
  exact hN.2.1.pl p hp
theorem Agr.ok {P : Nat} {M N : Mm} (h : Agr P M N) (hN : NOk P N) : M 0 7 = nI P ∧ ∀ p, p < P → vp_in (M 6 p) 8 := ⟨(h.1 7 (by decide) (by decide)).trans hN.2.2.1, fun p hp => by rw [h.2.2 6 p (by decide) (by decide) hp]; exact hN.2.1.pl p hp⟩
/-- the night ahead and the tried row are nobody's -/
theorem Sim.junk {I : Mm} {J : Ml} (h : Sim I J) {M : Mm} {g t : Nat → Int32} (hg : E76 g (I 44)) : Sim (sR g (sA 46 t (pN 21 M I))) J := by
  obtain ⟨P, hN, ha, hP8, -⟩ := h.nt
  have h2 : Sim (sA 46 t (pN 21 M I)) J := h.eq (fun a j hj => by
    unfold jk at hj
    rw [sA_off (by omega), pN_out (by omega)]) (fun _ _ => rfl)
  have e : sA 46 t (pN 21 M I) = pN 1 (gN 1 (sA 46 t (pN 21 M I))) (sA 46 t (pN 21 M I)) := (pN_gN 1 _).symm
  have eg : gN 1 (sA 46 t (pN 21 M I)) = gN 1 I := gN_eq fun a h1 h2 => by rw [sA_off (by omega), pN_out (by omega)]
  rw [e]
  exact h2.night (P := P) (by rw [eg]; exact hN) (by rw [eg]; exact (hg.agr hP8).trans ha) (fun a ha => gN_hi ha)
theorem wo_c {P : Nat} {M N : Mm} (h : Agr P M N) : wo M P = wo N P := by rw [wo, wo, stf_c h P (Nat.le_refl _)]
theorem mask0 : ∀ P, P ≤ 8 → ∀ s, s < 256 → nI s &&& (((1 <<< (nI P &&& 31)) - 1) &&& (nI s ^^^ -1)) = 0 := by decide +kernel
theorem stf_wo {P : Nat} (hP8 : P ≤ 8) {N : Mm} (h : InvP P N) : stf N P &&& wo N P = 0 := by rw [wo, stf_s hP8 h P (Nat.le_refl _)]; exact mask0 P hP8 _ (s256 hP8 N)
/-- for how long it is well: the reference's number and the class's -/
theorem well_eq {P : Nat} {f : Nat → Int32} {N M : Mm} (hN : NOk P N) (ha : Agr P (vN f) N) (hM : Agr P M N) : un P (wo (vN f) P) 61 f = 1 + wl P 255 60 M := by
  have hP8 := hN.2.2.2.1
  rw [wo_c ha, un_wl hP8 _ 60 ha hN.1 hN.2.1 (stf_wo hP8 hN.2.1), wl_c 255 60 hM hN.2.1.pl, wl_all hP8 60 hN.1 hN.2.1 rfl]
set_option maxRecDepth 100000 in
set_option maxHeartbeats 4000000 in
theorem pr_well (sx : Nat × (Nat → Int32)) : PrI sx MX3_well MX4_well [] := by
  intro I J hS
  obtain ⟨P, hN, ha, hP8, hP1, hP3, hpl⟩ := hS.nt
  refine Mt.of2 _ rfl (by decide +kernel) (Nat.le_of_ble_eq_true rfl) ?_
  refine GW.run kX3_well (fun _ => false) 36 0 rfl ?_
  refine Mt.conseq (c_sah _ P hP8 I hP1 _) ?_
  rintro _ _ _ ⟨⟨M, rfl, h1⟩, rfl, rfl⟩
  refine Mt.conseq (c_wl sx 21 (Or.inr rfl) M P (Agr.ok h1 hN).1 hP8 (Agr.ok h1 hN).2 255 60 (by decide) I J) ?_
  rintro _ _ _ ⟨⟨M2, rfl⟩, rfl, rfl⟩
  refine ⟨trivial, _, rfl, ?_⟩
  refine Mt.of2 _ rfl (by decide +kernel) (Nat.le_of_ble_eq_true rfl) ?_
  refine GW.run kX4_well (fun _ => false) 33 0 rfl ?_
  refine Mt.conseq ((by have h := m_wf sx (I 44) P hP3 hP8 hpl (pN 21 M2 I) J; rw [show sR (I 44) (pN 21 M2 I) = pN 21 M2 I from sR_self (pN 21 M2 I)] at h; exact h)) ?_
  rintro _ _ _ ⟨⟨_, _, rfl, g1⟩, rfl, rfl⟩
  refine ⟨trivial, ?_, hS.junk g1⟩
  rw [well_eq hN ha h1, Nat.add_comm, nI_pred]
