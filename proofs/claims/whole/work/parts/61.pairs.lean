/-! PAIRS: a call of the class, then the same of the reference -/
def PrI (sx : Nat × (Nat → Int32)) (jc jm : Nat) (av : List Value) : Prop := ∀ I J, Sim I J → Mt sx jc (.ref 0 :: av) I J (fun r I1 J1 => ∃ v : Int32, r = some (.int v) ∧ Mt sx jm (.ref 43 :: av) I1 J1 (fun r2 I2 J2 => r2 = some (.int v) ∧ Sim I2 J2))
def PrL (sx : Nat × (Nat → Int32)) (jc jm : Nat) (av : List Value) : Prop := ∀ I J, Sim I J → Mt sx jc (.ref 0 :: av) I J (fun r I1 J1 => ∃ v : Int64, r = some (.long v) ∧ Mt sx jm (.ref 43 :: av) I1 J1 (fun r2 I2 J2 => r2 = some (.long v) ∧ Sim I2 J2))
theorem out_in {v a b : Int32} (h : outP v a b) (g : a ≤ v ∧ v ≤ b) : False := h.elim (fun q => absurd g.1 (Int32.not_le.mpr q)) (fun q => absurd g.2 (Int32.not_le.mpr q))
theorem nout_nin {v a b : Int32} (h : ¬ outP v a b) (g : ¬ (a ≤ v ∧ v ≤ b)) : False := g ⟨Int32.not_lt.mp fun q => h (Or.inl q), Int32.not_lt.mp fun q => h (Or.inr q)⟩
theorem gN_hi {nb : Nat} {I : Mm} {k : Nat} (h : 10 ≤ k) : gN nb I k = fun _ => 0 := by
  unfold gN
  rw [show Nat.ble k 9 = false by cases q : Nat.ble k 9 with | false => rfl | true => exact absurd (Nat.le_of_ble_eq_true q) (by omega)]
  rfl
theorem set_hi {I : Mm} {k j : Nat} {v : Int32} (hk : k < 10) (h : ∀ a, 10 ≤ a → I a = fun _ => 0) : ∀ a, 10 ≤ a → na_set I k j v a = fun _ => 0 := fun a ha => by rw [na_set_off (by omega)]; exact h a ha
theorem nt_set {I : Mm} {k pl j : Nat} {v : Int32} (hk : k < 10) (hp : pl = 1 + k) : na_set I pl j v = pN 1 (na_set (gN 1 I) k j v) I := by
  rw [← pN_set hk hp, pN_gN]
theorem row_set {I : Mm} {j : Nat} {v : Int32} : na_set I 44 j v = sR (upd (I 44) j v) I := by
  rw [← sR_set, sR_self]
theorem r44 {N I : Mm} : pN 1 N I 44 = I 44 := rfl
theorem c01 {v : Int32} (h : ¬ outP v 0 1) : v = 0 ∨ v = 1 := by
  have h1 : ¬ v < 0 := fun q => h (Or.inl q)
  have h2 : ¬ (1 : Int32) < v := fun q => h (Or.inr q)
  rw [lt_i, i0] at h1
  rw [lt_i, i1] at h2
  rcases (show v.toInt = 0 ∨ v.toInt = 1 by omega) with q | q
  · exact Or.inl (Int32.toInt_inj.mp (by rw [q, i0]))
  · exact Or.inr (Int32.toInt_inj.mp (by rw [q, i1]))
/-- one number of the night is another -/
theorem Sim.one {I : Mm} {J : Ml} (h : Sim I J) {P : Nat} (hN : NOk P (gN 1 I)) (ha : Agr P (vN (I 44)) (gN 1 I)) {w j : Nat} {v : Int32} (hN' : NOk P (na_set (gN 1 I) w j v)) {i : Nat} (hw : w < 10) (hf : Agr P (vN (upd (I 44) i v)) (na_set (gN 1 I) w j v)) {pl : Nat} (hp : pl = 1 + w) : Sim (na_set (na_set I pl j v) 44 i v) J := by
  rw [nt_set hw hp, row_set, r44]
  exact h.night hN' hf (set_hi hw fun a ha => gN_hi ha)
set_option maxRecDepth 100000 in
set_option maxHeartbeats 4000000 in
theorem pr_cold (sx : Nat × (Nat → Int32)) (v : Int32) : PrI sx MX3_cold MX4_cold [.int v] := by
  intro I J hS
  refine Mt.of2 _ rfl (by decide +kernel) (Nat.le_of_ble_eq_true rfl) ?_
  refine GW.run kX3_cold (fun _ => false) 49 0 rfl ?_
  refine Mt.conseq (c_outside _ _ _ _ _ _) ?_
  rintro _ _ _ ⟨rfl, rfl, ⟨h1, rfl⟩ | ⟨h1, rfl⟩⟩
  · -- pc 3 call X3_outside true
    refine And.intro (fun hh => absurd hh (by decide)) (fun _ => ?_)
    refine Mt.conseq (c_fnd0 _ _ _) ?_
    rintro _ _ _ ⟨rfl, rfl, rfl⟩
    refine ⟨trivial, _, rfl, ?_⟩
    refine Mt.of2 _ rfl (by decide +kernel) (Nat.le_of_ble_eq_true rfl) ?_
    refine GW.run kX4_cold (fun _ => false) 51 0 rfl ?_
    refine Mt.conseq (m_in _ _ _ _ _ _) ?_
    rintro _ _ _ ⟨rfl, rfl, ⟨g1, rfl⟩ | ⟨g1, rfl⟩⟩
    · -- pc 3 call X4_in true
      refine And.intro (fun _ => ?_) (fun hh => absurd hh (by decide))
      refine And.intro (by unfold vp_in; decide) ?_
      refine And.intro (by unfold vp_in; decide) ?_
      exact (out_in h1 g1).elim
    · -- pc 3 call X4_in false
      refine And.intro (fun hh => absurd hh (by decide)) (fun _ => ?_)
      refine Mt.conseq (m_fnd0 _ _ _) ?_
      rintro _ _ _ ⟨rfl, rfl, rfl⟩
      exact ⟨trivial, rfl, hS.found (by decide)⟩
  · -- pc 3 call X3_outside false
    refine And.intro (fun _ => ?_) (fun hh => absurd hh (by decide))
    refine ⟨trivial, _, rfl, ?_⟩
    refine Mt.of2 _ rfl (by decide +kernel) (Nat.le_of_ble_eq_true rfl) ?_
    refine GW.run kX4_cold (fun _ => false) 51 0 rfl ?_
    refine Mt.conseq (m_in _ _ _ _ _ _) ?_
    rintro _ _ _ ⟨rfl, rfl, ⟨g1, rfl⟩ | ⟨g1, rfl⟩⟩
    · -- pc 3 call X4_in true
      refine And.intro (fun _ => ?_) (fun hh => absurd hh (by decide))
      refine And.intro (by unfold vp_in; decide) ?_
      refine And.intro (by unfold vp_in; decide) ?_
      obtain ⟨P, hN, ha⟩ := hS.1
      refine ⟨trivial, ?_, hS.one hN ha (w := 0) (j := 5) ?_ (by decide) (agS ha (w := 1) (by decide) _) rfl⟩
      · exact congrArg (fun x => some (Value.int x)) (ha.1 5 (by decide) (by decide))
      · exact ⟨hN.1.off (Or.inl rfl), hN.2.1.set (by decide), hN.2.2.1, hN.2.2.2.1, hN.2.2.2.2.1, by rw [na_set_get, if_pos ⟨rfl, rfl⟩]; exact c01 h1, hN.2.2.2.2.2.2⟩
    · -- pc 3 call X4_in false
      refine And.intro (fun hh => absurd hh (by decide)) (fun _ => ?_)
      refine Mt.conseq (m_fnd0 _ _ _) ?_
      rintro _ _ _ ⟨rfl, rfl, rfl⟩
      exact (nout_nin h1 g1).elim
/-- the tape is empty -/
theorem Sim.tape {I : Mm} {J : Ml} (h : Sim I J) {v : Int32} (hv : v = 0) : Sim (na_set (na_set I 31 1 v) 43 4 v) J := by
  subst hv
  have off : ∀ a j, ¬ (a = 31 ∧ j = 1) → ¬ (a = 43 ∧ j = 4) → na_set (na_set I 31 1 0) 43 4 0 a j = I a j := fun a j h1 h2 => by rw [na_set_get, if_neg h2, na_set_get, if_neg h1]
  have offa : ∀ a, a ≠ 31 → a ≠ 43 → na_set (na_set I 31 1 0) 43 4 0 a = I a := fun a h1 h2 => by rw [na_set_off h2, na_set_off h1]
  obtain ⟨h1, ⟨h2, h2'⟩, -, h4, h5⟩ := h
  refine ⟨h1.eq (fun a q1 q2 => offa a (by omega) (by omega)) (offa 44 (by decide) (by decide)), ⟨?_, ?_⟩, ⟨0, by decide, rfl, rfl, fun j hj => by omega⟩, fun s hs => ?_, fun k hk => ?_⟩
  · rw [offa 0 (by decide) (by decide), off 43 17 (by omega) (by omega)]; exact h2
  · rw [offa 0 (by decide) (by decide)]
    rcases h2' with q | ⟨q, q2⟩
    · exact Or.inl q
    · exact Or.inr ⟨q, q2.eq (fun a q1 q2 => offa a (by omega) (by omega)) (offa 52 (by decide) (by decide))⟩
  · unfold Sh
    rw [offa (34 + 2 * s) (by omega) (by omega), offa 48 (by decide) (by decide), offa 49 (by decide) (by decide)]
    exact h4 s hs
  · rw [offa 42 (by decide) (by decide), offa 45 (by decide) (by decide)]; exact h5 k hk
set_option maxRecDepth 100000 in
set_option maxHeartbeats 4000000 in
theorem pr_wipe (sx : Nat × (Nat → Int32)) : PrI sx MX3_wipe MX4_wipe [] := by
  intro I J hS
  refine Mt.of2 _ rfl (by decide +kernel) (Nat.le_of_ble_eq_true rfl) ?_
  refine GW.run kX3_wipe (fun _ => false) 40 0 rfl ?_
  refine ⟨trivial, _, rfl, ?_⟩
  refine Mt.of2 _ rfl (by decide +kernel) (Nat.le_of_ble_eq_true rfl) ?_
  refine GW.run kX4_wipe (fun _ => false) 38 0 rfl ?_
  obtain ⟨L, t1, t2, t3, t4⟩ := hS.2.2.1
  refine ⟨trivial, congrArg (fun x => some (Value.int x)) (t3.trans t2.symm), ?_⟩
  exact hS.tape rfl
