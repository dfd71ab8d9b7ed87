/-! CLASS AND REFERENCE HOLD THE SAME -/
def NOk (P : Nat) (N : Mm) : Prop := InvR N ∧ InvP P N ∧ N 0 7 = nI P ∧ P ≤ 8 ∧ rg 0 127 (N 0 4) ∧ (N 0 5 = 0 ∨ N 0 5 = 1) ∧ rg 0 9999 (N 0 6)
def Nt (nb rp : Nat) (I : Mm) : Prop := ∃ P, NOk P (gN nb I) ∧ Agr P (vN (I rp)) (gN nb I)
def Tp (I : Mm) : Prop := ∃ L, L ≤ 120 ∧ I 31 1 = nI L ∧ I 43 4 = nI L ∧ ∀ j, j < L → I 32 j = I 47 j ∧ rg 0 255 (I 32 j)
def Sh (s : Nat) (I : Mm) (J : Ml) : Prop := I (34 + 2 * s) 1 = I 48 s ∧ (I 48 s = 0 ∨ I 48 s = 8 ∨ I 48 s = 16 ∨ I 48 s = 64) ∧ ∃ n, n ≤ 40 ∧ I (34 + 2 * s) 2 = nI n ∧ I 49 s = nI n ∧ ∀ j, j < n → J (35 + 2 * s) j = J 50 (40 * s + j)
def Kp (I : Mm) : Prop := I 0 3 = I 43 17 ∧ (I 0 3 = 0 ∨ I 0 3 = 1 ∧ Nt 11 52 I)
def Fd2 (I : Mm) : Prop := ∀ k, k < 7 → I 42 k = I 45 k
def Sim (I : Mm) (J : Ml) : Prop := Nt 1 44 I ∧ Kp I ∧ Tp I ∧ (∀ s, s < 4 → Sh s I J) ∧ Fd2 I
/-- what nobody asks for -/
def jk (a j : Nat) : Prop := (21 ≤ a ∧ a ≤ 30) ∨ a = 46 ∨ a = 53 ∨ (a = 31 ∧ j ≠ 1) ∨ (a = 43 ∧ j ≠ 4 ∧ j ≠ 17)
theorem gN_eq {nb : Nat} {I I' : Mm} (h : ∀ a, nb ≤ a → a ≤ nb + 9 → I' a = I a) : gN nb I' = gN nb I := by
  funext k
  by_cases hk : k ≤ 9
  · rw [gN_in hk, gN_in hk, h _ (by omega) (by omega)]
  · unfold gN
    rw [show Nat.ble k 9 = false by cases q : Nat.ble k 9 with | false => rfl | true => exact absurd (Nat.le_of_ble_eq_true q) hk]
    rfl
theorem Nt.eq {nb rp : Nat} {I I' : Mm} (h : Nt nb rp I) (h1 : ∀ a, nb ≤ a → a ≤ nb + 9 → I' a = I a) (h2 : I' rp = I rp) : Nt nb rp I' := by
  unfold Nt
  rw [gN_eq h1, h2]
  exact h
theorem Sim.eq {I I' : Mm} {J J' : Ml} (h : Sim I J) (e : ∀ a j, ¬ jk a j → I' a j = I a j) (eJ : ∀ a, a ≠ 51 → J' a = J a) : Sim I' J' := by
  have ea : ∀ a, (∀ j, ¬ jk a j) → I' a = I a := fun a ha => funext fun j => e a j (ha j)
  obtain ⟨h1, ⟨h2, h2'⟩, ⟨L, t1, t2, t3, t4⟩, h4, h5⟩ := h
  refine ⟨h1.eq (fun a q1 q2 => ea a (fun j q => by unfold jk at q; omega)) (ea 44 (fun j q => by unfold jk at q; omega)), ⟨?_, ?_⟩, ⟨L, t1, ?_, ?_, ?_⟩, fun s hs => ?_, fun k hk => ?_⟩
  · rw [e 0 3 (by unfold jk; omega), e 43 17 (by unfold jk; omega)]; exact h2
  · rw [e 0 3 (by unfold jk; omega)]
    rcases h2' with q | ⟨q, q2⟩
    · exact Or.inl q
    · exact Or.inr ⟨q, q2.eq (fun a q1 q2 => ea a (fun j q => by unfold jk at q; omega)) (ea 52 (fun j q => by unfold jk at q; omega))⟩
  · rw [e 31 1 (by unfold jk; omega)]; exact t2
  · rw [e 43 4 (by unfold jk; omega)]; exact t3
  · intro j hj
    rw [e 32 j (by unfold jk; omega), e 47 j (by unfold jk; omega)]
    exact t4 j hj
  · obtain ⟨s1, s2, n, s3, s4, s5, s6⟩ := h4 s hs
    unfold Sh
    rw [e (34 + 2 * s) 1 (by unfold jk; omega), e 48 s (by unfold jk; omega), e (34 + 2 * s) 2 (by unfold jk; omega), e 49 s (by unfold jk; omega), eJ (35 + 2 * s) (by omega), eJ 50 (by decide)]
    exact ⟨s1, s2, n, s3, s4, s5, s6⟩
  · rw [e 42 k (by unfold jk; omega), e 45 k (by unfold jk; omega)]; exact h5 k hk
/-- the same finding on both sides -/
theorem Sim.found {I : Mm} {J : Ml} (h : Sim I J) {f : Nat} (hf : f < 7) : Sim (fnM (fnd I f) f) J := by
  have off : ∀ a, a ≠ 42 → a ≠ 45 → fnM (fnd I f) f a = I a := fun a h1 h2 => by rw [fnM, na_set_off h2, fnd, na_set_off h1]
  obtain ⟨h1, ⟨h2, h2'⟩, ⟨L, t1, t2, t3, t4⟩, h4, h5⟩ := h
  refine ⟨h1.eq (fun a q1 q2 => off a (by omega) (by omega)) (off 44 (by decide) (by decide)), ⟨?_, ?_⟩, ⟨L, t1, ?_, ?_, ?_⟩, fun s hs => ?_, fun k hk => ?_⟩
  · rw [off 0 (by decide) (by decide), off 43 (by decide) (by decide)]; exact h2
  · rw [off 0 (by decide) (by decide)]
    rcases h2' with q | ⟨q, q2⟩
    · exact Or.inl q
    · exact Or.inr ⟨q, q2.eq (fun a q1 q2 => off a (by omega) (by omega)) (off 52 (by decide) (by decide))⟩
  · rw [off 31 (by decide) (by decide)]; exact t2
  · rw [off 43 (by decide) (by decide)]; exact t3
  · rw [off 32 (by decide) (by decide), off 47 (by decide) (by decide)]; exact t4
  · unfold Sh
    rw [off (34 + 2 * s) (by omega) (by omega), off 48 (by decide) (by decide), off 49 (by decide) (by decide)]
    exact h4 s hs
  · have e := h5 k hk
    have ef := h5 f hf
    have q1 : fnM (fnd I f) f 42 k = if k = f then I 42 f + 1 else I 42 k := by
      rw [fnM, na_set_off (by decide), fnd, na_set_get]; simp
    have q2 : fnM (fnd I f) f 45 k = if k = f then I 45 f + 1 else I 45 k := by
      rw [fnM, na_set_get, fnd, na_set_off (by decide)]; simp
    rw [q1, q2, e, ef]
/-- a new night on both sides -/
theorem Sim.night {I : Mm} {J : Ml} (h : Sim I J) {P : Nat} {N : Mm} {f : Nat → Int32} (hN : NOk P N) (ha : Agr P (vN f) N) (h0 : ∀ k, 10 ≤ k → N k = fun _ => 0) : Sim (sR f (pN 1 N I)) J := by
  have off : ∀ a, ¬ (1 ≤ a ∧ a ≤ 10) → a ≠ 44 → sR f (pN 1 N I) a = I a := fun a h1 h2 => by rw [sR_off h2, pN_out (by omega)]
  have eg : gN 1 (sR f (pN 1 N I)) = N := by
    funext k
    by_cases hk : k ≤ 9
    · rw [gN_in hk, sR_off (by omega), pN_in (by omega), show 1 + k - 1 = k by omega]
    · rw [h0 k (by omega)]
      unfold gN
      rw [show Nat.ble k 9 = false by cases q : Nat.ble k 9 with | false => rfl | true => exact absurd (Nat.le_of_ble_eq_true q) hk]
      rfl
  obtain ⟨h1, ⟨h2, h2'⟩, ⟨L, t1, t2, t3, t4⟩, h4, h5⟩ := h
  refine ⟨⟨P, by rw [eg]; exact hN, by rw [eg]; exact ha⟩, ⟨?_, ?_⟩, ⟨L, t1, ?_, ?_, ?_⟩, fun s hs => ?_, fun k hk => ?_⟩
  · rw [off 0 (by omega) (by decide), off 43 (by omega) (by decide)]; exact h2
  · rw [off 0 (by omega) (by decide)]
    rcases h2' with q | ⟨q, q2⟩
    · exact Or.inl q
    · exact Or.inr ⟨q, q2.eq (fun a q1 q2 => off a (by omega) (by omega)) (off 52 (by omega) (by decide))⟩
  · rw [off 31 (by omega) (by decide)]; exact t2
  · rw [off 43 (by omega) (by decide)]; exact t3
  · rw [off 32 (by omega) (by decide), off 47 (by omega) (by decide)]; exact t4
  · unfold Sh
    rw [off (34 + 2 * s) (by omega) (by omega), off 48 (by omega) (by decide), off 49 (by omega) (by decide)]
    exact h4 s hs
  · rw [off 42 (by omega) (by decide), off 45 (by omega) (by decide)]; exact h5 k hk
