/-! THE LAW: a call, the loop -/
theorem law_ix {L i k : Nat} {x : Int32} (hx : x = nI k) (h : i + k < L) (hL : L ≤ 3072) : vp_in (nI i + x) L := by
  rw [hx, nI_add]
  exact vp_in_nI h (by omega)
set_option maxRecDepth 100000 in
set_option maxHeartbeats 4000000 in
theorem law_c0 (sx : Nat × (Nat → Int32)) (hL : sx.1 ≤ 3072) (i : Nat) (hi : i + 6 ≤ sx.1) (Rt : Option Value → Mm → Ml → Prop) (ih : ∀ I J, Sim I J → GW sx qL Rt 1434 [some (.ref 70), some (.ref 0), some (.ref 43), some (.int (nI i))] [] I J) (I : Mm) (J : Ml) (hS : Sim I J) : GW sx qL Rt 216 [some (.ref 70), some (.ref 0), some (.ref 43), some (.int (nI i))] [] I J := by
  refine GW.run kL (fun pc => Nat.beq pc 1434) 42 12 rfl ?_
  refine And.intro (law_ix (k := 1) rfl (by omega) hL) ?_
  refine And.intro (law_ix (k := 2) rfl (by omega) hL) ?_
  refine And.intro (law_ix (k := 3) rfl (by omega) hL) ?_
  refine Mt.conseq (pr_room sx _ _ _ I J hS) ?_
  rintro _ _ _ ⟨v, rfl, hm⟩
  refine And.intro (law_ix (k := 1) rfl (by omega) hL) ?_
  refine And.intro (law_ix (k := 2) rfl (by omega) hL) ?_
  refine And.intro (law_ix (k := 3) rfl (by omega) hL) ?_
  refine Mt.conseq (hm) ?_
  rintro _ _ _ ⟨rfl, hS2⟩
  refine And.intro (fun _ => ?_) (fun hh => absurd rfl hh)
  exact ih _ _ hS2
set_option maxRecDepth 100000 in
set_option maxHeartbeats 4000000 in
theorem law_c1 (sx : Nat × (Nat → Int32)) (hL : sx.1 ≤ 3072) (i : Nat) (hi : i + 6 ≤ sx.1) (Rt : Option Value → Mm → Ml → Prop) (ih : ∀ I J, Sim I J → GW sx qL Rt 1434 [some (.ref 70), some (.ref 0), some (.ref 43), some (.int (nI i))] [] I J) (I : Mm) (J : Ml) (hS : Sim I J) : GW sx qL Rt 259 [some (.ref 70), some (.ref 0), some (.ref 43), some (.int (nI i))] [] I J := by
  refine GW.run kL (fun pc => Nat.beq pc 1434) 32 49 rfl ?_
  refine And.intro (law_ix (k := 1) rfl (by omega) hL) ?_
  refine And.intro (law_ix (k := 2) rfl (by omega) hL) ?_
  refine Mt.conseq (pr_roomOf sx _ _ I J hS) ?_
  rintro _ _ _ ⟨v, rfl, hm⟩
  refine And.intro (law_ix (k := 1) rfl (by omega) hL) ?_
  refine And.intro (law_ix (k := 2) rfl (by omega) hL) ?_
  refine Mt.conseq (hm) ?_
  rintro _ _ _ ⟨rfl, hS2⟩
  refine And.intro (fun _ => ?_) (fun hh => absurd rfl hh)
  exact ih _ _ hS2
set_option maxRecDepth 100000 in
set_option maxHeartbeats 4000000 in
theorem law_c2 (sx : Nat × (Nat → Int32)) (hL : sx.1 ≤ 3072) (i : Nat) (hi : i + 6 ≤ sx.1) (Rt : Option Value → Mm → Ml → Prop) (ih : ∀ I J, Sim I J → GW sx qL Rt 1434 [some (.ref 70), some (.ref 0), some (.ref 43), some (.int (nI i))] [] I J) (I : Mm) (J : Ml) (hS : Sim I J) : GW sx qL Rt 292 [some (.ref 70), some (.ref 0), some (.ref 43), some (.int (nI i))] [] I J := by
  refine GW.run kL (fun pc => Nat.beq pc 1434) 32 76 rfl ?_
  refine And.intro (law_ix (k := 1) rfl (by omega) hL) ?_
  refine And.intro (law_ix (k := 2) rfl (by omega) hL) ?_
  refine Mt.conseq (pr_door sx _ _ I J hS) ?_
  rintro _ _ _ ⟨v, rfl, hm⟩
  refine And.intro (law_ix (k := 1) rfl (by omega) hL) ?_
  refine And.intro (law_ix (k := 2) rfl (by omega) hL) ?_
  refine Mt.conseq (hm) ?_
  rintro _ _ _ ⟨rfl, hS2⟩
  refine And.intro (fun _ => ?_) (fun hh => absurd rfl hh)
  exact ih _ _ hS2
set_option maxRecDepth 100000 in
set_option maxHeartbeats 4000000 in
theorem law_c3 (sx : Nat × (Nat → Int32)) (hL : sx.1 ≤ 3072) (i : Nat) (hi : i + 6 ≤ sx.1) (Rt : Option Value → Mm → Ml → Prop) (ih : ∀ I J, Sim I J → GW sx qL Rt 1434 [some (.ref 70), some (.ref 0), some (.ref 43), some (.int (nI i))] [] I J) (I : Mm) (J : Ml) (hS : Sim I J) : GW sx qL Rt 325 [some (.ref 70), some (.ref 0), some (.ref 43), some (.int (nI i))] [] I J := by
  refine GW.run kL (fun pc => Nat.beq pc 1434) 22 103 rfl ?_
  refine And.intro (law_ix (k := 1) rfl (by omega) hL) ?_
  refine Mt.conseq (pr_cold sx _ I J hS) ?_
  rintro _ _ _ ⟨v, rfl, hm⟩
  refine And.intro (law_ix (k := 1) rfl (by omega) hL) ?_
  refine Mt.conseq (hm) ?_
  rintro _ _ _ ⟨rfl, hS2⟩
  refine And.intro (fun _ => ?_) (fun hh => absurd rfl hh)
  exact ih _ _ hS2
set_option maxRecDepth 100000 in
set_option maxHeartbeats 4000000 in
theorem law_c4 (sx : Nat × (Nat → Int32)) (hL : sx.1 ≤ 3072) (i : Nat) (hi : i + 6 ≤ sx.1) (Rt : Option Value → Mm → Ml → Prop) (ih : ∀ I J, Sim I J → GW sx qL Rt 1434 [some (.ref 70), some (.ref 0), some (.ref 43), some (.int (nI i))] [] I J) (I : Mm) (J : Ml) (hS : Sim I J) : GW sx qL Rt 348 [some (.ref 70), some (.ref 0), some (.ref 43), some (.int (nI i))] [] I J := by
  refine GW.run kL (fun pc => Nat.beq pc 1434) 32 120 rfl ?_
  refine And.intro (law_ix (k := 1) rfl (by omega) hL) ?_
  refine And.intro (law_ix (k := 2) rfl (by omega) hL) ?_
  refine Mt.conseq (pr_one sx _ _ I J hS) ?_
  rintro _ _ _ ⟨v, rfl, hm⟩
  refine And.intro (law_ix (k := 1) rfl (by omega) hL) ?_
  refine And.intro (law_ix (k := 2) rfl (by omega) hL) ?_
  refine Mt.conseq (hm) ?_
  rintro _ _ _ ⟨rfl, hS2⟩
  refine And.intro (fun _ => ?_) (fun hh => absurd rfl hh)
  exact ih _ _ hS2
set_option maxRecDepth 100000 in
set_option maxHeartbeats 4000000 in
theorem law_c5 (sx : Nat × (Nat → Int32)) (hL : sx.1 ≤ 3072) (i : Nat) (hi : i + 6 ≤ sx.1) (Rt : Option Value → Mm → Ml → Prop) (ih : ∀ I J, Sim I J → GW sx qL Rt 1434 [some (.ref 70), some (.ref 0), some (.ref 43), some (.int (nI i))] [] I J) (I : Mm) (J : Ml) (hS : Sim I J) : GW sx qL Rt 381 [some (.ref 70), some (.ref 0), some (.ref 43), some (.int (nI i))] [] I J := by
  refine GW.run kL (fun pc => Nat.beq pc 1434) 32 147 rfl ?_
  refine And.intro (law_ix (k := 1) rfl (by omega) hL) ?_
  refine And.intro (law_ix (k := 2) rfl (by omega) hL) ?_
  refine Mt.conseq (pr_of sx _ _ I J hS) ?_
  rintro _ _ _ ⟨v, rfl, hm⟩
  refine And.intro (law_ix (k := 1) rfl (by omega) hL) ?_
  refine And.intro (law_ix (k := 2) rfl (by omega) hL) ?_
  refine Mt.conseq (hm) ?_
  rintro _ _ _ ⟨rfl, hS2⟩
  refine And.intro (fun _ => ?_) (fun hh => absurd rfl hh)
  exact ih _ _ hS2
set_option maxRecDepth 100000 in
set_option maxHeartbeats 4000000 in
theorem law_c6 (sx : Nat × (Nat → Int32)) (hL : sx.1 ≤ 3072) (i : Nat) (hi : i + 6 ≤ sx.1) (Rt : Option Value → Mm → Ml → Prop) (ih : ∀ I J, Sim I J → GW sx qL Rt 1434 [some (.ref 70), some (.ref 0), some (.ref 43), some (.int (nI i))] [] I J) (I : Mm) (J : Ml) (hS : Sim I J) : GW sx qL Rt 414 [some (.ref 70), some (.ref 0), some (.ref 43), some (.int (nI i))] [] I J := by
  refine GW.run kL (fun pc => Nat.beq pc 1434) 42 174 rfl ?_
  refine And.intro (law_ix (k := 1) rfl (by omega) hL) ?_
  refine And.intro (law_ix (k := 2) rfl (by omega) hL) ?_
  refine And.intro (law_ix (k := 3) rfl (by omega) hL) ?_
  refine Mt.conseq (pr_set sx _ _ _ I J hS) ?_
  rintro _ _ _ ⟨v, rfl, hm⟩
  refine And.intro (law_ix (k := 1) rfl (by omega) hL) ?_
  refine And.intro (law_ix (k := 2) rfl (by omega) hL) ?_
  refine And.intro (law_ix (k := 3) rfl (by omega) hL) ?_
  refine Mt.conseq (hm) ?_
  rintro _ _ _ ⟨rfl, hS2⟩
  refine And.intro (fun _ => ?_) (fun hh => absurd rfl hh)
  exact ih _ _ hS2
set_option maxRecDepth 100000 in
set_option maxHeartbeats 4000000 in
theorem law_c7 (sx : Nat × (Nat → Int32)) (hL : sx.1 ≤ 3072) (i : Nat) (hi : i + 6 ≤ sx.1) (Rt : Option Value → Mm → Ml → Prop) (ih : ∀ I J, Sim I J → GW sx qL Rt 1434 [some (.ref 70), some (.ref 0), some (.ref 43), some (.int (nI i))] [] I J) (I : Mm) (J : Ml) (hS : Sim I J) : GW sx qL Rt 457 [some (.ref 70), some (.ref 0), some (.ref 43), some (.int (nI i))] [] I J := by
  refine GW.run kL (fun pc => Nat.beq pc 1434) 32 211 rfl ?_
  refine And.intro (law_ix (k := 1) rfl (by omega) hL) ?_
  refine And.intro (law_ix (k := 2) rfl (by omega) hL) ?_
  refine Mt.conseq (pr_turn sx _ _ I J hS) ?_
  rintro _ _ _ ⟨v, rfl, hm⟩
  refine And.intro (law_ix (k := 1) rfl (by omega) hL) ?_
  refine And.intro (law_ix (k := 2) rfl (by omega) hL) ?_
  refine Mt.conseq (hm) ?_
  rintro _ _ _ ⟨rfl, hS2⟩
  refine And.intro (fun _ => ?_) (fun hh => absurd rfl hh)
  exact ih _ _ hS2
set_option maxRecDepth 100000 in
set_option maxHeartbeats 4000000 in
theorem law_c8 (sx : Nat × (Nat → Int32)) (hL : sx.1 ≤ 3072) (i : Nat) (hi : i + 6 ≤ sx.1) (Rt : Option Value → Mm → Ml → Prop) (ih : ∀ I J, Sim I J → GW sx qL Rt 1434 [some (.ref 70), some (.ref 0), some (.ref 43), some (.int (nI i))] [] I J) (I : Mm) (J : Ml) (hS : Sim I J) : GW sx qL Rt 490 [some (.ref 70), some (.ref 0), some (.ref 43), some (.int (nI i))] [] I J := by
  refine GW.run kL (fun pc => Nat.beq pc 1434) 32 238 rfl ?_
  refine And.intro (law_ix (k := 1) rfl (by omega) hL) ?_
  refine And.intro (law_ix (k := 2) rfl (by omega) hL) ?_
  refine Mt.conseq (pr_as sx _ _ I J hS) ?_
  rintro _ _ _ ⟨v, rfl, hm⟩
  refine And.intro (law_ix (k := 1) rfl (by omega) hL) ?_
  refine And.intro (law_ix (k := 2) rfl (by omega) hL) ?_
  refine Mt.conseq (hm) ?_
  rintro _ _ _ ⟨rfl, hS2⟩
  refine And.intro (fun _ => ?_) (fun hh => absurd rfl hh)
  exact ih _ _ hS2
set_option maxRecDepth 100000 in
set_option maxHeartbeats 4000000 in
theorem law_c9 (sx : Nat × (Nat → Int32)) (hL : sx.1 ≤ 3072) (i : Nat) (hi : i + 6 ≤ sx.1) (Rt : Option Value → Mm → Ml → Prop) (ih : ∀ I J, Sim I J → GW sx qL Rt 1434 [some (.ref 70), some (.ref 0), some (.ref 43), some (.int (nI i))] [] I J) (I : Mm) (J : Ml) (hS : Sim I J) : GW sx qL Rt 523 [some (.ref 70), some (.ref 0), some (.ref 43), some (.int (nI i))] [] I J := by
  refine GW.run kL (fun pc => Nat.beq pc 1434) 22 265 rfl ?_
  refine And.intro (law_ix (k := 1) rfl (by omega) hL) ?_
  refine Mt.conseq (pr_goes sx _ I J hS) ?_
  rintro _ _ _ ⟨v, rfl, hm⟩
  refine And.intro (law_ix (k := 1) rfl (by omega) hL) ?_
  refine Mt.conseq (hm) ?_
  rintro _ _ _ ⟨rfl, hS2⟩
  refine And.intro (fun _ => ?_) (fun hh => absurd rfl hh)
  exact ih _ _ hS2
set_option maxRecDepth 100000 in
set_option maxHeartbeats 4000000 in
theorem law_c10 (sx : Nat × (Nat → Int32)) (hL : sx.1 ≤ 3072) (i : Nat) (hi : i + 6 ≤ sx.1) (Rt : Option Value → Mm → Ml → Prop) (ih : ∀ I J, Sim I J → GW sx qL Rt 1434 [some (.ref 70), some (.ref 0), some (.ref 43), some (.int (nI i))] [] I J) (I : Mm) (J : Ml) (hS : Sim I J) : GW sx qL Rt 546 [some (.ref 70), some (.ref 0), some (.ref 43), some (.int (nI i))] [] I J := by
  refine GW.run kL (fun pc => Nat.beq pc 1434) 22 282 rfl ?_
  refine And.intro (law_ix (k := 1) rfl (by omega) hL) ?_
  refine Mt.conseq (pr_hours sx _ I J hS) ?_
  rintro _ _ _ ⟨v, rfl, hm⟩
  refine And.intro (law_ix (k := 1) rfl (by omega) hL) ?_
  refine Mt.conseq (hm) ?_
  rintro _ _ _ ⟨rfl, hS2⟩
  refine And.intro (fun _ => ?_) (fun hh => absurd rfl hh)
  exact ih _ _ hS2
set_option maxRecDepth 100000 in
set_option maxHeartbeats 4000000 in
theorem law_c11 (sx : Nat × (Nat → Int32)) (hL : sx.1 ≤ 3072) (i : Nat) (hi : i + 6 ≤ sx.1) (Rt : Option Value → Mm → Ml → Prop) (ih : ∀ I J, Sim I J → GW sx qL Rt 1434 [some (.ref 70), some (.ref 0), some (.ref 43), some (.int (nI i))] [] I J) (I : Mm) (J : Ml) (hS : Sim I J) : GW sx qL Rt 569 [some (.ref 70), some (.ref 0), some (.ref 43), some (.int (nI i))] [] I J := by
  refine GW.run kL (fun pc => Nat.beq pc 1434) 22 299 rfl ?_
  refine And.intro (law_ix (k := 1) rfl (by omega) hL) ?_
  refine Mt.conseq (pr_now sx _ I J hS) ?_
  rintro _ _ _ ⟨v, rfl, hm⟩
  refine And.intro (law_ix (k := 1) rfl (by omega) hL) ?_
  refine Mt.conseq (hm) ?_
  rintro _ _ _ ⟨rfl, hS2⟩
  refine And.intro (fun _ => ?_) (fun hh => absurd rfl hh)
  exact ih _ _ hS2
set_option maxRecDepth 100000 in
set_option maxHeartbeats 4000000 in
theorem law_c12 (sx : Nat × (Nat → Int32)) (hL : sx.1 ≤ 3072) (i : Nat) (hi : i + 6 ≤ sx.1) (Rt : Option Value → Mm → Ml → Prop) (ih : ∀ I J, Sim I J → GW sx qL Rt 1434 [some (.ref 70), some (.ref 0), some (.ref 43), some (.int (nI i))] [] I J) (I : Mm) (J : Ml) (hS : Sim I J) : GW sx qL Rt 592 [some (.ref 70), some (.ref 0), some (.ref 43), some (.int (nI i))] [] I J := by
  refine GW.run kL (fun pc => Nat.beq pc 1434) 42 316 rfl ?_
  refine And.intro (law_ix (k := 1) rfl (by omega) hL) ?_
  refine And.intro (law_ix (k := 2) rfl (by omega) hL) ?_
  refine And.intro (law_ix (k := 3) rfl (by omega) hL) ?_
  refine Mt.conseq (pr_on sx _ _ _ I J hS) ?_
  rintro _ _ _ ⟨v, rfl, hm⟩
  refine And.intro (law_ix (k := 1) rfl (by omega) hL) ?_
  refine And.intro (law_ix (k := 2) rfl (by omega) hL) ?_
  refine And.intro (law_ix (k := 3) rfl (by omega) hL) ?_
  refine Mt.conseq (hm) ?_
  rintro _ _ _ ⟨rfl, hS2⟩
  refine And.intro (fun _ => ?_) (fun hh => absurd rfl hh)
  exact ih _ _ hS2
set_option maxRecDepth 100000 in
set_option maxHeartbeats 4000000 in
theorem law_c13 (sx : Nat × (Nat → Int32)) (hL : sx.1 ≤ 3072) (i : Nat) (hi : i + 6 ≤ sx.1) (Rt : Option Value → Mm → Ml → Prop) (ih : ∀ I J, Sim I J → GW sx qL Rt 1434 [some (.ref 70), some (.ref 0), some (.ref 43), some (.int (nI i))] [] I J) (I : Mm) (J : Ml) (hS : Sim I J) : GW sx qL Rt 635 [some (.ref 70), some (.ref 0), some (.ref 43), some (.int (nI i))] [] I J := by
  refine GW.run kL (fun pc => Nat.beq pc 1434) 22 353 rfl ?_
  refine And.intro (law_ix (k := 1) rfl (by omega) hL) ?_
  refine Mt.conseq (pr_when sx _ I J hS) ?_
  rintro _ _ _ ⟨v, rfl, hm⟩
  refine And.intro (law_ix (k := 1) rfl (by omega) hL) ?_
  refine Mt.conseq (hm) ?_
  rintro _ _ _ ⟨rfl, hS2⟩
  refine And.intro (fun _ => ?_) (fun hh => absurd rfl hh)
  exact ih _ _ hS2
set_option maxRecDepth 100000 in
set_option maxHeartbeats 4000000 in
theorem law_c14 (sx : Nat × (Nat → Int32)) (hL : sx.1 ≤ 3072) (i : Nat) (hi : i + 6 ≤ sx.1) (Rt : Option Value → Mm → Ml → Prop) (ih : ∀ I J, Sim I J → GW sx qL Rt 1434 [some (.ref 70), some (.ref 0), some (.ref 43), some (.int (nI i))] [] I J) (I : Mm) (J : Ml) (hS : Sim I J) : GW sx qL Rt 658 [some (.ref 70), some (.ref 0), some (.ref 43), some (.int (nI i))] [] I J := by
  refine GW.run kL (fun pc => Nat.beq pc 1434) 12 370 rfl ?_
  refine Mt.conseq (pr_first sx  I J hS) ?_
  rintro _ _ _ ⟨v, rfl, hm⟩
  refine Mt.conseq (hm) ?_
  rintro _ _ _ ⟨rfl, hS2⟩
  refine And.intro (fun _ => ?_) (fun hh => absurd rfl hh)
  exact ih _ _ hS2
set_option maxRecDepth 100000 in
set_option maxHeartbeats 4000000 in
theorem law_c15 (sx : Nat × (Nat → Int32)) (hL : sx.1 ≤ 3072) (i : Nat) (hi : i + 6 ≤ sx.1) (Rt : Option Value → Mm → Ml → Prop) (ih : ∀ I J, Sim I J → GW sx qL Rt 1434 [some (.ref 70), some (.ref 0), some (.ref 43), some (.int (nI i))] [] I J) (I : Mm) (J : Ml) (hS : Sim I J) : GW sx qL Rt 671 [some (.ref 70), some (.ref 0), some (.ref 43), some (.int (nI i))] [] I J := by
  refine GW.run kL (fun pc => Nat.beq pc 1434) 12 377 rfl ?_
  refine Mt.conseq (pr_well sx  I J hS) ?_
  rintro _ _ _ ⟨v, rfl, hm⟩
  refine Mt.conseq (hm) ?_
  rintro _ _ _ ⟨rfl, hS2⟩
  refine And.intro (fun _ => ?_) (fun hh => absurd rfl hh)
  exact ih _ _ hS2
set_option maxRecDepth 100000 in
set_option maxHeartbeats 4000000 in
theorem law_c16 (sx : Nat × (Nat → Int32)) (hL : sx.1 ≤ 3072) (i : Nat) (hi : i + 6 ≤ sx.1) (Rt : Option Value → Mm → Ml → Prop) (ih : ∀ I J, Sim I J → GW sx qL Rt 1434 [some (.ref 70), some (.ref 0), some (.ref 43), some (.int (nI i))] [] I J) (I : Mm) (J : Ml) (hS : Sim I J) : GW sx qL Rt 684 [some (.ref 70), some (.ref 0), some (.ref 43), some (.int (nI i))] [] I J := by
  refine GW.run kL (fun pc => Nat.beq pc 1434) 12 384 rfl ?_
  refine Mt.conseq (pr_doors sx  I J hS) ?_
  rintro _ _ _ ⟨v, rfl, hm⟩
  refine Mt.conseq (hm) ?_
  rintro _ _ _ ⟨rfl, hS2⟩
  refine And.intro (fun _ => ?_) (fun hh => absurd rfl hh)
  exact ih _ _ hS2
set_option maxRecDepth 100000 in
set_option maxHeartbeats 4000000 in
theorem law_c17 (sx : Nat × (Nat → Int32)) (hL : sx.1 ≤ 3072) (i : Nat) (hi : i + 6 ≤ sx.1) (Rt : Option Value → Mm → Ml → Prop) (ih : ∀ I J, Sim I J → GW sx qL Rt 1434 [some (.ref 70), some (.ref 0), some (.ref 43), some (.int (nI i))] [] I J) (I : Mm) (J : Ml) (hS : Sim I J) : GW sx qL Rt 697 [some (.ref 70), some (.ref 0), some (.ref 43), some (.int (nI i))] [] I J := by
  refine GW.run kL (fun pc => Nat.beq pc 1434) 22 391 rfl ?_
  refine And.intro (law_ix (k := 1) rfl (by omega) hL) ?_
  refine Mt.conseq (pr_shut sx _ I J hS) ?_
  rintro _ _ _ ⟨v, rfl, hm⟩
  refine And.intro (law_ix (k := 1) rfl (by omega) hL) ?_
  refine Mt.conseq (hm) ?_
  rintro _ _ _ ⟨rfl, hS2⟩
  refine And.intro (fun _ => ?_) (fun hh => absurd rfl hh)
  exact ih _ _ hS2
set_option maxRecDepth 100000 in
set_option maxHeartbeats 4000000 in
theorem law_c18 (sx : Nat × (Nat → Int32)) (hL : sx.1 ≤ 3072) (i : Nat) (hi : i + 6 ≤ sx.1) (Rt : Option Value → Mm → Ml → Prop) (ih : ∀ I J, Sim I J → GW sx qL Rt 1434 [some (.ref 70), some (.ref 0), some (.ref 43), some (.int (nI i))] [] I J) (I : Mm) (J : Ml) (hS : Sim I J) : GW sx qL Rt 720 [some (.ref 70), some (.ref 0), some (.ref 43), some (.int (nI i))] [] I J := by
  refine GW.run kL (fun pc => Nat.beq pc 1434) 32 408 rfl ?_
  refine And.intro (law_ix (k := 1) rfl (by omega) hL) ?_
  refine And.intro (law_ix (k := 2) rfl (by omega) hL) ?_
  refine Mt.conseq (pr_fire sx _ _ I J hS) ?_
  rintro _ _ _ ⟨v, rfl, hm⟩
  refine And.intro (law_ix (k := 1) rfl (by omega) hL) ?_
  refine And.intro (law_ix (k := 2) rfl (by omega) hL) ?_
  refine Mt.conseq (hm) ?_
  rintro _ _ _ ⟨rfl, hS2⟩
  refine And.intro (fun _ => ?_) (fun hh => absurd rfl hh)
  exact ih _ _ hS2
set_option maxRecDepth 100000 in
set_option maxHeartbeats 4000000 in
theorem law_c19 (sx : Nat × (Nat → Int32)) (hL : sx.1 ≤ 3072) (i : Nat) (hi : i + 6 ≤ sx.1) (Rt : Option Value → Mm → Ml → Prop) (ih : ∀ I J, Sim I J → GW sx qL Rt 1434 [some (.ref 70), some (.ref 0), some (.ref 43), some (.int (nI i))] [] I J) (I : Mm) (J : Ml) (hS : Sim I J) : GW sx qL Rt 753 [some (.ref 70), some (.ref 0), some (.ref 43), some (.int (nI i))] [] I J := by
  refine GW.run kL (fun pc => Nat.beq pc 1434) 42 435 rfl ?_
  refine And.intro (law_ix (k := 1) rfl (by omega) hL) ?_
  refine And.intro (law_ix (k := 2) rfl (by omega) hL) ?_
  refine And.intro (law_ix (k := 3) rfl (by omega) hL) ?_
  refine Mt.conseq (pr_fires sx _ _ _ I J hS) ?_
  rintro _ _ _ ⟨v, rfl, hm⟩
  refine And.intro (law_ix (k := 1) rfl (by omega) hL) ?_
  refine And.intro (law_ix (k := 2) rfl (by omega) hL) ?_
  refine And.intro (law_ix (k := 3) rfl (by omega) hL) ?_
  refine Mt.conseq (hm) ?_
  rintro _ _ _ ⟨rfl, hS2⟩
  refine And.intro (fun _ => ?_) (fun hh => absurd rfl hh)
  exact ih _ _ hS2
set_option maxRecDepth 100000 in
set_option maxHeartbeats 4000000 in
theorem law_c20 (sx : Nat × (Nat → Int32)) (hL : sx.1 ≤ 3072) (i : Nat) (hi : i + 6 ≤ sx.1) (Rt : Option Value → Mm → Ml → Prop) (ih : ∀ I J, Sim I J → GW sx qL Rt 1434 [some (.ref 70), some (.ref 0), some (.ref 43), some (.int (nI i))] [] I J) (I : Mm) (J : Ml) (hS : Sim I J) : GW sx qL Rt 796 [some (.ref 70), some (.ref 0), some (.ref 43), some (.int (nI i))] [] I J := by
  refine GW.run kL (fun pc => Nat.beq pc 1434) 22 472 rfl ?_
  refine And.intro (law_ix (k := 1) rfl (by omega) hL) ?_
  refine Mt.conseq (pr_sleep sx _ I J hS) ?_
  rintro _ _ _ ⟨v, rfl, hm⟩
  refine And.intro (law_ix (k := 1) rfl (by omega) hL) ?_
  refine Mt.conseq (hm) ?_
  rintro _ _ _ ⟨rfl, hS2⟩
  refine And.intro (fun _ => ?_) (fun hh => absurd rfl hh)
  exact ih _ _ hS2
set_option maxRecDepth 100000 in
set_option maxHeartbeats 4000000 in
theorem law_c21 (sx : Nat × (Nat → Int32)) (hL : sx.1 ≤ 3072) (i : Nat) (hi : i + 6 ≤ sx.1) (Rt : Option Value → Mm → Ml → Prop) (ih : ∀ I J, Sim I J → GW sx qL Rt 1434 [some (.ref 70), some (.ref 0), some (.ref 43), some (.int (nI i))] [] I J) (I : Mm) (J : Ml) (hS : Sim I J) : GW sx qL Rt 819 [some (.ref 70), some (.ref 0), some (.ref 43), some (.int (nI i))] [] I J := by
  refine GW.run kL (fun pc => Nat.beq pc 1434) 32 489 rfl ?_
  refine And.intro (law_ix (k := 1) rfl (by omega) hL) ?_
  refine And.intro (law_ix (k := 2) rfl (by omega) hL) ?_
  refine Mt.conseq (pr_kind sx _ _ I J hS) ?_
  rintro _ _ _ ⟨v, rfl, hm⟩
  refine And.intro (law_ix (k := 1) rfl (by omega) hL) ?_
  refine And.intro (law_ix (k := 2) rfl (by omega) hL) ?_
  refine Mt.conseq (hm) ?_
  rintro _ _ _ ⟨rfl, hS2⟩
  refine And.intro (fun _ => ?_) (fun hh => absurd rfl hh)
  exact ih _ _ hS2
set_option maxRecDepth 100000 in
set_option maxHeartbeats 4000000 in
theorem law_c22 (sx : Nat × (Nat → Int32)) (hL : sx.1 ≤ 3072) (i : Nat) (hi : i + 6 ≤ sx.1) (Rt : Option Value → Mm → Ml → Prop) (ih : ∀ I J, Sim I J → GW sx qL Rt 1434 [some (.ref 70), some (.ref 0), some (.ref 43), some (.int (nI i))] [] I J) (I : Mm) (J : Ml) (hS : Sim I J) : GW sx qL Rt 852 [some (.ref 70), some (.ref 0), some (.ref 43), some (.int (nI i))] [] I J := by
  refine GW.run kL (fun pc => Nat.beq pc 1434) 32 516 rfl ?_
  refine And.intro (law_ix (k := 1) rfl (by omega) hL) ?_
  refine And.intro (law_ix (k := 2) rfl (by omega) hL) ?_
  refine Mt.conseq (pr_costs sx _ _ I J hS) ?_
  rintro _ _ _ ⟨v, rfl, hm⟩
  refine And.intro (law_ix (k := 1) rfl (by omega) hL) ?_
  refine And.intro (law_ix (k := 2) rfl (by omega) hL) ?_
  refine Mt.conseq (hm) ?_
  rintro _ _ _ ⟨rfl, hS2⟩
  refine And.intro (fun _ => ?_) (fun hh => absurd rfl hh)
  exact ih _ _ hS2
set_option maxRecDepth 100000 in
set_option maxHeartbeats 4000000 in
theorem law_c23 (sx : Nat × (Nat → Int32)) (hL : sx.1 ≤ 3072) (i : Nat) (hi : i + 6 ≤ sx.1) (Rt : Option Value → Mm → Ml → Prop) (ih : ∀ I J, Sim I J → GW sx qL Rt 1434 [some (.ref 70), some (.ref 0), some (.ref 43), some (.int (nI i))] [] I J) (I : Mm) (J : Ml) (hS : Sim I J) : GW sx qL Rt 885 [some (.ref 70), some (.ref 0), some (.ref 43), some (.int (nI i))] [] I J := by
  refine GW.run kL (fun pc => Nat.beq pc 1434) 33 543 rfl ?_
  refine And.intro (law_ix (k := 1) rfl (by omega) hL) ?_
  refine And.intro (law_ix (k := 2) rfl (by omega) hL) ?_
  refine Mt.conseq (pr_share sx _ _ I J hS) ?_
  rintro _ _ _ ⟨v, rfl, hm⟩
  refine And.intro (law_ix (k := 1) rfl (by omega) hL) ?_
  refine And.intro (law_ix (k := 2) rfl (by omega) hL) ?_
  refine Mt.conseq (hm) ?_
  rintro _ _ _ ⟨rfl, hS2⟩
  refine And.intro (fun _ => ?_) (fun hh => absurd ((lg_cmp_eq _ _).mpr rfl) hh)
  exact ih _ _ hS2
set_option maxRecDepth 100000 in
set_option maxHeartbeats 4000000 in
theorem law_c24 (sx : Nat × (Nat → Int32)) (hL : sx.1 ≤ 3072) (i : Nat) (hi : i + 6 ≤ sx.1) (Rt : Option Value → Mm → Ml → Prop) (ih : ∀ I J, Sim I J → GW sx qL Rt 1434 [some (.ref 70), some (.ref 0), some (.ref 43), some (.int (nI i))] [] I J) (I : Mm) (J : Ml) (hS : Sim I J) : GW sx qL Rt 919 [some (.ref 70), some (.ref 0), some (.ref 43), some (.int (nI i))] [] I J := by
  refine GW.run kL (fun pc => Nat.beq pc 1434) 22 571 rfl ?_
  refine And.intro (law_ix (k := 1) rfl (by omega) hL) ?_
  refine Mt.conseq (pr_swept sx _ I J hS) ?_
  rintro _ _ _ ⟨v, rfl, hm⟩
  refine And.intro (law_ix (k := 1) rfl (by omega) hL) ?_
  refine Mt.conseq (hm) ?_
  rintro _ _ _ ⟨rfl, hS2⟩
  refine And.intro (fun _ => ?_) (fun hh => absurd rfl hh)
  exact ih _ _ hS2
set_option maxRecDepth 100000 in
set_option maxHeartbeats 4000000 in
theorem law_c25 (sx : Nat × (Nat → Int32)) (hL : sx.1 ≤ 3072) (i : Nat) (hi : i + 6 ≤ sx.1) (Rt : Option Value → Mm → Ml → Prop) (ih : ∀ I J, Sim I J → GW sx qL Rt 1434 [some (.ref 70), some (.ref 0), some (.ref 43), some (.int (nI i))] [] I J) (I : Mm) (J : Ml) (hS : Sim I J) : GW sx qL Rt 942 [some (.ref 70), some (.ref 0), some (.ref 43), some (.int (nI i))] [] I J := by
  refine GW.run kL (fun pc => Nat.beq pc 1434) 22 588 rfl ?_
  refine And.intro (law_ix (k := 1) rfl (by omega) hL) ?_
  refine Mt.conseq (pr_sweeps sx _ I J hS) ?_
  rintro _ _ _ ⟨v, rfl, hm⟩
  refine And.intro (law_ix (k := 1) rfl (by omega) hL) ?_
  refine Mt.conseq (hm) ?_
  rintro _ _ _ ⟨rfl, hS2⟩
  refine And.intro (fun _ => ?_) (fun hh => absurd rfl hh)
  exact ih _ _ hS2
set_option maxRecDepth 100000 in
set_option maxHeartbeats 4000000 in
theorem law_c26 (sx : Nat × (Nat → Int32)) (hL : sx.1 ≤ 3072) (i : Nat) (hi : i + 6 ≤ sx.1) (Rt : Option Value → Mm → Ml → Prop) (ih : ∀ I J, Sim I J → GW sx qL Rt 1434 [some (.ref 70), some (.ref 0), some (.ref 43), some (.int (nI i))] [] I J) (I : Mm) (J : Ml) (hS : Sim I J) : GW sx qL Rt 965 [some (.ref 70), some (.ref 0), some (.ref 43), some (.int (nI i))] [] I J := by
  refine GW.run kL (fun pc => Nat.beq pc 1434) 12 605 rfl ?_
  refine Mt.conseq (pr_owed sx  I J hS) ?_
  rintro _ _ _ ⟨v, rfl, hm⟩
  refine Mt.conseq (hm) ?_
  rintro _ _ _ ⟨rfl, hS2⟩
  refine And.intro (fun _ => ?_) (fun hh => absurd rfl hh)
  exact ih _ _ hS2
set_option maxRecDepth 100000 in
set_option maxHeartbeats 4000000 in
theorem law_c27 (sx : Nat × (Nat → Int32)) (hL : sx.1 ≤ 3072) (i : Nat) (hi : i + 6 ≤ sx.1) (Rt : Option Value → Mm → Ml → Prop) (ih : ∀ I J, Sim I J → GW sx qL Rt 1434 [some (.ref 70), some (.ref 0), some (.ref 43), some (.int (nI i))] [] I J) (I : Mm) (J : Ml) (hS : Sim I J) : GW sx qL Rt 978 [some (.ref 70), some (.ref 0), some (.ref 43), some (.int (nI i))] [] I J := by
  refine GW.run kL (fun pc => Nat.beq pc 1434) 42 612 rfl ?_
  refine And.intro (law_ix (k := 1) rfl (by omega) hL) ?_
  refine And.intro (law_ix (k := 2) rfl (by omega) hL) ?_
  refine And.intro (law_ix (k := 3) rfl (by omega) hL) ?_
  refine Mt.conseq (pr_leaked sx _ _ _ I J hS) ?_
  rintro _ _ _ ⟨v, rfl, hm⟩
  refine And.intro (law_ix (k := 1) rfl (by omega) hL) ?_
  refine And.intro (law_ix (k := 2) rfl (by omega) hL) ?_
  refine And.intro (law_ix (k := 3) rfl (by omega) hL) ?_
  refine Mt.conseq (hm) ?_
  rintro _ _ _ ⟨rfl, hS2⟩
  refine And.intro (fun _ => ?_) (fun hh => absurd rfl hh)
  exact ih _ _ hS2
set_option maxRecDepth 100000 in
set_option maxHeartbeats 4000000 in
theorem law_c28 (sx : Nat × (Nat → Int32)) (hL : sx.1 ≤ 3072) (i : Nat) (hi : i + 6 ≤ sx.1) (Rt : Option Value → Mm → Ml → Prop) (ih : ∀ I J, Sim I J → GW sx qL Rt 1434 [some (.ref 70), some (.ref 0), some (.ref 43), some (.int (nI i))] [] I J) (I : Mm) (J : Ml) (hS : Sim I J) : GW sx qL Rt 1021 [some (.ref 70), some (.ref 0), some (.ref 43), some (.int (nI i))] [] I J := by
  refine GW.run kL (fun pc => Nat.beq pc 1434) 32 649 rfl ?_
  refine And.intro (law_ix (k := 1) rfl (by omega) hL) ?_
  refine And.intro (law_ix (k := 2) rfl (by omega) hL) ?_
  refine Mt.conseq (pr_feed sx _ _ I J hS) ?_
  rintro _ _ _ ⟨v, rfl, hm⟩
  refine And.intro (law_ix (k := 1) rfl (by omega) hL) ?_
  refine And.intro (law_ix (k := 2) rfl (by omega) hL) ?_
  refine Mt.conseq (hm) ?_
  rintro _ _ _ ⟨rfl, hS2⟩
  refine And.intro (fun _ => ?_) (fun hh => absurd rfl hh)
  exact ih _ _ hS2
set_option maxRecDepth 100000 in
set_option maxHeartbeats 4000000 in
theorem law_c29 (sx : Nat × (Nat → Int32)) (hL : sx.1 ≤ 3072) (i : Nat) (hi : i + 6 ≤ sx.1) (Rt : Option Value → Mm → Ml → Prop) (ih : ∀ I J, Sim I J → GW sx qL Rt 1434 [some (.ref 70), some (.ref 0), some (.ref 43), some (.int (nI i))] [] I J) (I : Mm) (J : Ml) (hS : Sim I J) : GW sx qL Rt 1054 [some (.ref 70), some (.ref 0), some (.ref 43), some (.int (nI i))] [] I J := by
  refine GW.run kL (fun pc => Nat.beq pc 1434) 12 676 rfl ?_
  refine Mt.conseq (pr_wipe sx  I J hS) ?_
  rintro _ _ _ ⟨v, rfl, hm⟩
  refine Mt.conseq (hm) ?_
  rintro _ _ _ ⟨rfl, hS2⟩
  refine And.intro (fun _ => ?_) (fun hh => absurd rfl hh)
  exact ih _ _ hS2
set_option maxRecDepth 100000 in
set_option maxHeartbeats 4000000 in
theorem law_c30 (sx : Nat × (Nat → Int32)) (hL : sx.1 ≤ 3072) (i : Nat) (hi : i + 6 ≤ sx.1) (Rt : Option Value → Mm → Ml → Prop) (ih : ∀ I J, Sim I J → GW sx qL Rt 1434 [some (.ref 70), some (.ref 0), some (.ref 43), some (.int (nI i))] [] I J) (I : Mm) (J : Ml) (hS : Sim I J) : GW sx qL Rt 1067 [some (.ref 70), some (.ref 0), some (.ref 43), some (.int (nI i))] [] I J := by
  refine GW.run kL (fun pc => Nat.beq pc 1434) 12 683 rfl ?_
  refine Mt.conseq (pr_text sx  I J hS) ?_
  rintro _ _ _ ⟨v, rfl, hm⟩
  refine Mt.conseq (hm) ?_
  rintro _ _ _ ⟨rfl, hS2⟩
  refine And.intro (fun _ => ?_) (fun hh => absurd rfl hh)
  exact ih _ _ hS2
set_option maxRecDepth 100000 in
set_option maxHeartbeats 4000000 in
theorem law_c31 (sx : Nat × (Nat → Int32)) (hL : sx.1 ≤ 3072) (i : Nat) (hi : i + 6 ≤ sx.1) (Rt : Option Value → Mm → Ml → Prop) (ih : ∀ I J, Sim I J → GW sx qL Rt 1434 [some (.ref 70), some (.ref 0), some (.ref 43), some (.int (nI i))] [] I J) (I : Mm) (J : Ml) (hS : Sim I J) : GW sx qL Rt 1080 [some (.ref 70), some (.ref 0), some (.ref 43), some (.int (nI i))] [] I J := by
  refine GW.run kL (fun pc => Nat.beq pc 1434) 42 690 rfl ?_
  refine And.intro (law_ix (k := 1) rfl (by omega) hL) ?_
  refine And.intro (law_ix (k := 2) rfl (by omega) hL) ?_
  refine And.intro (law_ix (k := 3) rfl (by omega) hL) ?_
  refine Mt.conseq (pr_sheet sx _ _ _ I J hS) ?_
  rintro _ _ _ ⟨v, rfl, hm⟩
  refine And.intro (law_ix (k := 1) rfl (by omega) hL) ?_
  refine And.intro (law_ix (k := 2) rfl (by omega) hL) ?_
  refine And.intro (law_ix (k := 3) rfl (by omega) hL) ?_
  refine Mt.conseq (hm) ?_
  rintro _ _ _ ⟨rfl, hS2⟩
  refine And.intro (fun _ => ?_) (fun hh => absurd rfl hh)
  exact ih _ _ hS2
set_option maxRecDepth 100000 in
set_option maxHeartbeats 4000000 in
theorem law_c32 (sx : Nat × (Nat → Int32)) (hL : sx.1 ≤ 3072) (i : Nat) (hi : i + 6 ≤ sx.1) (Rt : Option Value → Mm → Ml → Prop) (ih : ∀ I J, Sim I J → GW sx qL Rt 1434 [some (.ref 70), some (.ref 0), some (.ref 43), some (.int (nI i))] [] I J) (I : Mm) (J : Ml) (hS : Sim I J) : GW sx qL Rt 1123 [some (.ref 70), some (.ref 0), some (.ref 43), some (.int (nI i))] [] I J := by
  refine GW.run kL (fun pc => Nat.beq pc 1434) 67 727 rfl ?_
  refine And.intro (law_ix (k := 1) rfl (by omega) hL) ?_
  refine And.intro (law_ix (k := 2) rfl (by omega) hL) ?_
  refine And.intro (law_ix (k := 3) rfl (by omega) hL) ?_
  refine And.intro (law_ix (k := 4) rfl (by omega) hL) ?_
  refine Mt.conseq (pr_write sx _ _ _ I J hS) ?_
  rintro _ _ _ ⟨v, rfl, hm⟩
  refine And.intro (law_ix (k := 1) rfl (by omega) hL) ?_
  refine And.intro (law_ix (k := 2) rfl (by omega) hL) ?_
  refine And.intro (law_ix (k := 3) rfl (by omega) hL) ?_
  refine And.intro (law_ix (k := 4) rfl (by omega) hL) ?_
  refine Mt.conseq (hm) ?_
  rintro _ _ _ ⟨rfl, hS2⟩
  refine And.intro (fun _ => ?_) (fun hh => absurd ((lg_cmp_eq _ _).mpr rfl) hh)
  exact ih _ _ hS2
set_option maxRecDepth 100000 in
set_option maxHeartbeats 4000000 in
theorem law_c33 (sx : Nat × (Nat → Int32)) (hL : sx.1 ≤ 3072) (i : Nat) (hi : i + 6 ≤ sx.1) (Rt : Option Value → Mm → Ml → Prop) (ih : ∀ I J, Sim I J → GW sx qL Rt 1434 [some (.ref 70), some (.ref 0), some (.ref 43), some (.int (nI i))] [] I J) (I : Mm) (J : Ml) (hS : Sim I J) : GW sx qL Rt 1197 [some (.ref 70), some (.ref 0), some (.ref 43), some (.int (nI i))] [] I J := by
  refine GW.run kL (fun pc => Nat.beq pc 1434) 62 789 rfl ?_
  refine And.intro (law_ix (k := 1) rfl (by omega) hL) ?_
  refine And.intro (law_ix (k := 2) rfl (by omega) hL) ?_
  refine And.intro (law_ix (k := 3) rfl (by omega) hL) ?_
  refine And.intro (law_ix (k := 4) rfl (by omega) hL) ?_
  refine And.intro (law_ix (k := 5) rfl (by omega) hL) ?_
  refine Mt.conseq (pr_copy sx _ _ _ _ _ I J hS) ?_
  rintro _ _ _ ⟨v, rfl, hm⟩
  refine And.intro (law_ix (k := 1) rfl (by omega) hL) ?_
  refine And.intro (law_ix (k := 2) rfl (by omega) hL) ?_
  refine And.intro (law_ix (k := 3) rfl (by omega) hL) ?_
  refine And.intro (law_ix (k := 4) rfl (by omega) hL) ?_
  refine And.intro (law_ix (k := 5) rfl (by omega) hL) ?_
  refine Mt.conseq (hm) ?_
  rintro _ _ _ ⟨rfl, hS2⟩
  refine And.intro (fun _ => ?_) (fun hh => absurd rfl hh)
  exact ih _ _ hS2
set_option maxRecDepth 100000 in
set_option maxHeartbeats 4000000 in
theorem law_c34 (sx : Nat × (Nat → Int32)) (hL : sx.1 ≤ 3072) (i : Nat) (hi : i + 6 ≤ sx.1) (Rt : Option Value → Mm → Ml → Prop) (ih : ∀ I J, Sim I J → GW sx qL Rt 1434 [some (.ref 70), some (.ref 0), some (.ref 43), some (.int (nI i))] [] I J) (I : Mm) (J : Ml) (hS : Sim I J) : GW sx qL Rt 1260 [some (.ref 70), some (.ref 0), some (.ref 43), some (.int (nI i))] [] I J := by
  refine GW.run kL (fun pc => Nat.beq pc 1434) 22 846 rfl ?_
  refine And.intro (law_ix (k := 1) rfl (by omega) hL) ?_
  refine Mt.conseq (pr_lays sx _ I J hS) ?_
  rintro _ _ _ ⟨v, rfl, hm⟩
  refine And.intro (law_ix (k := 1) rfl (by omega) hL) ?_
  refine Mt.conseq (hm) ?_
  rintro _ _ _ ⟨rfl, hS2⟩
  refine And.intro (fun _ => ?_) (fun hh => absurd rfl hh)
  exact ih _ _ hS2
set_option maxRecDepth 100000 in
set_option maxHeartbeats 4000000 in
theorem law_c35 (sx : Nat × (Nat → Int32)) (hL : sx.1 ≤ 3072) (i : Nat) (hi : i + 6 ≤ sx.1) (Rt : Option Value → Mm → Ml → Prop) (ih : ∀ I J, Sim I J → GW sx qL Rt 1434 [some (.ref 70), some (.ref 0), some (.ref 43), some (.int (nI i))] [] I J) (I : Mm) (J : Ml) (hS : Sim I J) : GW sx qL Rt 1283 [some (.ref 70), some (.ref 0), some (.ref 43), some (.int (nI i))] [] I J := by
  refine GW.run kL (fun pc => Nat.beq pc 1434) 32 863 rfl ?_
  refine And.intro (law_ix (k := 1) rfl (by omega) hL) ?_
  refine And.intro (law_ix (k := 2) rfl (by omega) hL) ?_
  refine Mt.conseq (pr_book sx _ _ I J hS) ?_
  rintro _ _ _ ⟨v, rfl, hm⟩
  refine And.intro (law_ix (k := 1) rfl (by omega) hL) ?_
  refine And.intro (law_ix (k := 2) rfl (by omega) hL) ?_
  refine Mt.conseq (hm) ?_
  rintro _ _ _ ⟨rfl, hS2⟩
  refine And.intro (fun _ => ?_) (fun hh => absurd rfl hh)
  exact ih _ _ hS2
set_option maxRecDepth 100000 in
set_option maxHeartbeats 4000000 in
theorem law_c36 (sx : Nat × (Nat → Int32)) (hL : sx.1 ≤ 3072) (i : Nat) (hi : i + 6 ≤ sx.1) (Rt : Option Value → Mm → Ml → Prop) (ih : ∀ I J, Sim I J → GW sx qL Rt 1434 [some (.ref 70), some (.ref 0), some (.ref 43), some (.int (nI i))] [] I J) (I : Mm) (J : Ml) (hS : Sim I J) : GW sx qL Rt 1316 [some (.ref 70), some (.ref 0), some (.ref 43), some (.int (nI i))] [] I J := by
  refine GW.run kL (fun pc => Nat.beq pc 1434) 32 890 rfl ?_
  refine And.intro (law_ix (k := 1) rfl (by omega) hL) ?_
  refine And.intro (law_ix (k := 2) rfl (by omega) hL) ?_
  refine Mt.conseq (pr_read sx _ _ I J hS) ?_
  rintro _ _ _ ⟨v, rfl, hm⟩
  refine And.intro (law_ix (k := 1) rfl (by omega) hL) ?_
  refine And.intro (law_ix (k := 2) rfl (by omega) hL) ?_
  refine Mt.conseq (hm) ?_
  rintro _ _ _ ⟨rfl, hS2⟩
  refine And.intro (fun _ => ?_) (fun hh => absurd rfl hh)
  exact ih _ _ hS2
set_option maxRecDepth 100000 in
set_option maxHeartbeats 4000000 in
theorem law_c37 (sx : Nat × (Nat → Int32)) (hL : sx.1 ≤ 3072) (i : Nat) (hi : i + 6 ≤ sx.1) (Rt : Option Value → Mm → Ml → Prop) (ih : ∀ I J, Sim I J → GW sx qL Rt 1434 [some (.ref 70), some (.ref 0), some (.ref 43), some (.int (nI i))] [] I J) (I : Mm) (J : Ml) (hS : Sim I J) : GW sx qL Rt 1349 [some (.ref 70), some (.ref 0), some (.ref 43), some (.int (nI i))] [] I J := by
  refine GW.run kL (fun pc => Nat.beq pc 1434) 12 917 rfl ?_
  refine Mt.conseq (pr_image sx  I J hS) ?_
  rintro _ _ _ ⟨v, rfl, hm⟩
  refine Mt.conseq (hm) ?_
  rintro _ _ _ ⟨rfl, hS2⟩
  refine And.intro (fun _ => ?_) (fun hh => absurd rfl hh)
  exact ih _ _ hS2
set_option maxRecDepth 100000 in
set_option maxHeartbeats 4000000 in
theorem law_c38 (sx : Nat × (Nat → Int32)) (hL : sx.1 ≤ 3072) (i : Nat) (hi : i + 6 ≤ sx.1) (Rt : Option Value → Mm → Ml → Prop) (ih : ∀ I J, Sim I J → GW sx qL Rt 1434 [some (.ref 70), some (.ref 0), some (.ref 43), some (.int (nI i))] [] I J) (I : Mm) (J : Ml) (hS : Sim I J) : GW sx qL Rt 1362 [some (.ref 70), some (.ref 0), some (.ref 43), some (.int (nI i))] [] I J := by
  refine GW.run kL (fun pc => Nat.beq pc 1434) 12 924 rfl ?_
  refine Mt.conseq (pr_undo sx  I J hS) ?_
  rintro _ _ _ ⟨v, rfl, hm⟩
  refine Mt.conseq (hm) ?_
  rintro _ _ _ ⟨rfl, hS2⟩
  refine And.intro (fun _ => ?_) (fun hh => absurd rfl hh)
  exact ih _ _ hS2
set_option maxRecDepth 100000 in
set_option maxHeartbeats 4000000 in
theorem law_c39 (sx : Nat × (Nat → Int32)) (hL : sx.1 ≤ 3072) (i : Nat) (hi : i + 6 ≤ sx.1) (Rt : Option Value → Mm → Ml → Prop) (ih : ∀ I J, Sim I J → GW sx qL Rt 1434 [some (.ref 70), some (.ref 0), some (.ref 43), some (.int (nI i))] [] I J) (I : Mm) (J : Ml) (hS : Sim I J) : GW sx qL Rt 1375 [some (.ref 70), some (.ref 0), some (.ref 43), some (.int (nI i))] [] I J := by
  refine GW.run kL (fun pc => Nat.beq pc 1434) 12 931 rfl ?_
  refine Mt.conseq (pr_tear sx  I J hS) ?_
  rintro _ _ _ ⟨v, rfl, hm⟩
  refine Mt.conseq (hm) ?_
  rintro _ _ _ ⟨rfl, hS2⟩
  refine And.intro (fun _ => ?_) (fun hh => absurd rfl hh)
  exact ih _ _ hS2
set_option maxRecDepth 100000 in
set_option maxHeartbeats 4000000 in
theorem law_c40 (sx : Nat × (Nat → Int32)) (hL : sx.1 ≤ 3072) (i : Nat) (hi : i + 6 ≤ sx.1) (Rt : Option Value → Mm → Ml → Prop) (ih : ∀ I J, Sim I J → GW sx qL Rt 1434 [some (.ref 70), some (.ref 0), some (.ref 43), some (.int (nI i))] [] I J) (I : Mm) (J : Ml) (hS : Sim I J) : GW sx qL Rt 1388 [some (.ref 70), some (.ref 0), some (.ref 43), some (.int (nI i))] [] I J := by
  refine GW.run kL (fun pc => Nat.beq pc 1434) 22 938 rfl ?_
  refine And.intro (law_ix (k := 1) rfl (by omega) hL) ?_
  refine Mt.conseq (pr_count sx _ I J hS) ?_
  rintro _ _ _ ⟨v, rfl, hm⟩
  refine And.intro (law_ix (k := 1) rfl (by omega) hL) ?_
  refine Mt.conseq (hm) ?_
  rintro _ _ _ ⟨rfl, hS2⟩
  refine And.intro (fun _ => ?_) (fun hh => absurd rfl hh)
  exact ih _ _ hS2
set_option maxRecDepth 100000 in
set_option maxHeartbeats 4000000 in
theorem law_c41 (sx : Nat × (Nat → Int32)) (hL : sx.1 ≤ 3072) (i : Nat) (hi : i + 6 ≤ sx.1) (Rt : Option Value → Mm → Ml → Prop) (ih : ∀ I J, Sim I J → GW sx qL Rt 1434 [some (.ref 70), some (.ref 0), some (.ref 43), some (.int (nI i))] [] I J) (I : Mm) (J : Ml) (hS : Sim I J) : GW sx qL Rt 1411 [some (.ref 70), some (.ref 0), some (.ref 43), some (.int (nI i))] [] I J := by
  refine GW.run kL (fun pc => Nat.beq pc 1434) 22 955 rfl ?_
  refine And.intro (law_ix (k := 1) rfl (by omega) hL) ?_
  refine Mt.conseq (pr_status sx _ I J hS) ?_
  rintro _ _ _ ⟨v, rfl, hm⟩
  refine And.intro (law_ix (k := 1) rfl (by omega) hL) ?_
  refine Mt.conseq (hm) ?_
  rintro _ _ _ ⟨rfl, hS2⟩
  refine And.intro (fun _ => ?_) (fun hh => absurd rfl hh)
  exact ih _ _ hS2
set_option maxRecDepth 100000 in
set_option maxHeartbeats 4000000 in
theorem law_disp (sx : Nat × (Nat → Int32)) (hL : sx.1 ≤ 3072) (i : Nat) (hi : i + 6 ≤ sx.1) (Rt : Option Value → Mm → Ml → Prop) (ih : ∀ I J, Sim I J → GW sx qL Rt 1434 [some (.ref 70), some (.ref 0), some (.ref 43), some (.int (nI i))] [] I J) (I : Mm) (J : Ml) (hS : Sim I J) : GW sx qL Rt 27 [some (.ref 70), some (.ref 0), some (.ref 43), some (.int (nI i))] [] I J := by
  have hb0 : vp_in (nI i) sx.1 := vp_in_nI (by omega) (by omega)
  refine GW.run kL (fun pc => Nat.beq pc 216 || Nat.beq pc 259 || Nat.beq pc 292 || Nat.beq pc 325 || Nat.beq pc 348 || Nat.beq pc 381 || Nat.beq pc 414 || Nat.beq pc 457 || Nat.beq pc 490 || Nat.beq pc 523 || Nat.beq pc 546 || Nat.beq pc 569 || Nat.beq pc 592 || Nat.beq pc 635 || Nat.beq pc 658 || Nat.beq pc 671 || Nat.beq pc 684 || Nat.beq pc 697 || Nat.beq pc 720 || Nat.beq pc 753 || Nat.beq pc 796 || Nat.beq pc 819 || Nat.beq pc 852 || Nat.beq pc 885 || Nat.beq pc 919 || Nat.beq pc 942 || Nat.beq pc 965 || Nat.beq pc 978 || Nat.beq pc 1021 || Nat.beq pc 1054 || Nat.beq pc 1067 || Nat.beq pc 1080 || Nat.beq pc 1123 || Nat.beq pc 1197 || Nat.beq pc 1260 || Nat.beq pc 1283 || Nat.beq pc 1316 || Nat.beq pc 1349 || Nat.beq pc 1362 || Nat.beq pc 1375 || Nat.beq pc 1388 || Nat.beq pc 1411 || Nat.beq pc 1434) 20 6 rfl ?_
  refine And.intro (hb0) ?_
  refine And.intro (fun h1 => ?_) (And.intro (fun h1 => ?_) (And.intro (fun h1 => ?_) (And.intro (fun h1 => ?_) (And.intro (fun h1 => ?_) (And.intro (fun h1 => ?_) (And.intro (fun h1 => ?_) (And.intro (fun h1 => ?_) (And.intro (fun h1 => ?_) (And.intro (fun h1 => ?_) (And.intro (fun h1 => ?_) (And.intro (fun h1 => ?_) (And.intro (fun h1 => ?_) (And.intro (fun h1 => ?_) (And.intro (fun h1 => ?_) (And.intro (fun h1 => ?_) (And.intro (fun h1 => ?_) (And.intro (fun h1 => ?_) (And.intro (fun h1 => ?_) (And.intro (fun h1 => ?_) (And.intro (fun h1 => ?_) (And.intro (fun h1 => ?_) (And.intro (fun h1 => ?_) (And.intro (fun h1 => ?_) (And.intro (fun h1 => ?_) (And.intro (fun h1 => ?_) (And.intro (fun h1 => ?_) (And.intro (fun h1 => ?_) (And.intro (fun h1 => ?_) (And.intro (fun h1 => ?_) (And.intro (fun h1 => ?_) (And.intro (fun h1 => ?_) (And.intro (fun h1 => ?_) (And.intro (fun h1 => ?_) (And.intro (fun h1 => ?_) (And.intro (fun h1 => ?_) (And.intro (fun h1 => ?_) (And.intro (fun h1 => ?_) (And.intro (fun h1 => ?_) (And.intro (fun h1 => ?_) (And.intro (fun h1 => ?_) (And.intro (fun h1 => ?_) (And.intro (fun h1 => ?_) (trivial)))))))))))))))))))))))))))))))))))))))))))
  · -- pc 33 switch None
    exact ih I J hS
  · -- pc 33 switch 0
    exact law_c0 sx hL i (by omega) Rt ih I J hS
  · -- pc 33 switch 1
    exact law_c1 sx hL i (by omega) Rt ih I J hS
  · -- pc 33 switch 2
    exact law_c2 sx hL i (by omega) Rt ih I J hS
  · -- pc 33 switch 3
    exact law_c3 sx hL i (by omega) Rt ih I J hS
  · -- pc 33 switch 4
    exact law_c4 sx hL i (by omega) Rt ih I J hS
  · -- pc 33 switch 5
    exact law_c5 sx hL i (by omega) Rt ih I J hS
  · -- pc 33 switch 6
    exact law_c6 sx hL i (by omega) Rt ih I J hS
  · -- pc 33 switch 7
    exact law_c7 sx hL i (by omega) Rt ih I J hS
  · -- pc 33 switch 8
    exact law_c8 sx hL i (by omega) Rt ih I J hS
  · -- pc 33 switch 9
    exact law_c9 sx hL i (by omega) Rt ih I J hS
  · -- pc 33 switch 10
    exact law_c10 sx hL i (by omega) Rt ih I J hS
  · -- pc 33 switch 11
    exact law_c11 sx hL i (by omega) Rt ih I J hS
  · -- pc 33 switch 12
    exact law_c12 sx hL i (by omega) Rt ih I J hS
  · -- pc 33 switch 13
    exact law_c13 sx hL i (by omega) Rt ih I J hS
  · -- pc 33 switch 14
    exact law_c14 sx hL i (by omega) Rt ih I J hS
  · -- pc 33 switch 15
    exact law_c15 sx hL i (by omega) Rt ih I J hS
  · -- pc 33 switch 16
    exact law_c16 sx hL i (by omega) Rt ih I J hS
  · -- pc 33 switch 17
    exact law_c17 sx hL i (by omega) Rt ih I J hS
  · -- pc 33 switch 18
    exact law_c18 sx hL i (by omega) Rt ih I J hS
  · -- pc 33 switch 19
    exact law_c19 sx hL i (by omega) Rt ih I J hS
  · -- pc 33 switch 20
    exact law_c20 sx hL i (by omega) Rt ih I J hS
  · -- pc 33 switch 21
    exact law_c21 sx hL i (by omega) Rt ih I J hS
  · -- pc 33 switch 22
    exact law_c22 sx hL i (by omega) Rt ih I J hS
  · -- pc 33 switch 23
    exact law_c23 sx hL i (by omega) Rt ih I J hS
  · -- pc 33 switch 24
    exact law_c24 sx hL i (by omega) Rt ih I J hS
  · -- pc 33 switch 25
    exact law_c25 sx hL i (by omega) Rt ih I J hS
  · -- pc 33 switch 26
    exact law_c26 sx hL i (by omega) Rt ih I J hS
  · -- pc 33 switch 27
    exact law_c27 sx hL i (by omega) Rt ih I J hS
  · -- pc 33 switch 28
    exact law_c28 sx hL i (by omega) Rt ih I J hS
  · -- pc 33 switch 29
    exact law_c29 sx hL i (by omega) Rt ih I J hS
  · -- pc 33 switch 30
    exact law_c30 sx hL i (by omega) Rt ih I J hS
  · -- pc 33 switch 31
    exact law_c31 sx hL i (by omega) Rt ih I J hS
  · -- pc 33 switch 32
    exact law_c32 sx hL i (by omega) Rt ih I J hS
  · -- pc 33 switch 33
    exact law_c33 sx hL i (by omega) Rt ih I J hS
  · -- pc 33 switch 34
    exact law_c34 sx hL i (by omega) Rt ih I J hS
  · -- pc 33 switch 35
    exact law_c35 sx hL i (by omega) Rt ih I J hS
  · -- pc 33 switch 36
    exact law_c36 sx hL i (by omega) Rt ih I J hS
  · -- pc 33 switch 37
    exact law_c37 sx hL i (by omega) Rt ih I J hS
  · -- pc 33 switch 38
    exact law_c38 sx hL i (by omega) Rt ih I J hS
  · -- pc 33 switch 39
    exact law_c39 sx hL i (by omega) Rt ih I J hS
  · -- pc 33 switch 40
    exact law_c40 sx hL i (by omega) Rt ih I J hS
  · -- pc 33 switch 41
    exact law_c41 sx hL i (by omega) Rt ih I J hS
set_option maxRecDepth 100000 in
set_option maxHeartbeats 4000000 in
theorem law_loop (sx : Nat × (Nat → Int32)) (hL : sx.1 ≤ 3072) (Rt : Option Value → Mm → Ml → Prop) (hR : ∀ I J, Sim I J → Rt (some (.int 1)) I J) : ∀ m i I J, sx.1 < i + 6 * m → i ≤ 3078 → Sim I J → GW sx qL Rt 18 [some (.ref 70), some (.ref 0), some (.ref 43), some (.int (nI i))] [] I J := by
  intro m
  induction m with
  | zero =>
    intro i I J hm hi hS
    have hz : Int32.ofNat sx.1 - 6 < nI i := by
      have e6 : (6 : Int32).toInt = 6 := by decide
      have e : (Int32.ofNat sx.1).toInt = sx.1 := nI_toInt (n := sx.1) (by omega)
      rw [lt_i, tS (by rw [e, e6]; omega) (by rw [e, e6]; omega), e, e6, nI_toInt (by omega)]
      omega
    refine GW.run kL (fun pc => Nat.beq pc 27) 12 0 rfl ?_
    refine And.intro (fun _ => ?_) (fun hh => absurd hz hh)
    exact ⟨na_nl_b1, hR I J hS⟩
  | succ m ih =>
    intro i I J hm hi hS
    have e6 : (6 : Int32).toInt = 6 := by decide
    have e : (Int32.ofNat sx.1).toInt = sx.1 := nI_toInt (n := sx.1) (by omega)
    have hcmp : Int32.ofNat sx.1 - 6 < nI i ↔ sx.1 < i + 6 := by
      rw [lt_i, tS (by rw [e, e6]; omega) (by rw [e, e6]; omega), e, e6, nI_toInt (by omega)]
      omega
    refine GW.run kL (fun pc => Nat.beq pc 27) 12 0 rfl ?_
    refine And.intro (fun h1 => ?_) (fun h1 => ?_)
    · -- pc 24 .if_icmp .gt 1416: yes
      exact ⟨na_nl_b1, hR I J hS⟩
    · -- pc 24 .if_icmp .gt 1416: no
      have hlt : ¬ sx.1 < i + 6 := fun z => h1 (hcmp.mpr z)
      refine law_disp sx hL i (by omega) Rt (fun I J hS => ?_) I J hS
      refine GW.run kL (fun pc => Nat.beq pc 18) 5 972 rfl ?_
      exact GW.weak (ih (i + 6) I J (by omega) (by omega) hS) ⟨rfl, rfl, rfl, by rw [show (6 : Int32) = nI 6 from rfl, nI_add], trivial⟩
