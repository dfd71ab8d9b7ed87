/-! THE REFERENCE: who breathes what; sums -/
set_option maxRecDepth 100000 in
set_option maxHeartbeats 4000000 in
theorem l_mvoi (sx : Nat × (Nat → Int32)) (f : Nat → Int32) (P : Nat) (hP : f 3 = nI P) (hP8 : P ≤ 8) (p : Nat) (hp : p < 8) (I : Mm) (J : Ml) (Rt : Option Value → Mm → Ml → Prop) (hR : Rt (some (.int (voi (vN f) p P))) (sR f I) J) : ∀ m n, n + m = P → GW sx (na_mi MX4_singers) Rt 4 [some (.ref 43), some (.int (nI p)), some (.int (voi (vN f) p n)), some (.int (nI n))] [] (sR f I) J := by
  intro m
  induction m with
  | zero =>
    intro n hn
    obtain rfl : P = n := by omega
    have hz : f 3 ≤ nI P := by rw [hP]; exact Int32.le_refl _
    refine GW.run kX4_singers (fun pc => Nat.beq pc 4) 73 4 rfl ?_
    refine And.intro (by unfold vp_in; decide) ?_
    refine And.intro (fun _ => ?_) (fun hh => absurd hz hh)
    exact ⟨trivial, hR⟩
  | succ m ih =>
    intro n hn
    have hz : ¬ f 3 ≤ nI n := by rw [hP]; exact nI_ge (by omega) (by omega)
    have hb : vp_in (nI n) 8 := vp_in_nI (by omega) (by omega)
    have hc := nI_clamp (n := n) (by omega)
    have ih := ih (n + 1) (by omega)
    refine GW.run kX4_singers (fun pc => Nat.beq pc 4) 73 4 rfl ?_
    refine And.intro (by unfold vp_in; decide) ?_
    refine And.intro (fun hh => absurd hh hz) (fun _ => ?_)
    refine And.intro (fun h1 => ?_) (fun h1 => ?_)
    · -- pc 17 .if_icmp .eq 41: yes
      exact GW.weak ih ⟨rfl, rfl, congrArg Value.int (by rw [voi, if_neg (fun z => z.1 ((nI_eq (by omega) (by omega)).mp h1))]; exact (Int32.add_zero _).symm), by rw [nI_1], trivial⟩
    · -- pc 17 .if_icmp .eq 41: no
      refine Mt.conseq (m_its _ n 0 (by omega) (by decide) _ (by decide) _ _ _) ?_
      rintro _ _ _ ⟨rfl, rfl, rfl⟩
      refine And.intro (fun h3 => ?_) (fun h3 => ?_)
      · -- pc 27 .if_icmp .ne 31: yes
        exact GW.weak ih ⟨rfl, rfl, congrArg Value.int (by rw [voi, if_neg (fun z => h3 z.2.1)]; exact (Int32.add_zero _).symm), by rw [nI_1], trivial⟩
      · -- pc 27 .if_icmp .ne 31: no
        refine Mt.conseq (m_its _ n 1 (by omega) (by decide) _ (by decide) _ _ _) ?_
        rintro _ _ _ ⟨rfl, rfl, rfl⟩
        refine Mt.conseq (m_its _ p 1 (by omega) (by decide) _ (by decide) _ _ _) ?_
        rintro _ _ _ ⟨rfl, rfl, rfl⟩
        refine And.intro (fun h6 => ?_) (fun h6 => ?_)
        · -- pc 42 .if_icmp .ne 16: yes
          exact GW.weak ih ⟨rfl, rfl, congrArg Value.int (by rw [voi, if_neg (fun z => h6 z.2.2.1)]; exact (Int32.add_zero _).symm), by rw [nI_1], trivial⟩
        · -- pc 42 .if_icmp .ne 16: no
          refine Mt.conseq (m_its _ n 4 (by omega) (by decide) _ (by decide) _ _ _) ?_
          rintro _ _ _ ⟨rfl, rfl, rfl⟩
          refine And.intro (fun h8 => ?_) (fun h8 => ?_)
          · -- pc 51 .ifCond .ne 7: yes
            exact GW.weak ih ⟨rfl, rfl, congrArg Value.int (by rw [voi, if_neg (fun z => h8 z.2.2.2)]; exact (Int32.add_zero _).symm), by rw [nI_1], trivial⟩
          · -- pc 51 .ifCond .ne 7: no
            exact GW.weak ih ⟨rfl, rfl, congrArg Value.int (by rw [voi, if_pos ⟨fun z => h1 (by rw [z]), h3, h6, h8⟩]), by rw [nI_1], trivial⟩
set_option maxRecDepth 100000 in
set_option maxHeartbeats 4000000 in
theorem m_voi (sx : Nat × (Nat → Int32)) (f : Nat → Int32) (P : Nat) (hP : f 3 = nI P) (hP8 : P ≤ 8) (p : Nat) (hp : p < 8) (I : Mm) (J : Ml) : Mt sx MX4_singers [.ref 43, .int (nI p)] (sR f I) J (na_v (sR f I) J (voi (vN f) p P)) := by
  refine Mt.of2 _ rfl (by decide +kernel) (Nat.le_of_ble_eq_true rfl) ?_
  refine GW.run kX4_singers (fun pc => Nat.beq pc 4) 73 0 rfl ?_
  exact l_mvoi sx f P hP hP8 p hp I J _ ⟨rfl, rfl, rfl⟩ P 0 (by omega)
set_option maxRecDepth 100000 in
set_option maxHeartbeats 4000000 in
theorem m_brt (sx : Nat × (Nat → Int32)) (f : Nat → Int32) (P : Nat) (hP : f 3 = nI P) (hP8 : P ≤ 8) (p : Nat) (hp : p < 8) (I : Mm) (J : Ml) : Mt sx MX4_breathes [.ref 43, .int (nI p)] (sR f I) J (na_v (sR f I) J (brt (vN f) P p)) := by
  refine Mt.of2 _ rfl (by decide +kernel) (Nat.le_of_ble_eq_true rfl) ?_
  refine GW.run kX4_breathes (fun _ => false) 84 0 rfl ?_
  refine Mt.conseq (m_its _ p 2 (by omega) (by decide) _ (by decide) _ _ _) ?_
  rintro _ _ _ ⟨rfl, rfl, rfl⟩
  refine Mt.conseq (m_its _ p 4 (by omega) (by decide) _ (by decide) _ _ _) ?_
  rintro _ _ _ ⟨rfl, rfl, rfl⟩
  refine And.intro (fun h3 => ?_) (fun h3 => ?_)
  · -- pc 14 .if_icmp .ne 5: yes
    refine Mt.conseq (m_its _ p 0 (by omega) (by decide) _ (by decide) _ _ _) ?_
    rintro _ _ _ ⟨rfl, rfl, rfl⟩
    refine And.intro (fun h5 => ?_) (And.intro (fun h5 => ?_) (And.intro (fun h5 => ?_) (And.intro (fun h5 => ?_) (And.intro (fun h5 => ?_) (And.intro (fun h5 => ?_) (trivial))))))
    · -- pc 25 switch None
      exact ⟨trivial, rfl, rfl, by rw [brt, if_neg (show ¬ vN f 9 p = 1 from h3), if_neg (toI_ne (x := vN f 5 p) h5 (by decide)), if_neg (toI_ne (x := vN f 5 p) h5 (by decide)), if_neg (toI_ne (x := vN f 5 p) h5 (by decide)), if_neg (toI_ne (x := vN f 5 p) h5 (by decide)), if_neg (toI_ne (x := vN f 5 p) h5 (by decide))]; rfl⟩
    · -- pc 25 switch 1
      have he : vN f 5 p = 1 := toI_eq (x := vN f 5 p) h5 (by decide)
      exact ⟨trivial, rfl, rfl, by rw [brt, if_neg (show ¬ vN f 9 p = 1 from h3), if_pos he]; rfl⟩
    · -- pc 25 switch 2
      refine And.intro (by decide) ?_
      have he : vN f 5 p = 2 := toI_eq (x := vN f 5 p) h5 (by decide)
      exact ⟨trivial, rfl, rfl, by rw [brt, if_neg (show ¬ vN f 9 p = 1 from h3), if_neg (show ¬ vN f 5 p = 1 by rw [he]; decide), if_pos he]; rfl⟩
    · -- pc 25 switch 3
      refine Mt.conseq (m_its _ p 3 (by omega) (by decide) _ (by decide) _ _ _) ?_
      rintro _ _ _ ⟨rfl, rfl, rfl⟩
      refine And.intro (fun h7 => ?_) (fun h7 => ?_)
      · -- pc 77 .if_icmp .ge 7: yes
        have he : vN f 5 p = 3 := toI_eq (x := vN f 5 p) h5 (by decide)
        exact ⟨trivial, rfl, rfl, by rw [brt, if_neg (show ¬ vN f 9 p = 1 from h3), if_neg (show ¬ vN f 5 p = 1 by rw [he]; decide), if_neg (show ¬ vN f 5 p = 2 by rw [he]; decide), if_pos he, if_neg (show ¬ vN f 8 p < vN f 7 p from Int32.not_lt.mpr h7)]; rfl⟩
      · -- pc 77 .if_icmp .ge 7: no
        have he : vN f 5 p = 3 := toI_eq (x := vN f 5 p) h5 (by decide)
        exact ⟨trivial, rfl, rfl, by rw [brt, if_neg (show ¬ vN f 9 p = 1 from h3), if_neg (show ¬ vN f 5 p = 1 by rw [he]; decide), if_neg (show ¬ vN f 5 p = 2 by rw [he]; decide), if_pos he, if_pos (show vN f 8 p < vN f 7 p from Int32.not_le.mp h7)]⟩
    · -- pc 25 switch 4
      refine Mt.conseq (m_voi _ f P hP hP8 p hp _ _) ?_
      rintro _ _ _ ⟨rfl, rfl, rfl⟩
      have he : vN f 5 p = 4 := toI_eq (x := vN f 5 p) h5 (by decide)
      exact ⟨trivial, rfl, rfl, by rw [brt, if_neg (show ¬ vN f 9 p = 1 from h3), if_neg (show ¬ vN f 5 p = 1 by rw [he]; decide), if_neg (show ¬ vN f 5 p = 2 by rw [he]; decide), if_neg (show ¬ vN f 5 p = 3 by rw [he]; decide), if_pos he]; rfl⟩
    · -- pc 25 switch 5
      refine And.intro (by decide) ?_
      have he : vN f 5 p = 5 := toI_eq (x := vN f 5 p) h5 (by decide)
      exact ⟨trivial, rfl, rfl, by rw [brt, if_neg (show ¬ vN f 9 p = 1 from h3), if_neg (show ¬ vN f 5 p = 1 by rw [he]; decide), if_neg (show ¬ vN f 5 p = 2 by rw [he]; decide), if_neg (show ¬ vN f 5 p = 3 by rw [he]; decide), if_neg (show ¬ vN f 5 p = 4 by rw [he]; decide), if_pos he]; rfl⟩
  · -- pc 14 .if_icmp .ne 5: no
    exact ⟨trivial, rfl, rfl, congrArg (fun x => some (Value.int x)) (if_pos (c := vN f 9 p = 1) h3).symm⟩
theorem or0 (x : Int32) : x ||| 0 = x := by
  apply Int32.toBitVec_inj.mp
  rw [Int32.toBitVec_or]
  exact BitVec.or_zero
set_option maxRecDepth 100000 in
set_option maxHeartbeats 4000000 in
theorem l_mins (sx : Nat × (Nat → Int32)) (f : Nat → Int32) (P : Nat) (hP : f 3 = nI P) (hP8 : P ≤ 8) (room : Int32) (I : Mm) (J : Ml) (Rt : Option Value → Mm → Ml → Prop) (hR : Rt (some (.int (insP (vN f) room P))) (sR f I) J) : ∀ m n, n + m = P → GW sx (na_mi MX4_inside) Rt 4 [some (.ref 43), some (.int room), some (.int (insP (vN f) room n)), some (.int (nI n))] [] (sR f I) J := by
  intro m
  induction m with
  | zero =>
    intro n hn
    obtain rfl : P = n := by omega
    have hz : f 3 ≤ nI P := by rw [hP]; exact Int32.le_refl _
    refine GW.run kX4_inside (fun pc => Nat.beq pc 4) 58 4 rfl ?_
    refine And.intro (by unfold vp_in; decide) ?_
    refine And.intro (fun _ => ?_) (fun hh => absurd hz hh)
    exact ⟨trivial, hR⟩
  | succ m ih =>
    intro n hn
    have hz : ¬ f 3 ≤ nI n := by rw [hP]; exact nI_ge (by omega) (by omega)
    have hb : vp_in (nI n) 8 := vp_in_nI (by omega) (by omega)
    have hc := nI_clamp (n := n) (by omega)
    have ih := ih (n + 1) (by omega)
    refine GW.run kX4_inside (fun pc => Nat.beq pc 4) 58 4 rfl ?_
    refine And.intro (by unfold vp_in; decide) ?_
    refine And.intro (fun hh => absurd hh hz) (fun _ => ?_)
    refine Mt.conseq (m_its _ n 1 (by omega) (by decide) _ (by decide) _ _ _) ?_
    rintro _ _ _ ⟨rfl, rfl, rfl⟩
    refine And.intro (fun h2 => ?_) (fun h2 => ?_)
    · -- pc 22 .if_icmp .ne 9: yes
      exact GW.weak ih ⟨rfl, rfl, congrArg Value.int (by rw [insP, if_neg (by first | exact (show vN f 6 n = room from h2) | exact (show ¬ vN f 6 n = room from h2))]; exact (or0 _).symm), by rw [nI_1], trivial⟩
    · -- pc 22 .if_icmp .ne 9: no
      exact GW.weak ih ⟨rfl, rfl, congrArg Value.int (by rw [insP, if_pos (by first | exact (show vN f 6 n = room from h2) | exact (show ¬ vN f 6 n = room from h2))]; try rfl), by rw [nI_1], trivial⟩
set_option maxRecDepth 100000 in
set_option maxHeartbeats 4000000 in
theorem m_ins (sx : Nat × (Nat → Int32)) (f : Nat → Int32) (P : Nat) (hP : f 3 = nI P) (hP8 : P ≤ 8) (room : Int32) (I : Mm) (J : Ml) : Mt sx MX4_inside [.ref 43, .int room] (sR f I) J (na_v (sR f I) J (insP (vN f) room P)) := by
  refine Mt.of2 _ rfl (by decide +kernel) (Nat.le_of_ble_eq_true rfl) ?_
  refine GW.run kX4_inside (fun pc => Nat.beq pc 4) 58 0 rfl ?_
  exact l_mins sx f P hP hP8 room I J _ ⟨rfl, rfl, rfl⟩ P 0 (by omega)
def brI (N : Mm) (P : Nat) (room : Int32) : Nat → Int32
  | 0 => 0
  | q + 1 => if N 6 q = room then brI N P room q + brt N P q else brI N P room q
def brA (N : Mm) (P : Nat) : Nat → Int32
  | 0 => 0
  | q + 1 => brA N P q + brt N P q
set_option maxRecDepth 100000 in
set_option maxHeartbeats 4000000 in
theorem l_mbrI (sx : Nat × (Nat → Int32)) (f : Nat → Int32) (P : Nat) (hP : f 3 = nI P) (hP8 : P ≤ 8) (room : Int32) (I : Mm) (J : Ml) (Rt : Option Value → Mm → Ml → Prop) (hR : Rt (some (.int (brI (vN f) P room P))) (sR f I) J) : ∀ m n, n + m = P → GW sx (na_mi MX4_breathedIn) Rt 4 [some (.ref 43), some (.int room), some (.int (brI (vN f) P room n)), some (.int (nI n))] [] (sR f I) J := by
  intro m
  induction m with
  | zero =>
    intro n hn
    obtain rfl : P = n := by omega
    have hz : f 3 ≤ nI P := by rw [hP]; exact Int32.le_refl _
    refine GW.run kX4_breathedIn (fun pc => Nat.beq pc 4) 58 4 rfl ?_
    refine And.intro (by unfold vp_in; decide) ?_
    refine And.intro (fun _ => ?_) (fun hh => absurd hz hh)
    exact ⟨trivial, hR⟩
  | succ m ih =>
    intro n hn
    have hz : ¬ f 3 ≤ nI n := by rw [hP]; exact nI_ge (by omega) (by omega)
    have hb : vp_in (nI n) 8 := vp_in_nI (by omega) (by omega)
    have hc := nI_clamp (n := n) (by omega)
    have ih := ih (n + 1) (by omega)
    refine GW.run kX4_breathedIn (fun pc => Nat.beq pc 4) 58 4 rfl ?_
    refine And.intro (by unfold vp_in; decide) ?_
    refine And.intro (fun hh => absurd hh hz) (fun _ => ?_)
    refine Mt.conseq (m_its _ n 1 (by omega) (by decide) _ (by decide) _ _ _) ?_
    rintro _ _ _ ⟨rfl, rfl, rfl⟩
    refine And.intro (fun h2 => ?_) (fun h2 => ?_)
    · -- pc 22 .if_icmp .ne 11: yes
      exact GW.weak ih ⟨rfl, rfl, congrArg Value.int (by rw [brI, if_neg (by first | exact (show vN f 6 n = room from h2) | exact (show ¬ vN f 6 n = room from h2))]; exact (Int32.add_zero _).symm), by rw [nI_1], trivial⟩
    · -- pc 22 .if_icmp .ne 11: no
      refine Mt.conseq (m_brt _ f P hP hP8 n (by omega) _ _) ?_
      rintro _ _ _ ⟨rfl, rfl, rfl⟩
      exact GW.weak ih ⟨rfl, rfl, congrArg Value.int (by rw [brI, if_pos (by first | exact (show vN f 6 n = room from h2) | exact (show ¬ vN f 6 n = room from h2))]; try rfl), by rw [nI_1], trivial⟩
set_option maxRecDepth 100000 in
set_option maxHeartbeats 4000000 in
theorem m_brI (sx : Nat × (Nat → Int32)) (f : Nat → Int32) (P : Nat) (hP : f 3 = nI P) (hP8 : P ≤ 8) (room : Int32) (I : Mm) (J : Ml) : Mt sx MX4_breathedIn [.ref 43, .int room] (sR f I) J (na_v (sR f I) J (brI (vN f) P room P)) := by
  refine Mt.of2 _ rfl (by decide +kernel) (Nat.le_of_ble_eq_true rfl) ?_
  refine GW.run kX4_breathedIn (fun pc => Nat.beq pc 4) 58 0 rfl ?_
  exact l_mbrI sx f P hP hP8 room I J _ ⟨rfl, rfl, rfl⟩ P 0 (by omega)
set_option maxRecDepth 100000 in
set_option maxHeartbeats 4000000 in
theorem l_mstf (sx : Nat × (Nat → Int32)) (f : Nat → Int32) (P : Nat) (hP : f 3 = nI P) (hP8 : P ≤ 8) (I : Mm) (J : Ml) (Rt : Option Value → Mm → Ml → Prop) (hR : Rt (some (.int (stf (vN f) P))) (sR f I) J) : ∀ m n, n + m = P → GW sx (na_mi MX4_stifled) Rt 4 [some (.ref 43), some (.int (stf (vN f) n)), some (.int (nI n))] [] (sR f I) J := by
  intro m
  induction m with
  | zero =>
    intro n hn
    obtain rfl : P = n := by omega
    have hz : f 3 ≤ nI P := by rw [hP]; exact Int32.le_refl _
    refine GW.run kX4_stifled (fun pc => Nat.beq pc 4) 53 4 rfl ?_
    refine And.intro (by unfold vp_in; decide) ?_
    refine And.intro (fun _ => ?_) (fun hh => absurd hz hh)
    exact ⟨trivial, hR⟩
  | succ m ih =>
    intro n hn
    have hz : ¬ f 3 ≤ nI n := by rw [hP]; exact nI_ge (by omega) (by omega)
    have hb : vp_in (nI n) 8 := vp_in_nI (by omega) (by omega)
    have hc := nI_clamp (n := n) (by omega)
    have ih := ih (n + 1) (by omega)
    refine GW.run kX4_stifled (fun pc => Nat.beq pc 4) 53 4 rfl ?_
    refine And.intro (by unfold vp_in; decide) ?_
    refine And.intro (fun hh => absurd hh hz) (fun _ => ?_)
    refine Mt.conseq (m_its _ n 4 (by omega) (by decide) _ (by decide) _ _ _) ?_
    rintro _ _ _ ⟨rfl, rfl, rfl⟩
    exact GW.weak ih ⟨rfl, rfl, by rw [nI_1], trivial⟩
set_option maxRecDepth 100000 in
set_option maxHeartbeats 4000000 in
theorem m_stf (sx : Nat × (Nat → Int32)) (f : Nat → Int32) (P : Nat) (hP : f 3 = nI P) (hP8 : P ≤ 8) (I : Mm) (J : Ml) : Mt sx MX4_stifled [.ref 43] (sR f I) J (na_v (sR f I) J (stf (vN f) P)) := by
  refine Mt.of2 _ rfl (by decide +kernel) (Nat.le_of_ble_eq_true rfl) ?_
  refine GW.run kX4_stifled (fun pc => Nat.beq pc 4) 53 0 rfl ?_
  exact l_mstf sx f P hP hP8 I J _ ⟨rfl, rfl, rfl⟩ P 0 (by omega)
set_option maxRecDepth 100000 in
set_option maxHeartbeats 4000000 in
theorem l_mbrA (sx : Nat × (Nat → Int32)) (f : Nat → Int32) (P : Nat) (hP : f 3 = nI P) (hP8 : P ≤ 8) (I : Mm) (J : Ml) (Rt : Option Value → Mm → Ml → Prop) (hR : Rt (some (.int (brA (vN f) P P))) (sR f I) J) : ∀ m n, n + m = P → GW sx (na_mi MX4_allBreathe) Rt 4 [some (.ref 43), some (.int (brA (vN f) P n)), some (.int (nI n))] [] (sR f I) J := by
  intro m
  induction m with
  | zero =>
    intro n hn
    obtain rfl : P = n := by omega
    have hz : f 3 ≤ nI P := by rw [hP]; exact Int32.le_refl _
    refine GW.run kX4_allBreathe (fun pc => Nat.beq pc 4) 50 4 rfl ?_
    refine And.intro (by unfold vp_in; decide) ?_
    refine And.intro (fun _ => ?_) (fun hh => absurd hz hh)
    exact ⟨trivial, hR⟩
  | succ m ih =>
    intro n hn
    have hz : ¬ f 3 ≤ nI n := by rw [hP]; exact nI_ge (by omega) (by omega)
    have hb : vp_in (nI n) 8 := vp_in_nI (by omega) (by omega)
    have hc := nI_clamp (n := n) (by omega)
    have ih := ih (n + 1) (by omega)
    refine GW.run kX4_allBreathe (fun pc => Nat.beq pc 4) 50 4 rfl ?_
    refine And.intro (by unfold vp_in; decide) ?_
    refine And.intro (fun hh => absurd hh hz) (fun _ => ?_)
    refine Mt.conseq (m_brt _ f P hP hP8 n (by omega) _ _) ?_
    rintro _ _ _ ⟨rfl, rfl, rfl⟩
    exact GW.weak ih ⟨rfl, rfl, by rw [nI_1], trivial⟩
set_option maxRecDepth 100000 in
set_option maxHeartbeats 4000000 in
theorem m_brA (sx : Nat × (Nat → Int32)) (f : Nat → Int32) (P : Nat) (hP : f 3 = nI P) (hP8 : P ≤ 8) (I : Mm) (J : Ml) : Mt sx MX4_allBreathe [.ref 43] (sR f I) J (na_v (sR f I) J (brA (vN f) P P)) := by
  refine Mt.of2 _ rfl (by decide +kernel) (Nat.le_of_ble_eq_true rfl) ?_
  refine GW.run kX4_allBreathe (fun pc => Nat.beq pc 4) 50 0 rfl ?_
  exact l_mbrA sx f P hP hP8 I J _ ⟨rfl, rfl, rfl⟩ P 0 (by omega)
def suM (f : Nat → Int32) (w : Nat) : Nat → Int32
  | 0 => 0
  | r + 1 => suM f w r + f (4 + 4 * r + w)
set_option maxRecDepth 100000 in
set_option maxHeartbeats 4000000 in
theorem l_msu (sx : Nat × (Nat → Int32)) (f : Nat → Int32) (w : Nat) (hw : w < 4) (x : Int32) (hx : x = nI w) (I : Mm) (J : Ml) (Rt : Option Value → Mm → Ml → Prop) (hR : Rt (some (.int (suM f w 8))) (sR f I) J) : ∀ m n, n + m = 8 → GW sx (na_mi MX4_sumOf) Rt 4 [some (.ref 43), some (.int x), some (.int (suM f w n)), some (.int (nI n))] [] (sR f I) J := by
  intro m
  induction m with
  | zero =>
    intro n hn
    obtain rfl : n = 8 := by omega
    have hz : (8 : Int32) ≤ nI 8 := by decide
    refine GW.run kX4_sumOf (fun pc => Nat.beq pc 4) 48 4 rfl ?_
    refine And.intro (fun _ => ?_) (fun hh => absurd hz hh)
    exact ⟨trivial, hR⟩
  | succ m ih =>
    intro n hn
    have hz : ¬ (8 : Int32) ≤ nI n := nI_ge (a := n) (b := 8) (by omega) (by omega)
    have hb : vp_in (nI n) 8 := vp_in_nI (by omega) (by omega)
    have hc := nI_clamp (n := n) (by omega)
    have ih := ih (n + 1) (by omega)
    refine GW.run kX4_sumOf (fun pc => Nat.beq pc 4) 48 4 rfl ?_
    refine And.intro (fun hh => absurd hh hz) (fun _ => ?_)
    refine Mt.conseq (m_there _ n w (by omega) hw _ hx _ _ _) ?_
    rintro _ _ _ ⟨rfl, rfl, rfl⟩
    exact GW.weak ih ⟨rfl, rfl, rfl, by rw [nI_1], trivial⟩
set_option maxRecDepth 100000 in
set_option maxHeartbeats 4000000 in
theorem m_su (sx : Nat × (Nat → Int32)) (f : Nat → Int32) (w : Nat) (hw : w < 4) (x : Int32) (hx : x = nI w) (I : Mm) (J : Ml) : Mt sx MX4_sumOf [.ref 43, .int x] (sR f I) J (na_v (sR f I) J (suM f w 8)) := by
  refine Mt.of2 _ rfl (by decide +kernel) (Nat.le_of_ble_eq_true rfl) ?_
  refine GW.run kX4_sumOf (fun pc => Nat.beq pc 4) 48 0 rfl ?_
  exact l_msu sx f w hw x hx I J _ ⟨rfl, rfl, rfl⟩ 8 0 (by omega)
set_option maxRecDepth 100000 in
set_option maxHeartbeats 4000000 in
theorem l_mfr (sx : Nat × (Nat → Int32)) (f : Nat → Int32) (set : Int32) (I : Mm) (J : Ml) (Rt : Option Value → Mm → Ml → Prop) (hR : Rt (some (.int (fri (vN f) set 8))) (sR f I) J) : ∀ m n, n + m = 8 → GW sx (na_mi MX4_frostOf) Rt 4 [some (.ref 43), some (.int set), some (.int (fri (vN f) set n)), some (.int (nI n))] [] (sR f I) J := by
  intro m
  induction m with
  | zero =>
    intro n hn
    obtain rfl : n = 8 := by omega
    have hz : (8 : Int32) ≤ nI 8 := by decide
    refine GW.run kX4_frostOf (fun pc => Nat.beq pc 4) 54 4 rfl ?_
    refine And.intro (fun _ => ?_) (fun hh => absurd hz hh)
    exact ⟨trivial, hR⟩
  | succ m ih =>
    intro n hn
    have hz : ¬ (8 : Int32) ≤ nI n := nI_ge (a := n) (b := 8) (by omega) (by omega)
    have hb : vp_in (nI n) 8 := vp_in_nI (by omega) (by omega)
    have hc := nI_clamp (n := n) (by omega)
    have ih := ih (n + 1) (by omega)
    refine GW.run kX4_frostOf (fun pc => Nat.beq pc 4) 54 4 rfl ?_
    refine And.intro (fun hh => absurd hh hz) (fun _ => ?_)
    refine Mt.conseq (m_has _ _ _ _ _) ?_
    rintro _ _ _ ⟨rfl, rfl, ⟨h1, rfl⟩ | ⟨h1, rfl⟩⟩
    · -- pc 13 call X4_has true
      refine And.intro (fun hh => absurd hh (by decide)) (fun _ => ?_)
      refine Mt.conseq (m_there _ n 1 (by omega) (by decide) _ (by decide) _ _ _) ?_
      rintro _ _ _ ⟨rfl, rfl, rfl⟩
      exact GW.weak ih ⟨rfl, rfl, congrArg Value.int (by rw [fri, if_pos h1]; try rfl), by rw [nI_1], trivial⟩
    · -- pc 13 call X4_has false
      refine And.intro (fun _ => ?_) (fun hh => absurd hh (by decide))
      exact GW.weak ih ⟨rfl, rfl, congrArg Value.int (by rw [fri, if_neg h1]; exact (Int32.add_zero _).symm), by rw [nI_1], trivial⟩
set_option maxRecDepth 100000 in
set_option maxHeartbeats 4000000 in
theorem m_fr (sx : Nat × (Nat → Int32)) (f : Nat → Int32) (set : Int32) (I : Mm) (J : Ml) : Mt sx MX4_frostOf [.ref 43, .int set] (sR f I) J (na_v (sR f I) J (fri (vN f) set 8)) := by
  refine Mt.of2 _ rfl (by decide +kernel) (Nat.le_of_ble_eq_true rfl) ?_
  refine GW.run kX4_frostOf (fun pc => Nat.beq pc 4) 54 0 rfl ?_
  exact l_mfr sx f set I J _ ⟨rfl, rfl, rfl⟩ 8 0 (by omega)
def grM (N : Mm) (P : Nat) (set : Int32) : Nat → Int32
  | 0 => 0
  | q + 1 => if grM N P set q < (if hasP set (nI q) then brt N P q else 0) then (if hasP set (nI q) then brt N P q else 0) else grM N P set q
set_option maxRecDepth 100000 in
set_option maxHeartbeats 4000000 in
theorem l_mgr (sx : Nat × (Nat → Int32)) (f : Nat → Int32) (P : Nat) (hP : f 3 = nI P) (hP8 : P ≤ 8) (set : Int32) (I : Mm) (J : Ml) (Rt : Option Value → Mm → Ml → Prop) (hR : Rt (some (.int (grM (vN f) P set P))) (sR f I) J) : ∀ m n, n + m = P → GW sx (na_mi MX4_greatest) Rt 4 [some (.ref 43), some (.int set), some (.int (grM (vN f) P set n)), some (.int (nI n)), none] [] (sR f I) J := by
  intro m
  induction m with
  | zero =>
    intro n hn
    obtain rfl : P = n := by omega
    have hz : f 3 ≤ nI P := by rw [hP]; exact Int32.le_refl _
    refine GW.run kX4_greatest (fun pc => Nat.beq pc 4) 61 4 rfl ?_
    refine And.intro (by unfold vp_in; decide) ?_
    refine And.intro (fun _ => ?_) (fun hh => absurd hz hh)
    exact ⟨trivial, hR⟩
  | succ m ih =>
    intro n hn
    have hz : ¬ f 3 ≤ nI n := by rw [hP]; exact nI_ge (by omega) (by omega)
    have hb : vp_in (nI n) 8 := vp_in_nI (by omega) (by omega)
    have hc := nI_clamp (n := n) (by omega)
    have ih := ih (n + 1) (by omega)
    refine GW.run kX4_greatest (fun pc => Nat.beq pc 4) 61 4 rfl ?_
    refine And.intro (by unfold vp_in; decide) ?_
    refine And.intro (fun hh => absurd hh hz) (fun _ => ?_)
    refine Mt.conseq (m_has _ _ _ _ _) ?_
    rintro _ _ _ ⟨rfl, rfl, ⟨h1, rfl⟩ | ⟨h1, rfl⟩⟩
    · -- pc 16 call X4_has true
      refine And.intro (fun hh => absurd hh (by decide)) (fun _ => ?_)
      refine Mt.conseq (m_brt _ f P hP hP8 n (by omega) _ _) ?_
      rintro _ _ _ ⟨rfl, rfl, rfl⟩
      refine And.intro (fun h3 => ?_) (fun h3 => ?_)
      · -- pc 36 .if_icmp .le 8: yes
        exact GW.weak ih ⟨rfl, rfl, congrArg Value.int (by rw [grM, if_pos h1, if_neg (Int32.not_lt.mpr h3)]), by rw [nI_1], trivial⟩
      · -- pc 36 .if_icmp .le 8: no
        exact GW.weak ih ⟨rfl, rfl, congrArg Value.int (by rw [grM, if_pos h1, if_pos (Int32.not_le.mp h3)]), by rw [nI_1], trivial⟩
    · -- pc 16 call X4_has false
      refine And.intro (fun _ => ?_) (fun hh => absurd hh (by decide))
      refine And.intro (fun h4 => ?_) (fun h4 => ?_)
      · -- pc 36 .if_icmp .le 8: yes
        exact GW.weak ih ⟨rfl, rfl, congrArg Value.int (by rw [grM, if_neg h1, if_neg (Int32.not_lt.mpr h4)]), by rw [nI_1], trivial⟩
      · -- pc 36 .if_icmp .le 8: no
        exact GW.weak ih ⟨rfl, rfl, congrArg Value.int (by rw [grM, if_neg h1, if_pos (Int32.not_le.mp h4)]), by rw [nI_1], trivial⟩
set_option maxRecDepth 100000 in
set_option maxHeartbeats 4000000 in
theorem m_gr (sx : Nat × (Nat → Int32)) (f : Nat → Int32) (P : Nat) (hP : f 3 = nI P) (hP8 : P ≤ 8) (set : Int32) (I : Mm) (J : Ml) : Mt sx MX4_greatest [.ref 43, .int set] (sR f I) J (na_v (sR f I) J (grM (vN f) P set P)) := by
  refine Mt.of2 _ rfl (by decide +kernel) (Nat.le_of_ble_eq_true rfl) ?_
  refine GW.run kX4_greatest (fun pc => Nat.beq pc 4) 61 0 rfl ?_
  exact l_mgr sx f P hP hP8 set I J _ ⟨rfl, rfl, rfl⟩ P 0 (by omega)
