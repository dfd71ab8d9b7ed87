/-! PEOPLE OF A NIGHT: who breathes what -/
def voi (N : Mm) (p : Nat) : Nat → Int32
  | 0 => 0
  | q + 1 => if ¬ q = p ∧ N 5 q = 4 ∧ N 6 q = N 6 p ∧ N 9 q = 0 then voi N p q + 1 else voi N p q
def brt (N : Mm) (P p : Nat) : Int32 := if N 9 p = 1 then 0 else if N 5 p = 1 then 2 * N 7 p else if N 5 p = 2 then N 7 p / 2 + 1 else if N 5 p = 3 then (if N 8 p < N 7 p then 0 else N 7 p) else if N 5 p = 4 then 2 * N 7 p + voi N p P else if N 5 p = 5 then N 7 p / 2 + 2 else N 7 p
def insP (N : Mm) (room : Int32) : Nat → Int32
  | 0 => 0
  | q + 1 => if N 6 q = room then insP N room q ||| (1 <<< (nI q &&& 31)) else insP N room q
def stf (N : Mm) : Nat → Int32
  | 0 => 0
  | q + 1 => stf N q ||| (N 9 q <<< (nI q &&& 31))
def bri (N : Mm) (P : Nat) (set : Int32) : Nat → Int32
  | 0 => 0
  | q + 1 => if hasP set (nI q) then bri N P set q + brt N P q else bri N P set q
def gre (N : Mm) (P : Nat) (set : Int32) : Nat → Int32
  | 0 => 0
  | q + 1 => if hasP set (nI q) then jmax (gre N P set q) (brt N P q) else gre N P set q
def fri (N : Mm) (set : Int32) : Nat → Int32
  | 0 => 0
  | q + 1 => if hasP set (nI q) then fri N set q + N 2 q else fri N set q
theorem toI_eq {x : Int32} {k : Int32} {a : Int} (h : x.toInt = a) (hk : k.toInt = a) : x = k := Int32.toInt_inj.mp (h.trans hk.symm)
theorem toI_ne {x : Int32} {k : Int32} {lo hi : Int} (h : x.toInt < lo ∨ hi < x.toInt) (hk : lo ≤ k.toInt ∧ k.toInt ≤ hi) : ¬ x = k := fun q => by subst q; omega
set_option maxRecDepth 100000 in
set_option maxHeartbeats 4000000 in
theorem l_voi (sx : Nat × (Nat → Int32)) (nb : Nat) (hnb : nb = 1 ∨ nb = 21) (N : Mm) (P : Nat) (hP : N 0 7 = nI P) (hP8 : P ≤ 8) (p : Nat) (hp : p < 8) (I : Mm) (J : Ml) (Rt : Option Value → Mm → Ml → Prop) (hR : Rt (some (.int (voi N p P))) (pN nb N I) J) : ∀ m n, n + m = P → GW sx (na_mi MX0_otherVoices) Rt 4 [some (.ref nb), some (.int (nI p)), some (.int (voi N p n)), some (.int (nI n))] [] (pN nb N I) J := by
  intro m
  induction m with
  | zero =>
    intro n hn
    obtain rfl : P = n := by omega
    have hz : N 0 7 ≤ nI P := by rw [hP]; exact Int32.le_refl _
    rcases hnb with rfl | rfl
    all_goals
      refine GW.run kX0_otherVoices (fun pc => Nat.beq pc 4) 66 4 rfl ?_
      refine And.intro (fun _ => ?_) (fun hh => absurd hz hh)
      exact ⟨trivial, hR⟩
  | succ m ih =>
    intro n hn
    have hz : ¬ N 0 7 ≤ nI n := by rw [hP]; exact nI_ge (by omega) (by omega)
    have hb : vp_in (nI n) 8 := vp_in_nI (by omega) (by omega)
    have hc := nI_clamp (n := n) (by omega)
    have ih := ih (n + 1) (by omega)
    have hbp : vp_in (nI p) 8 := vp_in_nI (by omega) (by omega)
    have hcp := nI_clamp (n := p) (by omega)
    rcases hnb with rfl | rfl
    all_goals
      refine GW.run kX0_otherVoices (fun pc => Nat.beq pc 4) 66 4 rfl ?_
      refine And.intro (fun hh => absurd hh hz) (fun _ => ?_)
      refine And.intro (fun h1 => ?_) (fun h1 => ?_)
      · -- pc 14 .if_icmp .eq 40: yes
        exact GW.weak ih ⟨rfl, rfl, by rw [voi, if_neg (fun z => z.1 ((nI_eq (by omega) (by omega)).mp h1))], by rw [nI_1], trivial⟩
      · -- pc 14 .if_icmp .eq 40: no
        refine And.intro (hb) ?_
        refine And.intro (fun h2 => ?_) (fun h2 => ?_)
        · -- pc 24 .if_icmp .ne 30: yes
          exact GW.weak ih ⟨rfl, rfl, by rw [voi, if_neg (fun z => h2 (by simp only [pNg_1_0, pNs_1_0, pNg_1_1, pNs_1_1, pNg_1_2, pNs_1_2, pNg_1_3, pNs_1_3, pNg_1_4, pNs_1_4, pNg_1_5, pNs_1_5, pNg_1_6, pNs_1_6, pNg_1_7, pNs_1_7, pNg_1_8, pNs_1_8, pNg_1_9, pNs_1_9, pNg_21_0, pNs_21_0, pNg_21_1, pNs_21_1, pNg_21_2, pNs_21_2, pNg_21_3, pNs_21_3, pNg_21_4, pNs_21_4, pNg_21_5, pNs_21_5, pNg_21_6, pNs_21_6, pNg_21_7, pNs_21_7, pNg_21_8, pNs_21_8, pNg_21_9, pNs_21_9, na_h1, na_h2, na_h0, List.tail_cons, hc]; exact z.2.1))], by rw [nI_1], trivial⟩
        · -- pc 24 .if_icmp .ne 30: no
          refine And.intro (hb) ?_
          refine And.intro (hbp) ?_
          refine And.intro (fun h3 => ?_) (fun h3 => ?_)
          · -- pc 39 .if_icmp .ne 15: yes
            exact GW.weak ih ⟨rfl, rfl, by rw [voi, if_neg (fun z => h3 (by simp only [pNg_1_0, pNs_1_0, pNg_1_1, pNs_1_1, pNg_1_2, pNs_1_2, pNg_1_3, pNs_1_3, pNg_1_4, pNs_1_4, pNg_1_5, pNs_1_5, pNg_1_6, pNs_1_6, pNg_1_7, pNs_1_7, pNg_1_8, pNs_1_8, pNg_1_9, pNs_1_9, pNg_21_0, pNs_21_0, pNg_21_1, pNs_21_1, pNg_21_2, pNs_21_2, pNg_21_3, pNs_21_3, pNg_21_4, pNs_21_4, pNg_21_5, pNs_21_5, pNg_21_6, pNs_21_6, pNg_21_7, pNs_21_7, pNg_21_8, pNs_21_8, pNg_21_9, pNs_21_9, na_h1, na_h2, na_h0, List.tail_cons, hc, hcp]; exact z.2.2.1))], by rw [nI_1], trivial⟩
          · -- pc 39 .if_icmp .ne 15: no
            refine And.intro (hb) ?_
            refine And.intro (fun h4 => ?_) (fun h4 => ?_)
            · -- pc 48 .ifCond .ne 6: yes
              exact GW.weak ih ⟨rfl, rfl, by rw [voi, if_neg (fun z => h4 (by simp only [pNg_1_0, pNs_1_0, pNg_1_1, pNs_1_1, pNg_1_2, pNs_1_2, pNg_1_3, pNs_1_3, pNg_1_4, pNs_1_4, pNg_1_5, pNs_1_5, pNg_1_6, pNs_1_6, pNg_1_7, pNs_1_7, pNg_1_8, pNs_1_8, pNg_1_9, pNs_1_9, pNg_21_0, pNs_21_0, pNg_21_1, pNs_21_1, pNg_21_2, pNs_21_2, pNg_21_3, pNs_21_3, pNg_21_4, pNs_21_4, pNg_21_5, pNs_21_5, pNg_21_6, pNs_21_6, pNg_21_7, pNs_21_7, pNg_21_8, pNs_21_8, pNg_21_9, pNs_21_9, na_h1, na_h2, na_h0, List.tail_cons, hc]; exact z.2.2.2))], by rw [nI_1], trivial⟩
            · -- pc 48 .ifCond .ne 6: no
              exact GW.weak ih ⟨rfl, rfl, by rw [voi, if_pos ⟨fun z => h1 (by rw [z]), (by have q := h2; simp only [pNg_1_0, pNs_1_0, pNg_1_1, pNs_1_1, pNg_1_2, pNs_1_2, pNg_1_3, pNs_1_3, pNg_1_4, pNs_1_4, pNg_1_5, pNs_1_5, pNg_1_6, pNs_1_6, pNg_1_7, pNs_1_7, pNg_1_8, pNs_1_8, pNg_1_9, pNs_1_9, pNg_21_0, pNs_21_0, pNg_21_1, pNs_21_1, pNg_21_2, pNs_21_2, pNg_21_3, pNs_21_3, pNg_21_4, pNs_21_4, pNg_21_5, pNs_21_5, pNg_21_6, pNs_21_6, pNg_21_7, pNs_21_7, pNg_21_8, pNs_21_8, pNg_21_9, pNs_21_9, na_h1, na_h2, na_h0, List.tail_cons, hc] at q; exact q), (by have q := h3; simp only [pNg_1_0, pNs_1_0, pNg_1_1, pNs_1_1, pNg_1_2, pNs_1_2, pNg_1_3, pNs_1_3, pNg_1_4, pNs_1_4, pNg_1_5, pNs_1_5, pNg_1_6, pNs_1_6, pNg_1_7, pNs_1_7, pNg_1_8, pNs_1_8, pNg_1_9, pNs_1_9, pNg_21_0, pNs_21_0, pNg_21_1, pNs_21_1, pNg_21_2, pNs_21_2, pNg_21_3, pNs_21_3, pNg_21_4, pNs_21_4, pNg_21_5, pNs_21_5, pNg_21_6, pNs_21_6, pNg_21_7, pNs_21_7, pNg_21_8, pNs_21_8, pNg_21_9, pNs_21_9, na_h1, na_h2, na_h0, List.tail_cons, hc, hcp] at q; exact q), (by have q := h4; simp only [pNg_1_0, pNs_1_0, pNg_1_1, pNs_1_1, pNg_1_2, pNs_1_2, pNg_1_3, pNs_1_3, pNg_1_4, pNs_1_4, pNg_1_5, pNs_1_5, pNg_1_6, pNs_1_6, pNg_1_7, pNs_1_7, pNg_1_8, pNs_1_8, pNg_1_9, pNs_1_9, pNg_21_0, pNs_21_0, pNg_21_1, pNs_21_1, pNg_21_2, pNs_21_2, pNg_21_3, pNs_21_3, pNg_21_4, pNs_21_4, pNg_21_5, pNs_21_5, pNg_21_6, pNs_21_6, pNg_21_7, pNs_21_7, pNg_21_8, pNs_21_8, pNg_21_9, pNs_21_9, na_h1, na_h2, na_h0, List.tail_cons, hc] at q; exact q)⟩], by rw [nI_1], trivial⟩
set_option maxRecDepth 100000 in
set_option maxHeartbeats 4000000 in
theorem c_voi (sx : Nat × (Nat → Int32)) (nb : Nat) (hnb : nb = 1 ∨ nb = 21) (N : Mm) (P : Nat) (hP : N 0 7 = nI P) (hP8 : P ≤ 8) (p : Nat) (hp : p < 8) (I : Mm) (J : Ml) : Mt sx MX0_otherVoices [.ref nb, .int (nI p)] (pN nb N I) J (na_v (pN nb N I) J (voi N p P)) := by
  refine Mt.of2 _ rfl (by decide +kernel) (Nat.le_of_ble_eq_true rfl) ?_
  have hnb2 := hnb
  rcases hnb with rfl | rfl
  all_goals
    refine GW.run kX0_otherVoices (fun pc => Nat.beq pc 4) 66 0 rfl ?_
    exact l_voi sx _ hnb2 N P hP hP8 p hp I J _ ⟨rfl, rfl, rfl⟩ P 0 (by omega)
set_option maxRecDepth 100000 in
set_option maxHeartbeats 4000000 in
theorem c_brt (sx : Nat × (Nat → Int32)) (nb : Nat) (hnb : nb = 1 ∨ nb = 21) (N : Mm) (P : Nat) (hP : N 0 7 = nI P) (hP8 : P ≤ 8) (p : Nat) (hp : p < 8) (I : Mm) (J : Ml) : Mt sx MX0_breathOf [.ref nb, .int (nI p)] (pN nb N I) J (na_v (pN nb N I) J (brt N P p)) := by
  refine Mt.of2 _ rfl (by decide +kernel) (Nat.le_of_ble_eq_true rfl) ?_
  have hnb2 := hnb
  rcases hnb with rfl | rfl
  all_goals
    have hbp : vp_in (nI p) 8 := vp_in_nI (by omega) (by omega)
    have hcp := nI_clamp (n := p) (by omega)
    refine GW.run kX0_breathOf (fun _ => false) 84 0 rfl ?_
    refine And.intro (hbp) ?_
    refine And.intro (fun h1 => ?_) (fun h1 => ?_)
    · -- pc 7 .if_icmp .ne 5: yes
      refine And.intro (hbp) ?_
      refine And.intro (hbp) ?_
      refine And.intro (fun h2 => ?_) (And.intro (fun h2 => ?_) (And.intro (fun h2 => ?_) (And.intro (fun h2 => ?_) (And.intro (fun h2 => ?_) (And.intro (fun h2 => ?_) (trivial))))))
      · -- pc 25 switch None
        exact ⟨trivial, rfl, rfl, by rw [brt, if_neg (by have q := h1; simp only [pNg_1_0, pNs_1_0, pNg_1_1, pNs_1_1, pNg_1_2, pNs_1_2, pNg_1_3, pNs_1_3, pNg_1_4, pNs_1_4, pNg_1_5, pNs_1_5, pNg_1_6, pNs_1_6, pNg_1_7, pNs_1_7, pNg_1_8, pNs_1_8, pNg_1_9, pNs_1_9, pNg_21_0, pNs_21_0, pNg_21_1, pNs_21_1, pNg_21_2, pNs_21_2, pNg_21_3, pNs_21_3, pNg_21_4, pNs_21_4, pNg_21_5, pNs_21_5, pNg_21_6, pNs_21_6, pNg_21_7, pNs_21_7, pNg_21_8, pNs_21_8, pNg_21_9, pNs_21_9, na_h1, na_h2, na_h0, List.tail_cons, hcp] at q; exact q), if_neg (toI_ne (by have q := h2; simp only [pNg_1_0, pNs_1_0, pNg_1_1, pNs_1_1, pNg_1_2, pNs_1_2, pNg_1_3, pNs_1_3, pNg_1_4, pNs_1_4, pNg_1_5, pNs_1_5, pNg_1_6, pNs_1_6, pNg_1_7, pNs_1_7, pNg_1_8, pNs_1_8, pNg_1_9, pNs_1_9, pNg_21_0, pNs_21_0, pNg_21_1, pNs_21_1, pNg_21_2, pNs_21_2, pNg_21_3, pNs_21_3, pNg_21_4, pNs_21_4, pNg_21_5, pNs_21_5, pNg_21_6, pNs_21_6, pNg_21_7, pNs_21_7, pNg_21_8, pNs_21_8, pNg_21_9, pNs_21_9, na_h1, na_h2, na_h0, List.tail_cons, hcp] at q; exact q) (by decide)), if_neg (toI_ne (by have q := h2; simp only [pNg_1_0, pNs_1_0, pNg_1_1, pNs_1_1, pNg_1_2, pNs_1_2, pNg_1_3, pNs_1_3, pNg_1_4, pNs_1_4, pNg_1_5, pNs_1_5, pNg_1_6, pNs_1_6, pNg_1_7, pNs_1_7, pNg_1_8, pNs_1_8, pNg_1_9, pNs_1_9, pNg_21_0, pNs_21_0, pNg_21_1, pNs_21_1, pNg_21_2, pNs_21_2, pNg_21_3, pNs_21_3, pNg_21_4, pNs_21_4, pNg_21_5, pNs_21_5, pNg_21_6, pNs_21_6, pNg_21_7, pNs_21_7, pNg_21_8, pNs_21_8, pNg_21_9, pNs_21_9, na_h1, na_h2, na_h0, List.tail_cons, hcp] at q; exact q) (by decide)), if_neg (toI_ne (by have q := h2; simp only [pNg_1_0, pNs_1_0, pNg_1_1, pNs_1_1, pNg_1_2, pNs_1_2, pNg_1_3, pNs_1_3, pNg_1_4, pNs_1_4, pNg_1_5, pNs_1_5, pNg_1_6, pNs_1_6, pNg_1_7, pNs_1_7, pNg_1_8, pNs_1_8, pNg_1_9, pNs_1_9, pNg_21_0, pNs_21_0, pNg_21_1, pNs_21_1, pNg_21_2, pNs_21_2, pNg_21_3, pNs_21_3, pNg_21_4, pNs_21_4, pNg_21_5, pNs_21_5, pNg_21_6, pNs_21_6, pNg_21_7, pNs_21_7, pNg_21_8, pNs_21_8, pNg_21_9, pNs_21_9, na_h1, na_h2, na_h0, List.tail_cons, hcp] at q; exact q) (by decide)), if_neg (toI_ne (by have q := h2; simp only [pNg_1_0, pNs_1_0, pNg_1_1, pNs_1_1, pNg_1_2, pNs_1_2, pNg_1_3, pNs_1_3, pNg_1_4, pNs_1_4, pNg_1_5, pNs_1_5, pNg_1_6, pNs_1_6, pNg_1_7, pNs_1_7, pNg_1_8, pNs_1_8, pNg_1_9, pNs_1_9, pNg_21_0, pNs_21_0, pNg_21_1, pNs_21_1, pNg_21_2, pNs_21_2, pNg_21_3, pNs_21_3, pNg_21_4, pNs_21_4, pNg_21_5, pNs_21_5, pNg_21_6, pNs_21_6, pNg_21_7, pNs_21_7, pNg_21_8, pNs_21_8, pNg_21_9, pNs_21_9, na_h1, na_h2, na_h0, List.tail_cons, hcp] at q; exact q) (by decide)), if_neg (toI_ne (by have q := h2; simp only [pNg_1_0, pNs_1_0, pNg_1_1, pNs_1_1, pNg_1_2, pNs_1_2, pNg_1_3, pNs_1_3, pNg_1_4, pNs_1_4, pNg_1_5, pNs_1_5, pNg_1_6, pNs_1_6, pNg_1_7, pNs_1_7, pNg_1_8, pNs_1_8, pNg_1_9, pNs_1_9, pNg_21_0, pNs_21_0, pNg_21_1, pNs_21_1, pNg_21_2, pNs_21_2, pNg_21_3, pNs_21_3, pNg_21_4, pNs_21_4, pNg_21_5, pNs_21_5, pNg_21_6, pNs_21_6, pNg_21_7, pNs_21_7, pNg_21_8, pNs_21_8, pNg_21_9, pNs_21_9, na_h1, na_h2, na_h0, List.tail_cons, hcp] at q; exact q) (by decide))]; simp only [pNg_1_0, pNs_1_0, pNg_1_1, pNs_1_1, pNg_1_2, pNs_1_2, pNg_1_3, pNs_1_3, pNg_1_4, pNs_1_4, pNg_1_5, pNs_1_5, pNg_1_6, pNs_1_6, pNg_1_7, pNs_1_7, pNg_1_8, pNs_1_8, pNg_1_9, pNs_1_9, pNg_21_0, pNs_21_0, pNg_21_1, pNs_21_1, pNg_21_2, pNs_21_2, pNg_21_3, pNs_21_3, pNg_21_4, pNs_21_4, pNg_21_5, pNs_21_5, pNg_21_6, pNs_21_6, pNg_21_7, pNs_21_7, pNg_21_8, pNs_21_8, pNg_21_9, pNs_21_9, na_h1, na_h2, na_h0, List.tail_cons, hcp]⟩
      · -- pc 25 switch 1
        have he : N 5 p = 1 := toI_eq (by have q := h2; simp only [pNg_1_0, pNs_1_0, pNg_1_1, pNs_1_1, pNg_1_2, pNs_1_2, pNg_1_3, pNs_1_3, pNg_1_4, pNs_1_4, pNg_1_5, pNs_1_5, pNg_1_6, pNs_1_6, pNg_1_7, pNs_1_7, pNg_1_8, pNs_1_8, pNg_1_9, pNs_1_9, pNg_21_0, pNs_21_0, pNg_21_1, pNs_21_1, pNg_21_2, pNs_21_2, pNg_21_3, pNs_21_3, pNg_21_4, pNs_21_4, pNg_21_5, pNs_21_5, pNg_21_6, pNs_21_6, pNg_21_7, pNs_21_7, pNg_21_8, pNs_21_8, pNg_21_9, pNs_21_9, na_h1, na_h2, na_h0, List.tail_cons, hcp] at q; exact q) (by decide)
        exact ⟨trivial, rfl, rfl, by rw [brt, if_neg (by have q := h1; simp only [pNg_1_0, pNs_1_0, pNg_1_1, pNs_1_1, pNg_1_2, pNs_1_2, pNg_1_3, pNs_1_3, pNg_1_4, pNs_1_4, pNg_1_5, pNs_1_5, pNg_1_6, pNs_1_6, pNg_1_7, pNs_1_7, pNg_1_8, pNs_1_8, pNg_1_9, pNs_1_9, pNg_21_0, pNs_21_0, pNg_21_1, pNs_21_1, pNg_21_2, pNs_21_2, pNg_21_3, pNs_21_3, pNg_21_4, pNs_21_4, pNg_21_5, pNs_21_5, pNg_21_6, pNs_21_6, pNg_21_7, pNs_21_7, pNg_21_8, pNs_21_8, pNg_21_9, pNs_21_9, na_h1, na_h2, na_h0, List.tail_cons, hcp] at q; exact q), if_pos he]; simp only [pNg_1_0, pNs_1_0, pNg_1_1, pNs_1_1, pNg_1_2, pNs_1_2, pNg_1_3, pNs_1_3, pNg_1_4, pNs_1_4, pNg_1_5, pNs_1_5, pNg_1_6, pNs_1_6, pNg_1_7, pNs_1_7, pNg_1_8, pNs_1_8, pNg_1_9, pNs_1_9, pNg_21_0, pNs_21_0, pNg_21_1, pNs_21_1, pNg_21_2, pNs_21_2, pNg_21_3, pNs_21_3, pNg_21_4, pNs_21_4, pNg_21_5, pNs_21_5, pNg_21_6, pNs_21_6, pNg_21_7, pNs_21_7, pNg_21_8, pNs_21_8, pNg_21_9, pNs_21_9, na_h1, na_h2, na_h0, List.tail_cons, hcp]⟩
      · -- pc 25 switch 2
        refine And.intro (by decide) ?_
        have he : N 5 p = 2 := toI_eq (by have q := h2; simp only [pNg_1_0, pNs_1_0, pNg_1_1, pNs_1_1, pNg_1_2, pNs_1_2, pNg_1_3, pNs_1_3, pNg_1_4, pNs_1_4, pNg_1_5, pNs_1_5, pNg_1_6, pNs_1_6, pNg_1_7, pNs_1_7, pNg_1_8, pNs_1_8, pNg_1_9, pNs_1_9, pNg_21_0, pNs_21_0, pNg_21_1, pNs_21_1, pNg_21_2, pNs_21_2, pNg_21_3, pNs_21_3, pNg_21_4, pNs_21_4, pNg_21_5, pNs_21_5, pNg_21_6, pNs_21_6, pNg_21_7, pNs_21_7, pNg_21_8, pNs_21_8, pNg_21_9, pNs_21_9, na_h1, na_h2, na_h0, List.tail_cons, hcp] at q; exact q) (by decide)
        exact ⟨trivial, rfl, rfl, by rw [brt, if_neg (by have q := h1; simp only [pNg_1_0, pNs_1_0, pNg_1_1, pNs_1_1, pNg_1_2, pNs_1_2, pNg_1_3, pNs_1_3, pNg_1_4, pNs_1_4, pNg_1_5, pNs_1_5, pNg_1_6, pNs_1_6, pNg_1_7, pNs_1_7, pNg_1_8, pNs_1_8, pNg_1_9, pNs_1_9, pNg_21_0, pNs_21_0, pNg_21_1, pNs_21_1, pNg_21_2, pNs_21_2, pNg_21_3, pNs_21_3, pNg_21_4, pNs_21_4, pNg_21_5, pNs_21_5, pNg_21_6, pNs_21_6, pNg_21_7, pNs_21_7, pNg_21_8, pNs_21_8, pNg_21_9, pNs_21_9, na_h1, na_h2, na_h0, List.tail_cons, hcp] at q; exact q), if_neg (show ¬ N 5 p = 1 by rw [he]; decide), if_pos he]; simp only [pNg_1_0, pNs_1_0, pNg_1_1, pNs_1_1, pNg_1_2, pNs_1_2, pNg_1_3, pNs_1_3, pNg_1_4, pNs_1_4, pNg_1_5, pNs_1_5, pNg_1_6, pNs_1_6, pNg_1_7, pNs_1_7, pNg_1_8, pNs_1_8, pNg_1_9, pNs_1_9, pNg_21_0, pNs_21_0, pNg_21_1, pNs_21_1, pNg_21_2, pNs_21_2, pNg_21_3, pNs_21_3, pNg_21_4, pNs_21_4, pNg_21_5, pNs_21_5, pNg_21_6, pNs_21_6, pNg_21_7, pNs_21_7, pNg_21_8, pNs_21_8, pNg_21_9, pNs_21_9, na_h1, na_h2, na_h0, List.tail_cons, hcp]⟩
      · -- pc 25 switch 3
        refine And.intro (hbp) ?_
        refine And.intro (fun h3 => ?_) (fun h3 => ?_)
        · -- pc 77 .if_icmp .ge 7: yes
          have he : N 5 p = 3 := toI_eq (by have q := h2; simp only [pNg_1_0, pNs_1_0, pNg_1_1, pNs_1_1, pNg_1_2, pNs_1_2, pNg_1_3, pNs_1_3, pNg_1_4, pNs_1_4, pNg_1_5, pNs_1_5, pNg_1_6, pNs_1_6, pNg_1_7, pNs_1_7, pNg_1_8, pNs_1_8, pNg_1_9, pNs_1_9, pNg_21_0, pNs_21_0, pNg_21_1, pNs_21_1, pNg_21_2, pNs_21_2, pNg_21_3, pNs_21_3, pNg_21_4, pNs_21_4, pNg_21_5, pNs_21_5, pNg_21_6, pNs_21_6, pNg_21_7, pNs_21_7, pNg_21_8, pNs_21_8, pNg_21_9, pNs_21_9, na_h1, na_h2, na_h0, List.tail_cons, hcp] at q; exact q) (by decide)
          exact ⟨trivial, rfl, rfl, by rw [brt, if_neg (by have q := h1; simp only [pNg_1_0, pNs_1_0, pNg_1_1, pNs_1_1, pNg_1_2, pNs_1_2, pNg_1_3, pNs_1_3, pNg_1_4, pNs_1_4, pNg_1_5, pNs_1_5, pNg_1_6, pNs_1_6, pNg_1_7, pNs_1_7, pNg_1_8, pNs_1_8, pNg_1_9, pNs_1_9, pNg_21_0, pNs_21_0, pNg_21_1, pNs_21_1, pNg_21_2, pNs_21_2, pNg_21_3, pNs_21_3, pNg_21_4, pNs_21_4, pNg_21_5, pNs_21_5, pNg_21_6, pNs_21_6, pNg_21_7, pNs_21_7, pNg_21_8, pNs_21_8, pNg_21_9, pNs_21_9, na_h1, na_h2, na_h0, List.tail_cons, hcp] at q; exact q), if_neg (show ¬ N 5 p = 1 by rw [he]; decide), if_neg (show ¬ N 5 p = 2 by rw [he]; decide), if_pos he, if_neg (by have q := h3; simp only [pNg_1_0, pNs_1_0, pNg_1_1, pNs_1_1, pNg_1_2, pNs_1_2, pNg_1_3, pNs_1_3, pNg_1_4, pNs_1_4, pNg_1_5, pNs_1_5, pNg_1_6, pNs_1_6, pNg_1_7, pNs_1_7, pNg_1_8, pNs_1_8, pNg_1_9, pNs_1_9, pNg_21_0, pNs_21_0, pNg_21_1, pNs_21_1, pNg_21_2, pNs_21_2, pNg_21_3, pNs_21_3, pNg_21_4, pNs_21_4, pNg_21_5, pNs_21_5, pNg_21_6, pNs_21_6, pNg_21_7, pNs_21_7, pNg_21_8, pNs_21_8, pNg_21_9, pNs_21_9, na_h1, na_h2, na_h0, List.tail_cons, hcp] at q; exact Int32.not_lt.mpr q)]; simp only [pNg_1_0, pNs_1_0, pNg_1_1, pNs_1_1, pNg_1_2, pNs_1_2, pNg_1_3, pNs_1_3, pNg_1_4, pNs_1_4, pNg_1_5, pNs_1_5, pNg_1_6, pNs_1_6, pNg_1_7, pNs_1_7, pNg_1_8, pNs_1_8, pNg_1_9, pNs_1_9, pNg_21_0, pNs_21_0, pNg_21_1, pNs_21_1, pNg_21_2, pNs_21_2, pNg_21_3, pNs_21_3, pNg_21_4, pNs_21_4, pNg_21_5, pNs_21_5, pNg_21_6, pNs_21_6, pNg_21_7, pNs_21_7, pNg_21_8, pNs_21_8, pNg_21_9, pNs_21_9, na_h1, na_h2, na_h0, List.tail_cons, hcp]⟩
        · -- pc 77 .if_icmp .ge 7: no
          have he : N 5 p = 3 := toI_eq (by have q := h2; simp only [pNg_1_0, pNs_1_0, pNg_1_1, pNs_1_1, pNg_1_2, pNs_1_2, pNg_1_3, pNs_1_3, pNg_1_4, pNs_1_4, pNg_1_5, pNs_1_5, pNg_1_6, pNs_1_6, pNg_1_7, pNs_1_7, pNg_1_8, pNs_1_8, pNg_1_9, pNs_1_9, pNg_21_0, pNs_21_0, pNg_21_1, pNs_21_1, pNg_21_2, pNs_21_2, pNg_21_3, pNs_21_3, pNg_21_4, pNs_21_4, pNg_21_5, pNs_21_5, pNg_21_6, pNs_21_6, pNg_21_7, pNs_21_7, pNg_21_8, pNs_21_8, pNg_21_9, pNs_21_9, na_h1, na_h2, na_h0, List.tail_cons, hcp] at q; exact q) (by decide)
          exact ⟨trivial, rfl, rfl, by rw [brt, if_neg (by have q := h1; simp only [pNg_1_0, pNs_1_0, pNg_1_1, pNs_1_1, pNg_1_2, pNs_1_2, pNg_1_3, pNs_1_3, pNg_1_4, pNs_1_4, pNg_1_5, pNs_1_5, pNg_1_6, pNs_1_6, pNg_1_7, pNs_1_7, pNg_1_8, pNs_1_8, pNg_1_9, pNs_1_9, pNg_21_0, pNs_21_0, pNg_21_1, pNs_21_1, pNg_21_2, pNs_21_2, pNg_21_3, pNs_21_3, pNg_21_4, pNs_21_4, pNg_21_5, pNs_21_5, pNg_21_6, pNs_21_6, pNg_21_7, pNs_21_7, pNg_21_8, pNs_21_8, pNg_21_9, pNs_21_9, na_h1, na_h2, na_h0, List.tail_cons, hcp] at q; exact q), if_neg (show ¬ N 5 p = 1 by rw [he]; decide), if_neg (show ¬ N 5 p = 2 by rw [he]; decide), if_pos he, if_pos (by have q := h3; simp only [pNg_1_0, pNs_1_0, pNg_1_1, pNs_1_1, pNg_1_2, pNs_1_2, pNg_1_3, pNs_1_3, pNg_1_4, pNs_1_4, pNg_1_5, pNs_1_5, pNg_1_6, pNs_1_6, pNg_1_7, pNs_1_7, pNg_1_8, pNs_1_8, pNg_1_9, pNs_1_9, pNg_21_0, pNs_21_0, pNg_21_1, pNs_21_1, pNg_21_2, pNs_21_2, pNg_21_3, pNs_21_3, pNg_21_4, pNs_21_4, pNg_21_5, pNs_21_5, pNg_21_6, pNs_21_6, pNg_21_7, pNs_21_7, pNg_21_8, pNs_21_8, pNg_21_9, pNs_21_9, na_h1, na_h2, na_h0, List.tail_cons, hcp] at q; exact Int32.not_le.mp q)]⟩
      · -- pc 25 switch 4
        refine Mt.conseq (c_voi _ _ hnb2 N P hP hP8 p hp _ _) ?_
        rintro _ _ _ ⟨rfl, rfl, rfl⟩
        have he : N 5 p = 4 := toI_eq (by have q := h2; simp only [pNg_1_0, pNs_1_0, pNg_1_1, pNs_1_1, pNg_1_2, pNs_1_2, pNg_1_3, pNs_1_3, pNg_1_4, pNs_1_4, pNg_1_5, pNs_1_5, pNg_1_6, pNs_1_6, pNg_1_7, pNs_1_7, pNg_1_8, pNs_1_8, pNg_1_9, pNs_1_9, pNg_21_0, pNs_21_0, pNg_21_1, pNs_21_1, pNg_21_2, pNs_21_2, pNg_21_3, pNs_21_3, pNg_21_4, pNs_21_4, pNg_21_5, pNs_21_5, pNg_21_6, pNs_21_6, pNg_21_7, pNs_21_7, pNg_21_8, pNs_21_8, pNg_21_9, pNs_21_9, na_h1, na_h2, na_h0, List.tail_cons, hcp] at q; exact q) (by decide)
        exact ⟨trivial, rfl, rfl, by rw [brt, if_neg (by have q := h1; simp only [pNg_1_0, pNs_1_0, pNg_1_1, pNs_1_1, pNg_1_2, pNs_1_2, pNg_1_3, pNs_1_3, pNg_1_4, pNs_1_4, pNg_1_5, pNs_1_5, pNg_1_6, pNs_1_6, pNg_1_7, pNs_1_7, pNg_1_8, pNs_1_8, pNg_1_9, pNs_1_9, pNg_21_0, pNs_21_0, pNg_21_1, pNs_21_1, pNg_21_2, pNs_21_2, pNg_21_3, pNs_21_3, pNg_21_4, pNs_21_4, pNg_21_5, pNs_21_5, pNg_21_6, pNs_21_6, pNg_21_7, pNs_21_7, pNg_21_8, pNs_21_8, pNg_21_9, pNs_21_9, na_h1, na_h2, na_h0, List.tail_cons, hcp] at q; exact q), if_neg (show ¬ N 5 p = 1 by rw [he]; decide), if_neg (show ¬ N 5 p = 2 by rw [he]; decide), if_neg (show ¬ N 5 p = 3 by rw [he]; decide), if_pos he]; simp only [pNg_1_0, pNs_1_0, pNg_1_1, pNs_1_1, pNg_1_2, pNs_1_2, pNg_1_3, pNs_1_3, pNg_1_4, pNs_1_4, pNg_1_5, pNs_1_5, pNg_1_6, pNs_1_6, pNg_1_7, pNs_1_7, pNg_1_8, pNs_1_8, pNg_1_9, pNs_1_9, pNg_21_0, pNs_21_0, pNg_21_1, pNs_21_1, pNg_21_2, pNs_21_2, pNg_21_3, pNs_21_3, pNg_21_4, pNs_21_4, pNg_21_5, pNs_21_5, pNg_21_6, pNs_21_6, pNg_21_7, pNs_21_7, pNg_21_8, pNs_21_8, pNg_21_9, pNs_21_9, na_h1, na_h2, na_h0, List.tail_cons, hcp]⟩
      · -- pc 25 switch 5
        refine And.intro (by decide) ?_
        have he : N 5 p = 5 := toI_eq (by have q := h2; simp only [pNg_1_0, pNs_1_0, pNg_1_1, pNs_1_1, pNg_1_2, pNs_1_2, pNg_1_3, pNs_1_3, pNg_1_4, pNs_1_4, pNg_1_5, pNs_1_5, pNg_1_6, pNs_1_6, pNg_1_7, pNs_1_7, pNg_1_8, pNs_1_8, pNg_1_9, pNs_1_9, pNg_21_0, pNs_21_0, pNg_21_1, pNs_21_1, pNg_21_2, pNs_21_2, pNg_21_3, pNs_21_3, pNg_21_4, pNs_21_4, pNg_21_5, pNs_21_5, pNg_21_6, pNs_21_6, pNg_21_7, pNs_21_7, pNg_21_8, pNs_21_8, pNg_21_9, pNs_21_9, na_h1, na_h2, na_h0, List.tail_cons, hcp] at q; exact q) (by decide)
        exact ⟨trivial, rfl, rfl, by rw [brt, if_neg (by have q := h1; simp only [pNg_1_0, pNs_1_0, pNg_1_1, pNs_1_1, pNg_1_2, pNs_1_2, pNg_1_3, pNs_1_3, pNg_1_4, pNs_1_4, pNg_1_5, pNs_1_5, pNg_1_6, pNs_1_6, pNg_1_7, pNs_1_7, pNg_1_8, pNs_1_8, pNg_1_9, pNs_1_9, pNg_21_0, pNs_21_0, pNg_21_1, pNs_21_1, pNg_21_2, pNs_21_2, pNg_21_3, pNs_21_3, pNg_21_4, pNs_21_4, pNg_21_5, pNs_21_5, pNg_21_6, pNs_21_6, pNg_21_7, pNs_21_7, pNg_21_8, pNs_21_8, pNg_21_9, pNs_21_9, na_h1, na_h2, na_h0, List.tail_cons, hcp] at q; exact q), if_neg (show ¬ N 5 p = 1 by rw [he]; decide), if_neg (show ¬ N 5 p = 2 by rw [he]; decide), if_neg (show ¬ N 5 p = 3 by rw [he]; decide), if_neg (show ¬ N 5 p = 4 by rw [he]; decide), if_pos he]; simp only [pNg_1_0, pNs_1_0, pNg_1_1, pNs_1_1, pNg_1_2, pNs_1_2, pNg_1_3, pNs_1_3, pNg_1_4, pNs_1_4, pNg_1_5, pNs_1_5, pNg_1_6, pNs_1_6, pNg_1_7, pNs_1_7, pNg_1_8, pNs_1_8, pNg_1_9, pNs_1_9, pNg_21_0, pNs_21_0, pNg_21_1, pNs_21_1, pNg_21_2, pNs_21_2, pNg_21_3, pNs_21_3, pNg_21_4, pNs_21_4, pNg_21_5, pNs_21_5, pNg_21_6, pNs_21_6, pNg_21_7, pNs_21_7, pNg_21_8, pNs_21_8, pNg_21_9, pNs_21_9, na_h1, na_h2, na_h0, List.tail_cons, hcp]⟩
    · -- pc 7 .if_icmp .ne 5: no
      exact ⟨trivial, rfl, rfl, by rw [brt, if_pos (by have q := h1; simp only [pNg_1_0, pNs_1_0, pNg_1_1, pNs_1_1, pNg_1_2, pNs_1_2, pNg_1_3, pNs_1_3, pNg_1_4, pNs_1_4, pNg_1_5, pNs_1_5, pNg_1_6, pNs_1_6, pNg_1_7, pNs_1_7, pNg_1_8, pNs_1_8, pNg_1_9, pNs_1_9, pNg_21_0, pNs_21_0, pNg_21_1, pNs_21_1, pNg_21_2, pNs_21_2, pNg_21_3, pNs_21_3, pNg_21_4, pNs_21_4, pNg_21_5, pNs_21_5, pNg_21_6, pNs_21_6, pNg_21_7, pNs_21_7, pNg_21_8, pNs_21_8, pNg_21_9, pNs_21_9, na_h1, na_h2, na_h0, List.tail_cons, hcp] at q; exact q)]⟩
set_option maxRecDepth 100000 in
set_option maxHeartbeats 4000000 in
theorem l_insP (sx : Nat × (Nat → Int32)) (nb : Nat) (hnb : nb = 1 ∨ nb = 21) (N : Mm) (P : Nat) (hP : N 0 7 = nI P) (hP8 : P ≤ 8) (room : Int32) (I : Mm) (J : Ml) (Rt : Option Value → Mm → Ml → Prop) (hR : Rt (some (.int (insP N room P))) (pN nb N I) J) : ∀ m n, n + m = P → GW sx (na_mi MX0_peopleIn) Rt 4 [some (.ref nb), some (.int room), some (.int (insP N room n)), some (.int (nI n))] [] (pN nb N I) J := by
  have hnb2 := hnb
  intro m
  induction m with
  | zero =>
    intro n hn
    obtain rfl : P = n := by omega
    have hz : N 0 7 ≤ nI P := by rw [hP]; exact Int32.le_refl _
    rcases hnb with rfl | rfl
    all_goals
      refine GW.run kX0_peopleIn (fun pc => Nat.beq pc 4) 54 4 rfl ?_
      refine And.intro (fun _ => ?_) (fun hh => absurd hz hh)
      exact ⟨trivial, hR⟩
  | succ m ih =>
    intro n hn
    have hz : ¬ N 0 7 ≤ nI n := by rw [hP]; exact nI_ge (by omega) (by omega)
    have hb : vp_in (nI n) 8 := vp_in_nI (by omega) (by omega)
    have hc := nI_clamp (n := n) (by omega)
    have ih := ih (n + 1) (by omega)
    rcases hnb with rfl | rfl
    all_goals
      refine GW.run kX0_peopleIn (fun pc => Nat.beq pc 4) 54 4 rfl ?_
      refine And.intro (fun hh => absurd hh hz) (fun _ => ?_)
      refine And.intro (hb) ?_
      refine And.intro (fun h1 => ?_) (fun h1 => ?_)
      · -- pc 19 .if_icmp .ne 9: yes
        exact GW.weak ih ⟨rfl, rfl, by rw [insP, if_neg (by have q := h1; simp only [pNg_1_0, pNs_1_0, pNg_1_1, pNs_1_1, pNg_1_2, pNs_1_2, pNg_1_3, pNs_1_3, pNg_1_4, pNs_1_4, pNg_1_5, pNs_1_5, pNg_1_6, pNs_1_6, pNg_1_7, pNs_1_7, pNg_1_8, pNs_1_8, pNg_1_9, pNs_1_9, pNg_21_0, pNs_21_0, pNg_21_1, pNs_21_1, pNg_21_2, pNs_21_2, pNg_21_3, pNs_21_3, pNg_21_4, pNs_21_4, pNg_21_5, pNs_21_5, pNg_21_6, pNs_21_6, pNg_21_7, pNs_21_7, pNg_21_8, pNs_21_8, pNg_21_9, pNs_21_9, na_h1, na_h2, na_h0, List.tail_cons, hc] at q; exact q)], by rw [nI_1], trivial⟩
      · -- pc 19 .if_icmp .ne 9: no
        exact GW.weak ih ⟨rfl, rfl, by rw [insP, if_pos (by have q := h1; simp only [pNg_1_0, pNs_1_0, pNg_1_1, pNs_1_1, pNg_1_2, pNs_1_2, pNg_1_3, pNs_1_3, pNg_1_4, pNs_1_4, pNg_1_5, pNs_1_5, pNg_1_6, pNs_1_6, pNg_1_7, pNs_1_7, pNg_1_8, pNs_1_8, pNg_1_9, pNs_1_9, pNg_21_0, pNs_21_0, pNg_21_1, pNs_21_1, pNg_21_2, pNs_21_2, pNg_21_3, pNs_21_3, pNg_21_4, pNs_21_4, pNg_21_5, pNs_21_5, pNg_21_6, pNs_21_6, pNg_21_7, pNs_21_7, pNg_21_8, pNs_21_8, pNg_21_9, pNs_21_9, na_h1, na_h2, na_h0, List.tail_cons, hc] at q; exact q)], by rw [nI_1], trivial⟩
set_option maxRecDepth 100000 in
set_option maxHeartbeats 4000000 in
theorem c_insP (sx : Nat × (Nat → Int32)) (nb : Nat) (hnb : nb = 1 ∨ nb = 21) (N : Mm) (P : Nat) (hP : N 0 7 = nI P) (hP8 : P ≤ 8) (room : Int32) (I : Mm) (J : Ml) : Mt sx MX0_peopleIn [.ref nb, .int room] (pN nb N I) J (na_v (pN nb N I) J (insP N room P)) := by
  refine Mt.of2 _ rfl (by decide +kernel) (Nat.le_of_ble_eq_true rfl) ?_
  have hnb2 := hnb
  rcases hnb with rfl | rfl
  all_goals
    refine GW.run kX0_peopleIn (fun pc => Nat.beq pc 4) 54 0 rfl ?_
    exact l_insP sx _ hnb2 N P hP hP8 room I J _ ⟨rfl, rfl, rfl⟩ P 0 (by omega)
set_option maxRecDepth 100000 in
set_option maxHeartbeats 4000000 in
theorem l_stf (sx : Nat × (Nat → Int32)) (nb : Nat) (hnb : nb = 1 ∨ nb = 21) (N : Mm) (P : Nat) (hP : N 0 7 = nI P) (hP8 : P ≤ 8) (I : Mm) (J : Ml) (Rt : Option Value → Mm → Ml → Prop) (hR : Rt (some (.int (stf N P))) (pN nb N I) J) : ∀ m n, n + m = P → GW sx (na_mi MX0_stifledSet) Rt 4 [some (.ref nb), some (.int (stf N n)), some (.int (nI n))] [] (pN nb N I) J := by
  have hnb2 := hnb
  intro m
  induction m with
  | zero =>
    intro n hn
    obtain rfl : P = n := by omega
    have hz : N 0 7 ≤ nI P := by rw [hP]; exact Int32.le_refl _
    rcases hnb with rfl | rfl
    all_goals
      refine GW.run kX0_stifledSet (fun pc => Nat.beq pc 4) 51 4 rfl ?_
      refine And.intro (fun _ => ?_) (fun hh => absurd hz hh)
      exact ⟨trivial, hR⟩
  | succ m ih =>
    intro n hn
    have hz : ¬ N 0 7 ≤ nI n := by rw [hP]; exact nI_ge (by omega) (by omega)
    have hb : vp_in (nI n) 8 := vp_in_nI (by omega) (by omega)
    have hc := nI_clamp (n := n) (by omega)
    have ih := ih (n + 1) (by omega)
    rcases hnb with rfl | rfl
    all_goals
      refine GW.run kX0_stifledSet (fun pc => Nat.beq pc 4) 51 4 rfl ?_
      refine And.intro (fun hh => absurd hh hz) (fun _ => ?_)
      refine And.intro (hb) ?_
      exact GW.weak ih ⟨rfl, by rw [stf]; simp only [pNg_1_0, pNs_1_0, pNg_1_1, pNs_1_1, pNg_1_2, pNs_1_2, pNg_1_3, pNs_1_3, pNg_1_4, pNs_1_4, pNg_1_5, pNs_1_5, pNg_1_6, pNs_1_6, pNg_1_7, pNs_1_7, pNg_1_8, pNs_1_8, pNg_1_9, pNs_1_9, pNg_21_0, pNs_21_0, pNg_21_1, pNs_21_1, pNg_21_2, pNs_21_2, pNg_21_3, pNs_21_3, pNg_21_4, pNs_21_4, pNg_21_5, pNs_21_5, pNg_21_6, pNs_21_6, pNg_21_7, pNs_21_7, pNg_21_8, pNs_21_8, pNg_21_9, pNs_21_9, na_h1, na_h2, na_h0, List.tail_cons, hc], by rw [nI_1], trivial⟩
set_option maxRecDepth 100000 in
set_option maxHeartbeats 4000000 in
theorem c_stf (sx : Nat × (Nat → Int32)) (nb : Nat) (hnb : nb = 1 ∨ nb = 21) (N : Mm) (P : Nat) (hP : N 0 7 = nI P) (hP8 : P ≤ 8) (I : Mm) (J : Ml) : Mt sx MX0_stifledSet [.ref nb] (pN nb N I) J (na_v (pN nb N I) J (stf N P)) := by
  refine Mt.of2 _ rfl (by decide +kernel) (Nat.le_of_ble_eq_true rfl) ?_
  have hnb2 := hnb
  rcases hnb with rfl | rfl
  all_goals
    refine GW.run kX0_stifledSet (fun pc => Nat.beq pc 4) 51 0 rfl ?_
    exact l_stf sx _ hnb2 N P hP hP8 I J _ ⟨rfl, rfl, rfl⟩ P 0 (by omega)
set_option maxRecDepth 100000 in
set_option maxHeartbeats 4000000 in
theorem l_bri (sx : Nat × (Nat → Int32)) (nb : Nat) (hnb : nb = 1 ∨ nb = 21) (N : Mm) (P : Nat) (hP : N 0 7 = nI P) (hP8 : P ≤ 8) (set : Int32) (I : Mm) (J : Ml) (Rt : Option Value → Mm → Ml → Prop) (hR : Rt (some (.int (bri N P set P))) (pN nb N I) J) : ∀ m n, n + m = P → GW sx (na_mi MX0_breathIn) Rt 4 [some (.ref nb), some (.int set), some (.int (bri N P set n)), some (.int (nI n))] [] (pN nb N I) J := by
  have hnb2 := hnb
  intro m
  induction m with
  | zero =>
    intro n hn
    obtain rfl : P = n := by omega
    have hz : N 0 7 ≤ nI P := by rw [hP]; exact Int32.le_refl _
    rcases hnb with rfl | rfl
    all_goals
      refine GW.run kX0_breathIn (fun pc => Nat.beq pc 4) 52 4 rfl ?_
      refine And.intro (fun _ => ?_) (fun hh => absurd hz hh)
      exact ⟨trivial, hR⟩
  | succ m ih =>
    intro n hn
    have hz : ¬ N 0 7 ≤ nI n := by rw [hP]; exact nI_ge (by omega) (by omega)
    have hb : vp_in (nI n) 8 := vp_in_nI (by omega) (by omega)
    have hc := nI_clamp (n := n) (by omega)
    have ih := ih (n + 1) (by omega)
    rcases hnb with rfl | rfl
    all_goals
      refine GW.run kX0_breathIn (fun pc => Nat.beq pc 4) 52 4 rfl ?_
      refine And.intro (fun hh => absurd hh hz) (fun _ => ?_)
      refine Mt.conseq (c_has _ _ _ _ _) ?_
      rintro _ _ _ ⟨rfl, rfl, ⟨h1, rfl⟩ | ⟨h1, rfl⟩⟩
      · -- pc 14 call X3_has true
        refine And.intro (fun hh => absurd hh (by decide)) (fun _ => ?_)
        refine Mt.conseq (c_brt _ _ hnb2 N P hP hP8 n (by omega) _ _) ?_
        rintro _ _ _ ⟨rfl, rfl, rfl⟩
        exact GW.weak ih ⟨rfl, rfl, by rw [bri, if_pos h1], by rw [nI_1], trivial⟩
      · -- pc 14 call X3_has false
        refine And.intro (fun _ => ?_) (fun hh => absurd hh (by decide))
        exact GW.weak ih ⟨rfl, rfl, by rw [bri, if_neg h1], by rw [nI_1], trivial⟩
set_option maxRecDepth 100000 in
set_option maxHeartbeats 4000000 in
theorem c_bri (sx : Nat × (Nat → Int32)) (nb : Nat) (hnb : nb = 1 ∨ nb = 21) (N : Mm) (P : Nat) (hP : N 0 7 = nI P) (hP8 : P ≤ 8) (set : Int32) (I : Mm) (J : Ml) : Mt sx MX0_breathIn [.ref nb, .int set] (pN nb N I) J (na_v (pN nb N I) J (bri N P set P)) := by
  refine Mt.of2 _ rfl (by decide +kernel) (Nat.le_of_ble_eq_true rfl) ?_
  have hnb2 := hnb
  rcases hnb with rfl | rfl
  all_goals
    refine GW.run kX0_breathIn (fun pc => Nat.beq pc 4) 52 0 rfl ?_
    exact l_bri sx _ hnb2 N P hP hP8 set I J _ ⟨rfl, rfl, rfl⟩ P 0 (by omega)
set_option maxRecDepth 100000 in
set_option maxHeartbeats 4000000 in
theorem l_gre (sx : Nat × (Nat → Int32)) (nb : Nat) (hnb : nb = 1 ∨ nb = 21) (N : Mm) (P : Nat) (hP : N 0 7 = nI P) (hP8 : P ≤ 8) (set : Int32) (I : Mm) (J : Ml) (Rt : Option Value → Mm → Ml → Prop) (hR : Rt (some (.int (gre N P set P))) (pN nb N I) J) : ∀ m n, n + m = P → GW sx (na_mi MX0_greatestBreathIn) Rt 4 [some (.ref nb), some (.int set), some (.int (gre N P set n)), some (.int (nI n))] [] (pN nb N I) J := by
  have hnb2 := hnb
  intro m
  induction m with
  | zero =>
    intro n hn
    obtain rfl : P = n := by omega
    have hz : N 0 7 ≤ nI P := by rw [hP]; exact Int32.le_refl _
    rcases hnb with rfl | rfl
    all_goals
      refine GW.run kX0_greatestBreathIn (fun pc => Nat.beq pc 4) 52 4 rfl ?_
      refine And.intro (fun _ => ?_) (fun hh => absurd hz hh)
      exact ⟨trivial, hR⟩
  | succ m ih =>
    intro n hn
    have hz : ¬ N 0 7 ≤ nI n := by rw [hP]; exact nI_ge (by omega) (by omega)
    have hb : vp_in (nI n) 8 := vp_in_nI (by omega) (by omega)
    have hc := nI_clamp (n := n) (by omega)
    have ih := ih (n + 1) (by omega)
    rcases hnb with rfl | rfl
    all_goals
      refine GW.run kX0_greatestBreathIn (fun pc => Nat.beq pc 4) 52 4 rfl ?_
      refine And.intro (fun hh => absurd hh hz) (fun _ => ?_)
      refine Mt.conseq (c_has _ _ _ _ _) ?_
      rintro _ _ _ ⟨rfl, rfl, ⟨h1, rfl⟩ | ⟨h1, rfl⟩⟩
      · -- pc 14 call X3_has true
        refine And.intro (fun hh => absurd hh (by decide)) (fun _ => ?_)
        refine Mt.conseq (c_brt _ _ hnb2 N P hP hP8 n (by omega) _ _) ?_
        rintro _ _ _ ⟨rfl, rfl, rfl⟩
        exact GW.weak ih ⟨rfl, rfl, by rw [gre, if_pos h1], by rw [nI_1], trivial⟩
      · -- pc 14 call X3_has false
        refine And.intro (fun _ => ?_) (fun hh => absurd hh (by decide))
        exact GW.weak ih ⟨rfl, rfl, by rw [gre, if_neg h1], by rw [nI_1], trivial⟩
set_option maxRecDepth 100000 in
set_option maxHeartbeats 4000000 in
theorem c_gre (sx : Nat × (Nat → Int32)) (nb : Nat) (hnb : nb = 1 ∨ nb = 21) (N : Mm) (P : Nat) (hP : N 0 7 = nI P) (hP8 : P ≤ 8) (set : Int32) (I : Mm) (J : Ml) : Mt sx MX0_greatestBreathIn [.ref nb, .int set] (pN nb N I) J (na_v (pN nb N I) J (gre N P set P)) := by
  refine Mt.of2 _ rfl (by decide +kernel) (Nat.le_of_ble_eq_true rfl) ?_
  have hnb2 := hnb
  rcases hnb with rfl | rfl
  all_goals
    refine GW.run kX0_greatestBreathIn (fun pc => Nat.beq pc 4) 52 0 rfl ?_
    exact l_gre sx _ hnb2 N P hP hP8 set I J _ ⟨rfl, rfl, rfl⟩ P 0 (by omega)
set_option maxRecDepth 100000 in
set_option maxHeartbeats 4000000 in
theorem l_fri (sx : Nat × (Nat → Int32)) (nb : Nat) (hnb : nb = 1 ∨ nb = 21) (N : Mm) (set : Int32) (I : Mm) (J : Ml) (Rt : Option Value → Mm → Ml → Prop) (hR : Rt (some (.int (fri N set 8))) (pN nb N I) J) : ∀ m n, n + m = 8 → GW sx (na_mi MX0_frostIn) Rt 4 [some (.ref nb), some (.int set), some (.int (fri N set n)), some (.int (nI n))] [] (pN nb N I) J := by
  have hnb2 := hnb
  intro m
  induction m with
  | zero =>
    intro n hn
    obtain rfl : n = 8 := by omega
    have hz : (8 : Int32) ≤ nI 8 := by decide
    rcases hnb with rfl | rfl
    all_goals
      refine GW.run kX0_frostIn (fun pc => Nat.beq pc 4) 52 4 rfl ?_
      refine And.intro (fun _ => ?_) (fun hh => absurd hz hh)
      exact ⟨trivial, hR⟩
  | succ m ih =>
    intro n hn
    have hz : ¬ (8 : Int32) ≤ nI n := nI_ge (a := n) (b := 8) (by omega) (by omega)
    have hb : vp_in (nI n) 8 := vp_in_nI (by omega) (by omega)
    have hc := nI_clamp (n := n) (by omega)
    have ih := ih (n + 1) (by omega)
    rcases hnb with rfl | rfl
    all_goals
      refine GW.run kX0_frostIn (fun pc => Nat.beq pc 4) 52 4 rfl ?_
      refine And.intro (fun hh => absurd hh hz) (fun _ => ?_)
      refine Mt.conseq (c_has _ _ _ _ _) ?_
      rintro _ _ _ ⟨rfl, rfl, ⟨h1, rfl⟩ | ⟨h1, rfl⟩⟩
      · -- pc 12 call X3_has true
        refine And.intro (fun hh => absurd hh (by decide)) (fun _ => ?_)
        refine And.intro (hb) ?_
        exact GW.weak ih ⟨rfl, rfl, by rw [fri, if_pos h1]; simp only [pNg_1_0, pNs_1_0, pNg_1_1, pNs_1_1, pNg_1_2, pNs_1_2, pNg_1_3, pNs_1_3, pNg_1_4, pNs_1_4, pNg_1_5, pNs_1_5, pNg_1_6, pNs_1_6, pNg_1_7, pNs_1_7, pNg_1_8, pNs_1_8, pNg_1_9, pNs_1_9, pNg_21_0, pNs_21_0, pNg_21_1, pNs_21_1, pNg_21_2, pNs_21_2, pNg_21_3, pNs_21_3, pNg_21_4, pNs_21_4, pNg_21_5, pNs_21_5, pNg_21_6, pNs_21_6, pNg_21_7, pNs_21_7, pNg_21_8, pNs_21_8, pNg_21_9, pNs_21_9, na_h1, na_h2, na_h0, List.tail_cons, hc], by rw [nI_1], trivial⟩
      · -- pc 12 call X3_has false
        refine And.intro (fun _ => ?_) (fun hh => absurd hh (by decide))
        exact GW.weak ih ⟨rfl, rfl, by rw [fri, if_neg h1], by rw [nI_1], trivial⟩
set_option maxRecDepth 100000 in
set_option maxHeartbeats 4000000 in
theorem c_fri (sx : Nat × (Nat → Int32)) (nb : Nat) (hnb : nb = 1 ∨ nb = 21) (N : Mm) (set : Int32) (I : Mm) (J : Ml) : Mt sx MX0_frostIn [.ref nb, .int set] (pN nb N I) J (na_v (pN nb N I) J (fri N set 8)) := by
  refine Mt.of2 _ rfl (by decide +kernel) (Nat.le_of_ble_eq_true rfl) ?_
  have hnb2 := hnb
  rcases hnb with rfl | rfl
  all_goals
    refine GW.run kX0_frostIn (fun pc => Nat.beq pc 4) 52 0 rfl ?_
    exact l_fri sx _ hnb2 N set I J _ ⟨rfl, rfl, rfl⟩ 8 0 (by omega)
