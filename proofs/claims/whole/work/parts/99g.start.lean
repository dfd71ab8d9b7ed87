/-! THE START -/
def I0 : Mm := fun k => match k with
  | 2 => fA 8
  | 5 => fT 8
  | 12 => fA 8
  | 15 => fT 8
  | 22 => fA 8
  | 25 => fT 8
  | 44 => fR 8
  | _ => fun _ => 0
def J0 : Ml := fun _ _ => 0
theorem nt0_R : ∀ r, r < 8 → ((0 : Int) ≤ (gN 1 I0 1 r).toInt ∧ (gN 1 I0 1 r).toInt ≤ 9999) ∧ ((0 : Int) ≤ (gN 1 I0 2 r).toInt ∧ (gN 1 I0 2 r).toInt ≤ 9999) ∧ ((0 : Int) ≤ (gN 1 I0 3 r).toInt ∧ (gN 1 I0 3 r).toInt ≤ 99) ∧ ((0 : Int) ≤ (gN 1 I0 4 r).toInt ∧ (gN 1 I0 4 r).toInt ≤ 9) := by decide +kernel
theorem nt0_A : ∀ k, k < 5 → ∀ j, j < 8 → 1 ≤ k → vN (I0 44) k j = gN 1 I0 k j := by decide +kernel
theorem nt0_S : ∀ j, j < 8 → 4 ≤ j → vN (I0 44) 0 j = gN 1 I0 0 j := by decide +kernel
theorem sm_nt : Nt 1 44 I0 := ⟨0, ⟨nt0_R, fun p hp => absurd hp (by omega), rfl, by omega, ⟨by decide, by decide⟩, Or.inl rfl, ⟨by decide, by decide⟩⟩, fun j h1 h2 => nt0_S j h2 h1, fun k j h1 h2 h3 => nt0_A k h2 j h3 h1, fun k j h1 h2 h3 => absurd h3 (by omega)⟩
theorem sim0 : Sim I0 J0 := by
  refine ⟨sm_nt, ⟨rfl, Or.inl rfl⟩, ⟨0, by omega, rfl, rfl, fun j hj => absurd hj (by omega)⟩, fun s hs => ?_, fun k hk => rfl⟩
  rcases (show s = 0 ∨ s = 1 ∨ s = 2 ∨ s = 3 by omega) with rfl | rfl | rfl | rfl <;> exact ⟨rfl, Or.inl rfl, 0, by omega, rfl, rfl, fun j hj => absurd hj (by omega)⟩
/-- the addresses -/
def ni_ad (u3 : Nat → Nat) (h4 : Nat) (u4 rd : Nat → Nat) : Nat → Nat := fun k => bif Nat.ble k 42 then u3 k else bif Nat.beq k 43 then h4 else bif Nat.ble k 53 then u4 (k - 43) else rd k
theorem ni_ad_hi {u3 u4 rd : Nat → Nat} {h4 k : Nat} (h : 54 ≤ k) : ni_ad u3 h4 u4 rd k = rd k := by
  unfold ni_ad
  have h1 : Nat.ble k 42 = false := by
    cases e : Nat.ble k 42 with
    | false => rfl
    | true => exact absurd (Nat.le_of_ble_eq_true e) (by omega)
  have h2 : Nat.beq k 43 = false := by
    cases e : Nat.beq k 43 with
    | false => rfl
    | true => exact absurd (Nat.eq_of_beq_eq_true e) (by omega)
  have h3 : Nat.ble k 53 = false := by
    cases e : Nat.ble k 53 with
    | false => rfl
    | true => exact absurd (Nat.le_of_ble_eq_true e) (by omega)
  rw [h1, h2, h3]
  rfl
set_option maxRecDepth 100000 in
theorem ni_world (ca u3 u4 rd : Nat → Nat) (h4 : Nat) : na_ws ca (ni_ad u3 h4 u4 rd) I0 J0 0 na_lay = (wX3 ca (u3 0) u3 ++ wX4 ca h4 u4).set 33 (u3 33, .inl (ca 2, 4, .inr (.inr (.inr (.inr (fun j => some (ni_ad u3 h4 u4 rd (na_shp j)))))))) := by
  rfl
theorem ni_worldP {D : va_G} {A : Nat → Prop} {ca u3 u4 : Nat → Nat} {h4 : Nat} {H : Heap} (hP : va_P D vwCl (wX3 ca (u3 0) u3 ++ wX4 ca h4 u4) H) (hD : va_D A (wX3 ca (u3 0) u3 ++ wX4 ca h4 u4)) (rd : Nat → Nat) : va_P D vwCl (na_ws ca (ni_ad u3 h4 u4 rd) I0 J0 0 na_lay) H ∧ va_D A (na_ws ca (ni_ad u3 h4 u4 rd) I0 J0 0 na_lay) := by
  rw [ni_world]
  exact ⟨ni_setq hP (k := 33) rfl (fun j hj => by rcases (show j = 0 ∨ j = 1 ∨ j = 2 ∨ j = 3 by omega) with rfl | rfl | rfl | rfl <;> rfl), hD.set (p := 33) rfl⟩
theorem ni_K {s : State} {b : Nat} (hts : ∀ w ∈ lw_tbl, w.before #[Value.ref b] s = true) : ∃ (D : va_G) (ca : Nat → Nat), va_K D vwCl (na_tys ca) s := by
  obtain ⟨c0, iS0, hKn0⟩ := u_known (C := RX0) (T := TX0) (N := 13) (n := 13) hts (fun w hw => (List.mem_filter.mp (fw_0 w hw)).1) (hts (.instantiable RX0 13) (List.mem_of_getElem? (i := 84) (by decide +kernel)))
  obtain ⟨c1, iS1, hKn1⟩ := u_known (C := RX1) (T := TX1) (N := 3) (n := 3) hts (fun w hw => (List.mem_filter.mp (fw_1 w hw)).1) (hts (.instantiable RX1 3) (List.mem_of_getElem? (i := 172) (by decide +kernel)))
  obtain ⟨c2, iS2, hKn2⟩ := u_known (C := RX2) (T := TX2) (N := 6) (n := 6) hts (fun w hw => (List.mem_filter.mp (fw_2 w hw)).1) (hts (.instantiable RX2 6) (List.mem_of_getElem? (i := 145) (by decide +kernel)))
  obtain ⟨c3, iS3, hKn3⟩ := u_known (C := RX3) (T := TX3) (N := 7) (n := 7) hts (fun w hw => (List.mem_filter.mp (fw_3 w hw)).1) (hts (.instantiable RX3 7) (List.mem_of_getElem? (i := 76) (by decide +kernel)))
  obtain ⟨c4, iS4, hKn4⟩ := u_known (C := RX4) (T := TX4) (N := 18) (n := 18) hts (fun w hw => (List.mem_filter.mp (fw_4 w hw)).1) (hts (.instantiable RX4 18) (List.mem_of_getElem? (i := 705) (by decide +kernel)))
  obtain ⟨a0, k0, p0, f0, g0, j0⟩ := Cond.arrayClass_spec (hts (.arrayClass .int) (List.mem_of_getElem? (i := 143) (by decide +kernel)))
  obtain ⟨a1, k1, p1, f1, g1, j1⟩ := Cond.arrayClass_spec (hts (.arrayClass .long) (List.mem_of_getElem? (i := 192) (by decide +kernel)))
  obtain ⟨p2, a2, k2, d2, -, g2, j2, f2⟩ := Cond.arrayOver_spec (hts (.arrayOver (.object RX1)) (List.mem_of_getElem? (i := 171) (by decide +kernel)))
  refine ⟨(fun k => match k with | 0 => c0 | 1 => c1 | 2 => c2 | 3 => c3 | _ => c4, fun k => match k with | 0 => iS0 | 1 => iS1 | 2 => iS2 | 3 => iS3 | _ => iS4), fun k => match k with | 0 => a0 | 1 => a1 | _ => a2, ?_, ?_⟩
  · intro k q hq
    match k, hq with
    | 0, hq => cases hq; exact hKn0
    | 1, hq => cases hq; exact hKn1
    | 2, hq => cases hq; exact hKn2
    | 3, hq => cases hq; exact hKn3
    | 4, hq => cases hq; exact hKn4
    | k + 5, hq => simp [vwCl] at hq
  · intro k q hq
    match k, hq with
    | 0, hq => cases hq; exact ⟨fun n z => ⟨(fun k h => by cases h), k0, g0, p0, j0⟩, f0⟩
    | 1, hq => cases hq; exact ⟨fun n z => ⟨(fun k h => by cases h), k1, g1, p1, j1⟩, f1⟩
    | 2, hq => cases hq; exact ⟨fun n z => ⟨(fun k h => by cases h), k2, g2, p2, j2⟩, k2, p2, g2, j2, d2, f2⟩
    | k + 3, hq => simp [na_tys] at hq
theorem ni_Kx0 {s : State} {b : Nat} (hts : ∀ w ∈ lw_tbl, w.before #[Value.ref b] s = true) : ni_Kx s := ⟨va_Nw.of rfl (hts (.methodLinkNest RX3 24 yX2_init RX3) (List.mem_of_getElem? (i := 146) (by decide +kernel))), va_Nw.of rfl (hts (.methodLinkNest RX3 39 yX1_init RX3) (List.mem_of_getElem? (i := 173) (by decide +kernel))), va_AO.of (hts (.arrayOver (.object RX1)) (List.mem_of_getElem? (i := 171) (by decide +kernel)))⟩
abbrev ni_fl : List Cond := flatC (Jvm.Cond.and given_1 narrow_1)
theorem ni_word {args : Array Value} {s : State} {tm : Term} {n : Nat} {f : Nat → Int32} {A : Nat → Prop} (hN : n < 2 ^ 31) (hex : (Cond.exactly tm RJ0).before args s = true) (hco : (Cond.eq (.field tm RJ0 "coder" "B") (.int 0)).before args s = true) (har : (Cond.arrayOf (.field tm RJ0 "value" "[B") .byte).before args s = true) (hle : (Cond.eq (.length (.field tm RJ0 "value" "[B")) (.int (Int32.ofNat n))).before args s = true) (hel : ∀ j : Nat, j < n → (Cond.eq (.elem (.field tm RJ0 "value" "[B") (.int (Int32.ofNat j))) (.int (f j))).before args s = true) (hA : ∀ a : Nat, a < s.heap.size → ¬ A a) :
    ∃ a t : Nat, tm.eval args s none [] s = some (.ref a) ∧ (va_O RJ0 a A s s.heap ∧ va_OF RJ0 "coder" "B" (.int 0) a A s s.heap ∧ va_OF RJ0 "value" "[B" (.ref t) a A s s.heap) ∧ va_T .byte t n (fun j => .int (f j)) A s s.heap := by
  obtain ⟨a, c, cA, kA, q1, q2, q3, q4, q5, q6, -⟩ := Cond.exactly_spec (args := args) (first := s) (o := none) (s := s) (idx := []) (t := tm) (cls := RJ0) hex
  obtain ⟨t, ht, hT⟩ := va_Tof (f := fun j => .int (f j)) (A := A) hN har (va_eqt hle) (fun j hj => va_eqt (hel j hj)) hA
  exact ⟨a, t, q1, ⟨⟨cA, q3, q5, by rw [q6]; exact q2, hA a (Array.getElem?_eq_some_iff.mp q3).1⟩, vk_OFof q1 (va_eqt hco) hA, vk_OFof q1 ht hA⟩, hT⟩
theorem ni_e60 : ∀ j : Nat, j < 4 → Cond.eq (.elem (.static RX3 "MOST_OF_ROOM" "[I") (.int (Int32.ofNat j))) (.int (na_lst [9999, 9999, 99, 9] j)) ∈ ni_fl := by decide +kernel
theorem ni_e61 : ∀ j : Nat, j < 5 → Cond.eq (.elem (.static RX3 "LEAST_OF_ONE" "[I") (.int (Int32.ofNat j))) (.int (na_lst [0, 0, 1, 0, 0] j)) ∈ ni_fl := by decide +kernel
theorem ni_e62 : ∀ j : Nat, j < 5 → Cond.eq (.elem (.static RX3 "MOST_OF_ONE" "[I") (.int (Int32.ofNat j))) (.int (na_lst [5, 7, 20, 999, 1] j)) ∈ ni_fl := by decide +kernel
theorem ni_e63 : ∀ j : Nat, j < 6 → Cond.eq (.elem (.static RX3 "UNDER" "[I") (.int (Int32.ofNat j))) (.int (na_lst [-1, 0, 0, 0, 1, 2] j)) ∈ ni_fl := by decide +kernel
theorem ni_e64 : ∀ j : Nat, j < 7 → Cond.eq (.elem (.static RX3 "ORDERS" "[I") (.int (Int32.ofNat j))) (.int (na_lst [1, 1, 2, 6, 24, 120, 720] j)) ∈ ni_fl := by decide +kernel
theorem ni_e100 : ∀ j : Nat, j < 6 → Cond.eq (.elem (.field (.string RX2 66) RJ0 "value" "[B") (.int (Int32.ofNat j))) (.int (na_lst [112, 101, 114, 115, 111, 110] j)) ∈ ni_fl := by decide +kernel
theorem ni_e101 : ∀ j : Nat, j < 6 → Cond.eq (.elem (.field (.string RX2 68) RJ0 "value" "[B") (.int (Int32.ofNat j))) (.int (na_lst [100, 97, 110, 99, 101, 114] j)) ∈ ni_fl := by decide +kernel
theorem ni_e102 : ∀ j : Nat, j < 7 → Cond.eq (.elem (.field (.string RX2 70) RJ0 "value" "[B") (.int (Int32.ofNat j))) (.int (na_lst [115, 108, 101, 101, 112, 101, 114] j)) ∈ ni_fl := by decide +kernel
theorem ni_e103 : ∀ j : Nat, j < 6 → Cond.eq (.elem (.field (.string RX2 72) RJ0 "value" "[B") (.int (Int32.ofNat j))) (.int (na_lst [104, 111, 108, 100, 101, 114] j)) ∈ ni_fl := by decide +kernel
theorem ni_e104 : ∀ j : Nat, j < 5 → Cond.eq (.elem (.field (.string RX2 74) RJ0 "value" "[B") (.int (Int32.ofNat j))) (.int (na_lst [99, 104, 111, 105, 114] j)) ∈ ni_fl := by decide +kernel
theorem ni_e105 : ∀ j : Nat, j < 7 → Cond.eq (.elem (.field (.string RX2 76) RJ0 "value" "[B") (.int (Int32.ofNat j))) (.int (na_lst [100, 114, 101, 97, 109, 101, 114] j)) ∈ ni_fl := by decide +kernel
theorem ni_e106 : ∀ j : Nat, j < 2 → Cond.eq (.elem (.field (.string RX2 84) RJ0 "value" "[B") (.int (Int32.ofNat j))) (.int (na_lst [105, 110] j)) ∈ ni_fl := by decide +kernel
theorem ni_e107 : ∀ j : Nat, j < 4 → Cond.eq (.elem (.field (.string RX2 93) RJ0 "value" "[B") (.int (Int32.ofNat j))) (.int (na_lst [110, 101, 101, 100] j)) ∈ ni_fl := by decide +kernel
theorem ni_e108 : ∀ j : Nat, j < 4 → Cond.eq (.elem (.field (.string RX2 43) RJ0 "value" "[B") (.int (Int32.ofNat j))) (.int (na_lst [114, 111, 111, 109] j)) ∈ ni_fl := by decide +kernel
theorem ni_e109 : ∀ j : Nat, j < 3 → Cond.eq (.elem (.field (.string RX2 99) RJ0 "value" "[B") (.int (Int32.ofNat j))) (.int (na_lst [97, 105, 114] j)) ∈ ni_fl := by decide +kernel
theorem ni_e110 : ∀ j : Nat, j < 5 → Cond.eq (.elem (.field (.string RX2 105) RJ0 "value" "[B") (.int (Int32.ofNat j))) (.int (na_lst [102, 114, 111, 115, 116] j)) ∈ ni_fl := by decide +kernel
theorem ni_e111 : ∀ j : Nat, j < 4 → Cond.eq (.elem (.field (.string RX2 107) RJ0 "value" "[B") (.int (Int32.ofNat j))) (.int (na_lst [102, 105, 114, 101] j)) ∈ ni_fl := by decide +kernel
theorem ni_e112 : ∀ j : Nat, j < 5 → Cond.eq (.elem (.field (.string RX2 109) RJ0 "value" "[B") (.int (Int32.ofNat j))) (.int (na_lst [116, 105, 103, 104, 116] j)) ∈ ni_fl := by decide +kernel
theorem ni_e113 : ∀ j : Nat, j < 4 → Cond.eq (.elem (.field (.string RX2 52) RJ0 "value" "[B") (.int (Int32.ofNat j))) (.int (na_lst [111, 112, 101, 110] j)) ∈ ni_fl := by decide +kernel
theorem ni_e114 : ∀ j : Nat, j < 4 → Cond.eq (.elem (.field (.string RX2 57) RJ0 "value" "[B") (.int (Int32.ofNat j))) (.int (na_lst [115, 104, 117, 116] j)) ∈ ni_fl := by decide +kernel
theorem ni_e115 : ∀ j : Nat, j < 4 → Cond.eq (.elem (.field (.string RX2 59) RJ0 "value" "[B") (.int (Int32.ofNat j))) (.int (na_lst [99, 111, 108, 100] j)) ∈ ni_fl := by decide +kernel
theorem ni_e116 : ∀ j : Nat, j < 4 → Cond.eq (.elem (.field (.string RX2 64) RJ0 "value" "[B") (.int (Int32.ofNat j))) (.int (na_lst [109, 105, 108, 100] j)) ∈ ni_fl := by decide +kernel
set_option maxHeartbeats 4000000 in
set_option maxRecDepth 100000 in
theorem ni_C {s : State} {b L : Nat} {xs : Nat → Int32} (hts : ∀ w ∈ lw_tbl, w.before #[Value.ref b] s = true) (hgv : (Jvm.Cond.and given_1 narrow_1).before #[Value.ref b] s = true) (hX : va_X b L xs s s.heap) (hbl : b < s.heap.size) {D : va_G} {ca : Nat → Nat} (hK : va_K D vwCl (na_tys ca) s) :
    ∃ (rd : Nat → Nat) (fm : Value), rd 70 = b ∧ ∀ ad : Nat → Nat, (∀ k, 54 ≤ k → ad k = rd k) → na_C (L, xs) D ca ad fm s.heap.size s ∧ na_Kw ad s := by
  have hs := flat_of_before _ hgv
  have hA : ∀ a : Nat, a < s.heap.size → ¬ na_A s.heap.size a := fun a h => Nat.not_le.mpr h
  obtain ⟨t60, e60, T60⟩ := va_Tof (tm := .static RX3 "MOST_OF_ROOM" "[I") (ty := .int) (N := 4) (f := fun j => .int (na_lst [9999, 9999, 99, 9] j)) (A := na_A s.heap.size) (by decide) (hs _ (List.mem_of_getElem? (i := 5) (by decide +kernel))) (va_eqt (hs (.eq (.length (.static RX3 "MOST_OF_ROOM" "[I")) (.int (Int32.ofNat 4))) (List.mem_of_getElem? (i := 6) (by decide +kernel)))) (fun j hj => va_eqt (hs _ (ni_e60 j hj))) hA
  obtain ⟨t61, e61, T61⟩ := va_Tof (tm := .static RX3 "LEAST_OF_ONE" "[I") (ty := .int) (N := 5) (f := fun j => .int (na_lst [0, 0, 1, 0, 0] j)) (A := na_A s.heap.size) (by decide) (hs _ (List.mem_of_getElem? (i := 12) (by decide +kernel))) (va_eqt (hs (.eq (.length (.static RX3 "LEAST_OF_ONE" "[I")) (.int (Int32.ofNat 5))) (List.mem_of_getElem? (i := 13) (by decide +kernel)))) (fun j hj => va_eqt (hs _ (ni_e61 j hj))) hA
  obtain ⟨t62, e62, T62⟩ := va_Tof (tm := .static RX3 "MOST_OF_ONE" "[I") (ty := .int) (N := 5) (f := fun j => .int (na_lst [5, 7, 20, 999, 1] j)) (A := na_A s.heap.size) (by decide) (hs _ (List.mem_of_getElem? (i := 20) (by decide +kernel))) (va_eqt (hs (.eq (.length (.static RX3 "MOST_OF_ONE" "[I")) (.int (Int32.ofNat 5))) (List.mem_of_getElem? (i := 21) (by decide +kernel)))) (fun j hj => va_eqt (hs _ (ni_e62 j hj))) hA
  obtain ⟨t63, e63, T63⟩ := va_Tof (tm := .static RX3 "UNDER" "[I") (ty := .int) (N := 6) (f := fun j => .int (na_lst [-1, 0, 0, 0, 1, 2] j)) (A := na_A s.heap.size) (by decide) (hs _ (List.mem_of_getElem? (i := 28) (by decide +kernel))) (va_eqt (hs (.eq (.length (.static RX3 "UNDER" "[I")) (.int (Int32.ofNat 6))) (List.mem_of_getElem? (i := 29) (by decide +kernel)))) (fun j hj => va_eqt (hs _ (ni_e63 j hj))) hA
  obtain ⟨t64, e64, T64⟩ := va_Tof (tm := .static RX3 "ORDERS" "[I") (ty := .int) (N := 7) (f := fun j => .int (na_lst [1, 1, 2, 6, 24, 120, 720] j)) (A := na_A s.heap.size) (by decide) (hs _ (List.mem_of_getElem? (i := 37) (by decide +kernel))) (va_eqt (hs (.eq (.length (.static RX3 "ORDERS" "[I")) (.int (Int32.ofNat 7))) (List.mem_of_getElem? (i := 38) (by decide +kernel)))) (fun j hj => va_eqt (hs _ (ni_e64 j hj))) hA
  obtain ⟨a100, b100, e100, O100, T100⟩ := ni_word (tm := .string RX2 66) (n := 6) (f := na_lst [112, 101, 114, 115, 111, 110]) (A := na_A s.heap.size) (by decide) (hs _ (List.mem_of_getElem? (i := 51) (by decide +kernel))) (hs _ (List.mem_of_getElem? (i := 52) (by decide +kernel))) (hs _ (List.mem_of_getElem? (i := 53) (by decide +kernel))) (hs (.eq (.length (.field (.string RX2 66) RJ0 "value" "[B")) (.int (Int32.ofNat 6))) (List.mem_of_getElem? (i := 54) (by decide +kernel))) (fun j hj => hs _ (ni_e100 j hj)) hA
  obtain ⟨a101, b101, e101, O101, T101⟩ := ni_word (tm := .string RX2 68) (n := 6) (f := na_lst [100, 97, 110, 99, 101, 114]) (A := na_A s.heap.size) (by decide) (hs _ (List.mem_of_getElem? (i := 61) (by decide +kernel))) (hs _ (List.mem_of_getElem? (i := 62) (by decide +kernel))) (hs _ (List.mem_of_getElem? (i := 63) (by decide +kernel))) (hs (.eq (.length (.field (.string RX2 68) RJ0 "value" "[B")) (.int (Int32.ofNat 6))) (List.mem_of_getElem? (i := 64) (by decide +kernel))) (fun j hj => hs _ (ni_e101 j hj)) hA
  obtain ⟨a102, b102, e102, O102, T102⟩ := ni_word (tm := .string RX2 70) (n := 7) (f := na_lst [115, 108, 101, 101, 112, 101, 114]) (A := na_A s.heap.size) (by decide) (hs _ (List.mem_of_getElem? (i := 72) (by decide +kernel))) (hs _ (List.mem_of_getElem? (i := 73) (by decide +kernel))) (hs _ (List.mem_of_getElem? (i := 74) (by decide +kernel))) (hs (.eq (.length (.field (.string RX2 70) RJ0 "value" "[B")) (.int (Int32.ofNat 7))) (List.mem_of_getElem? (i := 75) (by decide +kernel))) (fun j hj => hs _ (ni_e102 j hj)) hA
  obtain ⟨a103, b103, e103, O103, T103⟩ := ni_word (tm := .string RX2 72) (n := 6) (f := na_lst [104, 111, 108, 100, 101, 114]) (A := na_A s.heap.size) (by decide) (hs _ (List.mem_of_getElem? (i := 85) (by decide +kernel))) (hs _ (List.mem_of_getElem? (i := 86) (by decide +kernel))) (hs _ (List.mem_of_getElem? (i := 87) (by decide +kernel))) (hs (.eq (.length (.field (.string RX2 72) RJ0 "value" "[B")) (.int (Int32.ofNat 6))) (List.mem_of_getElem? (i := 88) (by decide +kernel))) (fun j hj => hs _ (ni_e103 j hj)) hA
  obtain ⟨a104, b104, e104, O104, T104⟩ := ni_word (tm := .string RX2 74) (n := 5) (f := na_lst [99, 104, 111, 105, 114]) (A := na_A s.heap.size) (by decide) (hs _ (List.mem_of_getElem? (i := 98) (by decide +kernel))) (hs _ (List.mem_of_getElem? (i := 99) (by decide +kernel))) (hs _ (List.mem_of_getElem? (i := 100) (by decide +kernel))) (hs (.eq (.length (.field (.string RX2 74) RJ0 "value" "[B")) (.int (Int32.ofNat 5))) (List.mem_of_getElem? (i := 101) (by decide +kernel))) (fun j hj => hs _ (ni_e104 j hj)) hA
  obtain ⟨a105, b105, e105, O105, T105⟩ := ni_word (tm := .string RX2 76) (n := 7) (f := na_lst [100, 114, 101, 97, 109, 101, 114]) (A := na_A s.heap.size) (by decide) (hs _ (List.mem_of_getElem? (i := 111) (by decide +kernel))) (hs _ (List.mem_of_getElem? (i := 112) (by decide +kernel))) (hs _ (List.mem_of_getElem? (i := 113) (by decide +kernel))) (hs (.eq (.length (.field (.string RX2 76) RJ0 "value" "[B")) (.int (Int32.ofNat 7))) (List.mem_of_getElem? (i := 114) (by decide +kernel))) (fun j hj => hs _ (ni_e105 j hj)) hA
  obtain ⟨a106, b106, e106, O106, T106⟩ := ni_word (tm := .string RX2 84) (n := 2) (f := na_lst [105, 110]) (A := na_A s.heap.size) (by decide) (hs _ (List.mem_of_getElem? (i := 127) (by decide +kernel))) (hs _ (List.mem_of_getElem? (i := 128) (by decide +kernel))) (hs _ (List.mem_of_getElem? (i := 129) (by decide +kernel))) (hs (.eq (.length (.field (.string RX2 84) RJ0 "value" "[B")) (.int (Int32.ofNat 2))) (List.mem_of_getElem? (i := 130) (by decide +kernel))) (fun j hj => hs _ (ni_e106 j hj)) hA
  obtain ⟨a107, b107, e107, O107, T107⟩ := ni_word (tm := .string RX2 93) (n := 4) (f := na_lst [110, 101, 101, 100]) (A := na_A s.heap.size) (by decide) (hs _ (List.mem_of_getElem? (i := 139) (by decide +kernel))) (hs _ (List.mem_of_getElem? (i := 140) (by decide +kernel))) (hs _ (List.mem_of_getElem? (i := 141) (by decide +kernel))) (hs (.eq (.length (.field (.string RX2 93) RJ0 "value" "[B")) (.int (Int32.ofNat 4))) (List.mem_of_getElem? (i := 142) (by decide +kernel))) (fun j hj => hs _ (ni_e107 j hj)) hA
  obtain ⟨a108, b108, e108, O108, T108⟩ := ni_word (tm := .string RX2 43) (n := 4) (f := na_lst [114, 111, 111, 109]) (A := na_A s.heap.size) (by decide) (hs _ (List.mem_of_getElem? (i := 154) (by decide +kernel))) (hs _ (List.mem_of_getElem? (i := 155) (by decide +kernel))) (hs _ (List.mem_of_getElem? (i := 156) (by decide +kernel))) (hs (.eq (.length (.field (.string RX2 43) RJ0 "value" "[B")) (.int (Int32.ofNat 4))) (List.mem_of_getElem? (i := 157) (by decide +kernel))) (fun j hj => hs _ (ni_e108 j hj)) hA
  obtain ⟨a109, b109, e109, O109, T109⟩ := ni_word (tm := .string RX2 99) (n := 3) (f := na_lst [97, 105, 114]) (A := na_A s.heap.size) (by decide) (hs _ (List.mem_of_getElem? (i := 170) (by decide +kernel))) (hs _ (List.mem_of_getElem? (i := 171) (by decide +kernel))) (hs _ (List.mem_of_getElem? (i := 172) (by decide +kernel))) (hs (.eq (.length (.field (.string RX2 99) RJ0 "value" "[B")) (.int (Int32.ofNat 3))) (List.mem_of_getElem? (i := 173) (by decide +kernel))) (fun j hj => hs _ (ni_e109 j hj)) hA
  obtain ⟨a110, b110, e110, O110, T110⟩ := ni_word (tm := .string RX2 105) (n := 5) (f := na_lst [102, 114, 111, 115, 116]) (A := na_A s.heap.size) (by decide) (hs _ (List.mem_of_getElem? (i := 186) (by decide +kernel))) (hs _ (List.mem_of_getElem? (i := 187) (by decide +kernel))) (hs _ (List.mem_of_getElem? (i := 188) (by decide +kernel))) (hs (.eq (.length (.field (.string RX2 105) RJ0 "value" "[B")) (.int (Int32.ofNat 5))) (List.mem_of_getElem? (i := 189) (by decide +kernel))) (fun j hj => hs _ (ni_e110 j hj)) hA
  obtain ⟨a111, b111, e111, O111, T111⟩ := ni_word (tm := .string RX2 107) (n := 4) (f := na_lst [102, 105, 114, 101]) (A := na_A s.heap.size) (by decide) (hs _ (List.mem_of_getElem? (i := 205) (by decide +kernel))) (hs _ (List.mem_of_getElem? (i := 206) (by decide +kernel))) (hs _ (List.mem_of_getElem? (i := 207) (by decide +kernel))) (hs (.eq (.length (.field (.string RX2 107) RJ0 "value" "[B")) (.int (Int32.ofNat 4))) (List.mem_of_getElem? (i := 208) (by decide +kernel))) (fun j hj => hs _ (ni_e111 j hj)) hA
  obtain ⟨a112, b112, e112, O112, T112⟩ := ni_word (tm := .string RX2 109) (n := 5) (f := na_lst [116, 105, 103, 104, 116]) (A := na_A s.heap.size) (by decide) (hs _ (List.mem_of_getElem? (i := 224) (by decide +kernel))) (hs _ (List.mem_of_getElem? (i := 225) (by decide +kernel))) (hs _ (List.mem_of_getElem? (i := 226) (by decide +kernel))) (hs (.eq (.length (.field (.string RX2 109) RJ0 "value" "[B")) (.int (Int32.ofNat 5))) (List.mem_of_getElem? (i := 227) (by decide +kernel))) (fun j hj => hs _ (ni_e112 j hj)) hA
  obtain ⟨a113, b113, e113, O113, T113⟩ := ni_word (tm := .string RX2 52) (n := 4) (f := na_lst [111, 112, 101, 110]) (A := na_A s.heap.size) (by decide) (hs _ (List.mem_of_getElem? (i := 245) (by decide +kernel))) (hs _ (List.mem_of_getElem? (i := 246) (by decide +kernel))) (hs _ (List.mem_of_getElem? (i := 247) (by decide +kernel))) (hs (.eq (.length (.field (.string RX2 52) RJ0 "value" "[B")) (.int (Int32.ofNat 4))) (List.mem_of_getElem? (i := 248) (by decide +kernel))) (fun j hj => hs _ (ni_e113 j hj)) hA
  obtain ⟨a114, b114, e114, O114, T114⟩ := ni_word (tm := .string RX2 57) (n := 4) (f := na_lst [115, 104, 117, 116]) (A := na_A s.heap.size) (by decide) (hs _ (List.mem_of_getElem? (i := 266) (by decide +kernel))) (hs _ (List.mem_of_getElem? (i := 267) (by decide +kernel))) (hs _ (List.mem_of_getElem? (i := 268) (by decide +kernel))) (hs (.eq (.length (.field (.string RX2 57) RJ0 "value" "[B")) (.int (Int32.ofNat 4))) (List.mem_of_getElem? (i := 269) (by decide +kernel))) (fun j hj => hs _ (ni_e114 j hj)) hA
  obtain ⟨a115, b115, e115, O115, T115⟩ := ni_word (tm := .string RX2 59) (n := 4) (f := na_lst [99, 111, 108, 100]) (A := na_A s.heap.size) (by decide) (hs _ (List.mem_of_getElem? (i := 288) (by decide +kernel))) (hs _ (List.mem_of_getElem? (i := 289) (by decide +kernel))) (hs _ (List.mem_of_getElem? (i := 290) (by decide +kernel))) (hs (.eq (.length (.field (.string RX2 59) RJ0 "value" "[B")) (.int (Int32.ofNat 4))) (List.mem_of_getElem? (i := 291) (by decide +kernel))) (fun j hj => hs _ (ni_e115 j hj)) hA
  obtain ⟨a116, b116, e116, O116, T116⟩ := ni_word (tm := .string RX2 64) (n := 4) (f := na_lst [109, 105, 108, 100]) (A := na_A s.heap.size) (by decide) (hs _ (List.mem_of_getElem? (i := 311) (by decide +kernel))) (hs _ (List.mem_of_getElem? (i := 312) (by decide +kernel))) (hs _ (List.mem_of_getElem? (i := 313) (by decide +kernel))) (hs (.eq (.length (.field (.string RX2 64) RJ0 "value" "[B")) (.int (Int32.ofNat 4))) (List.mem_of_getElem? (i := 314) (by decide +kernel))) (fun j hj => hs _ (ni_e116 j hj)) hA
  obtain ⟨fm, hfm, hZf⟩ : ∃ fm : Value, (fm = .null ∨ ∃ t : Nat, fm = .ref t) ∧ va_Z RJ3 "SIOOBE_FORMATTER" "Ljava/util/function/BiFunction;" fm (na_A s.heap.size) s s.heap := by
    rcases va_Zqof (A := na_A s.heap.size) (hts (.laysStatic RJ3 "SIOOBE_FORMATTER" "Ljava/util/function/BiFunction;") (List.mem_of_getElem? (i := 562) (by decide +kernel))) (hts (.initialized RJ3) (List.mem_of_getElem? (i := 73) (by decide +kernel))) (hs _ (List.mem_of_getElem? (i := 47) (by decide +kernel))) hA with h | ⟨t, h⟩
    · exact ⟨_, Or.inl rfl, h⟩
    · exact ⟨_, Or.inr ⟨t, rfl⟩, h⟩
  refine ⟨fun k => bif Nat.ble k 64 then ni_pk [t60, t61, t62, t63, t64] (k - 60) else bif Nat.beq k 70 then b else bif Nat.ble k 116 then ni_pk [a100, a101, a102, a103, a104, a105, a106, a107, a108, a109, a110, a111, a112, a113, a114, a115, a116] (k - 100) else ni_pk [b100, b101, b102, b103, b104, b105, b106, b107, b108, b109, b110, b111, b112, b113, b114, b115, b116] (k - 120), fm, rfl, fun ad had => ⟨⟨hK, rfl, ?_, ?_, ?_, ?_, hfm⟩, va_Nw.of rfl (hts (.methodLinkNest RX0 65 yX3_has RX3) (List.mem_of_getElem? (i := 251) (by decide +kernel))), va_Nw.of rfl (hts (.methodLinkNest RX2 137 yX3_outside RX3) (List.mem_of_getElem? (i := 601) (by decide +kernel))), va_Nw.of rfl (hts (.fieldLinkNest RX2 111 RX3 "MOST_OF_ROOM" "[I" RX3) (List.mem_of_getElem? (i := 614) (by decide +kernel))), ?_⟩⟩
  · intro a q hq
    unfold na_sa at hq
    split at hq
    · cases hq
      rw [had 60 (by omega)]
      exact T60
    · cases hq
      rw [had 61 (by omega)]
      exact T61
    · cases hq
      rw [had 62 (by omega)]
      exact T62
    · cases hq
      rw [had 63 (by omega)]
      exact T63
    · cases hq
      rw [had 64 (by omega)]
      exact T64
    · cases hq
      rw [had 70 (by omega)]
      obtain ⟨scr, h1, h2, h3, h4, h5⟩ := hX
      exact ⟨scr, h1, h2, h3, Nat.le_of_eq h4.symm, by rw [h4], h5, hA b hbl⟩
    · cases hq
  · intro a q hq
    unfold na_sb at hq
    split at hq
    · cases hq
    · rename_i hlt
      obtain ⟨i, rfl⟩ : ∃ i, a = 120 + i := ⟨a - 120, by omega⟩
      rw [show 120 + i - 120 = i by omega] at hq
      split at hq
      · rename_i w hw
        cases hq
        have hi := na_wd_lt hw
        rcases (show i = 0 ∨ i = 1 ∨ i = 2 ∨ i = 3 ∨ i = 4 ∨ i = 5 ∨ i = 6 ∨ i = 7 ∨ i = 8 ∨ i = 9 ∨ i = 10 ∨ i = 11 ∨ i = 12 ∨ i = 13 ∨ i = 14 ∨ i = 15 ∨ i = 16 by omega) with rfl | rfl | rfl | rfl | rfl | rfl | rfl | rfl | rfl | rfl | rfl | rfl | rfl | rfl | rfl | rfl | rfl
        · cases hw
          rw [had 120 (by omega)]
          exact T100
        · cases hw
          rw [had 121 (by omega)]
          exact T101
        · cases hw
          rw [had 122 (by omega)]
          exact T102
        · cases hw
          rw [had 123 (by omega)]
          exact T103
        · cases hw
          rw [had 124 (by omega)]
          exact T104
        · cases hw
          rw [had 125 (by omega)]
          exact T105
        · cases hw
          rw [had 126 (by omega)]
          exact T106
        · cases hw
          rw [had 127 (by omega)]
          exact T107
        · cases hw
          rw [had 128 (by omega)]
          exact T108
        · cases hw
          rw [had 129 (by omega)]
          exact T109
        · cases hw
          rw [had 130 (by omega)]
          exact T110
        · cases hw
          rw [had 131 (by omega)]
          exact T111
        · cases hw
          rw [had 132 (by omega)]
          exact T112
        · cases hw
          rw [had 133 (by omega)]
          exact T113
        · cases hw
          rw [had 134 (by omega)]
          exact T114
        · cases hw
          rw [had 135 (by omega)]
          exact T115
        · cases hw
          rw [had 136 (by omega)]
          exact T116
      · cases hq
  · intro q hq
    simp only [na_st, List.mem_cons, List.not_mem_nil, or_false] at hq
    rcases hq with rfl | rfl | rfl | rfl | rfl | rfl | rfl
    · show va_Z RX3 "MOST_OF_ROOM" "[I" (.ref (ad 60)) _ s s.heap
      rw [had 60 (by omega)]
      exact va_Zref (hts (.laysStatic RX3 "MOST_OF_ROOM" "[I") (List.mem_of_getElem? (i := 226) (by decide +kernel))) (hts (.initialized RX3) (List.mem_of_getElem? (i := 63) (by decide +kernel))) e60 hA
    · show va_Z RX3 "LEAST_OF_ONE" "[I" (.ref (ad 61)) _ s s.heap
      rw [had 61 (by omega)]
      exact va_Zref (hts (.laysStatic RX3 "LEAST_OF_ONE" "[I") (List.mem_of_getElem? (i := 308) (by decide +kernel))) (hts (.initialized RX3) (List.mem_of_getElem? (i := 63) (by decide +kernel))) e61 hA
    · show va_Z RX3 "MOST_OF_ONE" "[I" (.ref (ad 62)) _ s s.heap
      rw [had 62 (by omega)]
      exact va_Zref (hts (.laysStatic RX3 "MOST_OF_ONE" "[I") (List.mem_of_getElem? (i := 310) (by decide +kernel))) (hts (.initialized RX3) (List.mem_of_getElem? (i := 63) (by decide +kernel))) e62 hA
    · show va_Z RX3 "UNDER" "[I" (.ref (ad 63)) _ s s.heap
      rw [had 63 (by omega)]
      exact va_Zref (hts (.laysStatic RX3 "UNDER" "[I") (List.mem_of_getElem? (i := 323) (by decide +kernel))) (hts (.initialized RX3) (List.mem_of_getElem? (i := 63) (by decide +kernel))) e63 hA
    · show va_Z RX3 "ORDERS" "[I" (.ref (ad 64)) _ s s.heap
      rw [had 64 (by omega)]
      exact va_Zref (hts (.laysStatic RX3 "ORDERS" "[I") (List.mem_of_getElem? (i := 475) (by decide +kernel))) (hts (.initialized RX3) (List.mem_of_getElem? (i := 63) (by decide +kernel))) e64 hA
    · exact va_Zof (hts (.laysStatic RJ0 "COMPACT_STRINGS" "Z") (List.mem_of_getElem? (i := 546) (by decide +kernel))) (hts (.initialized RJ0) (List.mem_of_getElem? (i := 71) (by decide +kernel))) (va_eqt (hs _ (List.mem_of_getElem? (i := 46) (by decide +kernel)))) hA
    · exact hZf
  · intro i q hq
    have hi := na_wd_lt hq
    rcases (show i = 0 ∨ i = 1 ∨ i = 2 ∨ i = 3 ∨ i = 4 ∨ i = 5 ∨ i = 6 ∨ i = 7 ∨ i = 8 ∨ i = 9 ∨ i = 10 ∨ i = 11 ∨ i = 12 ∨ i = 13 ∨ i = 14 ∨ i = 15 ∨ i = 16 by omega) with rfl | rfl | rfl | rfl | rfl | rfl | rfl | rfl | rfl | rfl | rfl | rfl | rfl | rfl | rfl | rfl | rfl
    · cases hq
      rw [had 100 (by omega), had 120 (by omega)]
      exact O100
    · cases hq
      rw [had 101 (by omega), had 121 (by omega)]
      exact O101
    · cases hq
      rw [had 102 (by omega), had 122 (by omega)]
      exact O102
    · cases hq
      rw [had 103 (by omega), had 123 (by omega)]
      exact O103
    · cases hq
      rw [had 104 (by omega), had 124 (by omega)]
      exact O104
    · cases hq
      rw [had 105 (by omega), had 125 (by omega)]
      exact O105
    · cases hq
      rw [had 106 (by omega), had 126 (by omega)]
      exact O106
    · cases hq
      rw [had 107 (by omega), had 127 (by omega)]
      exact O107
    · cases hq
      rw [had 108 (by omega), had 128 (by omega)]
      exact O108
    · cases hq
      rw [had 109 (by omega), had 129 (by omega)]
      exact O109
    · cases hq
      rw [had 110 (by omega), had 130 (by omega)]
      exact O110
    · cases hq
      rw [had 111 (by omega), had 131 (by omega)]
      exact O111
    · cases hq
      rw [had 112 (by omega), had 132 (by omega)]
      exact O112
    · cases hq
      rw [had 113 (by omega), had 133 (by omega)]
      exact O113
    · cases hq
      rw [had 114 (by omega), had 134 (by omega)]
      exact O114
    · cases hq
      rw [had 115 (by omega), had 135 (by omega)]
      exact O115
    · cases hq
      rw [had 116 (by omega), had 136 (by omega)]
      exact O116
  · intro i q hq
    have hi := na_wd_lt hq
    rcases (show i = 0 ∨ i = 1 ∨ i = 2 ∨ i = 3 ∨ i = 4 ∨ i = 5 ∨ i = 6 ∨ i = 7 ∨ i = 8 ∨ i = 9 ∨ i = 10 ∨ i = 11 ∨ i = 12 ∨ i = 13 ∨ i = 14 ∨ i = 15 ∨ i = 16 by omega) with rfl | rfl | rfl | rfl | rfl | rfl | rfl | rfl | rfl | rfl | rfl | rfl | rfl | rfl | rfl | rfl | rfl
    · cases hq
      rw [had 100 (by omega)]
      exact vk_R.of (hts (.stringRef RX2 66 "person") (List.mem_of_getElem? (i := 532) (by decide +kernel))) e100
    · cases hq
      rw [had 101 (by omega)]
      exact vk_R.of (hts (.stringRef RX2 68 "dancer") (List.mem_of_getElem? (i := 585) (by decide +kernel))) e101
    · cases hq
      rw [had 102 (by omega)]
      exact vk_R.of (hts (.stringRef RX2 70 "sleeper") (List.mem_of_getElem? (i := 586) (by decide +kernel))) e102
    · cases hq
      rw [had 103 (by omega)]
      exact vk_R.of (hts (.stringRef RX2 72 "holder") (List.mem_of_getElem? (i := 587) (by decide +kernel))) e103
    · cases hq
      rw [had 104 (by omega)]
      exact vk_R.of (hts (.stringRef RX2 74 "choir") (List.mem_of_getElem? (i := 588) (by decide +kernel))) e104
    · cases hq
      rw [had 105 (by omega)]
      exact vk_R.of (hts (.stringRef RX2 76 "dreamer") (List.mem_of_getElem? (i := 589) (by decide +kernel))) e105
    · cases hq
      rw [had 106 (by omega)]
      exact vk_R.of (hts (.stringRef RX2 84 "in") (List.mem_of_getElem? (i := 595) (by decide +kernel))) e106
    · cases hq
      rw [had 107 (by omega)]
      exact vk_R.of (hts (.stringRef RX2 93 "need") (List.mem_of_getElem? (i := 602) (by decide +kernel))) e107
    · cases hq
      rw [had 108 (by omega)]
      exact vk_R.of (hts (.stringRef RX2 43 "room") (List.mem_of_getElem? (i := 604) (by decide +kernel))) e108
    · cases hq
      rw [had 109 (by omega)]
      exact vk_R.of (hts (.stringRef RX2 99 "air") (List.mem_of_getElem? (i := 609) (by decide +kernel))) e109
    · cases hq
      rw [had 110 (by omega)]
      exact vk_R.of (hts (.stringRef RX2 105 "frost") (List.mem_of_getElem? (i := 616) (by decide +kernel))) e110
    · cases hq
      rw [had 111 (by omega)]
      exact vk_R.of (hts (.stringRef RX2 107 "fire") (List.mem_of_getElem? (i := 617) (by decide +kernel))) e111
    · cases hq
      rw [had 112 (by omega)]
      exact vk_R.of (hts (.stringRef RX2 109 "tight") (List.mem_of_getElem? (i := 618) (by decide +kernel))) e112
    · cases hq
      rw [had 113 (by omega)]
      exact vk_R.of (hts (.stringRef RX2 52 "open") (List.mem_of_getElem? (i := 619) (by decide +kernel))) e113
    · cases hq
      rw [had 114 (by omega)]
      exact vk_R.of (hts (.stringRef RX2 57 "shut") (List.mem_of_getElem? (i := 625) (by decide +kernel))) e114
    · cases hq
      rw [had 115 (by omega)]
      exact vk_R.of (hts (.stringRef RX2 59 "cold") (List.mem_of_getElem? (i := 626) (by decide +kernel))) e115
    · cases hq
      rw [had 116 (by omega)]
      exact vk_R.of (hts (.stringRef RX2 64 "mild") (List.mem_of_getElem? (i := 631) (by decide +kernel))) e116
