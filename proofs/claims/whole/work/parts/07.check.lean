/-! the check of a program, by the kernel -/
def na_tg (P : List En) (pc : Nat) (off : Int) (t : Nat) : Bool := match na_dr t P with
  | [] => false
  | e :: _ => decide ((pc : Int) + off = (e.1 : Int))
def na_tgs (P : List En) (pc : Nat) : List Int → List Nat → Bool
  | [], [] => true
  | o :: os, t :: ts => na_tg P pc o t && na_tgs P pc os ts
  | _, _ => false
def na_ity : FieldType → Bool
  | .int => true
  | .boolean => true
  | .byte => true
  | .char => true
  | .short => true
  | _ => false
def na_rty : FieldType → Bool
  | .object _ => true
  | .array _ => true
  | _ => false
def na_lty : FieldType → Bool
  | .long => true
  | _ => false
def na_ot (p : FieldType → Bool) (o : Option FieldType) : Bool := match o with
  | some t => p t
  | none => false
def na_okI (P : List En) (nL : Nat) (rt : Option FieldType) (fr lo : Nat) (e : En) : Bool :=
  match e.2.2.1 with
  | .iconst n => e.2.1 == 1 && Int32.ofInt n == e.2.2.2.2.1
  | .bipush n => e.2.1 == 2 && (Int8.ofInt n).toInt32 == e.2.2.2.2.1
  | .sipush n => e.2.1 == 3 && (Int16.ofInt n).toInt32 == e.2.2.2.2.1
  | .ldc_w _ => e.2.1 == 3
  | .ldc _ => e.2.1 == 2
  | .lconst n => e.2.1 == 1 && Int64.ofNat (n : Nat) == e.2.2.2.2.2
  | .ldc2_w _ => e.2.1 == 3
  | .iload i => e.2.1 == 2 && i == na_h0 e.2.2.2.1
  | .lload i => e.2.1 == 2 && i == na_h0 e.2.2.2.1
  | .aload i => e.2.1 == 2 && i == na_h0 e.2.2.2.1
  | .iload_n i => e.2.1 == 1 && (i : Nat) == na_h0 e.2.2.2.1
  | .lload_n i => e.2.1 == 1 && (i : Nat) == na_h0 e.2.2.2.1
  | .aload_n i => e.2.1 == 1 && (i : Nat) == na_h0 e.2.2.2.1
  | .istore i => e.2.1 == 2 && i == na_h0 e.2.2.2.1 && Nat.blt i nL
  | .lstore i => e.2.1 == 2 && i == na_h0 e.2.2.2.1 && Nat.blt (i + 1) nL
  | .astore i => e.2.1 == 2 && i == na_h0 e.2.2.2.1 && Nat.blt i nL
  | .istore_n i => e.2.1 == 1 && (i : Nat) == na_h0 e.2.2.2.1 && Nat.blt (na_h0 e.2.2.2.1) nL
  | .lstore_n i => e.2.1 == 1 && (i : Nat) == na_h0 e.2.2.2.1 && Nat.blt (na_h0 e.2.2.2.1 + 1) nL
  | .astore_n i => e.2.1 == 1 && (i : Nat) == na_h0 e.2.2.2.1 && Nat.blt (na_h0 e.2.2.2.1) nL
  | .iinc i n => e.2.1 == 3 && i == na_h0 e.2.2.2.1 && Nat.blt i nL && Int32.ofInt n == e.2.2.2.2.1
  | .goto off => e.2.1 == 3 && na_tg P e.1 off (na_h0 e.2.2.2.1)
  | .ifCond _ off => e.2.1 == 3 && na_tg P e.1 off (na_h0 e.2.2.2.1)
  | .if_icmp _ off => e.2.1 == 3 && na_tg P e.1 off (na_h0 e.2.2.2.1)
  | .tableswitch d lo hi offs => na_tg P e.1 d (na_h0 e.2.2.2.1) && na_tgs P e.1 offs.toList e.2.2.2.1.tail && decide (lo + offs.toList.length = hi + 1)
  | .getfield _ => e.2.1 == 3
  | .putfield _ => e.2.1 == 3
  | .getstatic _ => e.2.1 == 3
  | .invokestatic _ => e.2.1 == 3 && bif Nat.beq (na_h0 e.2.2.2.1) 998 then true else bif Nat.beq (na_h0 e.2.2.2.1) 997 || Nat.beq (na_h0 e.2.2.2.1) 996 then Nat.ble 1 fr && Nat.ble 21 lo else bif Nat.beq (na_h0 e.2.2.2.1) 999 then Nat.ble 1 fr && Nat.ble 26 lo else Nat.ble ((na_mi (na_h0 e.2.2.2.1)).2.2.2.2.1 + 1) fr && Nat.ble (8 + ((na_mi (na_h0 e.2.2.2.1)).2.2.1 + 11) + (na_mi (na_h0 e.2.2.2.1)).2.2.2.2.2) lo
  | .invokevirtual _ => e.2.1 == 3 && Nat.ble ((na_mi (na_h0 e.2.2.2.1)).2.2.2.2.1 + 1) fr && Nat.ble (8 + ((na_mi (na_h0 e.2.2.2.1)).2.2.1 + 11) + (na_mi (na_h0 e.2.2.2.1)).2.2.2.2.2) lo
  | .return_ => e.2.1 == 1 && rt.isNone
  | .ireturn => e.2.1 == 1 && na_ot na_ity rt
  | .lreturn => e.2.1 == 1 && na_ot na_lty rt
  | .areturn => e.2.1 == 1 && na_ot na_rty rt
  | _ => e.2.1 == 1
def na_okL (cc : ByteArray) (P : List En) (nL : Nat) (rt : Option FieldType) (fr lo : Nat) : List En → Bool
  | [] => true
  | e :: r => decide (decode cc e.1 = .ok (e.2.2.1, e.2.1)) && (match r with
    | [] => true
    | e' :: _ => Nat.beq e'.1 (e.1 + e.2.1)) && na_okI P nL rt fr lo e && na_okL cc P nL rt fr lo r
/-- a part of a program, checked -/
def na_okS (own : String) (cc : ByteArray) (P : List En) (nL : Nat) (rt : Option FieldType) (fr lo : Nat) (sfx : List En) : Prop := na_okL cc P nL rt fr lo sfx = true ∧ ∀ e ∈ sfx, na_lk own e.2.2.1 e.2.2.2.1 e.2.2.2.2.1 e.2.2.2.2.2
theorem na_okL_drop {cc : ByteArray} {P : List En} {nL : Nat} {rt : Option FieldType} {fr lo : Nat} : ∀ (n : Nat) (l : List En), na_okL cc P nL rt fr lo l = true → na_okL cc P nL rt fr lo (l.drop n) = true
  | 0, l, h => by simpa using h
  | n + 1, [], h => by simp [na_okL]
  | n + 1, a :: r, h => by
    simp only [List.drop_succ_cons]
    refine na_okL_drop n r ?_
    simp only [na_okL, Bool.and_eq_true] at h
    exact h.2
theorem na_okS.drop {own : String} {cc : ByteArray} {P : List En} {nL : Nat} {rt : Option FieldType} {fr lo : Nat} (h : na_okS own cc P nL rt fr lo P) (t : Nat) : na_okS own cc P nL rt fr lo (na_dr t P) := by
  rw [na_dr_eq]
  exact ⟨na_okL_drop t P h.1, fun e he => h.2 e (List.mem_of_mem_drop he)⟩
theorem na_okS.tail {own : String} {cc : ByteArray} {P : List En} {nL : Nat} {rt : Option FieldType} {fr lo : Nat} {e : En} {r : List En} (h : na_okS own cc P nL rt fr lo (e :: r)) : na_okS own cc P nL rt fr lo r := by
  have h1 := h.1
  simp only [na_okL, Bool.and_eq_true] at h1
  exact ⟨h1.2, fun e he => h.2 e (List.mem_cons_of_mem _ he)⟩
