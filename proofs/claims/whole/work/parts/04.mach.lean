/-! THE SMALL MACHINE IN THE TRUE ONE: what holds of the true heap (na_R), what is given all along (na_C), a method's contract (Mt), one instruction (na_stp), a stretch (na_wp). -/
def na_Tg : List Cond := lw_tbl.filter goodWord
def na_ww (q : MI) : List Cond := .code q.1 q.2.1 q.2.2.1 q.2.2.2.1 :: na_Tg
def na_rm (q : MI) : Room := { frames := q.2.2.2.2.1, cells := 0, slots := 0, locals := q.2.2.2.2.2 }
/-- cells that may change: all that came behind the law's start -/
abbrev na_A (N0 : Nat) : Nat → Prop := fun q => N0 ≤ q
def na_tys (ca : Nat → Nat) : List (ClassId × FieldType) := [(ca 0, .int), (ca 1, .long), (ca 2, .object RX1)]
def na_R (D : va_G) (ca ad : Nat → Nat) (N0 : Nat) (s0 : State) (I : Mm) (J : Ml) (H : Heap) : Prop :=
  va_P D vwCl (na_ws ca ad I J 0 na_lay) H ∧ va_D (na_A N0) (na_ws ca ad I J 0 na_lay) ∧ N0 ≤ H.size ∧ ∀ q : Nat, q < N0 → H[q]? = s0.heap[q]?
/-- words of the tables that must be carried by hand -/
def na_Kw (ad : Nat → Nat) (U : State) : Prop :=
  va_Nw (.methodLinkNest RX0 65 yX3_has RX3) U ∧ va_Nw (.methodLinkNest RX2 137 yX3_outside RX3) U ∧ va_Nw (.fieldLinkNest RX2 111 RX3 "MOST_OF_ROOM" "[I" RX3) U ∧ ∀ (i : Nat) (q : Nat × String × List Int32), na_nth na_wd i = some q → vk_R RX2 q.1 q.2.1 (ad (100 + i)) U
def na_C (sx : Nat × (Nat → Int32)) (D : va_G) (ca ad : Nat → Nat) (fm : Value) (N0 : Nat) (s0 : State) : Prop :=
  va_K D vwCl (na_tys ca) s0 ∧ s0.heap.size = N0 ∧
  (∀ (a : Nat) (q : Nat × (Nat → Int32)), na_sa sx a = some q → va_T .int (ad a) q.1 (fun j => .int (q.2 j)) (na_A N0) s0 s0.heap) ∧
  (∀ (a : Nat) (q : Nat × (Nat → Int32)), na_sb a = some q → va_T .byte (ad a) q.1 (fun j => .int (q.2 j)) (na_A N0) s0 s0.heap) ∧
  (∀ q ∈ na_st, va_Z q.1 q.2.1 q.2.2.1 (na_tv ad fm q.2.2.2) (na_A N0) s0 s0.heap) ∧
  (∀ (i : Nat) (q : Nat × String × List Int32), na_nth na_wd i = some q → va_O RJ0 (ad (100 + i)) (na_A N0) s0 s0.heap ∧ va_OF RJ0 "coder" "B" (.int 0) (ad (100 + i)) (na_A N0) s0 s0.heap ∧ va_OF RJ0 "value" "[B" (.ref (ad (120 + i))) (ad (100 + i)) (na_A N0) s0 s0.heap) ∧
  (fm = .null ∨ ∃ t : Nat, fm = .ref t)
def na_Pc (D : va_G) (ca ad : Nat → Nat) (fm : Value) (N0 : Nat) (s0 : State) (av : List Value) (I : Mm) (J : Ml) : Array Value → State → Prop := fun v U =>
  v = (av.map (na_tv ad fm)).toArray ∧ s0.vm.Alike U.vm ∧ na_Kw ad U ∧ na_R D ca ad N0 s0 I J U.heap
def na_Qc (D : va_G) (ca ad : Nat → Nat) (fm : Value) (N0 : Nat) (s0 : State) (Post : Option Value → Mm → Ml → Prop) : Array Value → State → Outcome → State → Prop := fun _ st o t =>
  ∃ (r : Option Value) (I : Mm) (J : Ml), o = .returned (r.map (na_tv ad fm)) ∧ Post r I J ∧ na_R D ca ad N0 s0 I J t.heap ∧ st.heap.size ≤ t.heap.size
/-- method j, with these arguments over this memory, returns, and Post holds of its answer and of the memory behind it -/
def Mt (sx : Nat × (Nat → Int32)) (j : Nat) (av : List Value) (I : Mm) (J : Ml) (Post : Option Value → Mm → Ml → Prop) : Prop :=
  ∀ (l : Launch) (D : va_G) (ca ad : Nat → Nat) (fm : Value) (N0 : Nat) (s0 : State), na_C sx D ca ad fm N0 s0 →
    Met l (na_mi j).1 (na_ww (na_mi j)) (na_rm (na_mi j)) (na_Pc D ca ad fm N0 s0 av I J) (na_Qc D ca ad fm N0 s0 Post) 0 0 (na_A N0)
theorem Met.conseq {l : Launch} {y : MethodName} {ws : List Cond} {rm : Room} {Pc : Array Value → State → Prop} {Qc Qd : Array Value → State → Outcome → State → Prop} {mc ms : Nat} {free : Addr → Prop} (h : Met l y ws rm Pc Qc mc ms free) (hq : ∀ a st o t, Qc a st o t → Qd a st o t) : Met l y ws rm Pc Qd mc ms free := by
  intro p e ha hc hk s m args below hf happ hP hK
  obtain ⟨k, o, h1, h2, h3, h4, h5⟩ := h p e ha hc hk s m args below hf happ hP hK
  exact ⟨k, o, h1, h2, h3, hq _ _ _ _ h4, h5⟩
theorem Mt.conseq {sx : Nat × (Nat → Int32)} {j : Nat} {av : List Value} {I : Mm} {J : Ml} {P Q : Option Value → Mm → Ml → Prop} (h : Mt sx j av I J P) (hq : ∀ r I' J', P r I' J' → Q r I' J') : Mt sx j av I J Q :=
  fun l D ca ad fm N0 s0 hC => (h l D ca ad fm N0 s0 hC).conseq fun a st o t ⟨r, I', J', h1, h2, h3⟩ => ⟨r, I', J', h1, hq r I' J' h2, h3⟩
def na_pu (v : Option Value) (st : List Value) : List Value := match v with
  | none => st
  | some v => v :: st
def na_ct : List Value → Nat
  | [] => 0
  | .long _ :: r => 2 + na_ct r
  | .double _ :: r => 2 + na_ct r
  | _ :: r => 1 + na_ct r
def na_rc (c : Nat) (as : List Value) : Bool := match as with
  | .ref a :: _ => bif Nat.beq c 9 then Nat.ble 100 a && Nat.ble a 116 else match na_nth na_lay a with
    | some (.inr q) => Nat.beq q.1 c
    | _ => false
  | _ => false
def na_sw : List Nat → Int → Int32 → (Nat → Prop) → Prop
  | [], _, _, _ => True
  | t :: r, lo, x, k => (x.toInt = lo → k t) ∧ na_sw r (lo + 1) x k
/-- one instruction: what must hold so that the method goes on as k says, or ends as Rt says -/
def na_stp (P : List En) (sx : Nat × (Nat → Int32)) (rt : Option FieldType) (Rt : Option Value → Mm → Ml → Prop) (k : List En → Lo → List Value → Mm → Ml → Prop) (e : En) (r : List En) (ls : Lo) (st : List Value) (I : Mm) (J : Ml) : Prop :=
  match e.2.2.1 with
  | .iconst _ => k r ls (.int e.2.2.2.2.1 :: st) I J
  | .bipush _ => k r ls (.int e.2.2.2.2.1 :: st) I J
  | .sipush _ => k r ls (.int e.2.2.2.2.1 :: st) I J
  | .ldc_w _ => k r ls (.int e.2.2.2.2.1 :: st) I J
  | .ldc _ => match e.2.2.2.1 with
    | [] => k r ls (.int e.2.2.2.2.1 :: st) I J
    | a :: _ => k r ls (.ref (100 + a) :: st) I J
  | .lconst _ => k r ls (.long e.2.2.2.2.2 :: st) I J
  | .ldc2_w _ => k r ls (.long e.2.2.2.2.2 :: st) I J
  | .iload _ => na_ld (na_nth ls (na_h0 e.2.2.2.1)) fun v => na_pI [v] fun x _ => k r ls (.int x :: st) I J
  | .iload_n _ => na_ld (na_nth ls (na_h0 e.2.2.2.1)) fun v => na_pI [v] fun x _ => k r ls (.int x :: st) I J
  | .lload _ => na_ld (na_nth ls (na_h0 e.2.2.2.1)) fun v => na_pL [v] fun x _ => k r ls (.long x :: st) I J
  | .lload_n _ => na_ld (na_nth ls (na_h0 e.2.2.2.1)) fun v => na_pL [v] fun x _ => k r ls (.long x :: st) I J
  | .aload _ => na_ld (na_nth ls (na_h0 e.2.2.2.1)) fun v => na_pR [v] fun x _ => bif Nat.beq x 90 then False else k r ls (.ref x :: st) I J
  | .aload_n _ => na_ld (na_nth ls (na_h0 e.2.2.2.1)) fun v => na_pR [v] fun x _ => bif Nat.beq x 90 then False else k r ls (.ref x :: st) I J
  | .istore _ => na_pI st fun x st => k r (na_s1 ls (na_h0 e.2.2.2.1) (.int x)) st I J
  | .istore_n _ => na_pI st fun x st => k r (na_s1 ls (na_h0 e.2.2.2.1) (.int x)) st I J
  | .lstore _ => na_pL st fun x st => k r (na_s2 ls (na_h0 e.2.2.2.1) (.long x)) st I J
  | .lstore_n _ => na_pL st fun x st => k r (na_s2 ls (na_h0 e.2.2.2.1) (.long x)) st I J
  | .astore _ => na_pR st fun x st => bif Nat.beq x 90 then False else k r (na_s1 ls (na_h0 e.2.2.2.1) (.ref x)) st I J
  | .astore_n _ => na_pR st fun x st => bif Nat.beq x 90 then False else k r (na_s1 ls (na_h0 e.2.2.2.1) (.ref x)) st I J
  | .iinc _ _ => na_ld (na_nth ls (na_h0 e.2.2.2.1)) fun v => na_pI [v] fun x _ => k r (na_s1 ls (na_h0 e.2.2.2.1) (.int (x + e.2.2.2.2.1))) st I J
  | .iadd => na_pI st fun y st => na_pI st fun x st => k r ls (.int (x + y) :: st) I J
  | .isub => na_pI st fun y st => na_pI st fun x st => k r ls (.int (x - y) :: st) I J
  | .imul => na_pI st fun y st => na_pI st fun x st => k r ls (.int (x * y) :: st) I J
  | .iand => na_pI st fun y st => na_pI st fun x st => k r ls (.int (x &&& y) :: st) I J
  | .ior => na_pI st fun y st => na_pI st fun x st => k r ls (.int (x ||| y) :: st) I J
  | .ixor => na_pI st fun y st => na_pI st fun x st => k r ls (.int (x ^^^ y) :: st) I J
  | .ishl => na_pI st fun y st => na_pI st fun x st => k r ls (.int (x <<< (y &&& 31)) :: st) I J
  | .ishr => na_pI st fun y st => na_pI st fun x st => k r ls (.int (x >>> (y &&& 31)) :: st) I J
  | .iushr => na_pI st fun y st => na_pI st fun x st => k r ls (.int (x.toUInt32 >>> (y.toUInt32 &&& Int32.toUInt32 31)).toInt32 :: st) I J
  | .idiv => na_pI st fun y st => na_pI st fun x st => ¬ y = 0 ∧ k r ls (.int (x / y) :: st) I J
  | .irem => na_pI st fun y st => na_pI st fun x st => ¬ y = 0 ∧ k r ls (.int (x - x / y * y) :: st) I J
  | .ineg => na_pI st fun x st => k r ls (.int (-x) :: st) I J
  | .ladd => na_pL st fun y st => na_pL st fun x st => k r ls (.long (x + y) :: st) I J
  | .lsub => na_pL st fun y st => na_pL st fun x st => k r ls (.long (x - y) :: st) I J
  | .lmul => na_pL st fun y st => na_pL st fun x st => k r ls (.long (x * y) :: st) I J
  | .land => na_pL st fun y st => na_pL st fun x st => k r ls (.long (x &&& y) :: st) I J
  | .lor => na_pL st fun y st => na_pL st fun x st => k r ls (.long (x ||| y) :: st) I J
  | .ldiv => na_pL st fun y st => na_pL st fun x st => ¬ y = 0 ∧ k r ls (.long (x / y) :: st) I J
  | .lshl => na_pI st fun y st => na_pL st fun x st => k r ls (.long (x <<< (y.toInt64 &&& 63)) :: st) I J
  | .lshr => na_pI st fun y st => na_pL st fun x st => k r ls (.long (x >>> (y.toInt64 &&& 63)) :: st) I J
  | .lcmp => na_pL st fun y st => na_pL st fun x st => k r ls (.int (lg_cmp x y) :: st) I J
  | .i2l => na_pI st fun x st => k r ls (.long x.toInt64 :: st) I J
  | .l2i => na_pL st fun x st => k r ls (.int x.toInt32 :: st) I J
  | .i2b => na_pI st fun x st => k r ls (.int x.toInt8.toInt32 :: st) I J
  | .i2s => na_pI st fun x st => k r ls (.int x.toInt16.toInt32 :: st) I J
  | .i2c => na_pI st fun x st => k r ls (.int (x.toUInt32 % 65536).toInt32 :: st) I J
  | .dup => na_p1 st fun v st => k r ls (v :: v :: st) I J
  | .pop => na_p1 st fun _ st => k r ls st I J
  | .dup2 => na_p1 st fun v st => na_p1 st fun w st => k r ls (v :: w :: v :: w :: st) I J
  | .goto _ => k (na_dr (na_h0 e.2.2.2.1) P) ls st I J
  | .ifCond .eq _ => na_pI st fun x st => (x = 0 → k (na_dr (na_h0 e.2.2.2.1) P) ls st I J) ∧ (¬ x = 0 → k r ls st I J)
  | .ifCond .ne _ => na_pI st fun x st => (¬ x = 0 → k (na_dr (na_h0 e.2.2.2.1) P) ls st I J) ∧ (x = 0 → k r ls st I J)
  | .ifCond .lt _ => na_pI st fun x st => (x < 0 → k (na_dr (na_h0 e.2.2.2.1) P) ls st I J) ∧ (¬ x < 0 → k r ls st I J)
  | .ifCond .ge _ => na_pI st fun x st => (0 ≤ x → k (na_dr (na_h0 e.2.2.2.1) P) ls st I J) ∧ (¬ 0 ≤ x → k r ls st I J)
  | .ifCond .gt _ => na_pI st fun x st => (0 < x → k (na_dr (na_h0 e.2.2.2.1) P) ls st I J) ∧ (¬ 0 < x → k r ls st I J)
  | .ifCond .le _ => na_pI st fun x st => (x ≤ 0 → k (na_dr (na_h0 e.2.2.2.1) P) ls st I J) ∧ (¬ x ≤ 0 → k r ls st I J)
  | .if_icmp .eq _ => na_pI st fun y st => na_pI st fun x st => (x = y → k (na_dr (na_h0 e.2.2.2.1) P) ls st I J) ∧ (¬ x = y → k r ls st I J)
  | .if_icmp .ne _ => na_pI st fun y st => na_pI st fun x st => (¬ x = y → k (na_dr (na_h0 e.2.2.2.1) P) ls st I J) ∧ (x = y → k r ls st I J)
  | .if_icmp .lt _ => na_pI st fun y st => na_pI st fun x st => (x < y → k (na_dr (na_h0 e.2.2.2.1) P) ls st I J) ∧ (¬ x < y → k r ls st I J)
  | .if_icmp .ge _ => na_pI st fun y st => na_pI st fun x st => (y ≤ x → k (na_dr (na_h0 e.2.2.2.1) P) ls st I J) ∧ (¬ y ≤ x → k r ls st I J)
  | .if_icmp .gt _ => na_pI st fun y st => na_pI st fun x st => (y < x → k (na_dr (na_h0 e.2.2.2.1) P) ls st I J) ∧ (¬ y < x → k r ls st I J)
  | .if_icmp .le _ => na_pI st fun y st => na_pI st fun x st => (x ≤ y → k (na_dr (na_h0 e.2.2.2.1) P) ls st I J) ∧ (¬ x ≤ y → k r ls st I J)
  | .tableswitch _ lo hi _ => na_pI st fun x st => (x.toInt < lo ∨ hi < x.toInt → k (na_dr (na_h0 e.2.2.2.1) P) ls st I J) ∧ na_sw e.2.2.2.1.tail lo x fun t => k (na_dr t P) ls st I J
  | .iaload => na_pI st fun i st => na_pR st fun a st => na_ar sx I a fun n f => vp_in i n ∧ k r ls (.int (f i.toNatClampNeg) :: st) I J
  | .baload => na_pI st fun i st => na_pR st fun a st => match na_sb a with
    | some q => vp_in i q.1 ∧ k r ls (.int (q.2 i.toNatClampNeg) :: st) I J
    | none => False
  | .laload => na_pI st fun i st => na_pR st fun a st => match na_nth na_lay a with
    | some (.inl (1, n)) => vp_in i n ∧ k r ls (.long (J a i.toNatClampNeg) :: st) I J
    | _ => False
  | .aaload => na_pI st fun i st => na_pR st fun a st => match na_nth na_lay a with
    | some (.inl (2, n)) => vp_in i n ∧ k r ls (.ref (na_shp i.toNatClampNeg) :: st) I J
    | _ => False
  | .iastore => na_pI st fun v st => na_pI st fun i st => na_pR st fun a st => match na_nth na_lay a with
    | some (.inl (0, n)) => vp_in i n ∧ k r ls st (na_set I a i.toNatClampNeg v) J
    | _ => False
  | .lastore => na_pL st fun v st => na_pI st fun i st => na_pR st fun a st => match na_nth na_lay a with
    | some (.inl (1, n)) => vp_in i n ∧ k r ls st I (na_setL J a i.toNatClampNeg v)
    | _ => False
  | .arraylength => na_pR st fun a st => match na_nth na_lay a with
    | some (.inl (0, n)) => k r ls (.int (Int32.ofNat n) :: st) I J
    | some _ => False
    | none => match na_sa sx a with
      | some q => k r ls (.int (Int32.ofNat q.1) :: st) I J
      | none => match na_sb a with
        | some q => k r ls (.int (Int32.ofNat q.1) :: st) I J
        | none => False
  | .getfield _ => na_pR st fun a st => bif Nat.beq (na_h0 e.2.2.2.1) 9 then (bif Nat.ble 100 a && Nat.ble a 116 then (match na_h1 e.2.2.2.1 with
      | 0 => k r ls (.int 0 :: st) I J
      | 1 => k r ls (.ref (a + 20) :: st) I J
      | _ => False) else False) else match na_nth na_lay a with
    | some (.inr q) => bif Nat.beq q.1 (na_h0 e.2.2.2.1) then (match na_nth q.2 (na_h1 e.2.2.2.1) with
      | some f => k r ls (na_fw I J a (na_h1 e.2.2.2.1) f :: st) I J
      | none => False) else False
    | _ => False
  | .putfield _ => match st with
    | .int v :: .ref a :: st => (match na_nth na_lay a with
      | some (.inr q) => bif Nat.beq q.1 (na_h0 e.2.2.2.1) then (match na_nth q.2 (na_h1 e.2.2.2.1) with
        | some 0 => (match na_h2 e.2.2.2.1 with
          | 0 => k r ls st (na_set I a (na_h1 e.2.2.2.1) v) J
          | 1 => (v = 0 ∨ v = 1) ∧ k r ls st (na_set I a (na_h1 e.2.2.2.1) v) J
          | _ => False)
        | _ => False) else False
      | _ => False)
    | .long v :: .ref a :: st => (match na_nth na_lay a with
      | some (.inr q) => bif Nat.beq q.1 (na_h0 e.2.2.2.1) then (match na_nth q.2 (na_h1 e.2.2.2.1) with
        | some 1 => bif Nat.beq (na_h2 e.2.2.2.1) 2 then k r ls st I (na_setL J a (na_h1 e.2.2.2.1) v) else False
        | _ => False) else False
      | _ => False)
    | _ => False
  | .getstatic _ => match na_nth na_st (na_h0 e.2.2.2.1) with
    | some q => k r ls (q.2.2.2 :: st) I J
    | none => False
  | .invokestatic _ => bif Nat.beq (na_h0 e.2.2.2.1) 998 then False else bif Nat.beq (na_h0 e.2.2.2.1) 997 then (na_pI st fun y st => na_pI st fun x st => bif Nat.ble (na_ct st) 8 then k r ls (.int (jmin x y) :: st) I J else False) else bif Nat.beq (na_h0 e.2.2.2.1) 996 then (na_pI st fun y st => na_pI st fun x st => bif Nat.ble (na_ct st) 8 then k r ls (.int (jmax x y) :: st) I J else False) else bif Nat.beq (na_h0 e.2.2.2.1) 999 then
      na_pI st fun n st => na_pI st fun dp st => na_pR st fun d st => na_pI st fun sp st => na_pR st fun a st => bif Nat.ble (na_ct st) 8 then (match na_nth na_lay a, na_nth na_lay d with
      | some (.inl (0, n0)), some (.inl (0, n1)) => (¬ sp < 0 ∧ ¬ dp < 0 ∧ ¬ n < 0 ∧ sp.toNatClampNeg + n.toNatClampNeg ≤ n0 ∧ dp.toNatClampNeg + n.toNatClampNeg ≤ n1) ∧ k r ls st (na_cpI I a d sp.toNatClampNeg dp.toNatClampNeg n.toNatClampNeg) J
      | some (.inl (1, n0)), some (.inl (1, n1)) => (¬ sp < 0 ∧ ¬ dp < 0 ∧ ¬ n < 0 ∧ sp.toNatClampNeg + n.toNatClampNeg ≤ n0 ∧ dp.toNatClampNeg + n.toNatClampNeg ≤ n1) ∧ k r ls st I (na_cpL J a d sp.toNatClampNeg dp.toNatClampNeg n.toNatClampNeg)
      | _, _ => False) else False
    else na_tk (na_h1 e.2.2.2.1) [] st fun as st => bif Nat.ble (na_ct st) 8 then Mt sx (na_h0 e.2.2.2.1) as I J (fun v I' J' => k r ls (na_pu v st) I' J') else False
  | .invokevirtual _ => na_tk (na_h1 e.2.2.2.1) [] st fun as st => bif Nat.ble (na_ct st) 8 && na_rc (na_h2 e.2.2.2.1) as then Mt sx (na_h0 e.2.2.2.1) as I J (fun v I' J' => k r ls (na_pu v st) I' J') else False
  | .return_ => match st with
    | [] => Rt none I J
    | _ => False
  | .ireturn => match st, rt with
    | [.int v], some ty => na_nl ty v ∧ Rt (some (.int v)) I J
    | _, _ => False
  | .lreturn => match st with
    | [.long v] => Rt (some (.long v)) I J
    | _ => False
  | .areturn => match st with
    | [.ref a] => bif Nat.beq a 90 then False else Rt (some (.ref a)) I J
    | _ => False
  | _ => False
/-- the stretch goes on, or stops at a row that 'cut' names -/
def na_go (K : Nat → Lo → List Value → Mm → Ml → Prop) (cut : Nat → Bool) (ih : List En → Lo → List Value → Mm → Ml → Prop) (sfx : List En) (ls : Lo) (st : List Value) (I : Mm) (J : Ml) : Prop := match sfx with
  | [] => False
  | e :: _ => bif cut e.1 then K e.1 ls st I J else ih sfx ls st I J
def na_wp (P : List En) (sx : Nat × (Nat → Int32)) (rt : Option FieldType) (Rt : Option Value → Mm → Ml → Prop) (K : Nat → Lo → List Value → Mm → Ml → Prop) (cut : Nat → Bool) : Nat → List En → Lo → List Value → Mm → Ml → Prop
  | 0 => fun sfx ls st I J => match sfx with
    | [] => False
    | e :: _ => K e.1 ls st I J
  | n + 1 => fun sfx ls st I J => match sfx with
    | [] => False
    | e :: r => na_stp P sx rt Rt (na_go K cut (na_wp P sx rt Rt K cut n)) e r ls st I J
