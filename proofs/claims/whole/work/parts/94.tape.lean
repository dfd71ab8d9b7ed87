/-! THE TAPE: items, the class -/
theorem Mt.eqI {sx : Nat × (Nat → Int32)} {j : Nat} {av : List Value} {I I2 : Mm} {J : Ml} {P : Option Value → Mm → Ml → Prop} (h : I2 = I) (g : Mt sx j av I J P) : Mt sx j av I2 J P := h ▸ g
theorem yS_set {I N : Mm} {L e k pl j : Nat} {x v : Int32} (hk : k < 10) (hp : pl = 21 + k) : na_set (yS I N L e x) pl j v = yS I (na_set N k j v) L e x := pN_set hk hp
/-- what an item brings: a fault at the token from e on, or the next token and the night -/
abbrev TR : Type := Nat ⊕ (Nat × Mm)
def bindR (R : TR) (k : Nat → Mm → TR) : TR := match R with
  | .inl x => .inl x
  | .inr q => k q.1 q.2
theorem bindR_ok {R : TR} {k : Nat → Mm → TR} {e : Nat} {N : Mm} (h : R = .inr (e, N)) : bindR R k = k e N := by rw [h]; rfl
theorem bindR_er {R : TR} {k : Nat → Mm → TR} {e : Nat} (h : R = .inl e) : bindR R k = .inl e := by rw [h]; rfl
def mxW : Nat → Int32
  | 0 => 9999
  | 1 => 9999
  | 2 => 99
  | _ => 9
def myR (B : Nat → Int32) (L w r e : Nat) (N : Mm) : TR := if Wd B L (9 + w) e then (if Nm B L 0 (mxW w) (tE B L e) then .inr (tE B L (tE B L e), na_set N (w + 1) r (vlE B L (tE B L e))) else .inl (tE B L e)) else .inr (e, N)
def rmB (B : Nat → Int32) (L r e : Nat) (N : Mm) : TR := bindR (myR B L 0 r e N) fun e N => bindR (myR B L 1 r e N) fun e N => bindR (myR B L 2 r e N) fun e N => myR B L 3 r e N
def rmR2 (B : Nat → Int32) (L e : Nat) (N : Mm) : TR := if Nm B L 0 7 (tE B L e) then rmB B L (vlE B L (tE B L e)).toNatClampNeg (tE B L (tE B L e)) N else .inl (tE B L e)
def dorR (B : Nat → Int32) (L : Nat) (v : Int32) (e : Nat) (N : Mm) : TR := if Nm B L 0 6 (tE B L e) then .inr (tE B L (tE B L e), tdN N (vlE B L (tE B L e)) v) else .inl (tE B L e)
def oneC (B : Nat → Int32) (L : Nat) (kd rm : Int32) (e : Nat) (N : Mm) : TR := if Wd B L 7 e then (if Nm B L 1 20 (tE B L e) then .inr (tE B L (tE B L e), adN N (N 0 7).toNatClampNeg kd rm (vlE B L (tE B L e))) else .inl (tE B L e)) else .inr (e, adN N (N 0 7).toNatClampNeg kd rm 3)
def oneB (B : Nat → Int32) (L : Nat) (kd : Int32) (e : Nat) (N : Mm) : TR := if Nm B L 0 7 e then oneC B L kd (vlE B L e) (tE B L e) N else .inl e
def oneA (B : Nat → Int32) (L : Nat) (kd : Int32) (e : Nat) (N : Mm) : TR := if Wd B L 6 e then oneB B L kd (tE B L e) N else .inl e
def oneR (B : Nat → Int32) (L : Nat) (kd : Int32) (e : Nat) (N : Mm) : TR := if 8 ≤ N 0 7 then .inl e else oneA B L kd (tE B L e) N
def tiB (B : Nat → Int32) (L e : Nat) (N : Mm) : TR := if Wd B L 8 e then rmR2 B L e N else if Wd B L 13 e then dorR B L 1 e N else if Wd B L 14 e then dorR B L 0 e N else if Wd B L 15 e then .inr (tE B L e, na_set N 0 5 1) else if Wd B L 16 e then .inr (tE B L e, na_set N 0 5 0) else .inl e
def tiR (B : Nat → Int32) (L e : Nat) (N : Mm) : TR := if Wd B L 0 e then oneR B L 0 e N else if Wd B L 1 e then oneR B L 1 e N else if Wd B L 2 e then oneR B L 2 e N else if Wd B L 3 e then oneR B L 3 e N else if Wd B L 4 e then oneR B L 4 e N else if Wd B L 5 e then oneR B L 5 e N else tiB B L e N
def tcP (I : Mm) (J : Ml) (L : Nat) (R : TR) : Option Value → Mm → Ml → Prop := fun r I' J' => J = J' ∧ ((∃ e N y, R = .inr (e, N) ∧ e ≤ L ∧ yS I N L e y = I' ∧ r = some (.int 1)) ∨ (∃ e N y, R = .inl e ∧ e ≤ L ∧ yS I N L e y = I' ∧ r = some (.int 0)))
theorem tE_le {B : Nat → Int32} {L e : Nat} (h : e ≤ L) : tE B L e ≤ L := (tE_b h).2.1
set_option maxRecDepth 100000 in
set_option maxHeartbeats 4000000 in
theorem c_tcold (sx : Nat × (Nat → Int32)) (L : Nat) (hL1 : L ≤ 120) (I : Mm) (hL : I 31 1 = nI L) (N : Mm) (e : Nat) (he : e ≤ L) (x v : Int32) (J : Ml) : Mt sx MX2_tellCold [.ref 31, .ref 21, .int v] (yS I N L e x) J (tcP I J L (.inr (tE (I 32) L e, na_set N 0 5 v))) := by
  refine Mt.of2 _ rfl (by decide +kernel) (Nat.le_of_ble_eq_true rfl) ?_
  refine GW.run kX2_tellCold (fun _ => false) 37 0 rfl ?_
  refine Mt.conseq (Mt.eqI (yS_set (k := 0) (by decide) rfl) (y_step _ L hL1 I hL (na_set N 0 5 v) e he x _)) ?_
  rintro _ _ _ ⟨rfl, rfl, rfl⟩
  exact ⟨na_nl_b1, rfl, Or.inl ⟨_, _, _, rfl, (tE_le he), rfl, rfl⟩⟩
set_option maxRecDepth 100000 in
set_option maxHeartbeats 4000000 in
theorem c_tdoor (sx : Nat × (Nat → Int32)) (L : Nat) (hL1 : L ≤ 120) (I : Mm) (hL : I 31 1 = nI L) (N : Mm) (e : Nat) (he : e ≤ L) (x v : Int32) (J : Ml) : Mt sx MX2_tellDoor [.ref 31, .ref 21, .int v] (yS I N L e x) J (tcP I J L (dorR (I 32) L v e N)) := by
  refine Mt.of2 _ rfl (by decide +kernel) (Nat.le_of_ble_eq_true rfl) ?_
  refine GW.run kX2_tellDoor (fun _ => false) 49 0 rfl ?_
  refine Mt.conseq (y_step _ L hL1 I hL N e he _ _) ?_
  rintro _ _ _ ⟨rfl, rfl, rfl⟩
  refine Mt.conseq (y_isN _ L hL1 I hL N (tE (I 32) L e) (tE_le he) _ 0 6 _) ?_
  rintro _ _ _ ⟨rfl, ⟨h2, rfl, rfl⟩ | ⟨h2, ⟨y1, rfl⟩, rfl⟩⟩
  · -- pc 8 call X2_isNumber true
    refine And.intro (fun _ => ?_) (fun hh => absurd hh (by decide))
    refine Mt.conseq (c_td _ 21 (Or.inr rfl) (vlE (I 32) L (tE (I 32) L e)) v N _ _) ?_
    rintro _ _ _ ⟨rfl, rfl, rfl⟩
    refine Mt.conseq (y_step _ L hL1 I hL (tdN N (vlE (I 32) L (tE (I 32) L e)) v) (tE (I 32) L e) (tE_le he) _ _) ?_
    rintro _ _ _ ⟨rfl, rfl, rfl⟩
    exact ⟨na_nl_b1, rfl, Or.inl ⟨_, _, _, by rw [dorR, if_pos h2], (tE_le (tE_le he)), rfl, rfl⟩⟩
  · -- pc 8 call X2_isNumber false
    refine And.intro (fun hh => absurd hh (by decide)) (fun _ => ?_)
    exact ⟨na_nl_b0, rfl, Or.inr ⟨_, _, _, by rw [dorR, if_neg h2], (tE_le he), rfl, rfl⟩⟩
set_option maxRecDepth 100000 in
set_option maxHeartbeats 4000000 in
theorem c_may0 (sx : Nat × (Nat → Int32)) (L : Nat) (hL1 : L ≤ 120) (I : Mm) (hL : I 31 1 = nI L) (N : Mm) (e : Nat) (he : e ≤ L) (x rx : Int32) (r : Nat) (hr : r < 8) (hx : rx = nI r) (J : Ml) : Mt sx MX2_mayTell [.ref 31, .ref 109, .ref 21, .int 0, .int rx] (yS I N L e x) J (tcP I J L (myR (I 32) L 0 r e N)) := by
  have hbr : vp_in rx 8 := by rw [hx]; exact vp_in_nI (by omega) (by omega)
  have hcr : rx.toNatClampNeg = r := by rw [hx]; exact nI_clamp (by omega)
  refine Mt.of2 _ rfl (by decide +kernel) (Nat.le_of_ble_eq_true rfl) ?_
  refine GW.run kX2_mayTell (fun _ => false) 58 0 rfl ?_
  refine Mt.conseq (y_isW9 _ L hL1 I hL N e he _ _) ?_
  rintro _ _ _ ⟨rfl, rfl, ⟨h1, rfl⟩ | ⟨h1, rfl⟩⟩
  · -- pc 2 call X2_isWord true
    refine And.intro (fun _ => ?_) (fun hh => absurd hh (by decide))
    refine Mt.conseq (y_step _ L hL1 I hL N e he _ _) ?_
    rintro _ _ _ ⟨rfl, rfl, rfl⟩
    refine And.intro (by unfold vp_in; decide) ?_
    refine Mt.conseq (y_isN _ L hL1 I hL N (tE (I 32) L e) (tE_le he) _ 0 9999 _) ?_
    rintro _ _ _ ⟨rfl, ⟨h3, rfl, rfl⟩ | ⟨h3, ⟨y1, rfl⟩, rfl⟩⟩
    · -- pc 21 call X2_isNumber true
      refine And.intro (fun _ => ?_) (fun hh => absurd hh (by decide))
      refine Mt.conseq (c_ror _ 21 (by decide) 0 (by decide) _ (by decide) _ _) ?_
      rintro _ _ _ ⟨rfl, rfl, rfl⟩
      refine And.intro (hbr) ?_
      refine Mt.conseq (Mt.eqI (by rw [hcr]; exact yS_set (k := 0 + 1) (by decide) rfl) (y_step _ L hL1 I hL (na_set N (0 + 1) r (vlE (I 32) L (tE (I 32) L e))) (tE (I 32) L e) (tE_le he) _ _)) ?_
      rintro _ _ _ ⟨rfl, rfl, rfl⟩
      exact ⟨na_nl_b1, rfl, Or.inl ⟨_, _, _, by rw [myR, if_pos h1, if_pos (show Nm (I 32) L 0 (mxW 0) (tE (I 32) L e) from h3)], (tE_le (tE_le he)), rfl, rfl⟩⟩
    · -- pc 21 call X2_isNumber false
      refine And.intro (fun hh => absurd hh (by decide)) (fun _ => ?_)
      exact ⟨na_nl_b0, rfl, Or.inr ⟨_, _, _, by rw [myR, if_pos h1, if_neg (show ¬ Nm (I 32) L 0 (mxW 0) (tE (I 32) L e) from h3)], (tE_le he), rfl, rfl⟩⟩
  · -- pc 2 call X2_isWord false
    refine And.intro (fun hh => absurd hh (by decide)) (fun _ => ?_)
    exact ⟨na_nl_b1, rfl, Or.inl ⟨_, _, _, by rw [myR, if_neg h1], he, rfl, rfl⟩⟩
set_option maxRecDepth 100000 in
set_option maxHeartbeats 4000000 in
theorem c_may1 (sx : Nat × (Nat → Int32)) (L : Nat) (hL1 : L ≤ 120) (I : Mm) (hL : I 31 1 = nI L) (N : Mm) (e : Nat) (he : e ≤ L) (x rx : Int32) (r : Nat) (hr : r < 8) (hx : rx = nI r) (J : Ml) : Mt sx MX2_mayTell [.ref 31, .ref 110, .ref 21, .int 1, .int rx] (yS I N L e x) J (tcP I J L (myR (I 32) L 1 r e N)) := by
  have hbr : vp_in rx 8 := by rw [hx]; exact vp_in_nI (by omega) (by omega)
  have hcr : rx.toNatClampNeg = r := by rw [hx]; exact nI_clamp (by omega)
  refine Mt.of2 _ rfl (by decide +kernel) (Nat.le_of_ble_eq_true rfl) ?_
  refine GW.run kX2_mayTell (fun _ => false) 58 0 rfl ?_
  refine Mt.conseq (y_isW10 _ L hL1 I hL N e he _ _) ?_
  rintro _ _ _ ⟨rfl, rfl, ⟨h1, rfl⟩ | ⟨h1, rfl⟩⟩
  · -- pc 2 call X2_isWord true
    refine And.intro (fun _ => ?_) (fun hh => absurd hh (by decide))
    refine Mt.conseq (y_step _ L hL1 I hL N e he _ _) ?_
    rintro _ _ _ ⟨rfl, rfl, rfl⟩
    refine And.intro (by unfold vp_in; decide) ?_
    refine Mt.conseq (y_isN _ L hL1 I hL N (tE (I 32) L e) (tE_le he) _ 0 9999 _) ?_
    rintro _ _ _ ⟨rfl, ⟨h3, rfl, rfl⟩ | ⟨h3, ⟨y1, rfl⟩, rfl⟩⟩
    · -- pc 21 call X2_isNumber true
      refine And.intro (fun _ => ?_) (fun hh => absurd hh (by decide))
      refine Mt.conseq (c_ror _ 21 (by decide) 1 (by decide) _ (by decide) _ _) ?_
      rintro _ _ _ ⟨rfl, rfl, rfl⟩
      refine And.intro (hbr) ?_
      refine Mt.conseq (Mt.eqI (by rw [hcr]; exact yS_set (k := 1 + 1) (by decide) rfl) (y_step _ L hL1 I hL (na_set N (1 + 1) r (vlE (I 32) L (tE (I 32) L e))) (tE (I 32) L e) (tE_le he) _ _)) ?_
      rintro _ _ _ ⟨rfl, rfl, rfl⟩
      exact ⟨na_nl_b1, rfl, Or.inl ⟨_, _, _, by rw [myR, if_pos h1, if_pos (show Nm (I 32) L 0 (mxW 1) (tE (I 32) L e) from h3)], (tE_le (tE_le he)), rfl, rfl⟩⟩
    · -- pc 21 call X2_isNumber false
      refine And.intro (fun hh => absurd hh (by decide)) (fun _ => ?_)
      exact ⟨na_nl_b0, rfl, Or.inr ⟨_, _, _, by rw [myR, if_pos h1, if_neg (show ¬ Nm (I 32) L 0 (mxW 1) (tE (I 32) L e) from h3)], (tE_le he), rfl, rfl⟩⟩
  · -- pc 2 call X2_isWord false
    refine And.intro (fun hh => absurd hh (by decide)) (fun _ => ?_)
    exact ⟨na_nl_b1, rfl, Or.inl ⟨_, _, _, by rw [myR, if_neg h1], he, rfl, rfl⟩⟩
set_option maxRecDepth 100000 in
set_option maxHeartbeats 4000000 in
theorem c_may2 (sx : Nat × (Nat → Int32)) (L : Nat) (hL1 : L ≤ 120) (I : Mm) (hL : I 31 1 = nI L) (N : Mm) (e : Nat) (he : e ≤ L) (x rx : Int32) (r : Nat) (hr : r < 8) (hx : rx = nI r) (J : Ml) : Mt sx MX2_mayTell [.ref 31, .ref 111, .ref 21, .int 2, .int rx] (yS I N L e x) J (tcP I J L (myR (I 32) L 2 r e N)) := by
  have hbr : vp_in rx 8 := by rw [hx]; exact vp_in_nI (by omega) (by omega)
  have hcr : rx.toNatClampNeg = r := by rw [hx]; exact nI_clamp (by omega)
  refine Mt.of2 _ rfl (by decide +kernel) (Nat.le_of_ble_eq_true rfl) ?_
  refine GW.run kX2_mayTell (fun _ => false) 58 0 rfl ?_
  refine Mt.conseq (y_isW11 _ L hL1 I hL N e he _ _) ?_
  rintro _ _ _ ⟨rfl, rfl, ⟨h1, rfl⟩ | ⟨h1, rfl⟩⟩
  · -- pc 2 call X2_isWord true
    refine And.intro (fun _ => ?_) (fun hh => absurd hh (by decide))
    refine Mt.conseq (y_step _ L hL1 I hL N e he _ _) ?_
    rintro _ _ _ ⟨rfl, rfl, rfl⟩
    refine And.intro (by unfold vp_in; decide) ?_
    refine Mt.conseq (y_isN _ L hL1 I hL N (tE (I 32) L e) (tE_le he) _ 0 99 _) ?_
    rintro _ _ _ ⟨rfl, ⟨h3, rfl, rfl⟩ | ⟨h3, ⟨y1, rfl⟩, rfl⟩⟩
    · -- pc 21 call X2_isNumber true
      refine And.intro (fun _ => ?_) (fun hh => absurd hh (by decide))
      refine Mt.conseq (c_ror _ 21 (by decide) 2 (by decide) _ (by decide) _ _) ?_
      rintro _ _ _ ⟨rfl, rfl, rfl⟩
      refine And.intro (hbr) ?_
      refine Mt.conseq (Mt.eqI (by rw [hcr]; exact yS_set (k := 2 + 1) (by decide) rfl) (y_step _ L hL1 I hL (na_set N (2 + 1) r (vlE (I 32) L (tE (I 32) L e))) (tE (I 32) L e) (tE_le he) _ _)) ?_
      rintro _ _ _ ⟨rfl, rfl, rfl⟩
      exact ⟨na_nl_b1, rfl, Or.inl ⟨_, _, _, by rw [myR, if_pos h1, if_pos (show Nm (I 32) L 0 (mxW 2) (tE (I 32) L e) from h3)], (tE_le (tE_le he)), rfl, rfl⟩⟩
    · -- pc 21 call X2_isNumber false
      refine And.intro (fun hh => absurd hh (by decide)) (fun _ => ?_)
      exact ⟨na_nl_b0, rfl, Or.inr ⟨_, _, _, by rw [myR, if_pos h1, if_neg (show ¬ Nm (I 32) L 0 (mxW 2) (tE (I 32) L e) from h3)], (tE_le he), rfl, rfl⟩⟩
  · -- pc 2 call X2_isWord false
    refine And.intro (fun hh => absurd hh (by decide)) (fun _ => ?_)
    exact ⟨na_nl_b1, rfl, Or.inl ⟨_, _, _, by rw [myR, if_neg h1], he, rfl, rfl⟩⟩
set_option maxRecDepth 100000 in
set_option maxHeartbeats 4000000 in
theorem c_may3 (sx : Nat × (Nat → Int32)) (L : Nat) (hL1 : L ≤ 120) (I : Mm) (hL : I 31 1 = nI L) (N : Mm) (e : Nat) (he : e ≤ L) (x rx : Int32) (r : Nat) (hr : r < 8) (hx : rx = nI r) (J : Ml) : Mt sx MX2_mayTell [.ref 31, .ref 112, .ref 21, .int 3, .int rx] (yS I N L e x) J (tcP I J L (myR (I 32) L 3 r e N)) := by
  have hbr : vp_in rx 8 := by rw [hx]; exact vp_in_nI (by omega) (by omega)
  have hcr : rx.toNatClampNeg = r := by rw [hx]; exact nI_clamp (by omega)
  refine Mt.of2 _ rfl (by decide +kernel) (Nat.le_of_ble_eq_true rfl) ?_
  refine GW.run kX2_mayTell (fun _ => false) 58 0 rfl ?_
  refine Mt.conseq (y_isW12 _ L hL1 I hL N e he _ _) ?_
  rintro _ _ _ ⟨rfl, rfl, ⟨h1, rfl⟩ | ⟨h1, rfl⟩⟩
  · -- pc 2 call X2_isWord true
    refine And.intro (fun _ => ?_) (fun hh => absurd hh (by decide))
    refine Mt.conseq (y_step _ L hL1 I hL N e he _ _) ?_
    rintro _ _ _ ⟨rfl, rfl, rfl⟩
    refine And.intro (by unfold vp_in; decide) ?_
    refine Mt.conseq (y_isN _ L hL1 I hL N (tE (I 32) L e) (tE_le he) _ 0 9 _) ?_
    rintro _ _ _ ⟨rfl, ⟨h3, rfl, rfl⟩ | ⟨h3, ⟨y1, rfl⟩, rfl⟩⟩
    · -- pc 21 call X2_isNumber true
      refine And.intro (fun _ => ?_) (fun hh => absurd hh (by decide))
      refine Mt.conseq (c_ror _ 21 (by decide) 3 (by decide) _ (by decide) _ _) ?_
      rintro _ _ _ ⟨rfl, rfl, rfl⟩
      refine And.intro (hbr) ?_
      refine Mt.conseq (Mt.eqI (by rw [hcr]; exact yS_set (k := 3 + 1) (by decide) rfl) (y_step _ L hL1 I hL (na_set N (3 + 1) r (vlE (I 32) L (tE (I 32) L e))) (tE (I 32) L e) (tE_le he) _ _)) ?_
      rintro _ _ _ ⟨rfl, rfl, rfl⟩
      exact ⟨na_nl_b1, rfl, Or.inl ⟨_, _, _, by rw [myR, if_pos h1, if_pos (show Nm (I 32) L 0 (mxW 3) (tE (I 32) L e) from h3)], (tE_le (tE_le he)), rfl, rfl⟩⟩
    · -- pc 21 call X2_isNumber false
      refine And.intro (fun hh => absurd hh (by decide)) (fun _ => ?_)
      exact ⟨na_nl_b0, rfl, Or.inr ⟨_, _, _, by rw [myR, if_pos h1, if_neg (show ¬ Nm (I 32) L 0 (mxW 3) (tE (I 32) L e) from h3)], (tE_le he), rfl, rfl⟩⟩
  · -- pc 2 call X2_isWord false
    refine And.intro (fun hh => absurd hh (by decide)) (fun _ => ?_)
    exact ⟨na_nl_b1, rfl, Or.inl ⟨_, _, _, by rw [myR, if_neg h1], he, rfl, rfl⟩⟩
set_option maxRecDepth 100000 in
set_option maxHeartbeats 4000000 in
theorem c_troom (sx : Nat × (Nat → Int32)) (L : Nat) (hL1 : L ≤ 120) (I : Mm) (hL : I 31 1 = nI L) (N : Mm) (e : Nat) (he : e ≤ L) (x : Int32) (J : Ml) : Mt sx MX2_tellRoom [.ref 31, .ref 21] (yS I N L e x) J (tcP I J L (rmR2 (I 32) L e N)) := by
  have hrr : Nm (I 32) L 0 7 (tE (I 32) L e) → (vlE (I 32) L (tE (I 32) L e)).toNatClampNeg < 8 ∧ vlE (I 32) L (tE (I 32) L e) = nI (vlE (I 32) L (tE (I 32) L e)).toNatClampNeg := fun z => by
    obtain ⟨r, hr, er⟩ := nout_nI (b := 7) (by decide) z.2
    rw [er, nI_clamp (by omega)]
    exact ⟨by omega, rfl⟩
  refine Mt.of2 _ rfl (by decide +kernel) (Nat.le_of_ble_eq_true rfl) ?_
  refine GW.run kX2_tellRoom (fun _ => false) 76 0 rfl ?_
  refine Mt.conseq (y_step _ L hL1 I hL N e he _ _) ?_
  rintro _ _ _ ⟨rfl, rfl, rfl⟩
  refine Mt.conseq (y_isN _ L hL1 I hL N (tE (I 32) L e) (tE_le he) _ 0 7 _) ?_
  rintro _ _ _ ⟨rfl, ⟨h2, rfl, rfl⟩ | ⟨h2, ⟨y1, rfl⟩, rfl⟩⟩
  · -- pc 8 call X2_isNumber true
    refine And.intro (fun _ => ?_) (fun hh => absurd hh (by decide))
    refine Mt.conseq (y_step _ L hL1 I hL N (tE (I 32) L e) (tE_le he) _ _) ?_
    rintro _ _ _ ⟨rfl, rfl, rfl⟩
    refine Mt.conseq (c_may0 _ L hL1 I hL N (tE (I 32) L (tE (I 32) L e)) (tE_le (tE_le he)) _ _ (vlE (I 32) L (tE (I 32) L e)).toNatClampNeg (hrr h2).1 (hrr h2).2 _) ?_
    rintro _ _ _ ⟨rfl, ⟨e0, N0, y0, h4, he0, rfl, rfl⟩ | ⟨e0, N0, y0, h4, he0, rfl, rfl⟩⟩
    · -- pc 31 call X2_mayTell ok
      refine And.intro (fun hh => absurd hh (by decide)) (fun _ => ?_)
      refine Mt.conseq (c_may1 _ L hL1 I hL N0 e0 he0 _ _ (vlE (I 32) L (tE (I 32) L e)).toNatClampNeg (hrr h2).1 (hrr h2).2 _) ?_
      rintro _ _ _ ⟨rfl, ⟨e1, N1, y1, h5, he1, rfl, rfl⟩ | ⟨e1, N1, y1, h5, he1, rfl, rfl⟩⟩
      · -- pc 43 call X2_mayTell ok
        refine And.intro (fun hh => absurd hh (by decide)) (fun _ => ?_)
        refine Mt.conseq (c_may2 _ L hL1 I hL N1 e1 he1 _ _ (vlE (I 32) L (tE (I 32) L e)).toNatClampNeg (hrr h2).1 (hrr h2).2 _) ?_
        rintro _ _ _ ⟨rfl, ⟨e2, N2, y2, h6, he2, rfl, rfl⟩ | ⟨e2, N2, y2, h6, he2, rfl, rfl⟩⟩
        · -- pc 55 call X2_mayTell ok
          refine And.intro (fun hh => absurd hh (by decide)) (fun _ => ?_)
          refine Mt.conseq (c_may3 _ L hL1 I hL N2 e2 he2 _ _ (vlE (I 32) L (tE (I 32) L e)).toNatClampNeg (hrr h2).1 (hrr h2).2 _) ?_
          rintro _ _ _ ⟨rfl, ⟨e3, N3, y3, h7, he3, rfl, rfl⟩ | ⟨e3, N3, y3, h7, he3, rfl, rfl⟩⟩
          · -- pc 67 call X2_mayTell ok
            refine And.intro (fun hh => absurd hh (by decide)) (fun _ => ?_)
            exact ⟨na_nl_b1, rfl, Or.inl ⟨_, _, _, by rw [rmR2, if_pos h2, rmB, bindR_ok h4, bindR_ok h5, bindR_ok h6, h7], he3, rfl, rfl⟩⟩
          · -- pc 67 call X2_mayTell er
            refine And.intro (fun _ => ?_) (fun hh => absurd hh (by decide))
            exact ⟨na_nl_b0, rfl, Or.inr ⟨_, _, _, by rw [rmR2, if_pos h2, rmB, bindR_ok h4, bindR_ok h5, bindR_ok h6, h7], he3, rfl, rfl⟩⟩
        · -- pc 55 call X2_mayTell er
          refine And.intro (fun _ => ?_) (fun hh => absurd hh (by decide))
          exact ⟨na_nl_b0, rfl, Or.inr ⟨_, _, _, by rw [rmR2, if_pos h2, rmB, bindR_ok h4, bindR_ok h5, bindR_er h6], he2, rfl, rfl⟩⟩
      · -- pc 43 call X2_mayTell er
        refine And.intro (fun _ => ?_) (fun hh => absurd hh (by decide))
        exact ⟨na_nl_b0, rfl, Or.inr ⟨_, _, _, by rw [rmR2, if_pos h2, rmB, bindR_ok h4, bindR_er h5], he1, rfl, rfl⟩⟩
    · -- pc 31 call X2_mayTell er
      refine And.intro (fun _ => ?_) (fun hh => absurd hh (by decide))
      exact ⟨na_nl_b0, rfl, Or.inr ⟨_, _, _, by rw [rmR2, if_pos h2, rmB, bindR_er h4], he0, rfl, rfl⟩⟩
  · -- pc 8 call X2_isNumber false
    refine And.intro (fun hh => absurd hh (by decide)) (fun _ => ?_)
    exact ⟨na_nl_b0, rfl, Or.inr ⟨_, _, _, by rw [rmR2, if_neg h2], (tE_le he), rfl, rfl⟩⟩
set_option maxRecDepth 100000 in
set_option maxHeartbeats 4000000 in
theorem c_tone (sx : Nat × (Nat → Int32)) (L : Nat) (hL1 : L ≤ 120) (I : Mm) (hL : I 31 1 = nI L) (N : Mm) (P : Nat) (hP : N 0 7 = nI P) (hP8 : P ≤ 8) (e : Nat) (he : e ≤ L) (x kd : Int32) (J : Ml) : Mt sx MX2_tellOne [.ref 31, .ref 21, .int kd] (yS I N L e x) J (tcP I J L (oneR (I 32) L kd e N)) := by
  have hcP : (N 0 7).toNatClampNeg = P := by rw [hP]; exact nI_clamp (by omega)
  refine Mt.of2 _ rfl (by decide +kernel) (Nat.le_of_ble_eq_true rfl) ?_
  refine GW.run kX2_tellOne (fun _ => false) 85 0 rfl ?_
  refine Mt.conseq (c_full _ 21 (Or.inr rfl) N _ _) ?_
  rintro _ _ _ ⟨rfl, rfl, ⟨h1, rfl⟩ | ⟨h1, rfl⟩⟩
  · -- pc 1 call X0_isFull true
    refine And.intro (fun hh => absurd hh (by decide)) (fun _ => ?_)
    exact ⟨na_nl_b0, rfl, Or.inr ⟨_, _, _, by rw [oneR, if_pos h1], he, rfl, rfl⟩⟩
  · -- pc 1 call X0_isFull false
    have hP7 := nfull hP hP8 h1
    refine And.intro (fun _ => ?_) (fun hh => absurd hh (by decide))
    refine Mt.conseq (y_step _ L hL1 I hL N e he _ _) ?_
    rintro _ _ _ ⟨rfl, rfl, rfl⟩
    refine Mt.conseq (y_isW6 _ L hL1 I hL N (tE (I 32) L e) (tE_le he) _ _) ?_
    rintro _ _ _ ⟨rfl, rfl, ⟨h3, rfl⟩ | ⟨h3, rfl⟩⟩
    · -- pc 16 call X2_isWord true
      refine And.intro (fun _ => ?_) (fun hh => absurd hh (by decide))
      refine Mt.conseq (y_step _ L hL1 I hL N (tE (I 32) L e) (tE_le he) _ _) ?_
      rintro _ _ _ ⟨rfl, rfl, rfl⟩
      refine Mt.conseq (y_isN _ L hL1 I hL N (tE (I 32) L (tE (I 32) L e)) (tE_le (tE_le he)) _ 0 7 _) ?_
      rintro _ _ _ ⟨rfl, ⟨h5, rfl, rfl⟩ | ⟨h5, ⟨y1, rfl⟩, rfl⟩⟩
      · -- pc 32 call X2_isNumber true
        refine And.intro (fun _ => ?_) (fun hh => absurd hh (by decide))
        refine Mt.conseq (y_step _ L hL1 I hL N (tE (I 32) L (tE (I 32) L e)) (tE_le (tE_le he)) _ _) ?_
        rintro _ _ _ ⟨rfl, rfl, rfl⟩
        refine Mt.conseq (y_isW7 _ L hL1 I hL N (tE (I 32) L (tE (I 32) L (tE (I 32) L e))) (tE_le (tE_le (tE_le he))) _ _) ?_
        rintro _ _ _ ⟨rfl, rfl, ⟨h7, rfl⟩ | ⟨h7, rfl⟩⟩
        · -- pc 55 call X2_isWord true
          refine And.intro (fun hh => absurd hh (by decide)) (fun _ => ?_)
          refine Mt.conseq (y_step _ L hL1 I hL N (tE (I 32) L (tE (I 32) L (tE (I 32) L e))) (tE_le (tE_le (tE_le he))) _ _) ?_
          rintro _ _ _ ⟨rfl, rfl, rfl⟩
          refine Mt.conseq (y_isN _ L hL1 I hL N (tE (I 32) L (tE (I 32) L (tE (I 32) L (tE (I 32) L e)))) (tE_le (tE_le (tE_le (tE_le he)))) _ 1 20 _) ?_
          rintro _ _ _ ⟨rfl, ⟨h9, rfl, rfl⟩ | ⟨h9, ⟨y2, rfl⟩, rfl⟩⟩
          · -- pc 69 call X2_isNumber true
            refine And.intro (fun _ => ?_) (fun hh => absurd hh (by decide))
            refine Mt.conseq (y_step _ L hL1 I hL N (tE (I 32) L (tE (I 32) L (tE (I 32) L (tE (I 32) L e)))) (tE_le (tE_le (tE_le (tE_le he)))) _ _) ?_
            rintro _ _ _ ⟨rfl, rfl, rfl⟩
            refine Mt.conseq (c_add _ 21 (Or.inr rfl) kd (vlE (I 32) L (tE (I 32) L (tE (I 32) L e))) (vlE (I 32) L (tE (I 32) L (tE (I 32) L (tE (I 32) L (tE (I 32) L e))))) N P hP hP7 _ _) ?_
            rintro _ _ _ ⟨rfl, rfl, rfl⟩
            exact ⟨na_nl_b1, rfl, Or.inl ⟨_, _, _, by rw [oneR, if_neg h1, oneA, if_pos h3, oneB, if_pos h5, oneC, if_pos h7, if_pos h9, hcP], (tE_le (tE_le (tE_le (tE_le (tE_le he))))), rfl, rfl⟩⟩
          · -- pc 69 call X2_isNumber false
            refine And.intro (fun hh => absurd hh (by decide)) (fun _ => ?_)
            exact ⟨na_nl_b0, rfl, Or.inr ⟨_, _, _, by rw [oneR, if_neg h1, oneA, if_pos h3, oneB, if_pos h5, oneC, if_pos h7, if_neg h9], (tE_le (tE_le (tE_le (tE_le he)))), rfl, rfl⟩⟩
        · -- pc 55 call X2_isWord false
          refine And.intro (fun _ => ?_) (fun hh => absurd hh (by decide))
          refine Mt.conseq (c_add _ 21 (Or.inr rfl) kd (vlE (I 32) L (tE (I 32) L (tE (I 32) L e))) 3 N P hP hP7 _ _) ?_
          rintro _ _ _ ⟨rfl, rfl, rfl⟩
          exact ⟨na_nl_b1, rfl, Or.inl ⟨_, _, _, by rw [oneR, if_neg h1, oneA, if_pos h3, oneB, if_pos h5, oneC, if_neg h7, hcP], (tE_le (tE_le (tE_le he))), rfl, rfl⟩⟩
      · -- pc 32 call X2_isNumber false
        refine And.intro (fun hh => absurd hh (by decide)) (fun _ => ?_)
        exact ⟨na_nl_b0, rfl, Or.inr ⟨_, _, _, by rw [oneR, if_neg h1, oneA, if_pos h3, oneB, if_neg h5], (tE_le (tE_le he)), rfl, rfl⟩⟩
    · -- pc 16 call X2_isWord false
      refine And.intro (fun hh => absurd hh (by decide)) (fun _ => ?_)
      exact ⟨na_nl_b0, rfl, Or.inr ⟨_, _, _, by rw [oneR, if_neg h1, oneA, if_neg h3], (tE_le he), rfl, rfl⟩⟩
set_option maxRecDepth 100000 in
set_option maxHeartbeats 4000000 in
theorem c_kind (sx : Nat × (Nat → Int32)) (L : Nat) (hL1 : L ≤ 120) (I : Mm) (hL : I 31 1 = nI L) (N : Mm) (e : Nat) (he : e ≤ L) (x : Int32) (J : Ml) : Mt sx MX2_kindNamed [.ref 31] (yS I N L e x) J (fun r I' J' => yS I N L e x = I' ∧ J = J' ∧ ((Wd (I 32) L 0 e ∧ r = some (.int 0)) ∨ (¬ Wd (I 32) L 0 e ∧ Wd (I 32) L 1 e ∧ r = some (.int 1)) ∨ (¬ Wd (I 32) L 0 e ∧ ¬ Wd (I 32) L 1 e ∧ Wd (I 32) L 2 e ∧ r = some (.int 2)) ∨ (¬ Wd (I 32) L 0 e ∧ ¬ Wd (I 32) L 1 e ∧ ¬ Wd (I 32) L 2 e ∧ Wd (I 32) L 3 e ∧ r = some (.int 3)) ∨ (¬ Wd (I 32) L 0 e ∧ ¬ Wd (I 32) L 1 e ∧ ¬ Wd (I 32) L 2 e ∧ ¬ Wd (I 32) L 3 e ∧ Wd (I 32) L 4 e ∧ r = some (.int 4)) ∨ (¬ Wd (I 32) L 0 e ∧ ¬ Wd (I 32) L 1 e ∧ ¬ Wd (I 32) L 2 e ∧ ¬ Wd (I 32) L 3 e ∧ ¬ Wd (I 32) L 4 e ∧ Wd (I 32) L 5 e ∧ r = some (.int 5)) ∨ (¬ Wd (I 32) L 0 e ∧ ¬ Wd (I 32) L 1 e ∧ ¬ Wd (I 32) L 2 e ∧ ¬ Wd (I 32) L 3 e ∧ ¬ Wd (I 32) L 4 e ∧ ¬ Wd (I 32) L 5 e ∧ r = some (.int (-1))))) := by
  refine Mt.of2 _ rfl (by decide +kernel) (Nat.le_of_ble_eq_true rfl) ?_
  refine GW.run kX2_kindNamed (fun _ => false) 68 0 rfl ?_
  refine Mt.conseq (y_isW0 _ L hL1 I hL N e he _ _) ?_
  rintro _ _ _ ⟨rfl, rfl, ⟨h1, rfl⟩ | ⟨h1, rfl⟩⟩
  · -- pc 3 call X2_isWord true
    refine And.intro (fun hh => absurd hh (by decide)) (fun _ => ?_)
    exact ⟨trivial, rfl, rfl, Or.inl ⟨h1, rfl⟩⟩
  · -- pc 3 call X2_isWord false
    refine And.intro (fun _ => ?_) (fun hh => absurd hh (by decide))
    refine Mt.conseq (y_isW1 _ L hL1 I hL N e he _ _) ?_
    rintro _ _ _ ⟨rfl, rfl, ⟨h2, rfl⟩ | ⟨h2, rfl⟩⟩
    · -- pc 14 call X2_isWord true
      refine And.intro (fun hh => absurd hh (by decide)) (fun _ => ?_)
      exact ⟨trivial, rfl, rfl, Or.inr (Or.inl ⟨h1, h2, rfl⟩)⟩
    · -- pc 14 call X2_isWord false
      refine And.intro (fun _ => ?_) (fun hh => absurd hh (by decide))
      refine Mt.conseq (y_isW2 _ L hL1 I hL N e he _ _) ?_
      rintro _ _ _ ⟨rfl, rfl, ⟨h3, rfl⟩ | ⟨h3, rfl⟩⟩
      · -- pc 25 call X2_isWord true
        refine And.intro (fun hh => absurd hh (by decide)) (fun _ => ?_)
        exact ⟨trivial, rfl, rfl, Or.inr (Or.inr (Or.inl ⟨h1, h2, h3, rfl⟩))⟩
      · -- pc 25 call X2_isWord false
        refine And.intro (fun _ => ?_) (fun hh => absurd hh (by decide))
        refine Mt.conseq (y_isW3 _ L hL1 I hL N e he _ _) ?_
        rintro _ _ _ ⟨rfl, rfl, ⟨h4, rfl⟩ | ⟨h4, rfl⟩⟩
        · -- pc 36 call X2_isWord true
          refine And.intro (fun hh => absurd hh (by decide)) (fun _ => ?_)
          exact ⟨trivial, rfl, rfl, Or.inr (Or.inr (Or.inr (Or.inl ⟨h1, h2, h3, h4, rfl⟩)))⟩
        · -- pc 36 call X2_isWord false
          refine And.intro (fun _ => ?_) (fun hh => absurd hh (by decide))
          refine Mt.conseq (y_isW4 _ L hL1 I hL N e he _ _) ?_
          rintro _ _ _ ⟨rfl, rfl, ⟨h5, rfl⟩ | ⟨h5, rfl⟩⟩
          · -- pc 47 call X2_isWord true
            refine And.intro (fun hh => absurd hh (by decide)) (fun _ => ?_)
            exact ⟨trivial, rfl, rfl, Or.inr (Or.inr (Or.inr (Or.inr (Or.inl ⟨h1, h2, h3, h4, h5, rfl⟩))))⟩
          · -- pc 47 call X2_isWord false
            refine And.intro (fun _ => ?_) (fun hh => absurd hh (by decide))
            refine Mt.conseq (y_isW5 _ L hL1 I hL N e he _ _) ?_
            rintro _ _ _ ⟨rfl, rfl, ⟨h6, rfl⟩ | ⟨h6, rfl⟩⟩
            · -- pc 58 call X2_isWord true
              refine And.intro (fun hh => absurd hh (by decide)) (fun _ => ?_)
              exact ⟨trivial, rfl, rfl, Or.inr (Or.inr (Or.inr (Or.inr (Or.inr (Or.inl ⟨h1, h2, h3, h4, h5, h6, rfl⟩)))))⟩
            · -- pc 58 call X2_isWord false
              refine And.intro (fun _ => ?_) (fun hh => absurd hh (by decide))
              exact ⟨trivial, rfl, rfl, Or.inr (Or.inr (Or.inr (Or.inr (Or.inr (Or.inr (⟨h1, h2, h3, h4, h5, h6, rfl⟩))))))⟩
set_option maxRecDepth 100000 in
set_option maxHeartbeats 4000000 in
theorem c_titem (sx : Nat × (Nat → Int32)) (L : Nat) (hL1 : L ≤ 120) (I : Mm) (hL : I 31 1 = nI L) (N : Mm) (P : Nat) (hP : N 0 7 = nI P) (hP8 : P ≤ 8) (e : Nat) (he : e ≤ L) (x : Int32) (J : Ml) : Mt sx MX2_tellItem [.ref 31, .ref 21] (yS I N L e x) J (tcP I J L (tiR (I 32) L e N)) := by
  refine Mt.of2 _ rfl (by decide +kernel) (Nat.le_of_ble_eq_true rfl) ?_
  refine GW.run kX2_tellItem (fun _ => false) 86 0 rfl ?_
  refine Mt.conseq (c_kind _ L hL1 I hL N e he x _) ?_
  rintro _ _ _ ⟨rfl, rfl, ⟨h0_0, rfl⟩ | ⟨h1_0, h1_1, rfl⟩ | ⟨h2_0, h2_1, h2_2, rfl⟩ | ⟨h3_0, h3_1, h3_2, h3_3, rfl⟩ | ⟨h4_0, h4_1, h4_2, h4_3, h4_4, rfl⟩ | ⟨h5_0, h5_1, h5_2, h5_3, h5_4, h5_5, rfl⟩ | ⟨h6_0, h6_1, h6_2, h6_3, h6_4, h6_5, rfl⟩⟩
  · -- pc 1 call X2_kindNamed k0
    refine And.intro (fun hh => absurd hh (by decide)) (fun _ => ?_)
    refine Mt.conseq (c_tone _ L hL1 I hL N P hP hP8 e he x 0 _) ?_
    rintro _ _ _ ⟨rfl, ⟨eZ, NZ, yZ, h2, heZ, rfl, rfl⟩ | ⟨eZ, NZ, yZ, h2, heZ, rfl, rfl⟩⟩
    · -- pc 12 call X2_tellOne ok
      exact ⟨na_nl_b1, rfl, Or.inl ⟨_, _, _, by rw [tiR, if_pos h0_0, h2], heZ, rfl, rfl⟩⟩
    · -- pc 12 call X2_tellOne er
      exact ⟨na_nl_b0, rfl, Or.inr ⟨_, _, _, by rw [tiR, if_pos h0_0, h2], heZ, rfl, rfl⟩⟩
  · -- pc 1 call X2_kindNamed k1
    refine And.intro (fun hh => absurd hh (by decide)) (fun _ => ?_)
    refine Mt.conseq (c_tone _ L hL1 I hL N P hP hP8 e he x 1 _) ?_
    rintro _ _ _ ⟨rfl, ⟨eZ, NZ, yZ, h3, heZ, rfl, rfl⟩ | ⟨eZ, NZ, yZ, h3, heZ, rfl, rfl⟩⟩
    · -- pc 12 call X2_tellOne ok
      exact ⟨na_nl_b1, rfl, Or.inl ⟨_, _, _, by rw [tiR, if_neg h1_0, if_pos h1_1, h3], heZ, rfl, rfl⟩⟩
    · -- pc 12 call X2_tellOne er
      exact ⟨na_nl_b0, rfl, Or.inr ⟨_, _, _, by rw [tiR, if_neg h1_0, if_pos h1_1, h3], heZ, rfl, rfl⟩⟩
  · -- pc 1 call X2_kindNamed k2
    refine And.intro (fun hh => absurd hh (by decide)) (fun _ => ?_)
    refine Mt.conseq (c_tone _ L hL1 I hL N P hP hP8 e he x 2 _) ?_
    rintro _ _ _ ⟨rfl, ⟨eZ, NZ, yZ, h4, heZ, rfl, rfl⟩ | ⟨eZ, NZ, yZ, h4, heZ, rfl, rfl⟩⟩
    · -- pc 12 call X2_tellOne ok
      exact ⟨na_nl_b1, rfl, Or.inl ⟨_, _, _, by rw [tiR, if_neg h2_0, if_neg h2_1, if_pos h2_2, h4], heZ, rfl, rfl⟩⟩
    · -- pc 12 call X2_tellOne er
      exact ⟨na_nl_b0, rfl, Or.inr ⟨_, _, _, by rw [tiR, if_neg h2_0, if_neg h2_1, if_pos h2_2, h4], heZ, rfl, rfl⟩⟩
  · -- pc 1 call X2_kindNamed k3
    refine And.intro (fun hh => absurd hh (by decide)) (fun _ => ?_)
    refine Mt.conseq (c_tone _ L hL1 I hL N P hP hP8 e he x 3 _) ?_
    rintro _ _ _ ⟨rfl, ⟨eZ, NZ, yZ, h5, heZ, rfl, rfl⟩ | ⟨eZ, NZ, yZ, h5, heZ, rfl, rfl⟩⟩
    · -- pc 12 call X2_tellOne ok
      exact ⟨na_nl_b1, rfl, Or.inl ⟨_, _, _, by rw [tiR, if_neg h3_0, if_neg h3_1, if_neg h3_2, if_pos h3_3, h5], heZ, rfl, rfl⟩⟩
    · -- pc 12 call X2_tellOne er
      exact ⟨na_nl_b0, rfl, Or.inr ⟨_, _, _, by rw [tiR, if_neg h3_0, if_neg h3_1, if_neg h3_2, if_pos h3_3, h5], heZ, rfl, rfl⟩⟩
  · -- pc 1 call X2_kindNamed k4
    refine And.intro (fun hh => absurd hh (by decide)) (fun _ => ?_)
    refine Mt.conseq (c_tone _ L hL1 I hL N P hP hP8 e he x 4 _) ?_
    rintro _ _ _ ⟨rfl, ⟨eZ, NZ, yZ, h6, heZ, rfl, rfl⟩ | ⟨eZ, NZ, yZ, h6, heZ, rfl, rfl⟩⟩
    · -- pc 12 call X2_tellOne ok
      exact ⟨na_nl_b1, rfl, Or.inl ⟨_, _, _, by rw [tiR, if_neg h4_0, if_neg h4_1, if_neg h4_2, if_neg h4_3, if_pos h4_4, h6], heZ, rfl, rfl⟩⟩
    · -- pc 12 call X2_tellOne er
      exact ⟨na_nl_b0, rfl, Or.inr ⟨_, _, _, by rw [tiR, if_neg h4_0, if_neg h4_1, if_neg h4_2, if_neg h4_3, if_pos h4_4, h6], heZ, rfl, rfl⟩⟩
  · -- pc 1 call X2_kindNamed k5
    refine And.intro (fun hh => absurd hh (by decide)) (fun _ => ?_)
    refine Mt.conseq (c_tone _ L hL1 I hL N P hP hP8 e he x 5 _) ?_
    rintro _ _ _ ⟨rfl, ⟨eZ, NZ, yZ, h7, heZ, rfl, rfl⟩ | ⟨eZ, NZ, yZ, h7, heZ, rfl, rfl⟩⟩
    · -- pc 12 call X2_tellOne ok
      exact ⟨na_nl_b1, rfl, Or.inl ⟨_, _, _, by rw [tiR, if_neg h5_0, if_neg h5_1, if_neg h5_2, if_neg h5_3, if_neg h5_4, if_pos h5_5, h7], heZ, rfl, rfl⟩⟩
    · -- pc 12 call X2_tellOne er
      exact ⟨na_nl_b0, rfl, Or.inr ⟨_, _, _, by rw [tiR, if_neg h5_0, if_neg h5_1, if_neg h5_2, if_neg h5_3, if_neg h5_4, if_pos h5_5, h7], heZ, rfl, rfl⟩⟩
  · -- pc 1 call X2_kindNamed k6
    refine And.intro (fun _ => ?_) (fun hh => absurd hh (by decide))
    refine Mt.conseq (y_isW8 _ L hL1 I hL N e he _ _) ?_
    rintro _ _ _ ⟨rfl, rfl, ⟨h8, rfl⟩ | ⟨h8, rfl⟩⟩
    · -- pc 19 call X2_isWord true
      refine And.intro (fun hh => absurd hh (by decide)) (fun _ => ?_)
      refine Mt.conseq (c_troom _ L hL1 I hL N e he x _) ?_
      rintro _ _ _ ⟨rfl, ⟨eZ, NZ, yZ, h9, heZ, rfl, rfl⟩ | ⟨eZ, NZ, yZ, h9, heZ, rfl, rfl⟩⟩
      · -- pc 27 call X2_tellRoom ok
        exact ⟨na_nl_b1, rfl, Or.inl ⟨_, _, _, by rw [tiR, if_neg h6_0, if_neg h6_1, if_neg h6_2, if_neg h6_3, if_neg h6_4, if_neg h6_5, tiB, if_pos h8, h9], heZ, rfl, rfl⟩⟩
      · -- pc 27 call X2_tellRoom er
        exact ⟨na_nl_b0, rfl, Or.inr ⟨_, _, _, by rw [tiR, if_neg h6_0, if_neg h6_1, if_neg h6_2, if_neg h6_3, if_neg h6_4, if_neg h6_5, tiB, if_pos h8, h9], heZ, rfl, rfl⟩⟩
    · -- pc 19 call X2_isWord false
      refine And.intro (fun _ => ?_) (fun hh => absurd hh (by decide))
      refine Mt.conseq (y_isW13 _ L hL1 I hL N e he _ _) ?_
      rintro _ _ _ ⟨rfl, rfl, ⟨h10, rfl⟩ | ⟨h10, rfl⟩⟩
      · -- pc 34 call X2_isWord true
        refine And.intro (fun hh => absurd hh (by decide)) (fun _ => ?_)
        refine Mt.conseq (c_tdoor _ L hL1 I hL N e he x 1 _) ?_
        rintro _ _ _ ⟨rfl, ⟨eZ, NZ, yZ, h11, heZ, rfl, rfl⟩ | ⟨eZ, NZ, yZ, h11, heZ, rfl, rfl⟩⟩
        · -- pc 43 call X2_tellDoor ok
          exact ⟨na_nl_b1, rfl, Or.inl ⟨_, _, _, by rw [tiR, if_neg h6_0, if_neg h6_1, if_neg h6_2, if_neg h6_3, if_neg h6_4, if_neg h6_5, tiB, if_neg h8, if_pos h10, h11], heZ, rfl, rfl⟩⟩
        · -- pc 43 call X2_tellDoor er
          exact ⟨na_nl_b0, rfl, Or.inr ⟨_, _, _, by rw [tiR, if_neg h6_0, if_neg h6_1, if_neg h6_2, if_neg h6_3, if_neg h6_4, if_neg h6_5, tiB, if_neg h8, if_pos h10, h11], heZ, rfl, rfl⟩⟩
      · -- pc 34 call X2_isWord false
        refine And.intro (fun _ => ?_) (fun hh => absurd hh (by decide))
        refine Mt.conseq (y_isW14 _ L hL1 I hL N e he _ _) ?_
        rintro _ _ _ ⟨rfl, rfl, ⟨h12, rfl⟩ | ⟨h12, rfl⟩⟩
        · -- pc 50 call X2_isWord true
          refine And.intro (fun hh => absurd hh (by decide)) (fun _ => ?_)
          refine Mt.conseq (c_tdoor _ L hL1 I hL N e he x 0 _) ?_
          rintro _ _ _ ⟨rfl, ⟨eZ, NZ, yZ, h13, heZ, rfl, rfl⟩ | ⟨eZ, NZ, yZ, h13, heZ, rfl, rfl⟩⟩
          · -- pc 59 call X2_tellDoor ok
            exact ⟨na_nl_b1, rfl, Or.inl ⟨_, _, _, by rw [tiR, if_neg h6_0, if_neg h6_1, if_neg h6_2, if_neg h6_3, if_neg h6_4, if_neg h6_5, tiB, if_neg h8, if_neg h10, if_pos h12, h13], heZ, rfl, rfl⟩⟩
          · -- pc 59 call X2_tellDoor er
            exact ⟨na_nl_b0, rfl, Or.inr ⟨_, _, _, by rw [tiR, if_neg h6_0, if_neg h6_1, if_neg h6_2, if_neg h6_3, if_neg h6_4, if_neg h6_5, tiB, if_neg h8, if_neg h10, if_pos h12, h13], heZ, rfl, rfl⟩⟩
        · -- pc 50 call X2_isWord false
          refine And.intro (fun _ => ?_) (fun hh => absurd hh (by decide))
          refine Mt.conseq (y_isW15 _ L hL1 I hL N e he _ _) ?_
          rintro _ _ _ ⟨rfl, rfl, ⟨h14, rfl⟩ | ⟨h14, rfl⟩⟩
          · -- pc 66 call X2_isWord true
            refine And.intro (fun hh => absurd hh (by decide)) (fun _ => ?_)
            refine Mt.conseq (c_tcold _ L hL1 I hL N e he x 1 _) ?_
            rintro _ _ _ ⟨rfl, ⟨eZ, NZ, yZ, h15, heZ, rfl, rfl⟩ | ⟨eZ, NZ, yZ, h15, heZ, rfl, rfl⟩⟩
            · -- pc 75 call X2_tellCold ok
              exact ⟨na_nl_b1, rfl, Or.inl ⟨_, _, _, by rw [tiR, if_neg h6_0, if_neg h6_1, if_neg h6_2, if_neg h6_3, if_neg h6_4, if_neg h6_5, tiB, if_neg h8, if_neg h10, if_neg h12, if_pos h14, h15], heZ, rfl, rfl⟩⟩
            · -- pc 75 call X2_tellCold er
              exact absurd h15 (by simp)
          · -- pc 66 call X2_isWord false
            refine And.intro (fun _ => ?_) (fun hh => absurd hh (by decide))
            refine Mt.conseq (y_isW16 _ L hL1 I hL N e he _ _) ?_
            rintro _ _ _ ⟨rfl, rfl, ⟨h16, rfl⟩ | ⟨h16, rfl⟩⟩
            · -- pc 82 call X2_isWord true
              refine And.intro (fun hh => absurd hh (by decide)) (fun _ => ?_)
              refine Mt.conseq (c_tcold _ L hL1 I hL N e he x 0 _) ?_
              rintro _ _ _ ⟨rfl, ⟨eZ, NZ, yZ, h17, heZ, rfl, rfl⟩ | ⟨eZ, NZ, yZ, h17, heZ, rfl, rfl⟩⟩
              · -- pc 91 call X2_tellCold ok
                exact ⟨na_nl_b1, rfl, Or.inl ⟨_, _, _, by rw [tiR, if_neg h6_0, if_neg h6_1, if_neg h6_2, if_neg h6_3, if_neg h6_4, if_neg h6_5, tiB, if_neg h8, if_neg h10, if_neg h12, if_neg h14, if_pos h16, h17], heZ, rfl, rfl⟩⟩
              · -- pc 91 call X2_tellCold er
                exact absurd h17 (by simp)
            · -- pc 82 call X2_isWord false
              refine And.intro (fun _ => ?_) (fun hh => absurd hh (by decide))
              exact ⟨na_nl_b0, rfl, Or.inr ⟨_, _, _, by rw [tiR, if_neg h6_0, if_neg h6_1, if_neg h6_2, if_neg h6_3, if_neg h6_4, if_neg h6_5, tiB, if_neg h8, if_neg h10, if_neg h12, if_neg h14, if_neg h16], he, rfl, rfl⟩⟩
