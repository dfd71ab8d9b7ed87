/-! STRETCHES, METHODS -/
def GW (sx : Nat × (Nat → Int32)) (q : MI) (Rt : Option Value → Mm → Ml → Prop) (pc : Nat) (ls : Lo) (st : List Value) (I : Mm) (J : Ml) : Prop :=
  ∀ (p : Program) (l : Launch) (e : Env) (R : Room) (s s0 : State) (m : MethodId) (args : Array Value) (below : List Frame) (meth : Method) (c : Code) (cells slots : Nat) (Q : State → Prop) (D : va_G) (ca ad : Nat → Nat) (fm : Value) (N0 : Nat),
    na_B sx D ca ad fm N0 s0 q.1.cls q.2.1 q.2.2.1 q.2.2.2.2.1 q.2.2.2.2.2 p R s m args c cells slots → na_En D ca ad fm N0 q.2.1 q.2.2.2.1 Rt p l e R s m args below meth c cells slots Q →
    ∀ (H : Heap) (locs : List Loc) (lsA : Array Slot), na_iv D ca ad fm N0 s q.2.2.1 H locs lsA ls I J → W p l e R s m args below meth c H locs cells slots Q (F0 m pc lsA (st.map (na_tv ad fm)))
/-- a checked program of a method -/
def na_okP (q : MI) (P : List En) : Prop := na_okS q.1.cls q.2.1 P q.2.2.1 q.2.2.2.1 q.2.2.2.2.1 q.2.2.2.2.2 P
theorem GW_wp {sx : Nat × (Nat → Int32)} {q : MI} {P : List En} (hP : na_okP q P) {Rt : Option Value → Mm → Ml → Prop} {cut : Nat → Bool} : ∀ (n : Nat) (sfx : List En), na_okS q.1.cls q.2.1 P q.2.2.1 q.2.2.2.1 q.2.2.2.2.1 q.2.2.2.2.2 sfx → ∀ (ls : Lo) (st : List Value) (I : Mm) (J : Ml), na_wp P sx q.2.2.2.1 Rt (GW sx q Rt) cut n sfx ls st I J → ∀ (x : En) (r : List En), sfx = x :: r → GW sx q Rt x.1 ls st I J
  | 0, sfx, hS, ls, st, I, J, h, x, r, e => by
    subst e
    exact h
  | n + 1, sfx, hS, ls, st, I, J, h, x, r, e => by
    subst e
    intro p l e R s s0 m args below meth c cells slots Q D ca ad fm N0 hB hE H locs lsA hiv
    refine na_step (k := na_go (GW sx q Rt) cut (na_wp P sx q.2.2.2.1 Rt (GW sx q Rt) cut n)) hB hE hP (fun ls st I J h => h) ?_ hS h x r rfl H locs lsA hiv
    intro sfx ls st I J hS2 hgo y r2 e2 H locs lsA hiv
    subst e2
    unfold na_go at hgo
    cases hc : cut y.1 with
    | true =>
      simp only [hc, cond_true] at hgo
      exact hgo p l e R s s0 m args below meth c cells slots Q D ca ad fm N0 hB hE H locs lsA hiv
    | false =>
      simp only [hc, cond_false] at hgo
      exact GW_wp hP n _ hS2 ls st I J hgo y r2 rfl p l e R s s0 m args below meth c cells slots Q D ca ad fm N0 hB hE H locs lsA hiv
/-- from row t of the program on, which stands at pc -/
theorem GW.run {sx : Nat × (Nat → Int32)} {q : MI} {P : List En} (hP : na_okP q P) {Rt : Option Value → Mm → Ml → Prop} (cut : Nat → Bool) (n t : Nat) {pc : Nat} (hpc : (match na_dr t P with | [] => none | x :: _ => some x.1) = some pc) {ls : Lo} {st : List Value} {I : Mm} {J : Ml} (h : na_wp P sx q.2.2.2.1 Rt (GW sx q Rt) cut n (na_dr t P) ls st I J) : GW sx q Rt pc ls st I J := by
  split at hpc
  · cases hpc
  · rename_i x r hx
    cases hpc
    exact GW_wp hP n (na_dr t P) (na_okS.drop hP t) ls st I J h x r hx
theorem GW.conseq {sx : Nat × (Nat → Int32)} {q : MI} {R1 R2 : Option Value → Mm → Ml → Prop} {pc : Nat} {ls : Lo} {st : List Value} {I : Mm} {J : Ml} (h : GW sx q R1 pc ls st I J) (hr : ∀ v I' J', R1 v I' J' → R2 v I' J') : GW sx q R2 pc ls st I J :=
  fun p l e R s s0 m args below meth c cells slots Q D ca ad fm N0 hB hE H locs lsA hiv => h p l e R s s0 m args below meth c cells slots Q D ca ad fm N0 hB (fun v I J H locs pc lsA h1 => hE v I J H locs pc lsA (hr _ _ _ h1)) H locs lsA hiv
/-- more locals are known than are asked for -/
def na_le : Lo → Lo → Prop
  | [], _ => True
  | none :: a, _ :: b => na_le a b
  | some v :: a, some w :: b => v = w ∧ na_le a b
  | none :: a, [] => na_le a []
  | _, _ => False
theorem na_le_get : ∀ (a b : Lo), na_le a b → ∀ (i : Nat) (v : Value), a[i]? = some (some v) → b[i]? = some (some v)
  | [], _, _, i, v, h => by simp at h
  | none :: a, y :: b, hl, 0, v, h => by simp at h
  | none :: a, y :: b, hl, i + 1, v, h => by
    simp only [List.getElem?_cons_succ] at h ⊢
    exact na_le_get a b hl i v h
  | some x :: a, some y :: b, hl, 0, v, h => by
    simp only [List.getElem?_cons_zero] at h ⊢
    rw [← hl.1]
    exact h
  | some x :: a, some y :: b, hl, i + 1, v, h => by
    simp only [List.getElem?_cons_succ] at h ⊢
    exact na_le_get a b hl.2 i v h
  | none :: a, [], hl, 0, v, h => by simp at h
  | none :: a, [], hl, i + 1, v, h => by
    simp only [List.getElem?_cons_succ] at h
    have := na_le_get a [] hl i v h
    simp at this
  | some x :: a, [], hl, i, v, h => by exact (show False from hl).elim
  | some x :: a, none :: b, hl, i, v, h => by exact (show False from hl).elim
theorem GW.weak {sx : Nat × (Nat → Int32)} {q : MI} {Rt : Option Value → Mm → Ml → Prop} {pc : Nat} {ls ls' : Lo} {st : List Value} {I : Mm} {J : Ml} (h : GW sx q Rt pc ls st I J) (hl : na_le ls ls') : GW sx q Rt pc ls' st I J :=
  fun p l e R s s0 m args below meth c cells slots Q D ca ad fm N0 hB hE H locs lsA hiv => h p l e R s s0 m args below meth c cells slots Q D ca ad fm N0 hB hE H locs lsA ⟨hiv.1, hiv.2.1, hiv.2.2.1, hiv.2.2.2.1, hiv.2.2.2.2.1, fun i v hv => hiv.2.2.2.2.2 i v (na_le_get _ _ hl i v hv)⟩
/-- the locals at a method's entry -/
def na_ent : List Value → Lo
  | [] => []
  | .long x :: r => some (.long x) :: none :: na_ent r
  | .double x :: r => some (.double x) :: none :: na_ent r
  | v :: r => some v :: na_ent r
theorem na_ent_args {ad : Nat → Nat} {fm : Value} (hf : fm = .null ∨ ∃ t : Nat, fm = .ref t) : ∀ (av : List Value) (k i : Nat) (v : Value), (na_ent av)[i]? = some (some v) → (k + i, na_tv ad fm v) ∈ lv_args k (av.map (na_tv ad fm))
  | [], k, i, v, h => by simp [na_ent] at h
  | w :: r, k, i, v, h => by
    have ih := na_ent_args (ad := ad) hf r
    have hc := na_tv_cat (ad := ad) hf w
    cases w with
    | long x =>
      simp only [List.map_cons, lv_args]
      rw [hc]
      match i, h with
      | 0, h =>
        simp only [na_ent, List.getElem?_cons_zero, Option.some.injEq] at h
        subst h
        simp
      | 1, h => simp [na_ent] at h
      | i + 2, h =>
        have := ih (k + 2) i v (by simpa [na_ent] using h)
        rw [show k + 2 + i = k + (i + 2) by omega] at this
        exact List.mem_cons_of_mem _ this
    | double x =>
      simp only [List.map_cons, lv_args]
      rw [hc]
      match i, h with
      | 0, h =>
        simp only [na_ent, List.getElem?_cons_zero, Option.some.injEq] at h
        subst h
        simp
      | 1, h => simp [na_ent] at h
      | i + 2, h =>
        have := ih (k + 2) i v (by simpa [na_ent] using h)
        rw [show k + 2 + i = k + (i + 2) by omega] at this
        exact List.mem_cons_of_mem _ this
    | _ =>
      simp only [List.map_cons, lv_args]
      rw [hc]
      match i, h with
      | 0, h =>
        simp only [na_ent, List.getElem?_cons_zero, Option.some.injEq] at h
        subst h
        simp
      | i + 1, h =>
        have := ih (k + 1) i v (by simpa [na_ent] using h)
        rw [show k + 1 + i = k + (i + 1) by omega] at this
        simp [Value.category, this]
theorem na_wds (av : List Value) : na_ct av = na_ct av := rfl
set_option maxHeartbeats 4000000 in
theorem Mt.of {sx : Nat × (Nat → Int32)} {j : Nat} (q : MI) (hq : na_mi j = q) (hpn : plainName q.1.cls = true) {av : List Value} {I : Mm} {J : Ml} {Post : Option Value → Mm → Ml → Prop} (hct : na_ct av ≤ q.2.2.1) (h : GW sx q Post 0 (na_ent av) [] I J) : Mt sx j av I J Post := by
  subst hq
  intro l D ca ad fm N0 s0 hC
  refine Met.ofW (cc := (na_mi j).2.1) (maxL := (na_mi j).2.2.1) (ret := (na_mi j).2.2.2.1) hpn rfl ?_
  intro p e s m args below meth c s₁ B hml hv
  obtain ⟨hargs, hal, hKw, hR⟩ := hv
  subst hargs
  have hfm := hC.2.2.2.2.2.2
  have hts : ∀ w ∈ na_ww (na_mi j), w.before (av.map (na_tv ad fm)).toArray s = true := atoms_spec (ws := na_ww (na_mi j)) B.pre
  have hown : s.vm.findClass (na_mi j).1.cls = some m.cls := findClass_of_methodNamed B.named
  have hB : na_B sx D ca ad fm N0 s0 (na_mi j).1.cls (na_mi j).2.1 (na_mi j).2.2.1 (na_mi j).2.2.2.2.1 (na_mi j).2.2.2.2.2 p (headSpec (na_ww (na_mi j)) (na_rm (na_mi j))).room s m (av.map (na_tv ad fm)).toArray c 0 0 := ⟨hC, B.exec, B.bytes, hml, hown, fun w hw => hts w (List.mem_cons_of_mem _ hw), hKw, hal, hR.2.2.2, hR.2.2.1, Nat.le_refl _, Nat.le_refl _, Nat.le_refl _, Nat.le_refl _⟩
  have hlen : (lg_sl (av.map (na_tv ad fm))).length ≤ (na_mi j).2.2.1 := by
    have : (lg_sl (av.map (na_tv ad fm))).length = na_ct av := by
      clear hct hts hown hB h hml B hR
      induction av with
      | nil => rfl
      | cons v r ih =>
        have hc := na_tv_cat (ad := ad) hfm v
        simp only [List.map_cons, lg_sl, List.flatMap_cons, List.length_append] at ih ⊢
        rw [ih, hc]
        cases v <;> simp [na_ct, Value.category]
    omega
  have hl := lv_entry (av.map (na_tv ad fm)) hlen
  rw [lg_entry_eq]
  refine h p l e _ s s0 m _ below meth c 0 0 _ D ca ad fm N0 hB ?_ s.heap [] _ ⟨hR.1, hR.2.1, va_S.rf, hl.1, hl.2.1, fun i v hv => hl.2.2 (i, na_tv ad fm v) (by simpa using na_ent_args hfm av 0 i v hv)⟩
  intro v I' J' H locs pc lsA hpost hP' hD' hS' hrd
  have hRt : ∀ t : State, t.heap = H → na_Qc D ca ad fm N0 s0 Post (av.map (na_tv ad fm)).toArray s (.returned (v.map (na_tv ad fm))) t := fun t ht => ⟨v, I', J', rfl, hpost, by
    rw [ht]
    exact ⟨hP', hD', Nat.le_trans hR.2.2.1 hS'.1, fun q hq => (hS'.2.1 q (Nat.lt_of_lt_of_le hq hR.2.2.1) (Nat.not_le.mpr hq)).trans (hR.2.2.2 q hq)⟩, by rw [ht]; exact hS'.1⟩
  have hlocks := B.notSynchronized
  cases v with
  | none =>
    obtain ⟨r1, r2⟩ := hrd
    exact W.vret B.exec B.bytes (B.returns.trans r2) (fun t ht _ => hRt t ht) hS'.2.2 r1
  | some v =>
    cases v with
    | int v =>
      obtain ⟨r1, ty, r2, r3, r4⟩ := hrd
      refine W.zret B.exec B.bytes (B.returns.trans r2) ?_ (fun t ht _ => hRt t ht) hS'.2.2 r1
      cases ty <;> first | exact r4 | rfl | cases r3
    | long v =>
      obtain ⟨r1, r2⟩ := hrd
      exact W.lret B.exec B.bytes (B.returns.trans r2) (fun t ht _ => hRt t ht) hS'.2.2 r1
    | ref a =>
      obtain ⟨r1, r2, ty, r3, r4⟩ := hrd
      refine W.aret (v := na_tv ad fm (.ref a)) B.exec B.bytes (B.returns.trans r3) ?_ (Or.inr ⟨ad a, na_tv_ref r2⟩) (fun t ht _ => hRt t ht) hS'.2.2 r1
      cases ty <;> first | exact Or.inl ⟨_, rfl⟩ | exact Or.inr ⟨_, rfl⟩ | cases r4
    | _ => exact (show False from hrd).elim
