section NaStep
variable {p : Program} {l : Launch} {e : Env} {R : Room} {s s0 : State} {m : MethodId} {args : Array Value} {below : List Frame} {meth : Method} {c : Code} {cells slots : Nat} {Q : State → Prop}
variable {sx : Nat × (Nat → Int32)} {D : va_G} {ca ad : Nat → Nat} {fm : Value} {N0 : Nat} {own : String} {cc : ByteArray} {P : List En} {nL fr lo : Nat} {rt : Option FieldType} {Rt : Option Value → Mm → Ml → Prop}
theorem na_tv_ref {ad : Nat → Nat} {fm : Value} {a : Nat} (h : a ≠ 90) : na_tv ad fm (.ref a) = .ref (ad a) := if_neg h
theorem na_lay_lt {a : Nat} {x : Ly} (h : na_nth na_lay a = some x) : a ≠ 90 := by
  intro q
  subst q
  have h2 : na_nth na_lay 90 = none := by decide +kernel
  rw [h2] at h
  cases h
theorem na_sa_ne {sx : Nat × (Nat → Int32)} {a : Nat} {x : Nat × (Nat → Int32)} (h : na_sa sx a = some x) : a ≠ 90 := by
  intro q
  subst q
  simp [na_sa] at h
theorem na_sb_ne {a : Nat} {x : Nat × (Nat → Int32)} (h : na_sb a = some x) : a ≠ 90 := by
  intro q
  subst q
  simp [na_sb] at h
theorem na_wd_lt {i : Nat} {q : Nat × String × List Int32} (h : na_nth na_wd i = some q) : i < 17 := by
  rw [na_nth_eq] at h
  exact (List.getElem?_eq_some_iff.mp h).1
theorem na_wd_at {i : Nat} (h : i < 17) : ∃ q, na_nth na_wd i = some q := by
  rw [na_nth_eq]
  exact ⟨_, List.getElem?_eq_getElem h⟩
theorem na_C.T {A' : Nat → Prop} {ty : FieldType} {a n : Nat} {f : Nat → Value} (h : va_T ty a n f A' s0 s0.heap) (hal : s0.vm.Alike s.vm) (hh : ∀ q : Nat, ¬ A' q → s.heap[q]? = s0.heap[q]?) : va_T ty a n f A' s s.heap := (h.moved hal).kept (fun q _ hq => hh q hq)
theorem na_C.Z {A' : Nat → Prop} {C n d : String} {v : Value} (h : va_Z C n d v A' s0 s0.heap) (hal : s0.vm.Alike s.vm) (hh : ∀ q : Nat, ¬ A' q → s.heap[q]? = s0.heap[q]?) : va_Z C n d v A' s s.heap := (h.moved hal).kept (fun q _ hq => hh q hq)
theorem na_C.OF {A' : Nat → Prop} {o n d : String} {v : Value} {a : Nat} (h : va_OF o n d v a A' s0 s0.heap) (hal : s0.vm.Alike s.vm) (hh : ∀ q : Nat, ¬ A' q → s.heap[q]? = s0.heap[q]?) : va_OF o n d v a A' s s.heap := (h.moved hal).kept (fun q _ hq => hh q hq)
theorem na_C.O {A' : Nat → Prop} {E : String} {a : Nat} (h : va_O E a A' s0 s0.heap) (hal : s0.vm.Alike s.vm) (hh : ∀ q : Nat, ¬ A' q → s.heap[q]? = s0.heap[q]?) : va_O E a A' s s.heap := (va_O.moved hal h).kept (fun q _ hq => hh q hq)
theorem na_beqF {a b : Nat} (h : ¬ a = b) : Nat.beq a b = false := by
  cases hq : Nat.beq a b with
  | false => rfl
  | true => exact absurd (Nat.eq_of_beq_eq_true hq) h
theorem na_lay_f : ∀ x ∈ na_lay, (match x with | .inr q => q.2.all (fun f => Nat.blt f 90) | .inl _ => true) = true := by decide +kernel
theorem na_lay_fl {a c j f : Nat} {fs : List Nat} (h : na_nth na_lay a = some (.inr (c, fs))) (hf : na_nth fs j = some f) : f < 90 := by
  rw [na_nth_eq] at h hf
  have h1 := na_lay_f _ (List.mem_of_getElem? h)
  have h2 := List.all_eq_true.mp h1 f (List.mem_of_getElem? hf)
  exact Nat.le_of_ble_eq_true h2
theorem na_fw_tv {ad : Nat → Nat} {fm : Value} {I : Mm} {J : Ml} {k j : Nat} : ∀ (f : Nat), f < 90 → na_tv ad fm (na_fw I J k j f) = na_fv ad I J k j f
  | 0, _ => rfl
  | 1, _ => rfl
  | n + 2, h => na_tv_ref (by omega)
theorem na_good : ∀ w ∈ na_Tg, (w.onTables && w.keeps) = true ∨ ∃ ty, w = .arrayClass ty := fun w h => good_of_word (List.mem_filter.mp h).2
theorem na_mem {i : Nat} {w : Cond} (h : lw_tbl[i]? = some w) (hg : goodWord w = true) : w ∈ na_Tg := List.mem_filter.mpr ⟨List.mem_of_getElem? h, hg⟩
theorem na_natT : Cond.native arraycopyName ∈ na_Tg := na_mem (i := 336) (by decide +kernel) (by decide +kernel)
theorem na_statT : Cond.static arraycopyName ∈ na_Tg := na_mem (i := 335) (by decide +kernel) (by decide +kernel)
theorem na_sysT : Cond.initialized "java/lang/System" ∈ na_Tg := na_mem (i := 68) (by decide +kernel) (by decide +kernel)
theorem na_mathT : Cond.initialized "java/lang/Math" ∈ na_Tg := na_mem (i := 69) (by decide +kernel) (by decide +kernel)
theorem na_mminS : Cond.static Lib.Math.min.name ∈ na_Tg := na_mem (i := 355) (by decide +kernel) (by decide +kernel)
theorem na_mminC : Cond.code Lib.Math.min.name Lib.Math.min.code 2 (some .int) ∈ na_Tg := na_mem (i := 356) (by decide +kernel) (by decide +kernel)
theorem na_mmaxS : Cond.static Lib.Math.max.name ∈ na_Tg := na_mem (i := 470) (by decide +kernel) (by decide +kernel)
theorem na_mmaxC : Cond.code Lib.Math.max.name Lib.Math.max.code 2 (some .int) ∈ na_Tg := na_mem (i := 471) (by decide +kernel) (by decide +kernel)
theorem na_Kw.same {ad : Nat → Nat} {u U : State} (h : na_Kw ad u) (hv : u.vm = U.vm) : na_Kw ad U := ⟨va_Nw.same rfl hv h.1, va_Nw.same rfl hv h.2.1, va_Nw.same rfl hv h.2.2.1, fun i q hq => vk_R.same hv.symm (h.2.2.2 i q hq)⟩
theorem na_Kw.warm {ad : Nat → Nat} {u U : State} (h : na_Kw ad u) (hW : u.WarmedH U.vm) : na_Kw ad U := ⟨va_Nw.warmM hW h.1, va_Nw.warmM hW h.2.1, va_Nw.warmF hW h.2.2.1, fun i q hq => vk_R.warm hW (h.2.2.2 i q hq)⟩
theorem na_blind {D : va_G} {ca ad : Nat → Nat} {fm : Value} {N0 : Nat} {s0 : State} {av : List Value} {I : Mm} {J : Ml} : FrameBlind (na_Pc D ca ad fm N0 s0 av I J) := fun a U g mk ⟨h1, h2, h3, h4⟩ => ⟨h1, h2, h3.same rfl, h4⟩
/-- what a callee is given -/
theorem na_pre (hB : na_B sx D ca ad fm N0 s0 own cc nL fr lo p R s m args c cells slots) {H : Heap} {locs : List Loc} {av : List Value} {I : Mm} {J : Ml} (hPw : va_P D vwCl (na_ws ca ad I J 0 na_lay) H) (hDw : va_D (na_A N0) (na_ws ca ad I J 0 na_lay)) (hSw : va_S (na_A N0) s.heap H locs) : ∀ U : State, U.heap = H → s.WarmedH U.vm → na_Pc D ca ad fm N0 s0 av I J (av.map (na_tv ad fm)).toArray U := by
  intro U hU hW
  obtain ⟨hC, hx, hb, hml, hown, hts, hKw, hal, hh, hn0, hfr, hlo, hcs, hss⟩ := id hB
  refine ⟨rfl, hal.trans hW.alike, hKw.warm hW, ?_⟩
  rw [hU]
  exact ⟨hPw, hDw, Nat.le_trans hn0 hSw.1, fun q hq => (hSw.2.1 q (Nat.lt_of_lt_of_le hq hn0) (Nat.not_le.mpr hq)).trans (hh q hq)⟩
/-- behind a call -/
theorem na_back {H : Heap} {locs : List Loc} {pc : Nat} {lsA : Array Slot} {st0 rest : List Value} {Post : Option Value → Mm → Ml → Prop} {a : Array Value} {ls : Lo} (hB : na_B sx D ca ad fm N0 s0 own cc nL fr lo p R s m args c cells slots) (hSw : va_S (na_A N0) s.heap H locs) (hlv : na_lv ad fm lsA nL ls)
    (hr : va_Run p l e R s m args below meth c H locs cells slots 0 0 (F0 m pc lsA st0) (rest.map (na_tv ad fm)) (na_Qc D ca ad fm N0 s0 Post a) (na_A N0))
    (kk : ∀ (r : Option Value) (I' : Mm) (J' : Ml), Post r I' J' → ∀ (H' : Heap) (locs' : List Loc), na_iv D ca ad fm N0 s nL H' locs' lsA ls I' J' → W p l e R s m args below meth c H' locs' cells slots Q (F0 m (pc + 3) lsA ((na_pu r rest).map (na_tv ad fm)))) : W p l e R s m args below meth c H locs cells slots Q (F0 m pc lsA st0) := by
  obtain ⟨hC, hx, hb, hml, hown, hts, hKw, hal, hh, hn0, hfr, hlo, hcs, hss⟩ := id hB
  refine na_run hr hSw.2.2 (fun v st t locs1 hst hq hl1 => ?_)
  obtain ⟨r, I', J', ho, hpost, hR, hsz⟩ := hq
  have ev : v = r.map (na_tv ad fm) := by cases ho; rfl
  have g := kk r I' J' hpost t.heap locs1 ⟨hR.1, hR.2.1, ⟨by rw [hst] at hsz; exact Nat.le_trans hSw.1 hsz, fun q h1 h2 => (hR.2.2.2 q (Nat.not_le.mp h2)).trans (hh q (Nat.not_le.mp h2)).symm, hl1⟩, hlv⟩
  rw [ev]
  cases r with
  | none => exact g
  | some v => exact g
theorem na_sw_s : ∀ (ts : List Nat) (lo : Int) (x : Int32) (k : Nat → Prop), na_sw ts lo x k → ∀ (j t : Nat), ts[j]? = some t → x.toInt = lo + j → k t
  | [], lo, x, k, h, j, t, hj, hx => by simp at hj
  | t0 :: ts, lo, x, k, h, 0, t, hj, hx => by
    simp only [List.getElem?_cons_zero, Option.some.injEq] at hj
    subst hj
    exact h.1 (by omega)
  | t0 :: ts, lo, x, k, h, j + 1, t, hj, hx => na_sw_s ts (lo + 1) x k h.2 j t (by simpa using hj) (by omega)
theorem na_tgs_s {P : List En} {pc : Nat} : ∀ (os : List Int) (ts : List Nat), na_tgs P pc os ts = true → ∀ (j : Nat) (o : Int), os[j]? = some o → ∃ t, ts[j]? = some t ∧ na_tg P pc o t = true
  | [], ts, h, j, o, hj => by simp at hj
  | o0 :: os, [], h, j, o, hj => by simp [na_tgs] at h
  | o0 :: os, t0 :: ts, h, j, o, hj => by
    simp only [na_tgs, Bool.and_eq_true] at h
    cases j with
    | zero =>
      simp only [List.getElem?_cons_zero, Option.some.injEq] at hj
      subst hj
      exact ⟨t0, by simp, h.1⟩
    | succ j =>
      obtain ⟨t, h1, h2⟩ := na_tgs_s os ts h.2 j o (by simpa using hj)
      exact ⟨t, by simpa using h1, h2⟩
theorem na_shp_ne {a n : Nat} {i : Int32} (h : na_nth na_lay a = some (.inl (2, n))) (hi : vp_in i n) : na_shp i.toNatClampNeg ≠ 90 := by
  have hlt : i.toNatClampNeg < n := Nat.not_le.mp fun q => hi (Or.inr q)
  have hn : n ≤ 4 := by
    rw [na_nth_eq] at h
    have hm := List.mem_of_getElem? h
    simp [na_lay] at hm
    omega
  unfold na_shp
  omega
theorem na_lty_s {o : Option FieldType} (h : na_ot na_lty o = true) : o = some .long := by
  cases o with
  | none => cases h
  | some t =>
    cases t <;> first | rfl | cases h
theorem na_ot_s {f : FieldType → Bool} {o : Option FieldType} (h : na_ot f o = true) : ∃ t, o = some t ∧ f t = true := by
  cases o with
  | none => cases h
  | some t => exact ⟨t, rfl, h⟩
set_option maxHeartbeats 4000000 in
set_option maxRecDepth 100000 in
theorem na_step (hB : na_B sx D ca ad fm N0 s0 own cc nL fr lo p R s m args c cells slots) (hE : na_En D ca ad fm N0 cc rt Rt p l e R s m args below meth c cells slots Q) (hP : na_okS own cc P nL rt fr lo P)
    {k : List En → Lo → List Value → Mm → Ml → Prop} (hk0 : ∀ ls st I J, ¬ k [] ls st I J) (hk : ∀ sfx ls st I J, na_okS own cc P nL rt fr lo sfx → k sfx ls st I J → na_At D ca ad fm N0 nL p l e R s m args below meth c cells slots Q sfx ls st I J)
    {x : En} {r : List En} (hS : na_okS own cc P nL rt fr lo (x :: r)) {ls : Lo} {st : List Value} {I : Mm} {J : Ml} (h : na_stp P sx rt Rt k x r ls st I J) : na_At D ca ad fm N0 nL p l e R s m args below meth c cells slots Q (x :: r) ls st I J := by
  intro x' r' hxr H locs lsA hiv
  cases hxr
  obtain ⟨pc, len, ins, hi, v32, v64⟩ := x
  have hok := hS.1
  have hlk := hS.2 _ List.mem_cons_self
  simp only [na_okL, Bool.and_eq_true, decide_eq_true_eq] at hok
  obtain ⟨⟨⟨hd, hnx⟩, hI⟩, -⟩ := hok
  have hSt := hS.tail
  obtain ⟨hC, hx, hb, hml, hown, hts, hKw, hal, hh, hn0, hfr, hlo, hcs, hss⟩ := id hB
  obtain ⟨hK0, hsz0, hsa, hsb, hst, hwd, hfm⟩ := id hC
  have hh' : ∀ q : Nat, ¬ na_A N0 q → s.heap[q]? = s0.heap[q]? := fun q hq => hh q (Nat.not_le.mp hq)
  have hK : va_K D vwCl (na_tys ca) s := va_K.moved hal hK0
  obtain ⟨hPw, hDw, hSw, hlv⟩ := id hiv
  have nx : ∀ (ls' : Lo) (st' : List Value) (I' : Mm) (J' : Ml), k r ls' st' I' J' → ∀ (H' : Heap) (locs' : List Loc) (lsA' : Array Slot), na_iv D ca ad fm N0 s nL H' locs' lsA' ls' I' J' → W p l e R s m args below meth c H' locs' cells slots Q (F0 m (pc + len) lsA' (st'.map (na_tv ad fm))) := by
    intro ls' st' I' J' hk' H' locs' lsA' hiv'
    cases r with
    | nil => exact absurd hk' (hk0 _ _ _ _)
    | cons y r2 =>
      have h1 := hk _ _ _ _ _ hSt hk' y r2 rfl H' locs' lsA' hiv'
      have h2 : y.1 = pc + len := Nat.eq_of_beq_eq_true hnx
      rw [h2] at h1
      exact h1
  have jp : ∀ (off : Int) (t : Nat), na_tg P pc off t = true → ∃ tgt : Nat, (pc : Int) + off = (tgt : Int) ∧ ∀ (ls' : Lo) (st' : List Value) (I' : Mm) (J' : Ml), k (na_dr t P) ls' st' I' J' → ∀ (H' : Heap) (locs' : List Loc) (lsA' : Array Slot), na_iv D ca ad fm N0 s nL H' locs' lsA' ls' I' J' → W p l e R s m args below meth c H' locs' cells slots Q (F0 m tgt lsA' (st'.map (na_tv ad fm))) := by
    intro off t ht
    have hdS := hP.drop t
    unfold na_tg at ht
    split at ht
    · cases ht
    · rename_i y r2 hy
      refine ⟨y.1, by simpa using ht, fun ls' st' I' J' hk' H' locs' lsA' hiv' => ?_⟩
      exact hk _ _ _ _ _ hdS hk' y r2 hy H' locs' lsA' hiv'
  have key : W p l e R s m args below meth c H locs cells slots Q (F0 m pc lsA (st.map (na_tv ad fm))) := by
    cases ins with
    | iconst n =>
      dsimp only [na_stp] at h
      simp only [na_okI, Bool.and_eq_true, beq_iff_eq] at hI
      obtain ⟨h1, h2⟩ := hI
      subst h1
      exact lv_iconst hx hb hd h2 (nx _ _ _ _ h _ _ _ hiv)
    | bipush n =>
      dsimp only [na_stp] at h
      simp only [na_okI, Bool.and_eq_true, beq_iff_eq] at hI
      obtain ⟨h1, h2⟩ := hI
      subst h1
      exact lv_bipush hx hb hd h2 (nx _ _ _ _ h _ _ _ hiv)
    | sipush n =>
      dsimp only [na_stp] at h
      simp only [na_okI, Bool.and_eq_true, beq_iff_eq] at hI
      obtain ⟨h1, h2⟩ := hI
      subst h1
      exact lv_sipush hx hb hd h2 (nx _ _ _ _ h _ _ _ hiv)
    | lconst n =>
      dsimp only [na_stp] at h
      simp only [na_okI, Bool.and_eq_true, beq_iff_eq] at hI
      obtain ⟨h1, h2⟩ := hI
      subst h1
      exact lv_lconst hx hb hd h2 (nx _ _ _ _ h _ _ _ hiv)
    | ldc_w n =>
      dsimp only [na_stp] at h
      simp only [na_okI, Bool.and_eq_true, beq_iff_eq] at hI
      subst hI
      exact lv_ldcw hx hb hown (hts _ hlk) hd (nx _ _ _ _ h _ _ _ hiv)
    | ldc2_w n =>
      dsimp only [na_stp] at h
      simp only [na_okI, Bool.and_eq_true, beq_iff_eq] at hI
      subst hI
      exact lv_ldc2 hx hb hown (hts _ hlk) hd (nx _ _ _ _ h _ _ _ hiv)
    | ldc n =>
      dsimp only [na_stp] at h
      simp only [na_okI, Bool.and_eq_true, beq_iff_eq] at hI
      subst hI
      cases hi with
      | nil => exact lv_ldc hx hb hown (hts _ hlk) hd (nx _ _ _ _ h _ _ _ hiv)
      | cons a hr =>
        obtain ⟨ho, q, hq, hqi⟩ := hlk
        have hl17 := na_wd_lt hq
        have g := nx _ _ _ _ h _ _ _ hiv
        simp only [List.map_cons, na_tv_ref (ad := ad) (fm := fm) (show 100 + a ≠ 90 by omega)] at g
        subst ho
        subst hqi
        exact va_ldcS hx hb hown (hKw.2.2.2 a q hq) hd g
    | iload n =>
      dsimp only [na_stp] at h
      simp only [na_okI, Bool.and_eq_true, beq_iff_eq] at hI
      obtain ⟨h1, h2⟩ := hI
      subst h1
      obtain ⟨v, hv, h1_⟩ := na_ld_s h
      try dsimp only at h1_
      obtain ⟨y, r3, e3, h2_⟩ := na_pI_s h1_
      try dsimp only at h2_
      cases e3
      rw [na_nth_eq] at hv
      have g := hlv.2.2 _ _ hv
      subst h2
      exact lv_iload hx hb hd g (nx _ _ _ _ h2_ _ _ _ hiv)
    | iload_n n =>
      dsimp only [na_stp] at h
      simp only [na_okI, Bool.and_eq_true, beq_iff_eq] at hI
      obtain ⟨h1, h2⟩ := hI
      subst h1
      obtain ⟨v, hv, h1_⟩ := na_ld_s h
      try dsimp only at h1_
      obtain ⟨y, r3, e3, h2_⟩ := na_pI_s h1_
      try dsimp only at h2_
      cases e3
      rw [na_nth_eq] at hv
      have g := hlv.2.2 _ _ hv
      exact lv_iload_n hx hb hd h2 g (nx _ _ _ _ h2_ _ _ _ hiv)
    | lload n =>
      dsimp only [na_stp] at h
      simp only [na_okI, Bool.and_eq_true, beq_iff_eq] at hI
      obtain ⟨h1, h2⟩ := hI
      subst h1
      obtain ⟨v, hv, h1_⟩ := na_ld_s h
      try dsimp only at h1_
      obtain ⟨y, r3, e3, h2_⟩ := na_pL_s h1_
      try dsimp only at h2_
      cases e3
      rw [na_nth_eq] at hv
      have g := hlv.2.2 _ _ hv
      subst h2
      exact lv_lload hx hb hd g (nx _ _ _ _ h2_ _ _ _ hiv)
    | lload_n n =>
      dsimp only [na_stp] at h
      simp only [na_okI, Bool.and_eq_true, beq_iff_eq] at hI
      obtain ⟨h1, h2⟩ := hI
      subst h1
      obtain ⟨v, hv, h1_⟩ := na_ld_s h
      try dsimp only at h1_
      obtain ⟨y, r3, e3, h2_⟩ := na_pL_s h1_
      try dsimp only at h2_
      cases e3
      rw [na_nth_eq] at hv
      have g := hlv.2.2 _ _ hv
      exact lv_lload_n hx hb hd h2 g (nx _ _ _ _ h2_ _ _ _ hiv)
    | aload n =>
      dsimp only [na_stp] at h
      simp only [na_okI, Bool.and_eq_true, beq_iff_eq] at hI
      obtain ⟨h1, h2⟩ := hI
      subst h1
      obtain ⟨v, hv, h1_⟩ := na_ld_s h
      try dsimp only at h1_
      obtain ⟨y, r3, e3, h2_⟩ := na_pR_s h1_
      try dsimp only at h2_
      cases e3
      rw [na_nth_eq] at hv
      have g := hlv.2.2 _ _ hv
      cases h9 : Nat.beq y 90 with
      | true => rw [h9] at h2_; exact (show False from h2_).elim
      | false =>
        rw [h9] at h2_
        have h90 : y ≠ 90 := Nat.ne_of_beq_eq_false h9
        rw [na_tv_ref h90] at g
        have g2 := nx _ _ _ _ h2_ _ _ _ hiv
        simp only [List.map_cons, na_tv_ref (ad := ad) (fm := fm) h90] at g2
        subst h2
        exact lv_aload hx hb hd g g2
    | aload_n n =>
      dsimp only [na_stp] at h
      simp only [na_okI, Bool.and_eq_true, beq_iff_eq] at hI
      obtain ⟨h1, h2⟩ := hI
      subst h1
      obtain ⟨v, hv, h1_⟩ := na_ld_s h
      try dsimp only at h1_
      obtain ⟨y, r3, e3, h2_⟩ := na_pR_s h1_
      try dsimp only at h2_
      cases e3
      rw [na_nth_eq] at hv
      have g := hlv.2.2 _ _ hv
      cases h9 : Nat.beq y 90 with
      | true => rw [h9] at h2_; exact (show False from h2_).elim
      | false =>
        rw [h9] at h2_
        have h90 : y ≠ 90 := Nat.ne_of_beq_eq_false h9
        rw [na_tv_ref h90] at g
        have g2 := nx _ _ _ _ h2_ _ _ _ hiv
        simp only [List.map_cons, na_tv_ref (ad := ad) (fm := fm) h90] at g2
        exact lv_aload_n hx hb hd h2 g g2
    | istore n =>
      dsimp only [na_stp] at h
      simp only [na_okI, Bool.and_eq_true, beq_iff_eq] at hI
      obtain ⟨⟨h1, h2⟩, h3⟩ := hI
      subst h1
      obtain ⟨y, r3, e3, h1_⟩ := na_pI_s h
      try dsimp only at h1_
      subst e3
      subst h2
      exact lv_istore hx hb hd hlv.has (Nat.le_of_ble_eq_true h3) rfl (fun lsB hl => nx _ _ _ _ h1_ _ _ _ ⟨hPw, hDw, hSw, na_lv.s1 (v := .int y) hfm hl⟩)
    | istore_n n =>
      dsimp only [na_stp] at h
      simp only [na_okI, Bool.and_eq_true, beq_iff_eq] at hI
      obtain ⟨⟨h1, h2⟩, h3⟩ := hI
      subst h1
      obtain ⟨y, r3, e3, h1_⟩ := na_pI_s h
      try dsimp only at h1_
      subst e3
      exact lv_istore_n hx hb hd h2 hlv.has (Nat.le_of_ble_eq_true h3) rfl (fun lsB hl => nx _ _ _ _ h1_ _ _ _ ⟨hPw, hDw, hSw, na_lv.s1 (v := .int y) hfm hl⟩)
    | lstore n =>
      dsimp only [na_stp] at h
      simp only [na_okI, Bool.and_eq_true, beq_iff_eq] at hI
      obtain ⟨⟨h1, h2⟩, h3⟩ := hI
      subst h1
      obtain ⟨y, r3, e3, h1_⟩ := na_pL_s h
      try dsimp only at h1_
      subst e3
      subst h2
      exact lv_lstore hx hb hd hlv.has (Nat.le_of_ble_eq_true h3) rfl (fun lsB hl => nx _ _ _ _ h1_ _ _ _ ⟨hPw, hDw, hSw, na_lv.s2 (v := .long y) hfm hl⟩)
    | lstore_n n =>
      dsimp only [na_stp] at h
      simp only [na_okI, Bool.and_eq_true, beq_iff_eq] at hI
      obtain ⟨⟨h1, h2⟩, h3⟩ := hI
      subst h1
      obtain ⟨y, r3, e3, h1_⟩ := na_pL_s h
      try dsimp only at h1_
      subst e3
      exact lv_lstore_n hx hb hd h2 hlv.has (Nat.le_of_ble_eq_true h3) rfl (fun lsB hl => nx _ _ _ _ h1_ _ _ _ ⟨hPw, hDw, hSw, na_lv.s2 (v := .long y) hfm hl⟩)
    | astore n =>
      dsimp only [na_stp] at h
      simp only [na_okI, Bool.and_eq_true, beq_iff_eq] at hI
      obtain ⟨⟨h1, h2⟩, h3⟩ := hI
      subst h1
      obtain ⟨y, r3, e3, h1_⟩ := na_pR_s h
      try dsimp only at h1_
      subst e3
      cases h9 : Nat.beq y 90 with
      | true => rw [h9] at h1_; exact (show False from h1_).elim
      | false =>
        rw [h9] at h1_
        have h90 : y ≠ 90 := Nat.ne_of_beq_eq_false h9
        simp only [List.map_cons, na_tv_ref (ad := ad) (fm := fm) h90]
        subst h2
        exact lv_astore hx hb hd hlv.has (Nat.le_of_ble_eq_true h3) rfl (fun lsB hl => nx _ _ _ _ h1_ _ _ _ ⟨hPw, hDw, hSw, na_lv.s1 (v := .ref y) hfm (by rw [na_tv_ref h90]; exact hl)⟩)
    | astore_n n =>
      dsimp only [na_stp] at h
      simp only [na_okI, Bool.and_eq_true, beq_iff_eq] at hI
      obtain ⟨⟨h1, h2⟩, h3⟩ := hI
      subst h1
      obtain ⟨y, r3, e3, h1_⟩ := na_pR_s h
      try dsimp only at h1_
      subst e3
      cases h9 : Nat.beq y 90 with
      | true => rw [h9] at h1_; exact (show False from h1_).elim
      | false =>
        rw [h9] at h1_
        have h90 : y ≠ 90 := Nat.ne_of_beq_eq_false h9
        simp only [List.map_cons, na_tv_ref (ad := ad) (fm := fm) h90]
        exact lv_astore_n hx hb hd h2 hlv.has (Nat.le_of_ble_eq_true h3) rfl (fun lsB hl => nx _ _ _ _ h1_ _ _ _ ⟨hPw, hDw, hSw, na_lv.s1 (v := .ref y) hfm (by rw [na_tv_ref h90]; exact hl)⟩)
    | iinc i n =>
      dsimp only [na_stp] at h
      simp only [na_okI, Bool.and_eq_true, beq_iff_eq] at hI
      obtain ⟨⟨⟨h1, h2⟩, h3⟩, h4⟩ := hI
      subst h1
      subst h2
      obtain ⟨v, hv, h1_⟩ := na_ld_s h
      try dsimp only at h1_
      obtain ⟨y, r3, e3, h2_⟩ := na_pI_s h1_
      try dsimp only at h2_
      cases e3
      rw [na_nth_eq] at hv
      obtain ⟨kk, hkk⟩ := List.getElem?_of_mem (na_al_mem (ad := ad) (fm := fm) (q := (na_h0 hi, .int y)) |>.mpr ⟨_, hv, rfl⟩)
      exact lv_iinc (v := y + v32) hx hb hd hlv.has hkk (by rw [h4]) (Nat.le_of_ble_eq_true h3) rfl (fun lsB hl => nx _ _ _ _ h2_ _ _ _ ⟨hPw, hDw, hSw, na_lv.s1 (v := .int (y + v32)) hfm hl⟩)
    | iadd =>
      dsimp only [na_stp] at h
      simp only [na_okI, Bool.and_eq_true, beq_iff_eq] at hI
      subst hI
      obtain ⟨y, r1, e1, h1_⟩ := na_pI_s h
      try dsimp only at h1_
      obtain ⟨z, r2, e2, h2_⟩ := na_pI_s h1_
      try dsimp only at h2_
      subst e1 e2
      exact lv_iadd hx hb hd (nx _ _ _ _ h2_ _ _ _ hiv)
    | isub =>
      dsimp only [na_stp] at h
      simp only [na_okI, Bool.and_eq_true, beq_iff_eq] at hI
      subst hI
      obtain ⟨y, r1, e1, h1_⟩ := na_pI_s h
      try dsimp only at h1_
      obtain ⟨z, r2, e2, h2_⟩ := na_pI_s h1_
      try dsimp only at h2_
      subst e1 e2
      exact lv_isub hx hb hd (nx _ _ _ _ h2_ _ _ _ hiv)
    | imul =>
      dsimp only [na_stp] at h
      simp only [na_okI, Bool.and_eq_true, beq_iff_eq] at hI
      subst hI
      obtain ⟨y, r1, e1, h1_⟩ := na_pI_s h
      try dsimp only at h1_
      obtain ⟨z, r2, e2, h2_⟩ := na_pI_s h1_
      try dsimp only at h2_
      subst e1 e2
      exact lv_imul hx hb hd (nx _ _ _ _ h2_ _ _ _ hiv)
    | iand =>
      dsimp only [na_stp] at h
      simp only [na_okI, Bool.and_eq_true, beq_iff_eq] at hI
      subst hI
      obtain ⟨y, r1, e1, h1_⟩ := na_pI_s h
      try dsimp only at h1_
      obtain ⟨z, r2, e2, h2_⟩ := na_pI_s h1_
      try dsimp only at h2_
      subst e1 e2
      exact lv_iand hx hb hd (nx _ _ _ _ h2_ _ _ _ hiv)
    | ior =>
      dsimp only [na_stp] at h
      simp only [na_okI, Bool.and_eq_true, beq_iff_eq] at hI
      subst hI
      obtain ⟨y, r1, e1, h1_⟩ := na_pI_s h
      try dsimp only at h1_
      obtain ⟨z, r2, e2, h2_⟩ := na_pI_s h1_
      try dsimp only at h2_
      subst e1 e2
      exact lv_ior hx hb hd (nx _ _ _ _ h2_ _ _ _ hiv)
    | ixor =>
      dsimp only [na_stp] at h
      simp only [na_okI, Bool.and_eq_true, beq_iff_eq] at hI
      subst hI
      obtain ⟨y, r1, e1, h1_⟩ := na_pI_s h
      try dsimp only at h1_
      obtain ⟨z, r2, e2, h2_⟩ := na_pI_s h1_
      try dsimp only at h2_
      subst e1 e2
      exact lv_ixor hx hb hd (nx _ _ _ _ h2_ _ _ _ hiv)
    | ishl =>
      dsimp only [na_stp] at h
      simp only [na_okI, Bool.and_eq_true, beq_iff_eq] at hI
      subst hI
      obtain ⟨y, r1, e1, h1_⟩ := na_pI_s h
      try dsimp only at h1_
      obtain ⟨z, r2, e2, h2_⟩ := na_pI_s h1_
      try dsimp only at h2_
      subst e1 e2
      exact lv_ishl hx hb hd (nx _ _ _ _ h2_ _ _ _ hiv)
    | ishr =>
      dsimp only [na_stp] at h
      simp only [na_okI, Bool.and_eq_true, beq_iff_eq] at hI
      subst hI
      obtain ⟨y, r1, e1, h1_⟩ := na_pI_s h
      try dsimp only at h1_
      obtain ⟨z, r2, e2, h2_⟩ := na_pI_s h1_
      try dsimp only at h2_
      subst e1 e2
      exact lv_ishr hx hb hd (nx _ _ _ _ h2_ _ _ _ hiv)
    | iushr =>
      dsimp only [na_stp] at h
      simp only [na_okI, Bool.and_eq_true, beq_iff_eq] at hI
      subst hI
      obtain ⟨y, r1, e1, h1_⟩ := na_pI_s h
      try dsimp only at h1_
      obtain ⟨z, r2, e2, h2_⟩ := na_pI_s h1_
      try dsimp only at h2_
      subst e1 e2
      exact lv_iushr hx hb hd rfl (nx _ _ _ _ h2_ _ _ _ hiv)
    | idiv =>
      dsimp only [na_stp] at h
      simp only [na_okI, Bool.and_eq_true, beq_iff_eq] at hI
      subst hI
      obtain ⟨y, r1, e1, h1_⟩ := na_pI_s h
      try dsimp only at h1_
      obtain ⟨z, r2, e2, h2_⟩ := na_pI_s h1_
      try dsimp only at h2_
      subst e1 e2
      exact lv_idiv hx hb hd h2_.1 (nx _ _ _ _ h2_.2 _ _ _ hiv)
    | irem =>
      dsimp only [na_stp] at h
      simp only [na_okI, Bool.and_eq_true, beq_iff_eq] at hI
      subst hI
      obtain ⟨y, r1, e1, h1_⟩ := na_pI_s h
      try dsimp only at h1_
      obtain ⟨z, r2, e2, h2_⟩ := na_pI_s h1_
      try dsimp only at h2_
      subst e1 e2
      exact lv_irem hx hb hd h2_.1 (nx _ _ _ _ h2_.2 _ _ _ hiv)
    | ineg =>
      dsimp only [na_stp] at h
      simp only [na_okI, Bool.and_eq_true, beq_iff_eq] at hI
      subst hI
      obtain ⟨y, r1, e1, h1_⟩ := na_pI_s h
      try dsimp only at h1_
      subst e1
      exact lv_ineg hx hb hd (nx _ _ _ _ h1_ _ _ _ hiv)
    | ladd =>
      dsimp only [na_stp] at h
      simp only [na_okI, Bool.and_eq_true, beq_iff_eq] at hI
      subst hI
      obtain ⟨y, r1, e1, h1_⟩ := na_pL_s h
      try dsimp only at h1_
      obtain ⟨z, r2, e2, h2_⟩ := na_pL_s h1_
      try dsimp only at h2_
      subst e1 e2
      exact lv_ladd hx hb hd (nx _ _ _ _ h2_ _ _ _ hiv)
    | lsub =>
      dsimp only [na_stp] at h
      simp only [na_okI, Bool.and_eq_true, beq_iff_eq] at hI
      subst hI
      obtain ⟨y, r1, e1, h1_⟩ := na_pL_s h
      try dsimp only at h1_
      obtain ⟨z, r2, e2, h2_⟩ := na_pL_s h1_
      try dsimp only at h2_
      subst e1 e2
      exact lv_lsub hx hb hd (nx _ _ _ _ h2_ _ _ _ hiv)
    | lmul =>
      dsimp only [na_stp] at h
      simp only [na_okI, Bool.and_eq_true, beq_iff_eq] at hI
      subst hI
      obtain ⟨y, r1, e1, h1_⟩ := na_pL_s h
      try dsimp only at h1_
      obtain ⟨z, r2, e2, h2_⟩ := na_pL_s h1_
      try dsimp only at h2_
      subst e1 e2
      exact lv_lmul hx hb hd (nx _ _ _ _ h2_ _ _ _ hiv)
    | land =>
      dsimp only [na_stp] at h
      simp only [na_okI, Bool.and_eq_true, beq_iff_eq] at hI
      subst hI
      obtain ⟨y, r1, e1, h1_⟩ := na_pL_s h
      try dsimp only at h1_
      obtain ⟨z, r2, e2, h2_⟩ := na_pL_s h1_
      try dsimp only at h2_
      subst e1 e2
      exact lv_land hx hb hd (nx _ _ _ _ h2_ _ _ _ hiv)
    | lor =>
      dsimp only [na_stp] at h
      simp only [na_okI, Bool.and_eq_true, beq_iff_eq] at hI
      subst hI
      obtain ⟨y, r1, e1, h1_⟩ := na_pL_s h
      try dsimp only at h1_
      obtain ⟨z, r2, e2, h2_⟩ := na_pL_s h1_
      try dsimp only at h2_
      subst e1 e2
      exact lv_lor hx hb hd (nx _ _ _ _ h2_ _ _ _ hiv)
    | ldiv =>
      dsimp only [na_stp] at h
      simp only [na_okI, Bool.and_eq_true, beq_iff_eq] at hI
      subst hI
      obtain ⟨y, r1, e1, h1_⟩ := na_pL_s h
      try dsimp only at h1_
      obtain ⟨z, r2, e2, h2_⟩ := na_pL_s h1_
      try dsimp only at h2_
      subst e1 e2
      exact lv_ldiv hx hb hd h2_.1 (nx _ _ _ _ h2_.2 _ _ _ hiv)
    | lcmp =>
      dsimp only [na_stp] at h
      simp only [na_okI, Bool.and_eq_true, beq_iff_eq] at hI
      subst hI
      obtain ⟨y, r1, e1, h1_⟩ := na_pL_s h
      try dsimp only at h1_
      obtain ⟨z, r2, e2, h2_⟩ := na_pL_s h1_
      try dsimp only at h2_
      subst e1 e2
      exact W.lcmp hx hb hd (nx _ _ _ _ h2_ _ _ _ hiv)
    | lshl =>
      dsimp only [na_stp] at h
      simp only [na_okI, Bool.and_eq_true, beq_iff_eq] at hI
      subst hI
      obtain ⟨y, r1, e1, h1_⟩ := na_pI_s h
      try dsimp only at h1_
      obtain ⟨z, r2, e2, h2_⟩ := na_pL_s h1_
      try dsimp only at h2_
      subst e1 e2
      exact lv_lshl hx hb hd rfl (nx _ _ _ _ h2_ _ _ _ hiv)
    | lshr =>
      dsimp only [na_stp] at h
      simp only [na_okI, Bool.and_eq_true, beq_iff_eq] at hI
      subst hI
      obtain ⟨y, r1, e1, h1_⟩ := na_pI_s h
      try dsimp only at h1_
      obtain ⟨z, r2, e2, h2_⟩ := na_pL_s h1_
      try dsimp only at h2_
      subst e1 e2
      exact lv_lshr hx hb hd rfl (nx _ _ _ _ h2_ _ _ _ hiv)
    | i2l =>
      dsimp only [na_stp] at h
      simp only [na_okI, Bool.and_eq_true, beq_iff_eq] at hI
      subst hI
      obtain ⟨y, r1, e1, h1_⟩ := na_pI_s h
      try dsimp only at h1_
      subst e1
      exact lv_i2l hx hb hd rfl (nx _ _ _ _ h1_ _ _ _ hiv)
    | l2i =>
      dsimp only [na_stp] at h
      simp only [na_okI, Bool.and_eq_true, beq_iff_eq] at hI
      subst hI
      obtain ⟨y, r1, e1, h1_⟩ := na_pL_s h
      try dsimp only at h1_
      subst e1
      exact lv_l2i hx hb hd rfl (nx _ _ _ _ h1_ _ _ _ hiv)
    | i2b =>
      dsimp only [na_stp] at h
      simp only [na_okI, Bool.and_eq_true, beq_iff_eq] at hI
      subst hI
      obtain ⟨y, r1, e1, h1_⟩ := na_pI_s h
      try dsimp only at h1_
      subst e1
      exact lv_i2b hx hb hd rfl (nx _ _ _ _ h1_ _ _ _ hiv)
    | i2s =>
      dsimp only [na_stp] at h
      simp only [na_okI, Bool.and_eq_true, beq_iff_eq] at hI
      subst hI
      obtain ⟨y, r1, e1, h1_⟩ := na_pI_s h
      try dsimp only at h1_
      subst e1
      exact lv_i2s hx hb hd rfl (nx _ _ _ _ h1_ _ _ _ hiv)
    | i2c =>
      dsimp only [na_stp] at h
      simp only [na_okI, Bool.and_eq_true, beq_iff_eq] at hI
      subst hI
      obtain ⟨y, r1, e1, h1_⟩ := na_pI_s h
      try dsimp only at h1_
      subst e1
      exact lv_i2c hx hb hd rfl (nx _ _ _ _ h1_ _ _ _ hiv)
    | dup =>
      dsimp only [na_stp] at h
      simp only [na_okI, Bool.and_eq_true, beq_iff_eq] at hI
      subst hI
      obtain ⟨y, r1, e1, hc, h1_⟩ := na_p1_s h
      try dsimp only at h1_
      subst e1
      exact lv_dup hx hb hd ((na_tv_cat hfm y).trans hc) (nx _ _ _ _ h1_ _ _ _ hiv)
    | pop =>
      dsimp only [na_stp] at h
      simp only [na_okI, Bool.and_eq_true, beq_iff_eq] at hI
      subst hI
      obtain ⟨y, r1, e1, hc, h1_⟩ := na_p1_s h
      try dsimp only at h1_
      subst e1
      exact lv_pop hx hb hd ((na_tv_cat hfm y).trans hc) (nx _ _ _ _ h1_ _ _ _ hiv)
    | dup2 =>
      dsimp only [na_stp] at h
      simp only [na_okI, Bool.and_eq_true, beq_iff_eq] at hI
      subst hI
      obtain ⟨y, r1, e1, hc, h1_⟩ := na_p1_s h
      try dsimp only at h1_
      obtain ⟨z, r2, e2, hc2, h2_⟩ := na_p1_s h1_
      try dsimp only at h2_
      subst e1 e2
      exact lv_dup2_11 hx hb hd ((na_tv_cat hfm y).trans hc) ((na_tv_cat hfm z).trans hc2) (nx _ _ _ _ h2_ _ _ _ hiv)
    | goto off =>
      dsimp only [na_stp] at h
      simp only [na_okI, Bool.and_eq_true, beq_iff_eq] at hI
      obtain ⟨h1, h2⟩ := hI
      subst h1
      obtain ⟨tgt, ht, kt⟩ := jp _ _ h2
      exact lv_goto hx hb hd ht (kt _ _ _ _ h _ _ _ hiv)
    | ifCond cd off =>
      simp only [na_okI, Bool.and_eq_true, beq_iff_eq] at hI
      obtain ⟨h1, h2⟩ := hI
      subst h1
      obtain ⟨tgt, ht, kt⟩ := jp _ _ h2
      cases cd with
      | eq =>
        try dsimp only [na_stp] at h
        obtain ⟨y, r1, e1, h1_⟩ := na_pI_s h
        try dsimp only at h1_
        subst e1
        exact lv_if_eq hx hb hd ht (fun q => kt _ _ _ _ (h1_.1 q) _ _ _ hiv) (fun q => nx _ _ _ _ (h1_.2 q) _ _ _ hiv)
      | ne =>
        try dsimp only [na_stp] at h
        obtain ⟨y, r1, e1, h2_⟩ := na_pI_s h
        try dsimp only at h2_
        subst e1
        exact lv_if_ne hx hb hd ht (fun q => kt _ _ _ _ (h2_.1 q) _ _ _ hiv) (fun q => nx _ _ _ _ (h2_.2 q) _ _ _ hiv)
      | lt =>
        try dsimp only [na_stp] at h
        obtain ⟨y, r1, e1, h3_⟩ := na_pI_s h
        try dsimp only at h3_
        subst e1
        exact lv_if_lt hx hb hd ht (fun q => kt _ _ _ _ (h3_.1 q) _ _ _ hiv) (fun q => nx _ _ _ _ (h3_.2 q) _ _ _ hiv)
      | ge =>
        try dsimp only [na_stp] at h
        obtain ⟨y, r1, e1, h4_⟩ := na_pI_s h
        try dsimp only at h4_
        subst e1
        exact lv_if_ge hx hb hd ht (fun q => kt _ _ _ _ (h4_.1 q) _ _ _ hiv) (fun q => nx _ _ _ _ (h4_.2 q) _ _ _ hiv)
      | gt =>
        try dsimp only [na_stp] at h
        obtain ⟨y, r1, e1, h5_⟩ := na_pI_s h
        try dsimp only at h5_
        subst e1
        exact lv_if_gt hx hb hd ht (fun q => kt _ _ _ _ (h5_.1 q) _ _ _ hiv) (fun q => nx _ _ _ _ (h5_.2 q) _ _ _ hiv)
      | le =>
        try dsimp only [na_stp] at h
        obtain ⟨y, r1, e1, h6_⟩ := na_pI_s h
        try dsimp only at h6_
        subst e1
        exact lv_if_le hx hb hd ht (fun q => kt _ _ _ _ (h6_.1 q) _ _ _ hiv) (fun q => nx _ _ _ _ (h6_.2 q) _ _ _ hiv)
    | if_icmp cd off =>
      simp only [na_okI, Bool.and_eq_true, beq_iff_eq] at hI
      obtain ⟨h1, h2⟩ := hI
      subst h1
      obtain ⟨tgt, ht, kt⟩ := jp _ _ h2
      cases cd with
      | eq =>
        try dsimp only [na_stp] at h
        obtain ⟨y, r1, e1, h1_⟩ := na_pI_s h
        try dsimp only at h1_
        obtain ⟨z, r2, e2, h2_⟩ := na_pI_s h1_
        try dsimp only at h2_
        subst e1 e2
        exact lv_icmp_eq hx hb hd ht (fun q => kt _ _ _ _ (h2_.1 q) _ _ _ hiv) (fun q => nx _ _ _ _ (h2_.2 q) _ _ _ hiv)
      | ne =>
        try dsimp only [na_stp] at h
        obtain ⟨y, r1, e1, h3_⟩ := na_pI_s h
        try dsimp only at h3_
        obtain ⟨z, r2, e2, h4_⟩ := na_pI_s h3_
        try dsimp only at h4_
        subst e1 e2
        exact lv_icmp_ne hx hb hd ht (fun q => kt _ _ _ _ (h4_.1 q) _ _ _ hiv) (fun q => nx _ _ _ _ (h4_.2 q) _ _ _ hiv)
      | lt =>
        try dsimp only [na_stp] at h
        obtain ⟨y, r1, e1, h5_⟩ := na_pI_s h
        try dsimp only at h5_
        obtain ⟨z, r2, e2, h6_⟩ := na_pI_s h5_
        try dsimp only at h6_
        subst e1 e2
        exact lv_icmp_lt hx hb hd ht (fun q => kt _ _ _ _ (h6_.1 q) _ _ _ hiv) (fun q => nx _ _ _ _ (h6_.2 q) _ _ _ hiv)
      | ge =>
        try dsimp only [na_stp] at h
        obtain ⟨y, r1, e1, h7_⟩ := na_pI_s h
        try dsimp only at h7_
        obtain ⟨z, r2, e2, h8_⟩ := na_pI_s h7_
        try dsimp only at h8_
        subst e1 e2
        exact lv_icmp_ge hx hb hd ht (fun q => kt _ _ _ _ (h8_.1 q) _ _ _ hiv) (fun q => nx _ _ _ _ (h8_.2 q) _ _ _ hiv)
      | gt =>
        try dsimp only [na_stp] at h
        obtain ⟨y, r1, e1, h9_⟩ := na_pI_s h
        try dsimp only at h9_
        obtain ⟨z, r2, e2, h10_⟩ := na_pI_s h9_
        try dsimp only at h10_
        subst e1 e2
        exact lv_icmp_gt hx hb hd ht (fun q => kt _ _ _ _ (h10_.1 q) _ _ _ hiv) (fun q => nx _ _ _ _ (h10_.2 q) _ _ _ hiv)
      | le =>
        try dsimp only [na_stp] at h
        obtain ⟨y, r1, e1, h11_⟩ := na_pI_s h
        try dsimp only at h11_
        obtain ⟨z, r2, e2, h12_⟩ := na_pI_s h11_
        try dsimp only at h12_
        subst e1 e2
        exact lv_icmp_le hx hb hd ht (fun q => kt _ _ _ _ (h12_.1 q) _ _ _ hiv) (fun q => nx _ _ _ _ (h12_.2 q) _ _ _ hiv)
    | tableswitch d lo2 hi2 offs =>
      dsimp only [na_stp] at h
      simp only [na_okI, Bool.and_eq_true, decide_eq_true_eq] at hI
      obtain ⟨⟨h1, h2⟩, h3⟩ := hI
      obtain ⟨y, r1, e1, h1_⟩ := na_pI_s h
      try dsimp only at h1_
      subst e1
      by_cases hin : y.toInt < lo2 ∨ hi2 < y.toInt
      · obtain ⟨tgt, ht, kt⟩ := jp _ _ h1
        exact lv_tableOut hx hb hd hin ht (kt _ _ _ _ (h1_.1 hin) _ _ _ hiv)
      · have hlt : (y.toInt - lo2).toNat < offs.toList.length := by omega
        obtain ⟨o, ho⟩ : ∃ o, offs.toList[(y.toInt - lo2).toNat]? = some o := ⟨_, List.getElem?_eq_getElem hlt⟩
        obtain ⟨t, ht1, ht2⟩ := na_tgs_s _ _ h2 _ _ ho
        obtain ⟨tgt, ht, kt⟩ := jp _ _ ht2
        exact lv_tableIn hx hb hd (fun q => hin (Or.inl q)) (fun q => hin (Or.inr q)) (by rw [← Array.getElem?_toList]; exact ho) ht (kt _ _ _ _ (na_sw_s _ _ _ _ h1_.2 _ t ht1 (by omega)) _ _ _ hiv)
    | iaload =>
      dsimp only [na_stp] at h
      simp only [na_okI, Bool.and_eq_true, beq_iff_eq] at hI
      subst hI
      obtain ⟨i, r1, e1, h1_⟩ := na_pI_s h
      try dsimp only at h1_
      obtain ⟨a, r2, e2, h2_⟩ := na_pR_s h1_
      try dsimp only at h2_
      subst e1 e2
      unfold na_ar at h2_
      split at h2_
      · rename_i n hn
        show W p l e R s m args below meth c H locs cells slots Q (F0 m pc lsA (.int i :: na_tv ad fm (.ref a) :: r2.map (na_tv ad fm)))
        rw [na_tv_ref (na_lay_lt hn)]
        exact va_iald hx hb hK hPw a 0 (na_ws_at hn) rfl h2_.1 hd (nx _ _ _ _ h2_.2 _ _ _ hiv)
      · exact h2_.elim
      · split at h2_
        · rename_i q hq
          show W p l e R s m args below meth c H locs cells slots Q (F0 m pc lsA (.int i :: na_tv ad fm (.ref a) :: r2.map (na_tv ad fm)))
          rw [na_tv_ref (na_sa_ne hq)]
          exact va_ti hx hb (na_C.T (hsa a q hq) hal hh') hSw h2_.1 rfl hd (nx _ _ _ _ h2_.2 _ _ _ hiv)
        · exact h2_.elim
    | baload =>
      dsimp only [na_stp] at h
      simp only [na_okI, Bool.and_eq_true, beq_iff_eq] at hI
      subst hI
      obtain ⟨i, r1, e1, h1_⟩ := na_pI_s h
      try dsimp only at h1_
      obtain ⟨a, r2, e2, h2_⟩ := na_pR_s h1_
      try dsimp only at h2_
      subst e1 e2
      split at h2_
      · rename_i q hq
        show W p l e R s m args below meth c H locs cells slots Q (F0 m pc lsA (.int i :: na_tv ad fm (.ref a) :: r2.map (na_tv ad fm)))
        rw [na_tv_ref (na_sb_ne hq)]
        exact va_tb hx hb (na_C.T (hsb a q hq) hal hh') hSw h2_.1 rfl hd (nx _ _ _ _ h2_.2 _ _ _ hiv)
      · exact h2_.elim
    | laload =>
      dsimp only [na_stp] at h
      simp only [na_okI, Bool.and_eq_true, beq_iff_eq] at hI
      subst hI
      obtain ⟨i, r1, e1, h1_⟩ := na_pI_s h
      try dsimp only at h1_
      obtain ⟨a, r2, e2, h2_⟩ := na_pR_s h1_
      try dsimp only at h2_
      subst e1 e2
      split at h2_
      · rename_i n hn
        show W p l e R s m args below meth c H locs cells slots Q (F0 m pc lsA (.int i :: na_tv ad fm (.ref a) :: r2.map (na_tv ad fm)))
        rw [na_tv_ref (na_lay_lt hn)]
        exact va_lald hx hb hK hPw a 1 (na_ws_at hn) rfl h2_.1 hd (nx _ _ _ _ h2_.2 _ _ _ hiv)
      · exact h2_.elim
    | aaload =>
      dsimp only [na_stp] at h
      simp only [na_okI, Bool.and_eq_true, beq_iff_eq] at hI
      subst hI
      obtain ⟨i, r1, e1, h1_⟩ := na_pI_s h
      try dsimp only at h1_
      obtain ⟨a, r2, e2, h2_⟩ := na_pR_s h1_
      try dsimp only at h2_
      subst e1 e2
      split at h2_
      · rename_i n hn
        show W p l e R s m args below meth c H locs cells slots Q (F0 m pc lsA (.int i :: na_tv ad fm (.ref a) :: r2.map (na_tv ad fm)))
        rw [na_tv_ref (na_lay_lt hn)]
        have g := nx _ _ _ _ h2_.2 _ _ _ hiv
        simp only [List.map_cons, na_tv_ref (ad := ad) (fm := fm) (na_shp_ne hn h2_.1)] at g
        exact va_aldq (C := RX1) hx hb hK hPw a 2 (na_ws_at hn) rfl h2_.1 hd g
      · exact h2_.elim
    | iastore =>
      dsimp only [na_stp] at h
      simp only [na_okI, Bool.and_eq_true, beq_iff_eq] at hI
      subst hI
      obtain ⟨v, r0, e0, h1_⟩ := na_pI_s h
      try dsimp only at h1_
      obtain ⟨i, r1, e1, h2_⟩ := na_pI_s h1_
      try dsimp only at h2_
      obtain ⟨a, r2, e2, h3_⟩ := na_pR_s h2_
      try dsimp only at h3_
      subst e0 e1 e2
      split at h3_
      · rename_i n hn
        show W p l e R s m args below meth c H locs cells slots Q (F0 m pc lsA (.int v :: .int i :: na_tv ad fm (.ref a) :: r2.map (na_tv ad fm)))
        rw [na_tv_ref (na_lay_lt hn)]
        refine va_iast hx hb hK hPw hDw hSw a 0 (na_ws_at hn) rfl h3_.1 hd (fun H1 locs1 p1 d1 s1 => ?_)
        have es : (na_ws ca ad I J 0 na_lay).set a (ad a, .inl (ca 0, n, .inl (upd (I a) i.toNatClampNeg v))) = na_ws ca ad (na_set I a i.toNatClampNeg v) J 0 na_lay := by
          rw [← na_ws_set hn (I := I) (J := J) (fun b hb => ⟨na_set_off hb, rfl⟩)]
          simp [na_ce, na_set_on]
        rw [es] at p1 d1
        exact nx _ _ _ _ h3_.2 _ _ _ ⟨p1, d1, s1, hlv⟩
      · exact h3_.elim
    | lastore =>
      dsimp only [na_stp] at h
      simp only [na_okI, Bool.and_eq_true, beq_iff_eq] at hI
      subst hI
      obtain ⟨v, r0, e0, h1_⟩ := na_pL_s h
      try dsimp only at h1_
      obtain ⟨i, r1, e1, h2_⟩ := na_pI_s h1_
      try dsimp only at h2_
      obtain ⟨a, r2, e2, h3_⟩ := na_pR_s h2_
      try dsimp only at h3_
      subst e0 e1 e2
      split at h3_
      · rename_i n hn
        show W p l e R s m args below meth c H locs cells slots Q (F0 m pc lsA (.long v :: .int i :: na_tv ad fm (.ref a) :: r2.map (na_tv ad fm)))
        rw [na_tv_ref (na_lay_lt hn)]
        refine va_last hx hb hK hPw hDw hSw a 1 (na_ws_at hn) rfl h3_.1 hd (fun H1 locs1 p1 d1 s1 => ?_)
        have es : (na_ws ca ad I J 0 na_lay).set a (ad a, .inl (ca 1, n, .inr (.inl (vp_updL (J a) i.toNatClampNeg v)))) = na_ws ca ad I (na_setL J a i.toNatClampNeg v) 0 na_lay := by
          rw [← na_ws_set hn (I := I) (J := J) (fun b hb => ⟨rfl, na_setL_off hb⟩)]
          simp [na_ce, na_setL_on]
        rw [es] at p1 d1
        exact nx _ _ _ _ h3_.2 _ _ _ ⟨p1, d1, s1, hlv⟩
      · exact h3_.elim
    | arraylength =>
      dsimp only [na_stp] at h
      simp only [na_okI, Bool.and_eq_true, beq_iff_eq] at hI
      subst hI
      obtain ⟨a, r2, e2, h1_⟩ := na_pR_s h
      try dsimp only at h1_
      subst e2
      split at h1_
      · rename_i n hn
        show W p l e R s m args below meth c H locs cells slots Q (F0 m pc lsA (na_tv ad fm (.ref a) :: r2.map (na_tv ad fm)))
        rw [na_tv_ref (na_lay_lt hn)]
        exact va_alen hx hb hK hPw a 0 (na_ws_at hn) rfl rfl hd (nx _ _ _ _ h1_ _ _ _ hiv)
      · exact h1_.elim
      · split at h1_
        · rename_i q hq
          show W p l e R s m args below meth c H locs cells slots Q (F0 m pc lsA (na_tv ad fm (.ref a) :: r2.map (na_tv ad fm)))
          rw [na_tv_ref (na_sa_ne hq)]
          exact va_tlen hx hb (na_C.T (hsa a q hq) hal hh') hSw rfl hd (nx _ _ _ _ h1_ _ _ _ hiv)
        · split at h1_
          · rename_i q hq
            show W p l e R s m args below meth c H locs cells slots Q (F0 m pc lsA (na_tv ad fm (.ref a) :: r2.map (na_tv ad fm)))
            rw [na_tv_ref (na_sb_ne hq)]
            exact va_tlen hx hb (na_C.T (hsb a q hq) hal hh') hSw rfl hd (nx _ _ _ _ h1_ _ _ _ hiv)
          · exact h1_.elim
    | getfield idx =>
      dsimp only [na_stp] at h
      simp only [na_okI, beq_iff_eq] at hI
      subst hI
      obtain ⟨a, r2, e2, h1⟩ := na_pR_s h
      subst e2
      simp only [na_lk] at hlk
      by_cases h9 : na_h0 hi = 9
      · rw [if_pos h9] at hlk
        have h1 : (bif Nat.ble 100 a && Nat.ble a 116 then (match na_h1 hi with
          | 0 => k r ls (.int 0 :: r2) I J
          | 1 => k r ls (.ref (a + 20) :: r2) I J
          | _ => False) else False) := by
          have e9 : Nat.beq (na_h0 hi) 9 = true := by rw [h9]; rfl
          rw [e9] at h1
          exact h1
        cases hr : (Nat.ble 100 a && Nat.ble a 116) with
        | false => rw [hr] at h1; exact (show False from h1).elim
        | true =>
          rw [hr] at h1
          simp only [Bool.and_eq_true] at hr
          have ha1 := Nat.le_of_ble_eq_true hr.1
          have ha2 := Nat.le_of_ble_eq_true hr.2
          obtain ⟨i, rfl⟩ : ∃ i, a = 100 + i := ⟨a - 100, by omega⟩
          obtain ⟨q, hq⟩ := na_wd_at (i := i) (by omega)
          show W p l e R s m args below meth c H locs cells slots Q (F0 m pc lsA (na_tv ad fm (.ref (100 + i)) :: r2.map (na_tv ad fm)))
          rw [na_tv_ref (by omega)]
          have h1 : (match na_h1 hi with
            | 0 => k r ls (.int 0 :: r2) I J
            | 1 => k r ls (.ref (100 + i + 20) :: r2) I J
            | _ => False) := h1
          split at h1
          · rename_i hz
            exact vk_getf hx hb (na_C.OF (hwd i q hq).2.1 hal hh') hSw hown (hts _ (hlk.1 hz)) (fun x hx => hx) hd (nx _ _ _ _ h1 _ _ _ hiv)
          · rename_i hz
            have g := nx _ _ _ _ h1 _ _ _ hiv
            simp only [List.map_cons, na_tv_ref (ad := ad) (fm := fm) (show 100 + i + 20 ≠ 90 by omega)] at g
            rw [show 100 + i + 20 = 120 + i by omega] at g
            exact vk_getf hx hb (na_C.OF (hwd i q hq).2.2 hal hh') hSw hown (hts _ (hlk.2 hz)) (fun x hx => hx) hd g
          · exact h1.elim
      · rw [if_neg h9] at hlk
        obtain ⟨C, T, N, hc, hin, hkN, hfl⟩ := hlk
        have e9 : Nat.beq (na_h0 hi) 9 = false := na_beqF h9
        rw [e9] at h1
        simp only [cond_false] at h1
        split at h1
        · rename_i q hq
          obtain ⟨c0, fs⟩ := q
          cases hcc : Nat.beq c0 (na_h0 hi) with
          | false => simp only [hcc, cond_false] at h1
          | true =>
            simp only [hcc, cond_true] at h1
            have hcc := Nat.eq_of_beq_eq_true hcc
            split at h1
            · rename_i f hf
              have g := nx _ _ _ _ h1 _ _ _ hiv
              simp only [List.map_cons, na_fw_tv (ad := ad) (fm := fm) f (na_lay_fl hq hf)] at g
              show W p l e R s m args below meth c H locs cells slots Q (F0 m pc lsA (na_tv ad fm (.ref a) :: r2.map (na_tv ad fm)))
              rw [na_tv_ref (na_lay_lt hq)]
              refine va_get hx hb hts hin hown hK hPw a (na_ws_at hq) (by rw [hcc]; exact hc) (na_h1 hi) hkN (hts _ hfl) (fun x hx => hx) (v := na_fv ad I J a (na_h1 hi) f) ?_ hd g
              rw [na_nth_eq] at hf
              rw [na_fs_get, hf]
              simp
            · exact h1.elim
        · exact h1.elim
    | putfield idx =>
      dsimp only [na_stp] at h
      simp only [na_okI, beq_iff_eq] at hI
      subst hI
      simp only [na_lk] at hlk
      obtain ⟨C, T, N, ty, hc, hin, hty, hnm, hkN, hfl, hfin, hkind⟩ := hlk
      split at h
      · rename_i v a r2
        split at h
        · rename_i q hq
          obtain ⟨c0, fs⟩ := q
          cases hcc : Nat.beq c0 (na_h0 hi) with
          | false => simp only [hcc, cond_false] at h
          | true =>
            simp only [hcc, cond_true] at h
            have hcc := Nat.eq_of_beq_eq_true hcc
            split at h
            · rename_i hf
              rw [na_nth_eq] at hf
              have hkn2 : k r ls r2 (na_set I a (na_h1 hi) v) J ∧ narrow (ty (na_h1 hi)) (.int v) = .int v ∧ fits (ty (na_h1 hi)) (.int v) = true := by
                split at h
                · rename_i hz
                  rcases hkind with ⟨z1, z2⟩ | ⟨z1, z2⟩ | ⟨z1, z2⟩
                  · rw [z2]
                    exact ⟨h, rfl, rfl⟩
                  · omega
                  · omega
                · rename_i hz
                  rcases hkind with ⟨z1, z2⟩ | ⟨z1, z2⟩ | ⟨z1, z2⟩
                  · omega
                  · rw [z2]
                    refine ⟨h.2, ?_⟩
                    rcases h.1 with rfl | rfl <;> exact ⟨by decide, by decide⟩
                  · omega
                · exact h.elim
              show W p l e R s m args below meth c H locs cells slots Q (F0 m pc lsA (.int v :: na_tv ad fm (.ref a) :: r2.map (na_tv ad fm)))
              rw [na_tv_ref (na_lay_lt hq)]
              refine va_put hx hb hts hin ty hty hnm hown hK hPw hDw hSw a (na_ws_at hq) (by rw [hcc]; exact hc) (na_h1 hi) hkN (hts _ hfl) (fun x hx => hx) hfin (hty _ hkN) hkn2.2.1 hkn2.2.2 (by rw [na_fs_len]; exact (List.getElem?_eq_some_iff.mp hf).1) hd (fun H1 locs1 p1 d1 s1 => ?_)
              have es : (na_ws ca ad I J 0 na_lay).set a (ad a, .inr (c0, (na_fs ad I J a 0 fs).set (na_h1 hi) (.int v))) = na_ws ca ad (na_set I a (na_h1 hi) v) J 0 na_lay := by
                rw [← na_ws_set hq (I := I) (J := J) (fun b hb => ⟨na_set_off hb, rfl⟩)]
                rw [na_fs_set (I' := na_set I a (na_h1 hi) v) (J' := J) hf (by simp [na_fv, na_set_on, upd]) (fun b hb => ⟨by simp [na_set_on, upd, hb], rfl⟩)]
                rfl
              rw [es] at p1 d1
              exact nx _ _ _ _ hkn2.1 _ _ _ ⟨p1, d1, s1, hlv⟩
            · exact h.elim
        · exact h.elim
      · rename_i v a r2
        split at h
        · rename_i q hq
          obtain ⟨c0, fs⟩ := q
          cases hcc : Nat.beq c0 (na_h0 hi) with
          | false => simp only [hcc, cond_false] at h
          | true =>
            simp only [hcc, cond_true] at h
            have hcc := Nat.eq_of_beq_eq_true hcc
            split at h
            · rename_i hf
              rw [na_nth_eq] at hf
              have hkn2 : k r ls r2 I (na_setL J a (na_h1 hi) v) ∧ narrow (ty (na_h1 hi)) (.long v) = .long v ∧ fits (ty (na_h1 hi)) (.long v) = true := by
                cases h2b : Nat.beq (na_h2 hi) 2 with
                | false => simp only [h2b, cond_false] at h
                | true =>
                  simp only [h2b, cond_true] at h
                  have h2b := Nat.eq_of_beq_eq_true h2b
                  rcases hkind with ⟨z1, z2⟩ | ⟨z1, z2⟩ | ⟨z1, z2⟩
                  · omega
                  · omega
                  · rw [z2]
                    exact ⟨h, rfl, rfl⟩
              show W p l e R s m args below meth c H locs cells slots Q (F0 m pc lsA (.long v :: na_tv ad fm (.ref a) :: r2.map (na_tv ad fm)))
              rw [na_tv_ref (na_lay_lt hq)]
              refine va_put hx hb hts hin ty hty hnm hown hK hPw hDw hSw a (na_ws_at hq) (by rw [hcc]; exact hc) (na_h1 hi) hkN (hts _ hfl) (fun x hx => hx) hfin (hty _ hkN) hkn2.2.1 hkn2.2.2 (by rw [na_fs_len]; exact (List.getElem?_eq_some_iff.mp hf).1) hd (fun H1 locs1 p1 d1 s1 => ?_)
              have es : (na_ws ca ad I J 0 na_lay).set a (ad a, .inr (c0, (na_fs ad I J a 0 fs).set (na_h1 hi) (.long v))) = na_ws ca ad I (na_setL J a (na_h1 hi) v) 0 na_lay := by
                rw [← na_ws_set hq (I := I) (J := J) (fun b hb => ⟨rfl, na_setL_off hb⟩)]
                rw [na_fs_set (I' := I) (J' := na_setL J a (na_h1 hi) v) hf (by simp [na_fv, na_setL_on, vp_updL]) (fun b hb => ⟨rfl, by simp [na_setL_on, vp_updL, hb]⟩)]
                rfl
              rw [es] at p1 d1
              exact nx _ _ _ _ hkn2.1 _ _ _ ⟨p1, d1, s1, hlv⟩
            · exact h.elim
        · exact h.elim
      · exact h.elim
    | getstatic idx =>
      dsimp only [na_stp] at h
      simp only [na_okI, beq_iff_eq] at hI
      subst hI
      simp only [na_lk] at hlk
      obtain ⟨q, hq, hlk⟩ := hlk
      rw [hq] at h
      have hqm : q ∈ na_st := by rw [na_nth_eq] at hq; exact List.mem_of_getElem? hq
      have hZ := na_C.Z (hst q hqm) hal hh'
      have g := nx _ _ _ _ h _ _ _ hiv
      rcases hlk with hlk | ⟨z1, z2, z3, z4, z5⟩
      · exact va_gets hx hb hZ hSw hown (hts _ hlk) (fun x hx => hx) hd g
      · rw [z3, z4, z5] at hZ
        subst z1 z2
        exact va_getsN hx hb hZ hSw hown (va_Nw.use rfl hKw.2.2.1) (fun x hx => hx) hd g
    | invokestatic idx =>
      dsimp only [na_stp] at h
      simp only [na_okI, Bool.and_eq_true, beq_iff_eq] at hI
      obtain ⟨hlen, hI⟩ := hI
      subst hlen
      simp only [na_lk] at hlk
      by_cases h8 : na_h0 hi = 998
      · have e8 : Nat.beq (na_h0 hi) 998 = true := by rw [h8]; rfl
        rw [e8] at h
        exact (show False from h).elim
      have e8 : Nat.beq (na_h0 hi) 998 = false := na_beqF h8
      rw [if_neg h8] at hlk
      rw [e8] at h hI
      simp only [cond_false] at h hI
      by_cases h7 : na_h0 hi = 997
      · have e7 : Nat.beq (na_h0 hi) 997 = true := by rw [h7]; rfl
        rw [if_pos h7] at hlk
        rw [e7] at h hI
        simp only [cond_true, Bool.true_or, Bool.or_true, Bool.and_eq_true] at h hI
        have hI1 := Nat.le_of_ble_eq_true hI.1
        have hI2 := Nat.le_of_ble_eq_true hI.2
        obtain ⟨y, r1, e1, h1⟩ := na_pI_s h
        obtain ⟨z, r2, e2, h2⟩ := na_pI_s h1
        subst e1 e2
        cases hct : Nat.ble (na_ct r2) 8 with
        | false => simp only [hct, cond_false] at h2
        | true =>
          simp only [hct, cond_true] at h2
          have hct := Nat.le_of_ble_eq_true hct
          exact va_mmin hx hb (hml.trans hlv.1.symm) hown (hts _ hlk) (hts _ na_mminS) (hts _ na_mathT) (hts _ na_mminC) (by omega) (by rw [na_tvs_cat hfm]; omega) hcs hss hd (nx _ _ _ _ h2 _ _ _ hiv)
      have e7 : Nat.beq (na_h0 hi) 997 = false := na_beqF h7
      rw [if_neg h7] at hlk
      rw [e7] at h hI
      simp only [cond_false, Bool.false_or] at h hI
      by_cases h7 : na_h0 hi = 996
      · have e7 : Nat.beq (na_h0 hi) 996 = true := by rw [h7]; rfl
        rw [if_pos h7] at hlk
        rw [e7] at h hI
        simp only [cond_true, Bool.true_or, Bool.or_true, Bool.and_eq_true] at h hI
        have hI1 := Nat.le_of_ble_eq_true hI.1
        have hI2 := Nat.le_of_ble_eq_true hI.2
        obtain ⟨y, r1, e1, h1⟩ := na_pI_s h
        obtain ⟨z, r2, e2, h2⟩ := na_pI_s h1
        subst e1 e2
        cases hct : Nat.ble (na_ct r2) 8 with
        | false => simp only [hct, cond_false] at h2
        | true =>
          simp only [hct, cond_true] at h2
          have hct := Nat.le_of_ble_eq_true hct
          exact va_mmax hx hb (hml.trans hlv.1.symm) hown (hts _ hlk) (hts _ na_mmaxS) (hts _ na_mathT) (hts _ na_mmaxC) (by omega) (by rw [na_tvs_cat hfm]; omega) hcs hss hd (nx _ _ _ _ h2 _ _ _ hiv)
      have e7 : Nat.beq (na_h0 hi) 996 = false := na_beqF h7
      rw [if_neg h7] at hlk
      rw [e7] at h hI
      simp only [cond_false, Bool.false_or] at h hI
      by_cases h9 : na_h0 hi = 999
      · rw [if_pos h9] at hlk
        have e9 : Nat.beq (na_h0 hi) 999 = true := by rw [h9]; rfl
        rw [e9] at h hI
        simp only [cond_true, Bool.and_eq_true] at hI
        have hI1 := Nat.le_of_ble_eq_true hI.1
        have hI2 := Nat.le_of_ble_eq_true hI.2
        simp only [cond_true] at h
        obtain ⟨n, r1, e1, h1⟩ := na_pI_s h
        obtain ⟨dp, r2, e2, h2⟩ := na_pI_s h1
        obtain ⟨d, r3, e3, h3⟩ := na_pR_s h2
        obtain ⟨sp, r4, e4, h4⟩ := na_pI_s h3
        obtain ⟨a, r5, e5, h5⟩ := na_pR_s h4
        subst e1 e2 e3 e4 e5
        cases hct : Nat.ble (na_ct r5) 8 with
        | false => simp only [hct, cond_false] at h5
        | true =>
          simp only [hct, cond_true] at h5
          have hct := Nat.le_of_ble_eq_true hct
          have hloc : ((r5.map (na_tv ad fm)).map fun v => v.category).sum + (nativeFrameWords "java/lang/System" "arraycopy" 5 + 11) ≤ R.locals := by
            rw [na_tvs_cat hfm]
            have : nativeFrameWords "java/lang/System" "arraycopy" 5 = 7 := by decide +kernel
            omega
          have hml2 : c.maxLocals = lsA.size := hml.trans hlv.1.symm
          split at h5
          · rename_i n0 n1 ha hdd
            obtain ⟨⟨g1, g2, g3, g4, g5⟩, h6⟩ := h5
            show W p l e R s m args below meth c H locs cells slots Q (F0 m pc lsA (.int n :: .int dp :: na_tv ad fm (.ref d) :: .int sp :: na_tv ad fm (.ref a) :: r5.map (na_tv ad fm)))
            rw [na_tv_ref (na_lay_lt ha), na_tv_ref (na_lay_lt hdd)]
            refine va_copyi hx hb hml2 hown (hts _ hlk) (hts _ na_natT) (hts _ na_statT) (hts _ na_sysT) hK hPw hDw hSw a d 0 0 (na_ws_at ha) (na_ws_at hdd) rfl rfl rfl g1 g2 g3 g4 g5 (fun i _ => rfl) (by omega) hloc hd (fun H1 locs1 p1 d1 s1 => ?_)
            have es : (na_ws ca ad I J 0 na_lay).set d (ad d, .inl (ca 0, n1, .inl (va_cpy (I a) (I d) sp.toNatClampNeg dp.toNatClampNeg n.toNatClampNeg))) = na_ws ca ad (na_cpI I a d sp.toNatClampNeg dp.toNatClampNeg n.toNatClampNeg) J 0 na_lay := by
              rw [← na_ws_set hdd (I := I) (J := J) (fun b hb => ⟨na_cpI_off hb, rfl⟩)]
              simp [na_ce, na_cpI_on]
            rw [es] at p1 d1
            exact nx _ _ _ _ h6 _ _ _ ⟨p1, d1, s1, hlv⟩
          · rename_i n0 n1 ha hdd
            obtain ⟨⟨g1, g2, g3, g4, g5⟩, h6⟩ := h5
            show W p l e R s m args below meth c H locs cells slots Q (F0 m pc lsA (.int n :: .int dp :: na_tv ad fm (.ref d) :: .int sp :: na_tv ad fm (.ref a) :: r5.map (na_tv ad fm)))
            rw [na_tv_ref (na_lay_lt ha), na_tv_ref (na_lay_lt hdd)]
            refine va_copyl hx hb hml2 hown (hts _ hlk) (hts _ na_natT) (hts _ na_statT) (hts _ na_sysT) hK hPw hDw hSw a d 1 1 (na_ws_at ha) (na_ws_at hdd) rfl rfl rfl g1 g2 g3 g4 g5 (fun i _ => rfl) (by omega) hloc hd (fun H1 locs1 p1 d1 s1 => ?_)
            have es : (na_ws ca ad I J 0 na_lay).set d (ad d, .inl (ca 1, n1, .inr (.inl (va_cpy (J a) (J d) sp.toNatClampNeg dp.toNatClampNeg n.toNatClampNeg)))) = na_ws ca ad I (na_cpL J a d sp.toNatClampNeg dp.toNatClampNeg n.toNatClampNeg) 0 na_lay := by
              rw [← na_ws_set hdd (I := I) (J := J) (fun b hb => ⟨rfl, na_cpL_off hb⟩)]
              simp [na_ce, na_cpL_on]
            rw [es] at p1 d1
            exact nx _ _ _ _ h6 _ _ _ ⟨p1, d1, s1, hlv⟩
          · exact h5.elim
      · rw [if_neg h9] at hlk
        have e9 : Nat.beq (na_h0 hi) 999 = false := na_beqF h9
        rw [e9] at h hI
        simp only [cond_false, Bool.and_eq_true] at hI
        have hI1 := Nat.le_of_ble_eq_true hI.1
        have hI2 := Nat.le_of_ble_eq_true hI.2
        simp only [cond_false] at h
        obtain ⟨vs, r5, e5, hvl, h5⟩ := na_tk_s _ _ _ _ h
        subst e5
        obtain ⟨hl1, hl2, hl3, hl4, hl5, hl6, hl7, hl8⟩ := hlk
        cases hct : Nat.ble (na_ct r5) 8 with
        | false => simp only [hct, cond_false] at h5
        | true =>
          simp only [hct, cond_true, List.append_nil] at h5
          have hct := Nat.le_of_ble_eq_true hct
          have hM := h5 l D ca ad fm N0 s0 hC
          have hst2 : (F0 m pc lsA ((vs ++ r5).map (na_tv ad fm))).stack = ((vs.reverse).map (na_tv ad fm)).reverse ++ r5.map (na_tv ad fm) := by simp
          have hG : GoodIn na_Tg (na_ww (na_mi (na_h0 hi))) := fun w hw => by
            rcases List.mem_cons.mp hw with q | q
            · subst q
              exact ⟨hl5, na_good _ hl5⟩
            · exact ⟨q, na_good _ q⟩
          have hroom : 2 * (F0 m pc lsA ((vs ++ r5).map (na_tv ad fm))).monitorRoom + ((r5.map (na_tv ad fm)).map fun v => v.category).sum ≤ 8 := lv_room (by rw [na_tvs_cat hfm]; exact hct)
          refine na_back (Post := fun v I' J' => k r ls (na_pu v r5) I' J') (rest := r5) (a := (vs.reverse.map (na_tv ad fm)).toArray) hB hSw hlv ?_ (fun rr I' J' hp H' locs' hiv' => nx _ _ _ _ hp _ _ _ hiv')
          · rcases hl1 with hl1 | ⟨z1, z2, z3⟩ | ⟨z1, z2, z3⟩
            · exact va_runS ⟨hx, hb, hml, hown, hts⟩ hM (va_cwS (na_h1 hi) hts (fun w hw => by
                unfold va_wsS at hw
                rcases List.mem_append.mp hw with q | q
                · simp only [List.mem_cons, List.not_mem_nil, or_false] at q
                  rcases q with rfl | rfl | rfl
                  · exact ⟨hl1, na_good _ hl1⟩
                  · exact ⟨hl2, na_good _ hl2⟩
                  · exact ⟨hl3, na_good _ hl3⟩
                · exact hG w q) rfl rfl rfl ⟨hl6, hl7, hl8⟩ ⟨Nat.le_trans hI1 hfr, Nat.le_trans hI2 hlo⟩) ⟨na_blind, na_pre hB hPw hDw hSw⟩ rfl (by simp [hvl]) hlv.1 hst2 hroom hd ⟨hcs, hss⟩
            · exact va_runSN ⟨hx, hb, hml, hown, hts⟩ hM ⟨va_cnB (na_h1 hi) hts hG rfl rfl rfl (by rw [z1, z2, z3]; exact hKw.1) (hts _ hl3) ⟨hl6, hl7, hl8⟩ ⟨Nat.le_trans hI1 hfr, Nat.le_trans hI2 hlo⟩, hts _ hl2, trivial⟩ ⟨na_blind, na_pre hB hPw hDw hSw⟩ rfl (by simp [hvl]) hlv.1 hst2 hroom hd ⟨hcs, hss⟩
            · exact va_runSN ⟨hx, hb, hml, hown, hts⟩ hM ⟨va_cnB (na_h1 hi) hts hG rfl rfl rfl (by rw [z1, z2, z3]; exact hKw.2.1) (hts _ hl3) ⟨hl6, hl7, hl8⟩ ⟨Nat.le_trans hI1 hfr, Nat.le_trans hI2 hlo⟩, hts _ hl2, trivial⟩ ⟨na_blind, na_pre hB hPw hDw hSw⟩ rfl (by simp [hvl]) hlv.1 hst2 hroom hd ⟨hcs, hss⟩
    | invokevirtual idx =>
      dsimp only [na_stp] at h
      simp only [na_okI, Bool.and_eq_true, beq_iff_eq] at hI
      obtain ⟨⟨hlen, hI1⟩, hI2⟩ := hI
      subst hlen
      have hI1 := Nat.le_of_ble_eq_true hI1
      have hI2 := Nat.le_of_ble_eq_true hI2
      simp only [na_lk] at hlk
      obtain ⟨vs, r5, e5, hvl, h5⟩ := na_tk_s _ _ _ _ h
      subst e5
      obtain ⟨hl1, hl2, hl3, hl4, hl5, hl6, hl7, hl8, hl9, hrcv⟩ := hlk
      cases hct : (Nat.ble (na_ct r5) 8 && na_rc (na_h2 hi) (vs.reverse ++ [])) with
      | false => simp only [hct, cond_false] at h5
      | true =>
        simp only [hct, cond_true] at h5
        simp only [Bool.and_eq_true, List.append_nil] at hct
        simp only [List.append_nil] at h5
        obtain ⟨hct, hrc⟩ := hct
        have hct := Nat.le_of_ble_eq_true hct
        have hM := h5 l D ca ad fm N0 s0 hC
        obtain ⟨a, as', hvs⟩ : ∃ (a : Nat) (as' : List Value), vs.reverse = .ref a :: as' := by
          unfold na_rc at hrc
          split at hrc
          · rename_i a as' hq
            exact ⟨a, as', hq⟩
          · cases hrc
        have hvs2 : vs = as'.reverse ++ [.ref a] := by
          have := congrArg List.reverse hvs
          simpa using this
        rw [hvs] at hM hrc
        have hrecv : a ≠ 90 ∧ ∃ cellB : Cell, H[ad a]? = some cellB ∧ cellB.vm.isStatics = false ∧ s.vm.findClass (na_mi (na_h0 hi)).1.cls = some cellB.cls := by
          rcases hrcv with ⟨z1, z2⟩ | ⟨z1, q, z2, z3⟩
          · rw [z1] at hrc
            have hrc : (Nat.ble 100 a && Nat.ble a 116) = true := hrc
            simp only [Bool.and_eq_true] at hrc
            have ha1 := Nat.le_of_ble_eq_true hrc.1
            have ha2 := Nat.le_of_ble_eq_true hrc.2
            obtain ⟨i, rfl⟩ : ∃ i, a = 100 + i := ⟨a - 100, by omega⟩
            obtain ⟨q, hq⟩ := na_wd_at (i := i) (by omega)
            obtain ⟨cell, g1, g2, g3, -⟩ := (na_C.O (hwd i q hq).1 hal hh').kept hSw.2.1
            exact ⟨by omega, cell, g1, g2, by rw [z2]; exact g3⟩
          · have e9 : Nat.beq (na_h2 hi) 9 = false := na_beqF z1
            unfold na_rc at hrc
            simp only [e9, cond_false] at hrc
            split at hrc
            · rename_i q2 hq2
              obtain ⟨c0, fs⟩ := q2
              have hcc := Nat.eq_of_beq_eq_true hrc
              rw [← z3]
              exact ⟨na_lay_lt hq2, va_recv hK hPw (ci := c0) (q0 := a) (by rw [show c0 = na_h2 hi from hcc]; exact z2) (na_ws_at hq2)⟩
            · cases hrc
        obtain ⟨ha90, hcell⟩ := hrecv
        have hst2 : (F0 m pc lsA ((vs ++ r5).map (na_tv ad fm))).stack = (as'.map (na_tv ad fm)).reverse ++ .ref (ad a) :: r5.map (na_tv ad fm) := by
          show (vs ++ r5).map (na_tv ad fm) = _
          rw [hvs2]
          simp [na_tv_ref ha90]
        have hlen2 : as'.length = na_h1 hi - 1 := by
          have : vs.length = as'.length + 1 := by rw [hvs2]; simp
          omega
        have hG : GoodIn na_Tg (na_ww (na_mi (na_h0 hi))) := fun w hw => by
          rcases List.mem_cons.mp hw with q | q
          · subst q
            exact ⟨hl5, na_good _ hl5⟩
          · exact ⟨q, na_good _ q⟩
        have hroom : 2 * (F0 m pc lsA ((vs ++ r5).map (na_tv ad fm))).monitorRoom + ((r5.map (na_tv ad fm)).map fun v => v.category).sum ≤ 8 := lv_room (by rw [na_tvs_cat hfm]; exact hct)
        have hpre := na_pre (av := .ref a :: as') hB hPw hDw hSw
        have eav : (Value.ref a :: as').map (na_tv ad fm) = Value.ref (ad a) :: as'.map (na_tv ad fm) := by simp [na_tv_ref ha90]
        rw [eav] at hpre
        refine na_back (Post := fun v I' J' => k r ls (na_pu v r5) I' J') (rest := r5) (a := (Value.ref (ad a) :: as'.map (na_tv ad fm)).toArray) hB hSw hlv ?_ (fun rr I' J' hp H' locs' hiv' => nx _ _ _ _ hp _ _ _ hiv')
        · exact va_runV (C := (na_mi (na_h0 hi)).1.cls) ⟨hx, hb, hml, hown, hts⟩ hM (cwV (na_h1 hi - 1) hts (fun w hw => by
            unfold wsV at hw
            rcases List.mem_append.mp hw with q | q
            · simp only [List.mem_cons, List.not_mem_nil, or_false] at q
              rcases q with rfl | rfl | rfl | rfl
              · exact ⟨hl1, na_good _ hl1⟩
              · exact ⟨hl2, na_good _ hl2⟩
              · exact ⟨hl3, na_good _ hl3⟩
              · exact ⟨hl4, na_good _ hl4⟩
            · exact hG w q) rfl rfl rfl ⟨rfl, hl6, hl7, hl8⟩ ⟨Nat.le_trans hI1 hfr, Nat.le_trans hI2 hlo⟩) ⟨na_blind, hcell, hpre⟩ rfl (by simp [hlen2]) hlv.1 hst2 hroom hd ⟨hcs, hss⟩
    | return_ =>
      dsimp only [na_stp] at h
      simp only [na_okI, Bool.and_eq_true, beq_iff_eq] at hI
      obtain ⟨h1, h2⟩ := hI
      subst h1
      split at h
      · exact hE none I J H locs pc lsA h hPw hDw hSw ⟨hd, by simpa using h2⟩
      · exact h.elim
    | ireturn =>
      dsimp only [na_stp] at h
      simp only [na_okI, Bool.and_eq_true, beq_iff_eq] at hI
      obtain ⟨h1, h2⟩ := hI
      subst h1
      split at h
      · rename_i v ty
        exact hE (some (.int v)) I J H locs pc lsA h.2 hPw hDw hSw ⟨hd, ty, rfl, h2, h.1⟩
      · exact h.elim
    | lreturn =>
      dsimp only [na_stp] at h
      simp only [na_okI, Bool.and_eq_true, beq_iff_eq] at hI
      obtain ⟨h1, h2⟩ := hI
      subst h1
      split at h
      · rename_i v
        exact hE (some (.long v)) I J H locs pc lsA h hPw hDw hSw ⟨hd, na_lty_s h2⟩
      · exact h.elim
    | areturn =>
      dsimp only [na_stp] at h
      simp only [na_okI, Bool.and_eq_true, beq_iff_eq] at hI
      obtain ⟨h1, h2⟩ := hI
      subst h1
      split at h
      · rename_i a
        cases h9 : Nat.beq a 90 with
        | true => rw [h9] at h; exact (show False from h).elim
        | false =>
          rw [h9] at h
          obtain ⟨ty, t1, t2⟩ := na_ot_s h2
          exact hE (some (.ref a)) I J H locs pc lsA h hPw hDw hSw ⟨hd, Nat.ne_of_beq_eq_false h9, ty, t1, t2⟩
      · exact h.elim
    | _ => exact (show False from h).elim
  exact key
end NaStep
