/-! ONE INSTRUCTION OF THE SMALL MACHINE IS ONE OF THE TRUE ONE -/
theorem na_pI_s {st : List Value} {k : Int32 → List Value → Prop} (h : na_pI st k) : ∃ x r, st = .int x :: r ∧ k x r := by
  unfold na_pI at h
  split at h
  · exact ⟨_, _, rfl, h⟩
  · exact h.elim
theorem na_pL_s {st : List Value} {k : Int64 → List Value → Prop} (h : na_pL st k) : ∃ x r, st = .long x :: r ∧ k x r := by
  unfold na_pL at h
  split at h
  · exact ⟨_, _, rfl, h⟩
  · exact h.elim
theorem na_pR_s {st : List Value} {k : Nat → List Value → Prop} (h : na_pR st k) : ∃ (x : Nat) (r : List Value), st = .ref x :: r ∧ k x r := by
  unfold na_pR at h
  split at h
  · exact ⟨_, _, rfl, h⟩
  · exact h.elim
theorem na_p1_s {st : List Value} {k : Value → List Value → Prop} (h : na_p1 st k) : ∃ v r, st = v :: r ∧ v.category = 1 ∧ k v r := by
  unfold na_p1 at h
  split at h
  · exact ⟨_, _, rfl, rfl, h⟩
  · exact ⟨_, _, rfl, rfl, h⟩
  · exact h.elim
theorem na_ld_s {l : Option (Option Value)} {k : Value → Prop} (h : na_ld l k) : ∃ v, l = some (some v) ∧ k v := by
  unfold na_ld at h
  split at h
  · exact ⟨_, rfl, h⟩
  · exact h.elim
theorem na_tk_s : ∀ (n : Nat) (acc st : List Value) (k : List Value → List Value → Prop), na_tk n acc st k → ∃ vs r, st = vs ++ r ∧ vs.length = n ∧ k (vs.reverse ++ acc) r
  | 0, acc, st, k, h => ⟨[], st, rfl, rfl, h⟩
  | n + 1, acc, [], k, h => by simp [na_tk] at h
  | n + 1, acc, v :: st, k, h => by
    obtain ⟨vs, r, h1, h2, h3⟩ := na_tk_s n (v :: acc) st k h
    exact ⟨v :: vs, r, by rw [h1]; rfl, by simp [h2], by simpa using h3⟩
theorem na_ct_eq : ∀ st : List Value, na_ct st = (st.map fun v => v.category).sum
  | [] => rfl
  | v :: r => by
    have h := na_ct_eq r
    cases v <;> simp [na_ct, Value.category, h]
theorem na_tvs_cat {ad : Nat → Nat} {fm : Value} (hf : fm = .null ∨ ∃ t : Nat, fm = .ref t) (st : List Value) : ((st.map (na_tv ad fm)).map fun v => v.category).sum = na_ct st := by
  rw [na_ct_eq, List.map_map]
  congr 2
  funext v
  exact na_tv_cat hf v
/-- what the check of a linking instruction says -/
def na_lk (own : String) (i : Instr) (h : List Nat) (v : Int32) (w : Int64) : Prop := match i with
  | .ldc idx => match h with
    | [] => Cond.constant own idx v ∈ na_Tg
    | a :: _ => own = RX2 ∧ ∃ q, na_nth na_wd a = some q ∧ q.1 = idx
  | .ldc_w idx => Cond.constant own idx v ∈ na_Tg
  | .ldc2_w idx => Cond.constantLong own idx w ∈ na_Tg
  | .getfield idx => if na_h0 h = 9 then (na_h1 h = 0 → Cond.fieldLink own idx RJ0 "coder" "B" ∈ na_Tg) ∧ (na_h1 h = 1 → Cond.fieldLink own idx RJ0 "value" "[B" ∈ na_Tg) else
      ∃ (C : String) (T : u_T) (N : Nat), vwCl[na_h0 h]? = some (C, T, N) ∧ (∀ w ∈ u_ws C T N, w ∈ na_Tg) ∧ na_h1 h < N ∧ Cond.fieldLink own idx (T (na_h1 h)).1 (T (na_h1 h)).2.1 (T (na_h1 h)).2.2.1 ∈ na_Tg
  | .putfield idx => ∃ (C : String) (T : u_T) (N : Nat) (ty : Nat → FieldType), vwCl[na_h0 h]? = some (C, T, N) ∧ (∀ w ∈ u_ws C T N, w ∈ na_Tg) ∧ (∀ k, k < N → parseFieldDescriptor (T k).2.2.1 = some (ty k)) ∧ (∀ a, a < N → ∀ b, b < N → a ≠ b → (T a).2.1 ≠ (T b).2.1) ∧ na_h1 h < N ∧ Cond.fieldLink own idx (T (na_h1 h)).1 (T (na_h1 h)).2.1 (T (na_h1 h)).2.2.1 ∈ na_Tg ∧ (T (na_h1 h)).2.2.2 = false ∧ ((na_h2 h = 0 ∧ ty (na_h1 h) = .int) ∨ (na_h2 h = 1 ∧ ty (na_h1 h) = .boolean) ∨ (na_h2 h = 2 ∧ ty (na_h1 h) = .long))
  | .getstatic idx => ∃ q, na_nth na_st (na_h0 h) = some q ∧ (Cond.fieldLink own idx q.1 q.2.1 q.2.2.1 ∈ na_Tg ∨ (own = RX2 ∧ idx = 111 ∧ q.1 = RX3 ∧ q.2.1 = "MOST_OF_ROOM" ∧ q.2.2.1 = "[I"))
  | .invokestatic idx => if na_h0 h = 998 then True else if na_h0 h = 997 then Cond.methodLink own idx Lib.Math.min.name ∈ na_Tg else if na_h0 h = 996 then Cond.methodLink own idx Lib.Math.max.name ∈ na_Tg else if na_h0 h = 999 then Cond.methodLink own idx arraycopyName ∈ na_Tg else
      (Cond.methodLink own idx (na_mi (na_h0 h)).1 ∈ na_Tg ∨ (own = RX0 ∧ idx = 65 ∧ (na_mi (na_h0 h)).1 = yX3_has) ∨ (own = RX2 ∧ idx = 137 ∧ (na_mi (na_h0 h)).1 = yX3_outside)) ∧ Cond.static (na_mi (na_h0 h)).1 ∈ na_Tg ∧ Cond.initialized (na_mi (na_h0 h)).1.cls ∈ na_Tg ∧ (na_ww (na_mi (na_h0 h))).head? = some (.code (na_mi (na_h0 h)).1 (na_mi (na_h0 h)).2.1 (na_mi (na_h0 h)).2.2.1 (na_mi (na_h0 h)).2.2.2.1) ∧ Cond.code (na_mi (na_h0 h)).1 (na_mi (na_h0 h)).2.1 (na_mi (na_h0 h)).2.2.1 (na_mi (na_h0 h)).2.2.2.1 ∈ na_Tg ∧ (na_mi (na_h0 h)).1.cls ≠ "java/lang/invoke/MethodHandle" ∧ (na_mi (na_h0 h)).1.cls ≠ "java/lang/invoke/VarHandle" ∧ (parseMethodDescriptor (na_mi (na_h0 h)).1.desc).map (fun d => d.parameters.length) = some (na_h1 h)
  | .invokevirtual idx => Cond.methodLink own idx (na_mi (na_h0 h)).1 ∈ na_Tg ∧ Cond.instanceMethod (na_mi (na_h0 h)).1 ∈ na_Tg ∧ Cond.selects (na_mi (na_h0 h)).1.cls (na_mi (na_h0 h)).1 (na_mi (na_h0 h)).1 ∈ na_Tg ∧ Cond.initialized (na_mi (na_h0 h)).1.cls ∈ na_Tg ∧ Cond.code (na_mi (na_h0 h)).1 (na_mi (na_h0 h)).2.1 (na_mi (na_h0 h)).2.2.1 (na_mi (na_h0 h)).2.2.2.1 ∈ na_Tg ∧ (na_mi (na_h0 h)).1.cls ≠ "java/lang/invoke/MethodHandle" ∧ (na_mi (na_h0 h)).1.cls ≠ "java/lang/invoke/VarHandle" ∧ (parseMethodDescriptor (na_mi (na_h0 h)).1.desc).map (fun d => d.parameters.length) = some (na_h1 h - 1) ∧ 1 ≤ na_h1 h ∧ ((na_h2 h = 9 ∧ (na_mi (na_h0 h)).1.cls = RJ0) ∨ (na_h2 h ≠ 9 ∧ ∃ q, vwCl[na_h2 h]? = some q ∧ q.1 = (na_mi (na_h0 h)).1.cls))
  | _ => True
