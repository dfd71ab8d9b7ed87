/-! lists, worlds and locals of the small machine -/
theorem na_nth_eq {α : Type} : ∀ (l : List α) (i : Nat), na_nth l i = l[i]?
  | [], i => by simp [na_nth]
  | a :: r, 0 => by simp [na_nth]
  | a :: r, i + 1 => by simp [na_nth, na_nth_eq r i]
theorem na_dr_eq {α : Type} : ∀ (n : Nat) (l : List α), na_dr n l = l.drop n
  | 0, l => by simp [na_dr]
  | n + 1, [] => by simp [na_dr]
  | n + 1, a :: r => by simp [na_dr, na_dr_eq n r]
theorem na_fs_get (ad : Nat → Nat) (I : Mm) (J : Ml) (k : Nat) : ∀ (fs : List Nat) (j i : Nat), (na_fs ad I J k j fs)[i]? = (fs[i]?).map (na_fv ad I J k (j + i))
  | [], j, i => by simp [na_fs]
  | c :: r, j, 0 => by simp [na_fs]
  | c :: r, j, i + 1 => by
    have h := na_fs_get ad I J k r (j + 1) i
    simp only [na_fs, List.getElem?_cons_succ, h]
    rw [show j + 1 + i = j + (i + 1) by omega]
theorem na_fs_len (ad : Nat → Nat) (I : Mm) (J : Ml) (k : Nat) : ∀ (fs : List Nat) (j : Nat), (na_fs ad I J k j fs).length = fs.length
  | [], j => rfl
  | c :: r, j => by simp [na_fs, na_fs_len ad I J k r (j + 1)]
theorem na_ws_get (ca ad : Nat → Nat) (I : Mm) (J : Ml) : ∀ (L : List Ly) (k i : Nat), (na_ws ca ad I J k L)[i]? = (L[i]?).map (fun e => (ad (k + i), na_ce ca ad I J (k + i) e))
  | [], k, i => by simp [na_ws]
  | c :: r, k, 0 => by simp [na_ws]
  | c :: r, k, i + 1 => by
    have h := na_ws_get ca ad I J r (k + 1) i
    simp only [na_ws, List.getElem?_cons_succ, h]
    rw [show k + 1 + i = k + (i + 1) by omega]
theorem na_ws_at {ca ad : Nat → Nat} {I : Mm} {J : Ml} {k : Nat} {e : Ly} (h : na_nth na_lay k = some e) : (na_ws ca ad I J 0 na_lay)[k]? = some (ad k, na_ce ca ad I J k e) := by
  rw [na_nth_eq] at h
  rw [na_ws_get, h]
  simp
theorem na_fv_congr {ad : Nat → Nat} {I I' : Mm} {J J' : Ml} {k j : Nat} (hI : I' k = I k) (hJ : J' k = J k) : ∀ c : Nat, na_fv ad I' J' k j c = na_fv ad I J k j c
  | 0 => by simp [na_fv, hI]
  | 1 => by simp [na_fv, hJ]
  | n + 2 => rfl
theorem na_ce_congr {ca ad : Nat → Nat} {I I' : Mm} {J J' : Ml} {k : Nat} (hI : I' k = I k) (hJ : J' k = J k) (e : Ly) : na_ce ca ad I' J' k e = na_ce ca ad I J k e := by
  rcases e with ⟨t, n⟩ | ⟨c, fs⟩
  · match t with
    | 0 => simp [na_ce, hI]
    | 1 => simp [na_ce, hJ]
    | t + 2 => simp [na_ce]
  · have : na_fs ad I' J' k 0 fs = na_fs ad I J k 0 fs := by
      apply List.ext_getElem?
      intro i
      rw [na_fs_get, na_fs_get]
      congr 1
      exact funext fun c => na_fv_congr hI hJ c
    simp [na_ce, this]
theorem na_ws_set {ca ad : Nat → Nat} {I I' : Mm} {J J' : Ml} {k : Nat} {e : Ly} (h : na_nth na_lay k = some e) (ho : ∀ a, a ≠ k → I' a = I a ∧ J' a = J a) : (na_ws ca ad I J 0 na_lay).set k (ad k, na_ce ca ad I' J' k e) = na_ws ca ad I' J' 0 na_lay := by
  have h' := h
  rw [na_nth_eq] at h
  apply List.ext_getElem?
  intro i
  rw [List.getElem?_set]
  by_cases hi : k = i
  · subst hi
    have hl : k < (na_ws ca ad I J 0 na_lay).length := by
      rcases Nat.lt_or_ge k (na_ws ca ad I J 0 na_lay).length with q | q
      · exact q
      · have := na_ws_at (ca := ca) (ad := ad) (I := I) (J := J) h'
        rw [List.getElem?_eq_none q] at this
        cases this
    rw [if_pos rfl, if_pos hl, na_ws_at h']
  · rw [if_neg hi, na_ws_get, na_ws_get]
    congr 1
    funext e'
    rw [na_ce_congr (ho _ (by omega)).1 (ho _ (by omega)).2]
theorem na_set_off {I : Mm} {k j : Nat} {v : Int32} {a : Nat} (h : a ≠ k) : na_set I k j v a = I a := by simp [na_set, h]
theorem na_set_on {I : Mm} {k j : Nat} {v : Int32} : na_set I k j v k = upd (I k) j v := by simp [na_set]
theorem na_setL_off {J : Ml} {k j : Nat} {v : Int64} {a : Nat} (h : a ≠ k) : na_setL J k j v a = J a := by simp [na_setL, h]
theorem na_setL_on {J : Ml} {k j : Nat} {v : Int64} : na_setL J k j v k = vp_updL (J k) j v := by simp [na_setL]
theorem na_cpI_off {I : Mm} {a d sp dp n b : Nat} (h : b ≠ d) : na_cpI I a d sp dp n b = I b := by simp [na_cpI, h]
theorem na_cpI_on {I : Mm} {a d sp dp n : Nat} : na_cpI I a d sp dp n d = va_cpy (I a) (I d) sp dp n := by simp [na_cpI]
theorem na_cpL_off {J : Ml} {a d sp dp n b : Nat} (h : b ≠ d) : na_cpL J a d sp dp n b = J b := by simp [na_cpL, h]
theorem na_cpL_on {J : Ml} {a d sp dp n : Nat} : na_cpL J a d sp dp n d = va_cpy (J a) (J d) sp dp n := by simp [na_cpL]
/-- an object's cell with one field changed -/
theorem na_fs_set {ad : Nat → Nat} {I I' : Mm} {J J' : Ml} {k j : Nat} {fs : List Nat} {c : Nat} {v : Value} (hc : fs[j]? = some c) (hv : na_fv ad I' J' k j c = v) (ho : ∀ b, b ≠ j → I' k b = I k b ∧ J' k b = J k b) : (na_fs ad I J k 0 fs).set j v = na_fs ad I' J' k 0 fs := by
  apply List.ext_getElem?
  intro i
  rw [List.getElem?_set]
  by_cases hi : j = i
  · subst hi
    have hl : j < (na_fs ad I J k 0 fs).length := by
      rw [na_fs_len]
      exact (List.getElem?_eq_some_iff.mp hc).1
    rw [if_pos rfl, if_pos hl, na_fs_get, hc]
    simp [hv]
  · rw [if_neg hi, na_fs_get, na_fs_get]
    congr 1
    funext c'
    have h1 := ho (0 + i) (by omega)
    match c' with
    | 0 => simp only [na_fv, h1.1]
    | 1 => simp only [na_fv, h1.2]
    | n + 2 => rfl
/-! locals -/
def na_lv (ad : Nat → Nat) (fm : Value) (lsA : Array Slot) (nL : Nat) (ls : Lo) : Prop := lsA.size = nL ∧ lv_wf lsA ∧ ∀ (i : Nat) (v : Value), ls[i]? = some (some v) → lsA[i]? = some (.val (na_tv ad fm v))
def na_al (ad : Nat → Nat) (fm : Value) (ls : Lo) : List (Nat × Value) := (List.range ls.length).filterMap fun i => match ls[i]? with
  | some (some v) => some (i, na_tv ad fm v)
  | _ => none
theorem na_al_mem {ad : Nat → Nat} {fm : Value} {ls : Lo} {q : Nat × Value} : q ∈ na_al ad fm ls ↔ ∃ v, ls[q.1]? = some (some v) ∧ q.2 = na_tv ad fm v := by
  unfold na_al
  rw [List.mem_filterMap]
  constructor
  · rintro ⟨i, -, h⟩
    cases hl : ls[i]? with
    | none => simp [hl] at h
    | some o =>
      cases o with
      | none => simp [hl] at h
      | some v =>
        simp only [hl, Option.some.injEq] at h
        subst h
        exact ⟨v, hl, rfl⟩
  · rintro ⟨v, h1, h2⟩
    refine ⟨q.1, ?_, ?_⟩
    · rw [List.mem_range]
      exact (List.getElem?_eq_some_iff.mp h1).1
    · simp [h1, ← h2]
theorem na_lv.has {ad : Nat → Nat} {fm : Value} {lsA : Array Slot} {nL : Nat} {ls : Lo} (h : na_lv ad fm lsA nL ls) : lv_has lsA nL (na_al ad fm ls) :=
  ⟨h.1, h.2.1, fun q hq => by
    obtain ⟨v, h1, h2⟩ := na_al_mem.mp hq
    rw [h2]
    exact h.2.2 q.1 v h1⟩
theorem na_tv_cat {ad : Nat → Nat} {fm : Value} (hf : fm = .null ∨ ∃ t : Nat, fm = .ref t) (v : Value) : (na_tv ad fm v).category = v.category := by
  cases v <;> simp only [na_tv]
  split
  · rcases hf with rfl | ⟨t, rfl⟩ <;> rfl
  · rfl
theorem na_s1_get : ∀ (ls : Lo) (i j : Nat) (v w : Value), (na_s1 ls i v)[j]? = some (some w) → (j = i ∧ w = v) ∨ (j ≠ i ∧ ls[j]? = some (some w) ∧ ¬ (j + 1 = i ∧ ((∃ x, w = .long x) ∨ ∃ x, w = .double x)))
  | [], i, j, v, w, h => by simp [na_s1] at h
  | x :: r, 0, 0, v, w, h => by
    simp only [na_s1, List.getElem?_cons_zero, Option.some.injEq] at h
    exact Or.inl ⟨rfl, h.symm⟩
  | x :: r, 0, j + 1, v, w, h => by
    simp only [na_s1, List.getElem?_cons_succ] at h
    exact Or.inr ⟨by omega, by simpa using h, fun q => by omega⟩
  | x :: r, 1, 0, v, w, h => by
    simp only [na_s1, List.getElem?_cons_zero, Option.some.injEq] at h
    split at h
    · cases h
    · cases h
    · rename_i h1 h2
      subst h
      refine Or.inr ⟨by omega, by simp, fun q => ?_⟩
      rcases q.2 with ⟨y, hy⟩ | ⟨y, hy⟩
      · exact h1 y (by rw [hy])
      · exact h2 y (by rw [hy])
  | x :: r, 1, j + 1, v, w, h => by
    simp only [na_s1, List.getElem?_cons_succ] at h
    rcases na_s1_get r 0 j v w h with ⟨h1, h2⟩ | ⟨h1, h2, h3⟩
    · exact Or.inl ⟨by omega, h2⟩
    · exact Or.inr ⟨by omega, by simpa using h2, fun q => by omega⟩
  | x :: r, i + 2, 0, v, w, h => by
    simp only [na_s1, List.getElem?_cons_zero, Option.some.injEq] at h
    exact Or.inr ⟨by omega, by simpa using h, fun q => by omega⟩
  | x :: r, i + 2, j + 1, v, w, h => by
    simp only [na_s1, List.getElem?_cons_succ] at h
    rcases na_s1_get r (i + 1) j v w h with ⟨h1, h2⟩ | ⟨h1, h2, h3⟩
    · exact Or.inl ⟨by omega, h2⟩
    · exact Or.inr ⟨by omega, by simpa using h2, fun q => h3 ⟨by omega, q.2⟩⟩
theorem na_s2_get : ∀ (ls : Lo) (i j : Nat) (v w : Value), (na_s2 ls i v)[j]? = some (some w) → (j = i ∧ w = v) ∨ (j ≠ i ∧ j ≠ i + 1 ∧ ls[j]? = some (some w) ∧ ¬ (j + 1 = i ∧ ((∃ x, w = .long x) ∨ ∃ x, w = .double x)))
  | [], i, j, v, w, h => by simp [na_s2] at h
  | x :: r, 0, 0, v, w, h => by
    simp only [na_s2, List.getElem?_cons_zero, Option.some.injEq] at h
    exact Or.inl ⟨rfl, h.symm⟩
  | x :: r, 0, j + 1, v, w, h => by
    simp only [na_s2, List.getElem?_cons_succ] at h
    cases r with
    | nil => simp [na_n1] at h
    | cons y r =>
      cases j with
      | zero => simp [na_n1] at h
      | succ j => exact Or.inr ⟨by omega, by omega, by simpa [na_n1] using h, fun q => by omega⟩
  | x :: r, 1, 0, v, w, h => by
    simp only [na_s2, List.getElem?_cons_zero, Option.some.injEq] at h
    split at h
    · cases h
    · cases h
    · rename_i h1 h2
      subst h
      refine Or.inr ⟨by omega, by omega, by simp, fun q => ?_⟩
      rcases q.2 with ⟨y, hy⟩ | ⟨y, hy⟩
      · exact h1 y (by rw [hy])
      · exact h2 y (by rw [hy])
  | x :: r, 1, j + 1, v, w, h => by
    simp only [na_s2, List.getElem?_cons_succ] at h
    rcases na_s2_get r 0 j v w h with ⟨h1, h2⟩ | ⟨h1, h4, h2, h3⟩
    · exact Or.inl ⟨by omega, h2⟩
    · exact Or.inr ⟨by omega, by omega, by simpa using h2, fun q => by omega⟩
  | x :: r, i + 2, 0, v, w, h => by
    simp only [na_s2, List.getElem?_cons_zero, Option.some.injEq] at h
    exact Or.inr ⟨by omega, by omega, by simpa using h, fun q => by omega⟩
  | x :: r, i + 2, j + 1, v, w, h => by
    simp only [na_s2, List.getElem?_cons_succ] at h
    rcases na_s2_get r (i + 1) j v w h with ⟨h1, h2⟩ | ⟨h1, h4, h2, h3⟩
    · exact Or.inl ⟨by omega, h2⟩
    · exact Or.inr ⟨by omega, by omega, by simpa using h2, fun q => h3 ⟨by omega, q.2⟩⟩
/-- a store of one slot -/
theorem na_lv.s1 {ad : Nat → Nat} {fm : Value} {lsA : Array Slot} {nL i : Nat} {ls : Lo} {v : Value} (hf : fm = .null ∨ ∃ t : Nat, fm = .ref t) (h : lv_has lsA nL ((i, na_tv ad fm v) :: (na_al ad fm ls).filter (fun q => !(q.1 == i) && !(q.1 + 1 == i && q.2.category == 2)))) : na_lv ad fm lsA nL (na_s1 ls i v) := by
  refine ⟨h.1, h.2.1, fun j w hj => ?_⟩
  rcases na_s1_get ls i j v w hj with ⟨rfl, rfl⟩ | ⟨hi, h1, h2⟩
  · exact h.2.2 (j, na_tv ad fm w) List.mem_cons_self
  · refine h.2.2 (j, na_tv ad fm w) (List.mem_cons_of_mem _ (List.mem_filter.mpr ⟨na_al_mem.mpr ⟨w, h1, rfl⟩, ?_⟩))
    simp only [Bool.and_eq_true, Bool.not_eq_true', beq_eq_false_iff_ne, ne_eq, Bool.and_eq_false_iff]
    refine ⟨hi, ?_⟩
    by_cases hj1 : j + 1 = i
    · refine Or.inr fun hc => ?_
      rw [na_tv_cat hf] at hc
      cases w with
      | long x => exact h2 ⟨hj1, Or.inl ⟨x, rfl⟩⟩
      | double x => exact h2 ⟨hj1, Or.inr ⟨x, rfl⟩⟩
      | _ => simp [Value.category] at hc
    · exact Or.inl hj1
theorem na_lv.s2 {ad : Nat → Nat} {fm : Value} {lsA : Array Slot} {nL i : Nat} {ls : Lo} {v : Value} (hf : fm = .null ∨ ∃ t : Nat, fm = .ref t) (h : lv_has lsA nL ((i, na_tv ad fm v) :: (na_al ad fm ls).filter (fun q => !(q.1 == i) && (!(q.1 == i + 1) && !(q.1 + 1 == i && q.2.category == 2))))) : na_lv ad fm lsA nL (na_s2 ls i v) := by
  refine ⟨h.1, h.2.1, fun j w hj => ?_⟩
  rcases na_s2_get ls i j v w hj with ⟨rfl, rfl⟩ | ⟨hi, hi2, h1, h2⟩
  · exact h.2.2 (j, na_tv ad fm w) List.mem_cons_self
  · refine h.2.2 (j, na_tv ad fm w) (List.mem_cons_of_mem _ (List.mem_filter.mpr ⟨na_al_mem.mpr ⟨w, h1, rfl⟩, ?_⟩))
    simp only [Bool.and_eq_true, Bool.not_eq_true', beq_eq_false_iff_ne, ne_eq, Bool.and_eq_false_iff]
    refine ⟨hi, hi2, ?_⟩
    by_cases hj1 : j + 1 = i
    · refine Or.inr fun hc => ?_
      rw [na_tv_cat hf] at hc
      cases w with
      | long x => exact h2 ⟨hj1, Or.inl ⟨x, rfl⟩⟩
      | double x => exact h2 ⟨hj1, Or.inr ⟨x, rfl⟩⟩
      | _ => simp [Value.category] at hc
    · exact Or.inl hj1
