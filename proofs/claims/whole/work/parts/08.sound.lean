section NaSound
variable {p : Program} {l : Launch} {e : Env} {R : Room} {s s0 : State} {m : MethodId} {args : Array Value} {below : List Frame} {meth : Method} {c : Code} {cells slots : Nat} {Q : State → Prop}
variable {sx : Nat × (Nat → Int32)} {D : va_G} {ca ad : Nat → Nat} {fm : Value} {N0 : Nat} {own : String} {cc : ByteArray} {P : List En} {nL fr lo : Nat} {rt : Option FieldType} {Rt : Option Value → Mm → Ml → Prop}
/-- the true machine holds the small one's memory and locals -/
def na_iv (D : va_G) (ca ad : Nat → Nat) (fm : Value) (N0 : Nat) (s : State) (nL : Nat) (H : Heap) (locs : List Loc) (lsA : Array Slot) (ls : Lo) (I : Mm) (J : Ml) : Prop :=
  va_P D vwCl (na_ws ca ad I J 0 na_lay) H ∧ va_D (na_A N0) (na_ws ca ad I J 0 na_lay) ∧ va_S (na_A N0) s.heap H locs ∧ na_lv ad fm lsA nL ls
/-- what is given at a method's body -/
def na_B (sx : Nat × (Nat → Int32)) (D : va_G) (ca ad : Nat → Nat) (fm : Value) (N0 : Nat) (s0 : State) (own : String) (cc : ByteArray) (nL fr lo : Nat) (p : Program) (R : Room) (s : State) (m : MethodId) (args : Array Value) (c : Code) (cells slots : Nat) : Prop :=
  na_C sx D ca ad fm N0 s0 ∧ p.tables.exec = Jvm.exec ∧ c.code = cc ∧ c.maxLocals = nL ∧ s.vm.findClass own = some m.cls ∧ (∀ w ∈ na_Tg, w.before args s = true) ∧ na_Kw ad s ∧ s0.vm.Alike s.vm ∧ (∀ q : Nat, q < N0 → s.heap[q]? = s0.heap[q]?) ∧ N0 ≤ s.heap.size ∧ fr ≤ R.frames ∧ lo ≤ R.locals ∧ cells ≤ R.cells ∧ slots ≤ R.slots
/-- from these rows on, with these locals, this stack, this memory, the true machine comes to Q -/
def na_At (D : va_G) (ca ad : Nat → Nat) (fm : Value) (N0 : Nat) (nL : Nat) (p : Program) (l : Launch) (e : Env) (R : Room) (s : State) (m : MethodId) (args : Array Value) (below : List Frame) (meth : Method) (c : Code) (cells slots : Nat) (Q : State → Prop) (sfx : List En) (ls : Lo) (st : List Value) (I : Mm) (J : Ml) : Prop :=
  ∀ (x : En) (r : List En), sfx = x :: r → ∀ (H : Heap) (locs : List Loc) (lsA : Array Slot), na_iv D ca ad fm N0 s nL H locs lsA ls I J → W p l e R s m args below meth c H locs cells slots Q (F0 m x.1 lsA (st.map (na_tv ad fm)))
/-- the method's end at pc -/
def na_rd (cc : ByteArray) (rt : Option FieldType) (pc : Nat) (v : Option Value) : Prop := match v with
  | none => decode cc pc = .ok (.return_, 1) ∧ rt = none
  | some (.int v) => decode cc pc = .ok (.ireturn, 1) ∧ ∃ ty, rt = some ty ∧ na_ity ty = true ∧ na_nl ty v
  | some (.long _) => decode cc pc = .ok (.lreturn, 1) ∧ rt = some .long
  | some (.ref a) => decode cc pc = .ok (.areturn, 1) ∧ a ≠ 90 ∧ ∃ ty, rt = some ty ∧ na_rty ty = true
  | _ => False
def na_En (D : va_G) (ca ad : Nat → Nat) (fm : Value) (N0 : Nat) (cc : ByteArray) (rt : Option FieldType) (Rt : Option Value → Mm → Ml → Prop) (p : Program) (l : Launch) (e : Env) (R : Room) (s : State) (m : MethodId) (args : Array Value) (below : List Frame) (meth : Method) (c : Code) (cells slots : Nat) (Q : State → Prop) : Prop :=
  ∀ (v : Option Value) (I : Mm) (J : Ml) (H : Heap) (locs : List Loc) (pc : Nat) (lsA : Array Slot), Rt v I J → va_P D vwCl (na_ws ca ad I J 0 na_lay) H → va_D (na_A N0) (na_ws ca ad I J 0 na_lay) → va_S (na_A N0) s.heap H locs → na_rd cc rt pc v → W p l e R s m args below meth c H locs cells slots Q (F0 m pc lsA (v.map (na_tv ad fm)).toList)
theorem na_run {H : Heap} {locs : List Loc} {pc : Nat} {lsA : Array Slot} {st0 rest : List Value} {Qa : State → Outcome → State → Prop} {A : Nat → Prop} (hr : va_Run p l e R s m args below meth c H locs cells slots 0 0 (F0 m pc lsA st0) rest Qa A) (hL : ∀ q ∈ locs, A q.base)
    (kk : ∀ (v : Option Value) (st t : State) (locs1 : List Loc), st.heap = H → Qa st (.returned v) t → (∀ q ∈ locs1, A q.base) → W p l e R s m args below meth c t.heap locs1 cells slots Q (F0 m (pc + 3) lsA (v.toList ++ rest))) : W p l e R s m args below meth c H locs cells slots Q (F0 m pc lsA st0) := by
  intro T hT X
  obtain ⟨v, st₀, t, T', L, h0, X', hL1, e1, e2, hq, st⟩ := hr T hT X
  obtain ⟨t2, a1, b1⟩ := kk v st₀ t (locs ++ L) h0 hq (fun q hq => by
    rcases List.mem_append.mp hq with h | h
    · exact hL q h
    · exact hL1 q h) T' e1 X'
  exact ⟨t2, st t2 a1, b1⟩
end NaSound
