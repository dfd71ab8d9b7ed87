theorem dW_0 : decode code 0 = .ok (.new 7, 3) := by decide +kernel
theorem dW_3 : decode code 3 = .ok (.dup, 1) := by decide +kernel
theorem dW_4 : decode code 4 = .ok (.invokespecial 9, 3) := by decide +kernel
theorem dW_7 : decode code 7 = .ok (.astore_n 1, 1) := by decide +kernel
theorem dW_8 : decode code 8 = .ok (.new 10, 3) := by decide +kernel
theorem dW_11 : decode code 11 = .ok (.dup, 1) := by decide +kernel
theorem dW_12 : decode code 12 = .ok (.invokespecial 12, 3) := by decide +kernel
theorem dW_15 : decode code 15 = .ok (.astore_n 2, 1) := by decide +kernel
theorem dW_16 : decode code 16 = .ok (.iconst 0, 1) := by decide +kernel
theorem dW_17 : decode code 17 = .ok (.istore_n 3, 1) := by decide +kernel
theorem ni_worldQ {D : va_G} {A : Nat → Prop} {ca u3 u4 : Nat → Nat} {h3 h4 : Nat} {H : Heap} (e : u3 0 = h3) (hP : va_P D vwCl (wX3 ca h3 u3 ++ wX4 ca h4 u4) H) (hD : va_D A (wX3 ca h3 u3 ++ wX4 ca h4 u4)) (rd : Nat → Nat) : va_P D vwCl (na_ws ca (ni_ad u3 h4 u4 rd) I0 J0 0 na_lay) H ∧ va_D A (na_ws ca (ni_ad u3 h4 u4 rd) I0 J0 0 na_lay) := by
  subst e
  exact ni_worldP hP hD rd
/-! THE CLAIM OUT OF ONE WALK OF THE LAW'S BODY. Your part is whole_start (and what it stands on); all else here is the same for every law, but numbers. -/
def lw_P (b : Addr) (xs : List Int32) (args : Array Value) (s : State) : Prop := args = #[.ref b] ∧ s.IntsAt b xs ∧ xs.length ≤ 3072 ∧ (Jvm.Cond.and given_1 narrow_1).before args s = true
def lw_Q (_ : Array Value) (s : State) (o : Outcome) (t : State) : Prop := o = .returned (some (.int 1)) ∧ Framed s o t [] 600000 7302250
def lw_Z (below : List Frame) (a : Array Value) (s : State) : State → Prop := fun t => ∃ o, t.status = .running ∧ Ended t below o ∧ lw_Q a s o t
/-- the law's own end, with 1 on the stack, nothing written that was there before, its room as the claim has it -/
theorem lw_ret {p : Program} {l : Launch} {e : Env} {s : State} {m : MethodId} {below : List Frame} {meth : Method} {c : Code} {b : Nat} (hx : p.tables.exec = Jvm.exec) (hb : c.code = code) (hr : meth.sig.returnType = ret) (hlocks : meth.locks = false) {pc : Nat} {H : Heap} {ls : Array Slot} (hdg : decode code pc = .ok (.ireturn, 1)) : W p l e room_1 s m #[Value.ref b] below meth c H [] 600000 7302250 (lw_Z below #[Value.ref b] s) (F0 m pc ls [.int 1]) := by
  intro T hT X
  obtain ⟨fs, hret, hrun, hended, hW, hframe⟩ := X.leave (v := some (.int 1)) (hlocks := hlocks) (fun h => by rw [hr] at h; cases h)
  have hmeth' : T.vm.method? m = some meth := X.method'
  refine ⟨T.setFrames fs, ?_, .returned (some (.int 1)), hrun, hended, rfl, ⟨_, rfl⟩, hW, hframe⟩
  jvm_step X.here [X.here.top, hx, hb, hdg, hmeth', hr, ret, narrow_b1]
  (try refine ⟨rfl, ?_⟩); (try refine ⟨rfl, ?_⟩)
  first | (intro acts; rw [hret _ acts rfl rfl rfl]) | rw [hret _ _ rfl rfl rfl]
  exact Steps.refl _
/-- what holds at the law's entry: the machine, the code, the tables' words (any of lw_tbl by 'hts w (by decide +kernel)'), the script of L ints xs at the cell b, what the Statement gives of the start (any of its parts by flat_of_before) -/
def lw_At (p : Program) (s : State) (m : MethodId) (meth : Method) (c : Code) (b L : Nat) (xs : Nat → Int32) : Prop :=
  p.tables.exec = Jvm.exec ∧ c.code = code ∧ meth.sig.returnType = ret ∧ c.maxLocals = 4 ∧ s.vm.findClass R_law = some m.cls ∧ (∀ w ∈ lw_tbl, w.before #[Value.ref b] s = true) ∧ va_X b L xs s s.heap ∧ b < s.heap.size ∧ meth.locks = false ∧ (Jvm.Cond.and given_1 narrow_1).before #[Value.ref b] s = true
-- ===== YOUR PART BEGINS =====
set_option maxHeartbeats 4000000 in
set_option maxRecDepth 100000 in
/-- YOUR PART: from the entry, for every script of at most 3072 ints, the law comes to its end with true ('hflags': the launch's flags, for a law that throws: no stack traces) -/
theorem whole_start {p : Program} {e : Env} {s : State} {m : MethodId} {below : List Frame} {meth : Method} {c : Code} (l : Launch) (hflags : l.flags = flags0) {b L : Nat} {xs : Nat → Int32} (hL : L ≤ 3072) (C0 : lw_At p s m meth c b L xs) : W p l e room_1 s m #[Value.ref b] below meth c s.heap [] 0 0 (lw_Z below #[Value.ref b] s) (entryFrame m ([Value.ref b] : List Value).toArray 4) := by
  obtain ⟨hx, hb, hr, hml, hown, hts, hX, hbl, hlocks, hgv⟩ := id C0
  obtain ⟨D, ca, hK⟩ := ni_K hts
  obtain ⟨rd, fm, hrd, hC⟩ := ni_C hts hgv hX hbl hK
  have hKx := ni_Kx0 hts
  obtain ⟨A, hAe⟩ : ∃ A : Nat → Prop, A = na_A s.heap.size := ⟨_, rfl⟩
  have hA : ∀ q : Nat, s.heap.size ≤ q → A q := fun q h => by rw [hAe]; exact h
  have hS : va_S A s.heap s.heap [] := va_S.rf
  have hP : va_P D vwCl [] s.heap := fun k q h => by simp at h
  have hD : va_D A [] := ⟨fun i j p q h => by simp at h, fun k q h => by simp at h⟩
  have hl := lv_entry ([.ref b]) (n := 4) (Nat.le_of_ble_eq_true rfl)
  rw [lg_entry_eq]
  generalize (lg_sl ([.ref b]) ++ List.replicate (4 - (lg_sl ([.ref b])).length) Slot.unset).toArray = ls at hl ⊢
  have hl : lv_has ls 4 [(0, .ref b)] := hl
  refine va_new (ci := 3) (fs := [.null, .null, .null, .int 0, .null, .null, .null]) (C := RX3) (T := TX3) (N := 7) hx hb hts (fun w hw => (List.mem_filter.mp (fw_3 w hw)).1) tyX3 tyX3_ok hown (hts (.classLink R_law 7 RX3) (List.mem_of_getElem? (i := 75) (by decide +kernel))) (hts (.instantiable RX3 7) (List.mem_of_getElem? (i := 76) (by decide +kernel))) (hts (.initialized RX3) (List.mem_of_getElem? (i := 63) (by decide +kernel))) hK hP hD hS hA rfl (by decide +kernel) (Nat.le_of_ble_eq_true rfl) (Nat.le_of_ble_eq_true rfl) dW_0 (fun q0 H hP hD hS => ?_)
  have hP : va_P D vwCl [(q0, .inr (3, [.null, .null, .null, .int 0, .null, .null, .null]))] H := hP
  have hD : va_D A [(q0, .inr (3, [.null, .null, .null, .int 0, .null, .null, .null]))] := hD
  refine W.widen (k := 1) (n := 7) (Nat.le_of_ble_eq_true rfl) (Nat.le_of_ble_eq_true rfl) ?_
  refine lv_dup hx hb dW_3 rfl ?_
  have hPc := hP.sub (ws' := [(q0, .inr (3, [.null, .null, .null, .int 0, .null, .null, .null]))]) [0] rfl
  have hDc := hD.sub (ws' := [(q0, .inr (3, [.null, .null, .null, .int 0, .null, .null, .null]))]) [0] (by decide) rfl
  have hFc := va_free (wc := [(q0, .inr (3, [.null, .null, .null, .int 0, .null, .null, .null]))]) hD hS hA [0] rfl
  refine va_callv (va_runI (As := []) (rest := [.ref q0]) ⟨hx, hb, hml, hown, hts⟩ (ci_X3 l D ca q0 H.size) (cwI 0 hts (ni_GL (na_mem (i := 79) (by decide +kernel) (by decide +kernel))) rfl rfl rfl (hts (.initialized RX3) (List.mem_of_getElem? (i := 63) (by decide +kernel))) (hts (.methodLink R_law 9 yX3_init) (List.mem_of_getElem? (i := 77) (by decide +kernel))) (hts (.instanceMethod yX3_init) (List.mem_of_getElem? (i := 78) (by decide +kernel))) rfl (by decide +kernel) ⟨(Nat.le_of_ble_eq_true rfl), (Nat.le_of_ble_eq_true rfl)⟩) ⟨fun a U g mk q => by obtain ⟨q0, q1, qP, qK, qD, qx⟩ := q; exact ⟨q0, q1, qP, va_K.moved (u := U) (U := U.calling g mk a) (Vm.Alike.refl U.vm) qK, qD, qx.same rfl⟩, fun U hU hW => ⟨rfl, by rw [hU], by rw [hU]; exact hPc, va_K.moved hW.alike hK, hDc.weaken (fun _ _ _ _ => trivial), hKx.warm hW⟩⟩ rfl rfl hl.1 rfl (lv_room (Nat.le_of_ble_eq_true rfl)) dW_4 ⟨(Nat.le_of_ble_eq_true rfl), (Nat.le_of_ble_eq_true rfl)⟩) hS (fun q _ h => hFc q h) hFc (fun u4 t H1 locs ht hvm hpo hB hz1 hk1 hS => ?_)
  have hpo_u4 := hpo
  obtain ⟨hP1, hD1⟩ := hB
  rw [ht] at hP1
  obtain ⟨hP, hD⟩ := va_join (wr := []) hP hD [0] [] rfl rfl (by decide) (by decide) hk1 hFc hP1 hD1
  generalize H1 = H at hP hS ⊢
  have hP : va_P D vwCl [(q0, .inr (3, [.ref (u4 1), .ref (u4 11), .ref (u4 21), .int 0, .ref (u4 31), .ref (u4 33), .ref (u4 42)])), ((u4 1), .inr (0, [.ref (u4 2), .ref (u4 3), .ref (u4 4), .ref (u4 5), .int 0, .int 0, .int 0, .int 0, .ref (u4 6), .ref (u4 7), .ref (u4 8), .ref (u4 9), .ref (u4 10)])), ((u4 2), .inl (ca 0, 8, .inl (fA 8))), ((u4 3), .inl (ca 0, 8, .inl (fun _ => 0))), ((u4 4), .inl (ca 0, 8, .inl (fun _ => 0))), ((u4 5), .inl (ca 0, 8, .inl (fT 8))), ((u4 6), .inl (ca 0, 8, .inl (fun _ => 0))), ((u4 7), .inl (ca 0, 8, .inl (fun _ => 0))), ((u4 8), .inl (ca 0, 8, .inl (fun _ => 0))), ((u4 9), .inl (ca 0, 8, .inl (fun _ => 0))), ((u4 10), .inl (ca 0, 8, .inl (fun _ => 0))), ((u4 11), .inr (0, [.ref (u4 12), .ref (u4 13), .ref (u4 14), .ref (u4 15), .int 0, .int 0, .int 0, .int 0, .ref (u4 16), .ref (u4 17), .ref (u4 18), .ref (u4 19), .ref (u4 20)])), ((u4 12), .inl (ca 0, 8, .inl (fA 8))), ((u4 13), .inl (ca 0, 8, .inl (fun _ => 0))), ((u4 14), .inl (ca 0, 8, .inl (fun _ => 0))), ((u4 15), .inl (ca 0, 8, .inl (fT 8))), ((u4 16), .inl (ca 0, 8, .inl (fun _ => 0))), ((u4 17), .inl (ca 0, 8, .inl (fun _ => 0))), ((u4 18), .inl (ca 0, 8, .inl (fun _ => 0))), ((u4 19), .inl (ca 0, 8, .inl (fun _ => 0))), ((u4 20), .inl (ca 0, 8, .inl (fun _ => 0))), ((u4 21), .inr (0, [.ref (u4 22), .ref (u4 23), .ref (u4 24), .ref (u4 25), .int 0, .int 0, .int 0, .int 0, .ref (u4 26), .ref (u4 27), .ref (u4 28), .ref (u4 29), .ref (u4 30)])), ((u4 22), .inl (ca 0, 8, .inl (fA 8))), ((u4 23), .inl (ca 0, 8, .inl (fun _ => 0))), ((u4 24), .inl (ca 0, 8, .inl (fun _ => 0))), ((u4 25), .inl (ca 0, 8, .inl (fT 8))), ((u4 26), .inl (ca 0, 8, .inl (fun _ => 0))), ((u4 27), .inl (ca 0, 8, .inl (fun _ => 0))), ((u4 28), .inl (ca 0, 8, .inl (fun _ => 0))), ((u4 29), .inl (ca 0, 8, .inl (fun _ => 0))), ((u4 30), .inl (ca 0, 8, .inl (fun _ => 0))), ((u4 31), .inr (2, [.ref (u4 32), .int 0, .int 0, .int 0, .int 0, .int 0])), ((u4 32), .inl (ca 0, 120, .inl (fun _ => 0))), ((u4 33), .inl (ca 2, 4, .inr (.inr (.inr (.inr (fun j => some (u4 (na_shp j)))))))), ((u4 34), .inr (1, [.ref (u4 35), .int 0, .int 0])), ((u4 35), .inl (ca 1, 40, .inr (.inl (fun _ => 0)))), ((u4 36), .inr (1, [.ref (u4 37), .int 0, .int 0])), ((u4 37), .inl (ca 1, 40, .inr (.inl (fun _ => 0)))), ((u4 38), .inr (1, [.ref (u4 39), .int 0, .int 0])), ((u4 39), .inl (ca 1, 40, .inr (.inl (fun _ => 0)))), ((u4 40), .inr (1, [.ref (u4 41), .int 0, .int 0])), ((u4 41), .inl (ca 1, 40, .inr (.inl (fun _ => 0)))), ((u4 42), .inl (ca 0, 7, .inl (fun _ => 0)))] H := hP
  have hD : va_D A [(q0, .inr (3, [.ref (u4 1), .ref (u4 11), .ref (u4 21), .int 0, .ref (u4 31), .ref (u4 33), .ref (u4 42)])), ((u4 1), .inr (0, [.ref (u4 2), .ref (u4 3), .ref (u4 4), .ref (u4 5), .int 0, .int 0, .int 0, .int 0, .ref (u4 6), .ref (u4 7), .ref (u4 8), .ref (u4 9), .ref (u4 10)])), ((u4 2), .inl (ca 0, 8, .inl (fA 8))), ((u4 3), .inl (ca 0, 8, .inl (fun _ => 0))), ((u4 4), .inl (ca 0, 8, .inl (fun _ => 0))), ((u4 5), .inl (ca 0, 8, .inl (fT 8))), ((u4 6), .inl (ca 0, 8, .inl (fun _ => 0))), ((u4 7), .inl (ca 0, 8, .inl (fun _ => 0))), ((u4 8), .inl (ca 0, 8, .inl (fun _ => 0))), ((u4 9), .inl (ca 0, 8, .inl (fun _ => 0))), ((u4 10), .inl (ca 0, 8, .inl (fun _ => 0))), ((u4 11), .inr (0, [.ref (u4 12), .ref (u4 13), .ref (u4 14), .ref (u4 15), .int 0, .int 0, .int 0, .int 0, .ref (u4 16), .ref (u4 17), .ref (u4 18), .ref (u4 19), .ref (u4 20)])), ((u4 12), .inl (ca 0, 8, .inl (fA 8))), ((u4 13), .inl (ca 0, 8, .inl (fun _ => 0))), ((u4 14), .inl (ca 0, 8, .inl (fun _ => 0))), ((u4 15), .inl (ca 0, 8, .inl (fT 8))), ((u4 16), .inl (ca 0, 8, .inl (fun _ => 0))), ((u4 17), .inl (ca 0, 8, .inl (fun _ => 0))), ((u4 18), .inl (ca 0, 8, .inl (fun _ => 0))), ((u4 19), .inl (ca 0, 8, .inl (fun _ => 0))), ((u4 20), .inl (ca 0, 8, .inl (fun _ => 0))), ((u4 21), .inr (0, [.ref (u4 22), .ref (u4 23), .ref (u4 24), .ref (u4 25), .int 0, .int 0, .int 0, .int 0, .ref (u4 26), .ref (u4 27), .ref (u4 28), .ref (u4 29), .ref (u4 30)])), ((u4 22), .inl (ca 0, 8, .inl (fA 8))), ((u4 23), .inl (ca 0, 8, .inl (fun _ => 0))), ((u4 24), .inl (ca 0, 8, .inl (fun _ => 0))), ((u4 25), .inl (ca 0, 8, .inl (fT 8))), ((u4 26), .inl (ca 0, 8, .inl (fun _ => 0))), ((u4 27), .inl (ca 0, 8, .inl (fun _ => 0))), ((u4 28), .inl (ca 0, 8, .inl (fun _ => 0))), ((u4 29), .inl (ca 0, 8, .inl (fun _ => 0))), ((u4 30), .inl (ca 0, 8, .inl (fun _ => 0))), ((u4 31), .inr (2, [.ref (u4 32), .int 0, .int 0, .int 0, .int 0, .int 0])), ((u4 32), .inl (ca 0, 120, .inl (fun _ => 0))), ((u4 33), .inl (ca 2, 4, .inr (.inr (.inr (.inr (fun j => some (u4 (na_shp j)))))))), ((u4 34), .inr (1, [.ref (u4 35), .int 0, .int 0])), ((u4 35), .inl (ca 1, 40, .inr (.inl (fun _ => 0)))), ((u4 36), .inr (1, [.ref (u4 37), .int 0, .int 0])), ((u4 37), .inl (ca 1, 40, .inr (.inl (fun _ => 0)))), ((u4 38), .inr (1, [.ref (u4 39), .int 0, .int 0])), ((u4 39), .inl (ca 1, 40, .inr (.inl (fun _ => 0)))), ((u4 40), .inr (1, [.ref (u4 41), .int 0, .int 0])), ((u4 41), .inl (ca 1, 40, .inr (.inl (fun _ => 0)))), ((u4 42), .inl (ca 0, 7, .inl (fun _ => 0)))] := hD
  refine W.widen (k := 43) (n := 571) (Nat.le_of_ble_eq_true rfl) (Nat.le_of_ble_eq_true rfl) ?_
  refine lv_astore_n (lv' := [(1, .ref q0), (0, .ref b)]) hx hb dW_7 rfl hl (by decide) rfl (fun ls hl => ?_)
  refine va_new (ci := 4) (fs := [.null, .null, .null, .null, .int 0, .int 0, .int 0, .int 0, .long 0, .int 0, .int 0, .null, .null, .null, .null, .null, .null, .int 0]) (C := RX4) (T := TX4) (N := 18) hx hb hts (fun w hw => (List.mem_filter.mp (fw_4 w hw)).1) tyX4 tyX4_ok hown (hts (.classLink R_law 10 RX4) (List.mem_of_getElem? (i := 704) (by decide +kernel))) (hts (.instantiable RX4 18) (List.mem_of_getElem? (i := 705) (by decide +kernel))) (hts (.initialized RX4) (List.mem_of_getElem? (i := 67) (by decide +kernel))) hK hP hD hS hA rfl (by decide +kernel) (Nat.le_of_ble_eq_true rfl) (Nat.le_of_ble_eq_true rfl) dW_8 (fun q8 H hP hD hS => ?_)
  have hP : va_P D vwCl [(q0, .inr (3, [.ref (u4 1), .ref (u4 11), .ref (u4 21), .int 0, .ref (u4 31), .ref (u4 33), .ref (u4 42)])), ((u4 1), .inr (0, [.ref (u4 2), .ref (u4 3), .ref (u4 4), .ref (u4 5), .int 0, .int 0, .int 0, .int 0, .ref (u4 6), .ref (u4 7), .ref (u4 8), .ref (u4 9), .ref (u4 10)])), ((u4 2), .inl (ca 0, 8, .inl (fA 8))), ((u4 3), .inl (ca 0, 8, .inl (fun _ => 0))), ((u4 4), .inl (ca 0, 8, .inl (fun _ => 0))), ((u4 5), .inl (ca 0, 8, .inl (fT 8))), ((u4 6), .inl (ca 0, 8, .inl (fun _ => 0))), ((u4 7), .inl (ca 0, 8, .inl (fun _ => 0))), ((u4 8), .inl (ca 0, 8, .inl (fun _ => 0))), ((u4 9), .inl (ca 0, 8, .inl (fun _ => 0))), ((u4 10), .inl (ca 0, 8, .inl (fun _ => 0))), ((u4 11), .inr (0, [.ref (u4 12), .ref (u4 13), .ref (u4 14), .ref (u4 15), .int 0, .int 0, .int 0, .int 0, .ref (u4 16), .ref (u4 17), .ref (u4 18), .ref (u4 19), .ref (u4 20)])), ((u4 12), .inl (ca 0, 8, .inl (fA 8))), ((u4 13), .inl (ca 0, 8, .inl (fun _ => 0))), ((u4 14), .inl (ca 0, 8, .inl (fun _ => 0))), ((u4 15), .inl (ca 0, 8, .inl (fT 8))), ((u4 16), .inl (ca 0, 8, .inl (fun _ => 0))), ((u4 17), .inl (ca 0, 8, .inl (fun _ => 0))), ((u4 18), .inl (ca 0, 8, .inl (fun _ => 0))), ((u4 19), .inl (ca 0, 8, .inl (fun _ => 0))), ((u4 20), .inl (ca 0, 8, .inl (fun _ => 0))), ((u4 21), .inr (0, [.ref (u4 22), .ref (u4 23), .ref (u4 24), .ref (u4 25), .int 0, .int 0, .int 0, .int 0, .ref (u4 26), .ref (u4 27), .ref (u4 28), .ref (u4 29), .ref (u4 30)])), ((u4 22), .inl (ca 0, 8, .inl (fA 8))), ((u4 23), .inl (ca 0, 8, .inl (fun _ => 0))), ((u4 24), .inl (ca 0, 8, .inl (fun _ => 0))), ((u4 25), .inl (ca 0, 8, .inl (fT 8))), ((u4 26), .inl (ca 0, 8, .inl (fun _ => 0))), ((u4 27), .inl (ca 0, 8, .inl (fun _ => 0))), ((u4 28), .inl (ca 0, 8, .inl (fun _ => 0))), ((u4 29), .inl (ca 0, 8, .inl (fun _ => 0))), ((u4 30), .inl (ca 0, 8, .inl (fun _ => 0))), ((u4 31), .inr (2, [.ref (u4 32), .int 0, .int 0, .int 0, .int 0, .int 0])), ((u4 32), .inl (ca 0, 120, .inl (fun _ => 0))), ((u4 33), .inl (ca 2, 4, .inr (.inr (.inr (.inr (fun j => some (u4 (na_shp j)))))))), ((u4 34), .inr (1, [.ref (u4 35), .int 0, .int 0])), ((u4 35), .inl (ca 1, 40, .inr (.inl (fun _ => 0)))), ((u4 36), .inr (1, [.ref (u4 37), .int 0, .int 0])), ((u4 37), .inl (ca 1, 40, .inr (.inl (fun _ => 0)))), ((u4 38), .inr (1, [.ref (u4 39), .int 0, .int 0])), ((u4 39), .inl (ca 1, 40, .inr (.inl (fun _ => 0)))), ((u4 40), .inr (1, [.ref (u4 41), .int 0, .int 0])), ((u4 41), .inl (ca 1, 40, .inr (.inl (fun _ => 0)))), ((u4 42), .inl (ca 0, 7, .inl (fun _ => 0))), (q8, .inr (4, [.null, .null, .null, .null, .int 0, .int 0, .int 0, .int 0, .long 0, .int 0, .int 0, .null, .null, .null, .null, .null, .null, .int 0]))] H := hP
  have hD : va_D A [(q0, .inr (3, [.ref (u4 1), .ref (u4 11), .ref (u4 21), .int 0, .ref (u4 31), .ref (u4 33), .ref (u4 42)])), ((u4 1), .inr (0, [.ref (u4 2), .ref (u4 3), .ref (u4 4), .ref (u4 5), .int 0, .int 0, .int 0, .int 0, .ref (u4 6), .ref (u4 7), .ref (u4 8), .ref (u4 9), .ref (u4 10)])), ((u4 2), .inl (ca 0, 8, .inl (fA 8))), ((u4 3), .inl (ca 0, 8, .inl (fun _ => 0))), ((u4 4), .inl (ca 0, 8, .inl (fun _ => 0))), ((u4 5), .inl (ca 0, 8, .inl (fT 8))), ((u4 6), .inl (ca 0, 8, .inl (fun _ => 0))), ((u4 7), .inl (ca 0, 8, .inl (fun _ => 0))), ((u4 8), .inl (ca 0, 8, .inl (fun _ => 0))), ((u4 9), .inl (ca 0, 8, .inl (fun _ => 0))), ((u4 10), .inl (ca 0, 8, .inl (fun _ => 0))), ((u4 11), .inr (0, [.ref (u4 12), .ref (u4 13), .ref (u4 14), .ref (u4 15), .int 0, .int 0, .int 0, .int 0, .ref (u4 16), .ref (u4 17), .ref (u4 18), .ref (u4 19), .ref (u4 20)])), ((u4 12), .inl (ca 0, 8, .inl (fA 8))), ((u4 13), .inl (ca 0, 8, .inl (fun _ => 0))), ((u4 14), .inl (ca 0, 8, .inl (fun _ => 0))), ((u4 15), .inl (ca 0, 8, .inl (fT 8))), ((u4 16), .inl (ca 0, 8, .inl (fun _ => 0))), ((u4 17), .inl (ca 0, 8, .inl (fun _ => 0))), ((u4 18), .inl (ca 0, 8, .inl (fun _ => 0))), ((u4 19), .inl (ca 0, 8, .inl (fun _ => 0))), ((u4 20), .inl (ca 0, 8, .inl (fun _ => 0))), ((u4 21), .inr (0, [.ref (u4 22), .ref (u4 23), .ref (u4 24), .ref (u4 25), .int 0, .int 0, .int 0, .int 0, .ref (u4 26), .ref (u4 27), .ref (u4 28), .ref (u4 29), .ref (u4 30)])), ((u4 22), .inl (ca 0, 8, .inl (fA 8))), ((u4 23), .inl (ca 0, 8, .inl (fun _ => 0))), ((u4 24), .inl (ca 0, 8, .inl (fun _ => 0))), ((u4 25), .inl (ca 0, 8, .inl (fT 8))), ((u4 26), .inl (ca 0, 8, .inl (fun _ => 0))), ((u4 27), .inl (ca 0, 8, .inl (fun _ => 0))), ((u4 28), .inl (ca 0, 8, .inl (fun _ => 0))), ((u4 29), .inl (ca 0, 8, .inl (fun _ => 0))), ((u4 30), .inl (ca 0, 8, .inl (fun _ => 0))), ((u4 31), .inr (2, [.ref (u4 32), .int 0, .int 0, .int 0, .int 0, .int 0])), ((u4 32), .inl (ca 0, 120, .inl (fun _ => 0))), ((u4 33), .inl (ca 2, 4, .inr (.inr (.inr (.inr (fun j => some (u4 (na_shp j)))))))), ((u4 34), .inr (1, [.ref (u4 35), .int 0, .int 0])), ((u4 35), .inl (ca 1, 40, .inr (.inl (fun _ => 0)))), ((u4 36), .inr (1, [.ref (u4 37), .int 0, .int 0])), ((u4 37), .inl (ca 1, 40, .inr (.inl (fun _ => 0)))), ((u4 38), .inr (1, [.ref (u4 39), .int 0, .int 0])), ((u4 39), .inl (ca 1, 40, .inr (.inl (fun _ => 0)))), ((u4 40), .inr (1, [.ref (u4 41), .int 0, .int 0])), ((u4 41), .inl (ca 1, 40, .inr (.inl (fun _ => 0)))), ((u4 42), .inl (ca 0, 7, .inl (fun _ => 0))), (q8, .inr (4, [.null, .null, .null, .null, .int 0, .int 0, .int 0, .int 0, .long 0, .int 0, .int 0, .null, .null, .null, .null, .null, .null, .int 0]))] := hD
  refine W.widen (k := 44) (n := 589) (Nat.le_of_ble_eq_true rfl) (Nat.le_of_ble_eq_true rfl) ?_
  refine lv_dup hx hb dW_11 rfl ?_
  have hPc := hP.sub (ws' := [(q8, .inr (4, [.null, .null, .null, .null, .int 0, .int 0, .int 0, .int 0, .long 0, .int 0, .int 0, .null, .null, .null, .null, .null, .null, .int 0]))]) [43] rfl
  have hDc := hD.sub (ws' := [(q8, .inr (4, [.null, .null, .null, .null, .int 0, .int 0, .int 0, .int 0, .long 0, .int 0, .int 0, .null, .null, .null, .null, .null, .null, .int 0]))]) [43] (by decide) rfl
  have hFc := va_free (wc := [(q8, .inr (4, [.null, .null, .null, .null, .int 0, .int 0, .int 0, .int 0, .long 0, .int 0, .int 0, .null, .null, .null, .null, .null, .null, .int 0]))]) hD hS hA [43] rfl
  refine va_callv (va_runI (As := []) (rest := [.ref q8]) ⟨hx, hb, hml, hown, hts⟩ (ci_X4 l D ca q8 H.size) (cwI 0 hts (ni_GL (na_mem (i := 708) (by decide +kernel) (by decide +kernel))) rfl rfl rfl (hts (.initialized RX4) (List.mem_of_getElem? (i := 67) (by decide +kernel))) (hts (.methodLink R_law 12 yX4_init) (List.mem_of_getElem? (i := 706) (by decide +kernel))) (hts (.instanceMethod yX4_init) (List.mem_of_getElem? (i := 707) (by decide +kernel))) rfl (by decide +kernel) ⟨(Nat.le_of_ble_eq_true rfl), (Nat.le_of_ble_eq_true rfl)⟩) ⟨fun a U g mk q => by obtain ⟨q0, q1, qP, qK, qD⟩ := q; exact ⟨q0, q1, qP, va_K.moved (u := U) (U := U.calling g mk a) (Vm.Alike.refl U.vm) qK, qD⟩, fun U hU hW => ⟨rfl, by rw [hU], by rw [hU]; exact hPc, va_K.moved hW.alike hK, hDc.weaken (fun _ _ _ _ => trivial)⟩⟩ rfl rfl hl.1 rfl (lv_room (Nat.le_of_ble_eq_true rfl)) dW_12 ⟨(Nat.le_of_ble_eq_true rfl), (Nat.le_of_ble_eq_true rfl)⟩) hS (fun q _ h => hFc q h) hFc (fun u12 t H1 locs ht hvm hpo hB hz1 hk1 hS => ?_)
  have hpo_u12 := hpo
  obtain ⟨hP1, hD1⟩ := hB
  rw [ht] at hP1
  obtain ⟨hP, hD⟩ := va_join (wr := wX3 ca q0 u4) hP hD [43] [0, 1, 2, 3, 4, 5, 6, 7, 8, 9, 10, 11, 12, 13, 14, 15, 16, 17, 18, 19, 20, 21, 22, 23, 24, 25, 26, 27, 28, 29, 30, 31, 32, 33, 34, 35, 36, 37, 38, 39, 40, 41, 42] rfl rfl (by decide) (by decide) hk1 hFc hP1 hD1
  generalize H1 = H at hP hS ⊢
  refine W.widen (k := 54) (n := 1228) (Nat.le_of_ble_eq_true rfl) (Nat.le_of_ble_eq_true rfl) ?_
  refine lv_astore_n (lv' := [(2, .ref q8), (1, .ref q0), (0, .ref b)]) hx hb dW_15 rfl hl (by decide) rfl (fun ls hl => ?_)
  refine lv_iconst (v := 0) hx hb dW_16 (by decide) ?_
  refine lv_istore_n (lv' := [(3, .int 0), (2, .ref q8), (1, .ref q0), (0, .ref b)]) hx hb dW_17 rfl hl (by decide) rfl (fun ls hl => ?_)
  have hq0 : u4 0 = q0 := hpo_u4
  obtain ⟨hPw, hDw⟩ := ni_worldQ hq0 hP hD rd
  rw [hAe] at hDw hS
  obtain ⟨hC1, hKw⟩ := hC (ni_ad u4 q8 u12 rd) (fun k hk => ni_ad_hi hk)
  refine law_loop (L, xs) hL (fun v _ _ => v = some (.int 1)) (fun I J _ => rfl) (L + 1) 0 I0 J0 (by show L < 0 + 6 * (L + 1); omega) (by omega) sim0 p l e room_1 s s m #[Value.ref b] below meth c 54 1228 (lw_Z below #[Value.ref b] s) D ca (ni_ad u4 q8 u12 rd) fm s.heap.size ⟨hC1, hx, hb, hml, hown, fun w hw => hts w (List.mem_filter.mp hw).1, hKw, Vm.Alike.refl _, fun q _ => rfl, Nat.le_refl _, (Nat.le_of_ble_eq_true rfl), (Nat.le_of_ble_eq_true rfl), (Nat.le_of_ble_eq_true rfl), (Nat.le_of_ble_eq_true rfl)⟩ ?_ H locs ls ⟨hPw, hDw, hS, hl.1, hl.2.1, ?_⟩
  · intro v I J H locs pc lsA hv hP hD hS hrd
    subst hv
    obtain ⟨hd, -⟩ := hrd
    refine va_forget (fun q hq => hS.2.2 q hq) ?_
    refine W.widen (k := 600000) (n := 7302250) (Nat.le_of_ble_eq_true rfl) (Nat.le_of_ble_eq_true rfl) ?_
    exact lw_ret hx hb hr hlocks hd
  · intro i v hv
    match i, hv with
    | 0, hv =>
      cases hv
      show ls[0]? = some (.val (.ref (ni_ad u4 q8 u12 rd 70)))
      rw [ni_ad_hi (by omega), hrd]
      exact hl.2.2 (0, .ref b) (by simp)
    | 1, hv =>
      cases hv
      show ls[1]? = some (.val (.ref (u4 0)))
      rw [hq0]
      exact hl.2.2 (1, .ref q0) (by simp)
    | 2, hv =>
      cases hv
      exact hl.2.2 (2, .ref q8) (by simp)
    | 3, hv =>
      cases hv
      exact hl.2.2 (3, .int 0) (by simp)
    | i + 4, hv => simp at hv
-- ===== YOUR PART ENDS =====
set_option maxHeartbeats 4000000 in
theorem lw_walk (l : Launch) (hflags : l.flags = flags0) (b : Addr) (xs : List Int32) : MetFree l x (headSpec (Jvm.Cond.code x code maxLocals ret :: tables_1) room_1) (lw_P b xs) (fun _ _ _ _ _ => True) lw_Q := by
  refine MetFree.of_bodyS (code := code) (maxLocals := maxLocals) (ret := ret) (by decide) ?_ ?_
  · intro args s m h hn
    obtain ⟨meth, c, h1, h2, h3, h4, h5, h6, -, -⟩ := Cond.code_spec hn (atoms_spec (ws := Jvm.Cond.code x code maxLocals ret :: tables_1) h _ List.mem_cons_self)
    exact ⟨meth, c, h1, h2, h3, h4, h5, h6⟩
  · intro p e s m args below meth c s₁ B hml0 hP _
    obtain ⟨rfl, hx, hbd, hgv⟩ := hP
    obtain ⟨scr, harrAt, hlist, hof, hsmall⟩ := hx
    obtain ⟨hcb, hkn, -, -⟩ := State.arrayAt?_spec harrAt
    have hown : s.vm.findClass R_law = some m.cls := findClass_of_methodNamed B.named
    have hts0 : ∀ c ∈ (Jvm.Cond.code x code maxLocals ret :: tables_1), c.before #[Value.ref b] s = true := atoms_spec (ws := Jvm.Cond.code x code maxLocals ret :: tables_1) B.pre
    have hts : ∀ w ∈ lw_tbl, w.before #[Value.ref b] s = true := k2_hts_sels lw_privs (fun w hw => hts0 w (List.mem_cons_of_mem _ hw)) lw_privs_ok
    have hml : c.maxLocals = 4 := B.maxLocals_eq (hts0 _ List.mem_cons_self)
    have X₀ : Stand p l e room_1 s m #[Value.ref b] below meth c s₁ [] 0 0 := Stand.of_body B
    have hh0 : s₁.heap = s.heap := by rw [B.state]; rfl
    have hsz : scr.slots.size = xs.length := by rw [← Array.length_toList, hlist, List.length_map]
    have hval : ∀ j : Nat, j < xs.length → scr.slots[j]? = some (.int (xs.getD j 0)) := fun j hj => by
      rw [← Array.getElem?_toList, hlist]
      simp [hj]
    have hbl : b < s.heap.size := (Array.getElem?_eq_some_iff.mp hcb).1
    have hX : va_X b xs.length (fun j => xs.getD j 0) s s.heap := ⟨scr, hcb, hof, hkn, hsz, hval⟩
    have K : W p l e room_1 s m #[Value.ref b] below meth c s₁.heap [] 0 0 (lw_Z below #[Value.ref b] s) (entryFrame m ([Value.ref b] : List Value).toArray 4) := by
      rw [hh0]
      exact whole_start l hflags hbd ⟨B.exec, B.bytes, B.returns, hml, hown, hts, hX, hbl, B.notSynchronized, hgv⟩
    obtain ⟨t, a1, o, b1, b2, b3⟩ := K s₁ rfl X₀
    exact ⟨t, o, a1, b1, b2, b3⟩
theorem lw_pre_spec {args : Array Value} {s : State} (h : (Jvm.Cond.and given_1 narrow_1).before args s = true) (hr : rest_1_c.before args s = true) : ∃ (b : Addr) (xs : List Int32), lw_P b xs args s := by
  have hs := flat_of_before _ h
  have hq := flat_of_before _ hr
  have hc : (Cond.count 1).before args s = true := hs _ (by decide +kernel)
  have harr : (Cond.arrayOf (.arg 0) .int).before args s = true := hs _ (by decide +kernel)
  have hle : (Cond.le (.length (.arg 0)) (.int 3072)).before args s = true := hs _ (by decide +kernel)
  have hlen : (Cond.isInt (.length (.arg 0))).before args s = true := hq _ (by decide +kernel)
  have hall : (Cond.all (.arg 0) (.isInt (.elem (.arg 0) (.index 0)))).before args s = true := hq _ (by decide +kernel)
  obtain ⟨b, xs, hb, hx⟩ := State.ints_of_pre rfl harr hlen hall
  have hsm : xs.length < 2 ^ 31 := hx.choose_spec.2.2.2
  have hev : (Term.length (.arg 0)).eval args s none [] s = some (.int xs.length.toInt32) := hx.length_eval hb
  have hv := Cond.le_ints hev (show (Term.int 3072).eval args s none [] s = some (.int 3072) from rfl)
  have hd : xs.length.toInt32 ≤ 3072 := by
    simpa [Cond.before, Cond.holds, hv] using hle
  have hN : xs.length ≤ 3072 := (Int32.ofNat_le_ofNat hsm (by decide)).mp (show Int32.ofNat xs.length ≤ Int32.ofNat 3072 from hd)
  exact ⟨b, xs, Cond.one_arg hc (show args[0]? = some (.ref b) from hb), hx, hN, h⟩
theorem lw_comes (l : Launch) (hflags : l.flags = flags0) : Comes l x (Jvm.Cond.code x code maxLocals ret :: tables_1) room_1 (fun tb e args s => Calls_1 tb e args s ∧ rest_1 tb e args s ∧ Pre_1 tb e args s)
    (fun _ _ args s o t => lw_Q args s o t) := by
  intro p e ha hc hk s m args below hf hfit hheap happ hpre
  obtain ⟨b, xs, hP⟩ := lw_pre_spec hpre.2.2 hpre.2.1
  obtain ⟨k, o, h1, h2, h3, hQ⟩ := lw_walk l hflags b xs p e ha hc hk s m args below hf ((Spec.applies_iff_loose hf).mp happ).1 hP trivial
  exact ⟨k, o, h1, h2, h3, hQ⟩
theorem lw_frame {s t : State} {o : Outcome} {args : Array Value} (h : Framed s o t [] 600000 7302250) :
    Framed s o t (fieldLocs frame_1_writes args s ++ arrayLocs frame_1_arrays args s ++ staticLocs frame_1_statics s) 600000 7302250 := h
theorem lw_limb (L : Cond) (hL : ∀ (args : Array Value) (s t : State), L.after args s (.returned (some (.int 1))) t = true) :
    ArmFor flags0 classFile x code maxLocals ret World_1 tables_1 room_1 Calls_1 rest_1 Pre_1
      (fun tb e a s o t => postC L tb e a s o t ∧ Framed s o t (fieldLocs frame_1_writes a s ++ arrayLocs frame_1_arrays a s ++ staticLocs frame_1_statics s) 600000 7302250) := by
  intro l hflags _ _ p e ha hc hk s m args below hf hfit hheap happ hpre
  obtain ⟨k, o, h1, h2, h3, rfl, hF⟩ := lw_comes l hflags p e ha hc hk s m args below hf hfit hheap happ hpre
  exact ⟨k, _, h1, h2, h3, hL args s _, lw_frame hF⟩
theorem i_vc : Claimed_1_1 ∧ Claimed_1_2 := ⟨lw_limb limb_1_1 (fun args s t => by simp [limb_1_1, Cond.after, Cond.holds, Cond.value]), lw_limb limb_1_2 (fun args s t => Cond.after_iff.mpr (by
  first | (rw [show limb_1_2 = Cond.eq .result (.int 1) from rfl, Cond.eq_ints (x := 1) (y := 1) rfl rfl]; simp; done) | (simp [limb_1_2, Cond.value, Term.eval]; done)))⟩
