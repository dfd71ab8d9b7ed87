/-! THE CONSTRUCTORS, by the kit's rows -/
def ni_pk : List Nat → Nat → Nat
  | [], _ => 0
  | a :: _, 0 => a
  | _ :: r, n + 1 => ni_pk r n
/-- a row of airs, of tights, the reference's row: after n rooms -/
def fA : Nat → Nat → Int32
  | 0 => fun _ => 0
  | n + 1 => upd (fA n) n 100
def fT : Nat → Nat → Int32
  | 0 => fun _ => 0
  | n + 1 => upd (fT n) n 5
def fR : Nat → Nat → Int32
  | 0 => fun _ => 0
  | n + 1 => upd (upd (fR n) (4 + 4 * n) 100) (7 + 4 * n) 5
def fR1 (n : Nat) : Nat → Int32 := upd (fR n) (4 + 4 * n) 100
def ni_Kx (U : State) : Prop := va_Nw (.methodLinkNest RX3 24 yX2_init RX3) U ∧ va_Nw (.methodLinkNest RX3 39 yX1_init RX3) U ∧ va_AO RX1 U
theorem ni_Kx.same {u U : State} (h : ni_Kx u) (hv : u.vm = U.vm) : ni_Kx U := ⟨va_Nw.same rfl hv h.1, va_Nw.same rfl hv h.2.1, h.2.2.moved (by rw [hv]; exact Vm.Alike.refl U.vm)⟩
theorem ni_Kx.warm {u U : State} (h : ni_Kx u) (hW : u.WarmedH U.vm) : ni_Kx U := ⟨va_Nw.warmM hW h.1, va_Nw.warmM hW h.2.1, h.2.2.moved hW.alike⟩
theorem ni_G {q q' : MI} (hc : Cond.code q.1 q.2.1 q.2.2.1 q.2.2.2.1 ∈ na_Tg) : GoodIn (na_ww q') (na_ww q) := fun w hw => by
  rcases List.mem_cons.mp hw with h | h
  · subst h
    exact ⟨List.mem_cons_of_mem _ hc, na_good _ hc⟩
  · exact ⟨List.mem_cons_of_mem _ h, na_good _ h⟩
theorem ni_GL {q : MI} (hc : Cond.code q.1 q.2.1 q.2.2.1 q.2.2.2.1 ∈ na_Tg) : GoodIn lw_tbl (na_ww q) := fun w hw => by
  rcases List.mem_cons.mp hw with h | h
  · subst h
    exact ⟨(List.mem_filter.mp hc).1, na_good _ hc⟩
  · exact ⟨(List.mem_filter.mp h).1, na_good _ h⟩
section NI
variable {p : Program} {l : Launch} {e : Env} {R : Room} {s : State} {m : MethodId} {args : Array Value} {below : List Frame} {meth : Method} {c : Code} {H : Heap} {locs : List Loc} {cells slots : Nat} {Q : State → Prop}
variable {cc : ByteArray} {pc : Nat} {ls : Array Slot} {rest : List Value} {D : va_G} {A : Nat → Prop} {a : Nat} {ca : Nat → Nat} {ws : va_W} {H0 : Heap}
theorem ni_newI (hexec : p.tables.exec = Jvm.exec) (hb : c.code = cc) {n : Int32} {N : Nat} (harr : (Cond.arrayClass .int).before args s = true) (hK : va_K D vwCl (na_tys ca) s) (hP : va_P D vwCl ws H) (hD : va_D A ws) (hS : va_S A H0 H locs) (hA : ∀ q, H0.size ≤ q → A q)
    (hn : ¬ n < 0) (hN : n.toNatClampNeg = N) (hbytes : N * 4 ≤ 536870912) (hcells : cells + 1 ≤ R.cells) (hslots : slots + N ≤ R.slots) (hdg : decode cc pc = .ok (.newarray .int, 2))
    (kk : ∀ (q : Nat) (H1 : Heap), va_P D vwCl (ws ++ [(q, .inl (ca 0, N, .inl (fun _ => 0)))]) H1 → va_D A (ws ++ [(q, .inl (ca 0, N, .inl (fun _ => 0)))]) → va_S A H0 H1 locs →
      W p l e R s m args below meth c H1 locs (cells + 1) (slots + N) Q (F0 m (pc + 2) ls (.ref q :: rest))) : W p l e R s m args below meth c H locs cells slots Q (F0 m pc ls (.int n :: rest)) := by
  refine va_newa (atype := .int) hexec hb harr rfl hK hP hD hS hA (a0 := (N, .inl (fun _ => 0))) (fun _ => rfl) hn hN hbytes hcells hslots hdg (fun q cA H1 hK1 hP1 hD1 hS1 => ?_)
  have h1 : s.vm.findClass ("[" ++ FieldType.int.toString) = some cA := (hK1.2 3 _ rfl).2
  have h2 : s.vm.findClass ("[" ++ FieldType.int.toString) = some (ca 0) := (hK.2 0 _ rfl).2
  have h3 : cA = ca 0 := Option.some.inj (h1.symm.trans h2)
  subst h3
  exact kk q H1 hP1 hD1 hS1
theorem ni_newL (hexec : p.tables.exec = Jvm.exec) (hb : c.code = cc) {n : Int32} {N : Nat} (harr : (Cond.arrayClass .long).before args s = true) (hK : va_K D vwCl (na_tys ca) s) (hP : va_P D vwCl ws H) (hD : va_D A ws) (hS : va_S A H0 H locs) (hA : ∀ q, H0.size ≤ q → A q)
    (hn : ¬ n < 0) (hN : n.toNatClampNeg = N) (hbytes : N * 8 ≤ 536870912) (hcells : cells + 1 ≤ R.cells) (hslots : slots + N ≤ R.slots) (hdg : decode cc pc = .ok (.newarray .long, 2))
    (kk : ∀ (q : Nat) (H1 : Heap), va_P D vwCl (ws ++ [(q, .inl (ca 1, N, .inr (.inl (fun _ => 0))))]) H1 → va_D A (ws ++ [(q, .inl (ca 1, N, .inr (.inl (fun _ => 0))))]) → va_S A H0 H1 locs →
      W p l e R s m args below meth c H1 locs (cells + 1) (slots + N) Q (F0 m (pc + 2) ls (.ref q :: rest))) : W p l e R s m args below meth c H locs cells slots Q (F0 m pc ls (.int n :: rest)) := by
  refine va_newa (atype := .long) hexec hb harr rfl hK hP hD hS hA (a0 := (N, .inr (.inl (fun _ => 0)))) (fun _ => rfl) hn hN hbytes hcells hslots hdg (fun q cA H1 hK1 hP1 hD1 hS1 => ?_)
  have h1 : s.vm.findClass ("[" ++ FieldType.long.toString) = some cA := (hK1.2 3 _ rfl).2
  have h2 : s.vm.findClass ("[" ++ FieldType.long.toString) = some (ca 1) := (hK.2 1 _ rfl).2
  have h3 : cA = ca 1 := Option.some.inj (h1.symm.trans h2)
  subst h3
  exact kk q H1 hP1 hD1 hS1
theorem ni_newQ (hexec : p.tables.exec = Jvm.exec) (hb : c.code = cc) {n : Int32} {N : Nat} {own : String} {index : Nat} (hown : s.vm.findClass own = some m.cls) (hclink : (Cond.classLink own index RX1).before args s = true) (hover : va_AO RX1 s) (hK : va_K D vwCl (na_tys ca) s) (hP : va_P D vwCl ws H) (hD : va_D A ws) (hS : va_S A H0 H locs) (hA : ∀ q, H0.size ≤ q → A q)
    (hn : ¬ n < 0) (hN : n.toNatClampNeg = N) (hbytes : N * 4 ≤ 536870912) (hcells : cells + 1 ≤ R.cells) (hslots : slots + N ≤ R.slots) (hdg : decode cc pc = .ok (.anewarray index, 3))
    (kk : ∀ (q : Nat) (H1 : Heap), va_P D vwCl (ws ++ [(q, .inl (ca 2, N, .inr (.inr (.inr (.inr (fun _ => none))))))]) H1 → va_D A (ws ++ [(q, .inl (ca 2, N, .inr (.inr (.inr (.inr (fun _ => none))))))]) → va_S A H0 H1 locs →
      W p l e R s m args below meth c H1 locs (cells + 1) (slots + N) Q (F0 m (pc + 3) ls (.ref q :: rest))) : W p l e R s m args below meth c H locs cells slots Q (F0 m pc ls (.int n :: rest)) := by
  refine va_newq hexec hb hown hclink hover hK hP hD hS hA hn hN hbytes hcells hslots hdg (fun q cA H1 hK1 hP1 hD1 hS1 => ?_)
  obtain ⟨_, _, -, -, -, h1⟩ := (hK1.2 3 _ rfl).2
  obtain ⟨_, _, -, -, -, h2⟩ := (hK.2 2 _ rfl).2
  have h3 : cA = ca 2 := Option.some.inj (h1.symm.trans h2)
  subst h3
  exact kk q H1 hP1 hD1 hS1
theorem ni_iast (hexec : p.tables.exec = Jvm.exec) (hb : c.code = cc) (hK : va_K D vwCl (na_tys ca) s) (hP : va_P D vwCl ws H) (hD : va_D A ws) (hS : va_S A H0 H locs) (q0 t0 : Nat) {cA : ClassId} {n : Nat} {f : Nat → Int32} (ha : ws[q0]? = some (a, .inl (cA, n, .inl f))) (ht : (na_tys ca)[t0]? = some (cA, .int)) {i : Int32} {x : Int32} (hin : vp_in i n) (k : Nat) (hk : i.toNatClampNeg = k) {f' : Nat → Int32} (hf : upd f k x = f') (hdg : decode cc pc = .ok (.iastore, 1))
    (kk : ∀ (H1 : Heap) (locs1 : List Loc), va_P D vwCl (ws.set q0 (a, .inl (cA, n, .inl f'))) H1 → va_D A (ws.set q0 (a, .inl (cA, n, .inl f'))) → va_S A H0 H1 locs1 → W p l e R s m args below meth c H1 locs1 cells slots Q (F0 m (pc + 1) ls rest)) : W p l e R s m args below meth c H locs cells slots Q (F0 m pc ls (.int x :: .int i :: .ref a :: rest)) := by
  subst hk
  subst hf
  exact va_iast hexec hb hK hP hD hS q0 t0 ha ht hin hdg kk
end NI
theorem dX0_init_0 : decode cX0_init 0 = .ok (.aload_n 0, 1) := by decide +kernel
theorem dX0_init_1 : decode cX0_init 1 = .ok (.invokespecial 3, 3) := by decide +kernel
theorem dX0_init_4 : decode cX0_init 4 = .ok (.aload_n 0, 1) := by decide +kernel
theorem dX0_init_5 : decode cX0_init 5 = .ok (.bipush 8, 2) := by decide +kernel
theorem dX0_init_7 : decode cX0_init 7 = .ok (.newarray .int, 2) := by decide +kernel
theorem dX0_init_9 : decode cX0_init 9 = .ok (.putfield 9, 3) := by decide +kernel
theorem dX0_init_12 : decode cX0_init 12 = .ok (.aload_n 0, 1) := by decide +kernel
theorem dX0_init_13 : decode cX0_init 13 = .ok (.bipush 8, 2) := by decide +kernel
theorem dX0_init_15 : decode cX0_init 15 = .ok (.newarray .int, 2) := by decide +kernel
theorem dX0_init_17 : decode cX0_init 17 = .ok (.putfield 15, 3) := by decide +kernel
theorem dX0_init_20 : decode cX0_init 20 = .ok (.aload_n 0, 1) := by decide +kernel
theorem dX0_init_21 : decode cX0_init 21 = .ok (.bipush 8, 2) := by decide +kernel
theorem dX0_init_23 : decode cX0_init 23 = .ok (.newarray .int, 2) := by decide +kernel
theorem dX0_init_25 : decode cX0_init 25 = .ok (.putfield 18, 3) := by decide +kernel
theorem dX0_init_28 : decode cX0_init 28 = .ok (.aload_n 0, 1) := by decide +kernel
theorem dX0_init_29 : decode cX0_init 29 = .ok (.bipush 8, 2) := by decide +kernel
theorem dX0_init_31 : decode cX0_init 31 = .ok (.newarray .int, 2) := by decide +kernel
theorem dX0_init_33 : decode cX0_init 33 = .ok (.putfield 21, 3) := by decide +kernel
theorem dX0_init_36 : decode cX0_init 36 = .ok (.aload_n 0, 1) := by decide +kernel
theorem dX0_init_37 : decode cX0_init 37 = .ok (.bipush 8, 2) := by decide +kernel
theorem dX0_init_39 : decode cX0_init 39 = .ok (.newarray .int, 2) := by decide +kernel
theorem dX0_init_41 : decode cX0_init 41 = .ok (.putfield 24, 3) := by decide +kernel
theorem dX0_init_44 : decode cX0_init 44 = .ok (.aload_n 0, 1) := by decide +kernel
theorem dX0_init_45 : decode cX0_init 45 = .ok (.bipush 8, 2) := by decide +kernel
theorem dX0_init_47 : decode cX0_init 47 = .ok (.newarray .int, 2) := by decide +kernel
theorem dX0_init_49 : decode cX0_init 49 = .ok (.putfield 27, 3) := by decide +kernel
theorem dX0_init_52 : decode cX0_init 52 = .ok (.aload_n 0, 1) := by decide +kernel
theorem dX0_init_53 : decode cX0_init 53 = .ok (.bipush 8, 2) := by decide +kernel
theorem dX0_init_55 : decode cX0_init 55 = .ok (.newarray .int, 2) := by decide +kernel
theorem dX0_init_57 : decode cX0_init 57 = .ok (.putfield 30, 3) := by decide +kernel
theorem dX0_init_60 : decode cX0_init 60 = .ok (.aload_n 0, 1) := by decide +kernel
theorem dX0_init_61 : decode cX0_init 61 = .ok (.bipush 8, 2) := by decide +kernel
theorem dX0_init_63 : decode cX0_init 63 = .ok (.newarray .int, 2) := by decide +kernel
theorem dX0_init_65 : decode cX0_init 65 = .ok (.putfield 33, 3) := by decide +kernel
theorem dX0_init_68 : decode cX0_init 68 = .ok (.aload_n 0, 1) := by decide +kernel
theorem dX0_init_69 : decode cX0_init 69 = .ok (.bipush 8, 2) := by decide +kernel
theorem dX0_init_71 : decode cX0_init 71 = .ok (.newarray .int, 2) := by decide +kernel
theorem dX0_init_73 : decode cX0_init 73 = .ok (.putfield 36, 3) := by decide +kernel
theorem dX0_init_76 : decode cX0_init 76 = .ok (.iconst 0, 1) := by decide +kernel
theorem dX0_init_77 : decode cX0_init 77 = .ok (.istore_n 1, 1) := by decide +kernel
theorem dX0_init_78 : decode cX0_init 78 = .ok (.iload_n 1, 1) := by decide +kernel
theorem dX0_init_79 : decode cX0_init 79 = .ok (.bipush 8, 2) := by decide +kernel
theorem dX0_init_81 : decode cX0_init 81 = .ok (.if_icmp .ge 24, 3) := by decide +kernel
theorem dX0_init_84 : decode cX0_init 84 = .ok (.aload_n 0, 1) := by decide +kernel
theorem dX0_init_85 : decode cX0_init 85 = .ok (.getfield 9, 3) := by decide +kernel
theorem dX0_init_88 : decode cX0_init 88 = .ok (.iload_n 1, 1) := by decide +kernel
theorem dX0_init_89 : decode cX0_init 89 = .ok (.bipush 100, 2) := by decide +kernel
theorem dX0_init_91 : decode cX0_init 91 = .ok (.iastore, 1) := by decide +kernel
theorem dX0_init_92 : decode cX0_init 92 = .ok (.aload_n 0, 1) := by decide +kernel
theorem dX0_init_93 : decode cX0_init 93 = .ok (.getfield 21, 3) := by decide +kernel
theorem dX0_init_96 : decode cX0_init 96 = .ok (.iload_n 1, 1) := by decide +kernel
theorem dX0_init_97 : decode cX0_init 97 = .ok (.iconst 5, 1) := by decide +kernel
theorem dX0_init_98 : decode cX0_init 98 = .ok (.iastore, 1) := by decide +kernel
theorem dX0_init_99 : decode cX0_init 99 = .ok (.iinc 1 1, 3) := by decide +kernel
theorem dX0_init_102 : decode cX0_init 102 = .ok (.goto (-24), 3) := by decide +kernel
theorem dX0_init_105 : decode cX0_init 105 = .ok (.return_, 1) := by decide +kernel
theorem dX1_init_0 : decode cX1_init 0 = .ok (.aload_n 0, 1) := by decide +kernel
theorem dX1_init_1 : decode cX1_init 1 = .ok (.invokespecial 3, 3) := by decide +kernel
theorem dX1_init_4 : decode cX1_init 4 = .ok (.aload_n 0, 1) := by decide +kernel
theorem dX1_init_5 : decode cX1_init 5 = .ok (.bipush 40, 2) := by decide +kernel
theorem dX1_init_7 : decode cX1_init 7 = .ok (.newarray .long, 2) := by decide +kernel
theorem dX1_init_9 : decode cX1_init 9 = .ok (.putfield 9, 3) := by decide +kernel
theorem dX1_init_12 : decode cX1_init 12 = .ok (.return_, 1) := by decide +kernel
theorem dX2_init_0 : decode cX2_init 0 = .ok (.aload_n 0, 1) := by decide +kernel
theorem dX2_init_1 : decode cX2_init 1 = .ok (.invokespecial 3, 3) := by decide +kernel
theorem dX2_init_4 : decode cX2_init 4 = .ok (.aload_n 0, 1) := by decide +kernel
theorem dX2_init_5 : decode cX2_init 5 = .ok (.bipush 120, 2) := by decide +kernel
theorem dX2_init_7 : decode cX2_init 7 = .ok (.newarray .int, 2) := by decide +kernel
theorem dX2_init_9 : decode cX2_init 9 = .ok (.putfield 9, 3) := by decide +kernel
theorem dX2_init_12 : decode cX2_init 12 = .ok (.return_, 1) := by decide +kernel
theorem dX3_init_0 : decode cX3_init 0 = .ok (.aload_n 0, 1) := by decide +kernel
theorem dX3_init_1 : decode cX3_init 1 = .ok (.invokespecial 3, 3) := by decide +kernel
theorem dX3_init_4 : decode cX3_init 4 = .ok (.aload_n 0, 1) := by decide +kernel
theorem dX3_init_5 : decode cX3_init 5 = .ok (.new 9, 3) := by decide +kernel
theorem dX3_init_8 : decode cX3_init 8 = .ok (.dup, 1) := by decide +kernel
theorem dX3_init_9 : decode cX3_init 9 = .ok (.invokespecial 11, 3) := by decide +kernel
theorem dX3_init_12 : decode cX3_init 12 = .ok (.putfield 12, 3) := by decide +kernel
theorem dX3_init_15 : decode cX3_init 15 = .ok (.aload_n 0, 1) := by decide +kernel
theorem dX3_init_16 : decode cX3_init 16 = .ok (.new 9, 3) := by decide +kernel
theorem dX3_init_19 : decode cX3_init 19 = .ok (.dup, 1) := by decide +kernel
theorem dX3_init_20 : decode cX3_init 20 = .ok (.invokespecial 11, 3) := by decide +kernel
theorem dX3_init_23 : decode cX3_init 23 = .ok (.putfield 16, 3) := by decide +kernel
theorem dX3_init_26 : decode cX3_init 26 = .ok (.aload_n 0, 1) := by decide +kernel
theorem dX3_init_27 : decode cX3_init 27 = .ok (.new 9, 3) := by decide +kernel
theorem dX3_init_30 : decode cX3_init 30 = .ok (.dup, 1) := by decide +kernel
theorem dX3_init_31 : decode cX3_init 31 = .ok (.invokespecial 11, 3) := by decide +kernel
theorem dX3_init_34 : decode cX3_init 34 = .ok (.putfield 19, 3) := by decide +kernel
theorem dX3_init_37 : decode cX3_init 37 = .ok (.aload_n 0, 1) := by decide +kernel
theorem dX3_init_38 : decode cX3_init 38 = .ok (.new 22, 3) := by decide +kernel
theorem dX3_init_41 : decode cX3_init 41 = .ok (.dup, 1) := by decide +kernel
theorem dX3_init_42 : decode cX3_init 42 = .ok (.invokespecial 24, 3) := by decide +kernel
theorem dX3_init_45 : decode cX3_init 45 = .ok (.putfield 25, 3) := by decide +kernel
theorem dX3_init_48 : decode cX3_init 48 = .ok (.aload_n 0, 1) := by decide +kernel
theorem dX3_init_49 : decode cX3_init 49 = .ok (.iconst 4, 1) := by decide +kernel
theorem dX3_init_50 : decode cX3_init 50 = .ok (.anewarray 29, 3) := by decide +kernel
theorem dX3_init_53 : decode cX3_init 53 = .ok (.putfield 31, 3) := by decide +kernel
theorem dX3_init_56 : decode cX3_init 56 = .ok (.aload_n 0, 1) := by decide +kernel
theorem dX3_init_57 : decode cX3_init 57 = .ok (.bipush 7, 2) := by decide +kernel
theorem dX3_init_59 : decode cX3_init 59 = .ok (.newarray .int, 2) := by decide +kernel
theorem dX3_init_61 : decode cX3_init 61 = .ok (.putfield 35, 3) := by decide +kernel
theorem dX3_init_64 : decode cX3_init 64 = .ok (.iconst 0, 1) := by decide +kernel
theorem dX3_init_65 : decode cX3_init 65 = .ok (.istore_n 1, 1) := by decide +kernel
theorem dX3_init_66 : decode cX3_init 66 = .ok (.iload_n 1, 1) := by decide +kernel
theorem dX3_init_67 : decode cX3_init 67 = .ok (.iconst 4, 1) := by decide +kernel
theorem dX3_init_68 : decode cX3_init 68 = .ok (.if_icmp .ge 22, 3) := by decide +kernel
theorem dX3_init_71 : decode cX3_init 71 = .ok (.aload_n 0, 1) := by decide +kernel
theorem dX3_init_72 : decode cX3_init 72 = .ok (.getfield 31, 3) := by decide +kernel
theorem dX3_init_75 : decode cX3_init 75 = .ok (.iload_n 1, 1) := by decide +kernel
theorem dX3_init_76 : decode cX3_init 76 = .ok (.new 29, 3) := by decide +kernel
theorem dX3_init_79 : decode cX3_init 79 = .ok (.dup, 1) := by decide +kernel
theorem dX3_init_80 : decode cX3_init 80 = .ok (.invokespecial 39, 3) := by decide +kernel
theorem dX3_init_83 : decode cX3_init 83 = .ok (.aastore, 1) := by decide +kernel
theorem dX3_init_84 : decode cX3_init 84 = .ok (.iinc 1 1, 3) := by decide +kernel
theorem dX3_init_87 : decode cX3_init 87 = .ok (.goto (-21), 3) := by decide +kernel
theorem dX3_init_90 : decode cX3_init 90 = .ok (.return_, 1) := by decide +kernel
theorem dX4_init_0 : decode cX4_init 0 = .ok (.aload_n 0, 1) := by decide +kernel
theorem dX4_init_1 : decode cX4_init 1 = .ok (.invokespecial 1, 3) := by decide +kernel
theorem dX4_init_4 : decode cX4_init 4 = .ok (.aload_n 0, 1) := by decide +kernel
theorem dX4_init_5 : decode cX4_init 5 = .ok (.bipush 76, 2) := by decide +kernel
theorem dX4_init_7 : decode cX4_init 7 = .ok (.newarray .int, 2) := by decide +kernel
theorem dX4_init_9 : decode cX4_init 9 = .ok (.putfield 7, 3) := by decide +kernel
theorem dX4_init_12 : decode cX4_init 12 = .ok (.aload_n 0, 1) := by decide +kernel
theorem dX4_init_13 : decode cX4_init 13 = .ok (.bipush 7, 2) := by decide +kernel
theorem dX4_init_15 : decode cX4_init 15 = .ok (.newarray .int, 2) := by decide +kernel
theorem dX4_init_17 : decode cX4_init 17 = .ok (.putfield 13, 3) := by decide +kernel
theorem dX4_init_20 : decode cX4_init 20 = .ok (.aload_n 0, 1) := by decide +kernel
theorem dX4_init_21 : decode cX4_init 21 = .ok (.bipush 76, 2) := by decide +kernel
theorem dX4_init_23 : decode cX4_init 23 = .ok (.newarray .int, 2) := by decide +kernel
theorem dX4_init_25 : decode cX4_init 25 = .ok (.putfield 16, 3) := by decide +kernel
theorem dX4_init_28 : decode cX4_init 28 = .ok (.aload_n 0, 1) := by decide +kernel
theorem dX4_init_29 : decode cX4_init 29 = .ok (.bipush 120, 2) := by decide +kernel
theorem dX4_init_31 : decode cX4_init 31 = .ok (.newarray .int, 2) := by decide +kernel
theorem dX4_init_33 : decode cX4_init 33 = .ok (.putfield 19, 3) := by decide +kernel
theorem dX4_init_36 : decode cX4_init 36 = .ok (.aload_n 0, 1) := by decide +kernel
theorem dX4_init_37 : decode cX4_init 37 = .ok (.iconst 4, 1) := by decide +kernel
theorem dX4_init_38 : decode cX4_init 38 = .ok (.newarray .int, 2) := by decide +kernel
theorem dX4_init_40 : decode cX4_init 40 = .ok (.putfield 22, 3) := by decide +kernel
theorem dX4_init_43 : decode cX4_init 43 = .ok (.aload_n 0, 1) := by decide +kernel
theorem dX4_init_44 : decode cX4_init 44 = .ok (.iconst 4, 1) := by decide +kernel
theorem dX4_init_45 : decode cX4_init 45 = .ok (.newarray .int, 2) := by decide +kernel
theorem dX4_init_47 : decode cX4_init 47 = .ok (.putfield 25, 3) := by decide +kernel
theorem dX4_init_50 : decode cX4_init 50 = .ok (.aload_n 0, 1) := by decide +kernel
theorem dX4_init_51 : decode cX4_init 51 = .ok (.sipush 160, 3) := by decide +kernel
theorem dX4_init_54 : decode cX4_init 54 = .ok (.newarray .long, 2) := by decide +kernel
theorem dX4_init_56 : decode cX4_init 56 = .ok (.putfield 28, 3) := by decide +kernel
theorem dX4_init_59 : decode cX4_init 59 = .ok (.aload_n 0, 1) := by decide +kernel
theorem dX4_init_60 : decode cX4_init 60 = .ok (.bipush 40, 2) := by decide +kernel
theorem dX4_init_62 : decode cX4_init 62 = .ok (.newarray .long, 2) := by decide +kernel
theorem dX4_init_64 : decode cX4_init 64 = .ok (.putfield 32, 3) := by decide +kernel
theorem dX4_init_67 : decode cX4_init 67 = .ok (.aload_n 0, 1) := by decide +kernel
theorem dX4_init_68 : decode cX4_init 68 = .ok (.bipush 76, 2) := by decide +kernel
theorem dX4_init_70 : decode cX4_init 70 = .ok (.newarray .int, 2) := by decide +kernel
theorem dX4_init_72 : decode cX4_init 72 = .ok (.putfield 35, 3) := by decide +kernel
theorem dX4_init_75 : decode cX4_init 75 = .ok (.aload_n 0, 1) := by decide +kernel
theorem dX4_init_76 : decode cX4_init 76 = .ok (.bipush 76, 2) := by decide +kernel
theorem dX4_init_78 : decode cX4_init 78 = .ok (.newarray .int, 2) := by decide +kernel
theorem dX4_init_80 : decode cX4_init 80 = .ok (.putfield 38, 3) := by decide +kernel
theorem dX4_init_83 : decode cX4_init 83 = .ok (.iconst 0, 1) := by decide +kernel
theorem dX4_init_84 : decode cX4_init 84 = .ok (.istore_n 1, 1) := by decide +kernel
theorem dX4_init_85 : decode cX4_init 85 = .ok (.iload_n 1, 1) := by decide +kernel
theorem dX4_init_86 : decode cX4_init 86 = .ok (.bipush 8, 2) := by decide +kernel
theorem dX4_init_88 : decode cX4_init 88 = .ok (.if_icmp .ge 36, 3) := by decide +kernel
theorem dX4_init_91 : decode cX4_init 91 = .ok (.aload_n 0, 1) := by decide +kernel
theorem dX4_init_92 : decode cX4_init 92 = .ok (.getfield 7, 3) := by decide +kernel
theorem dX4_init_95 : decode cX4_init 95 = .ok (.iconst 4, 1) := by decide +kernel
theorem dX4_init_96 : decode cX4_init 96 = .ok (.iconst 4, 1) := by decide +kernel
theorem dX4_init_97 : decode cX4_init 97 = .ok (.iload_n 1, 1) := by decide +kernel
theorem dX4_init_98 : decode cX4_init 98 = .ok (.imul, 1) := by decide +kernel
theorem dX4_init_99 : decode cX4_init 99 = .ok (.iadd, 1) := by decide +kernel
theorem dX4_init_100 : decode cX4_init 100 = .ok (.iconst 0, 1) := by decide +kernel
theorem dX4_init_101 : decode cX4_init 101 = .ok (.iadd, 1) := by decide +kernel
theorem dX4_init_102 : decode cX4_init 102 = .ok (.bipush 100, 2) := by decide +kernel
theorem dX4_init_104 : decode cX4_init 104 = .ok (.iastore, 1) := by decide +kernel
theorem dX4_init_105 : decode cX4_init 105 = .ok (.aload_n 0, 1) := by decide +kernel
theorem dX4_init_106 : decode cX4_init 106 = .ok (.getfield 7, 3) := by decide +kernel
theorem dX4_init_109 : decode cX4_init 109 = .ok (.iconst 4, 1) := by decide +kernel
theorem dX4_init_110 : decode cX4_init 110 = .ok (.iconst 4, 1) := by decide +kernel
theorem dX4_init_111 : decode cX4_init 111 = .ok (.iload_n 1, 1) := by decide +kernel
theorem dX4_init_112 : decode cX4_init 112 = .ok (.imul, 1) := by decide +kernel
theorem dX4_init_113 : decode cX4_init 113 = .ok (.iadd, 1) := by decide +kernel
theorem dX4_init_114 : decode cX4_init 114 = .ok (.iconst 3, 1) := by decide +kernel
theorem dX4_init_115 : decode cX4_init 115 = .ok (.iadd, 1) := by decide +kernel
theorem dX4_init_116 : decode cX4_init 116 = .ok (.iconst 5, 1) := by decide +kernel
theorem dX4_init_117 : decode cX4_init 117 = .ok (.iastore, 1) := by decide +kernel
theorem dX4_init_118 : decode cX4_init 118 = .ok (.iinc 1 1, 3) := by decide +kernel
theorem dX4_init_121 : decode cX4_init 121 = .ok (.goto (-36), 3) := by decide +kernel
theorem dX4_init_124 : decode cX4_init 124 = .ok (.return_, 1) := by decide +kernel
abbrev qX1i : MI := (yX1_init, cX1_init, 1, none, 1, 12)
abbrev wX1 (ca : Nat → Nat) (h0 : Nat) (u : Nat → Nat) : va_W := [(h0, .inr (1, [.ref (u 0), .int 0, .int 0])), ((u 0), .inl (ca 1, 40, .inr (.inl (fun _ => 0))))]
set_option maxHeartbeats 4000000 in
set_option maxRecDepth 100000 in
theorem ci_X1 (l : Launch) (D : va_G) (ca : Nat → Nat) (h0 sz : Nat) : Met l yX1_init (na_ww qX1i) ({ frames := 1, cells := 1, slots := 40, locals := 12 }) (va_Pc [.ref h0] (fun U => U.heap.size = sz ∧ va_P D vwCl [(h0, .inr (1, [.null, .int 0, .int 0]))] U.heap ∧ va_K D vwCl (na_tys ca) U ∧ va_D (fun _ => True) [(h0, .inr (1, [.null, .int 0, .int 0]))])) (va_Qv (fun _ : Nat → Nat => True) (fun u t => va_P D vwCl (wX1 ca h0 u) t.heap ∧ va_D (va_A [(h0, .inr (1, [.null, .int 0, .int 0]))] sz) (wX1 ca h0 u)) (va_A [(h0, .inr (1, [.null, .int 0, .int 0]))] sz)) 1 40 (va_A [(h0, .inr (1, [.null, .int 0, .int 0]))] sz) := by
  refine Met.ofW (cc := cX1_init) (maxL := 1) (ret := none) (by decide) rfl ?_
  intro p e s m args below meth c s₁ B hml hv
  obtain ⟨rfl, hsz, hP, hK, hD0⟩ := hv
  have hx := B.exec
  have hb := B.bytes
  have hr := B.returns
  have hts := atoms_spec (ws := na_ww qX1i) B.pre
  have hown : s.vm.findClass RX1 = some m.cls := findClass_of_methodNamed B.named
  have hlocks := B.notSynchronized
  have hin : meth.name = "<init>" := (name_of_methodNamed B.named B.method).1
  subst hsz
  have hD := hD0.self (sz := s.heap.size)
  generalize hAe : va_A [(h0, .inr (1, [.null, .int 0, .int 0]))] s.heap.size = A at hD ⊢
  have hA : ∀ q : Nat, s.heap.size ≤ q → A q := fun q h => by rw [← hAe]; exact Or.inr h
  have hS : va_S A s.heap s.heap [] := va_S.rf
  have hl := lv_entry ([.ref h0]) (n := 1) (Nat.le_of_ble_eq_true rfl)
  rw [lg_entry_eq]
  generalize (lg_sl ([.ref h0]) ++ List.replicate (1 - (lg_sl ([.ref h0])).length) Slot.unset).toArray = ls at hl ⊢
  have hl : lv_has ls 1 [(0, .ref h0)] := hl
  refine lv_aload_n hx hb dX1_init_0 rfl (lv_at hl 0 rfl) ?_
  refine W.objInit hx hb hown (hts (.methodLink RX1 3 objectInit) (List.mem_cons_of_mem _ (na_mem (i := 176) (by decide +kernel) (by decide +kernel)))) (hts (.instanceMethod objectInit) (List.mem_cons_of_mem _ (na_mem (i := 81) (by decide +kernel) (by decide +kernel)))) (hts (.code objectInit ⟨#[0xb1]⟩ 1 none) (List.mem_cons_of_mem _ (na_mem (i := 82) (by decide +kernel) (by decide +kernel)))) rfl (by rw [hml]; exact hl.1) rfl dX1_init_1 (Nat.le_of_ble_eq_true rfl) (Nat.le_of_ble_eq_true rfl) ?_
  refine W.eq (g2 := F0 m 4 ls []) rfl ?_
  refine lv_aload_n hx hb dX1_init_4 rfl (lv_at hl 0 rfl) ?_
  refine lv_bipush (v := 40) hx hb dX1_init_5 (by decide) ?_
  refine ni_newL (N := 40) hx hb (hts (.arrayClass .long) (List.mem_cons_of_mem _ (na_mem (i := 192) (by decide +kernel) (by decide +kernel)))) hK hP hD hS hA (by decide) (by decide) (by decide) (Nat.le_of_ble_eq_true rfl) (Nat.le_of_ble_eq_true rfl) dX1_init_7 (fun q7 H hP hD hS => ?_)
  have hP : va_P D vwCl [(h0, .inr (1, [.null, .int 0, .int 0])), (q7, .inl (ca 1, 40, .inr (.inl (fun _ => 0))))] H := hP
  have hD : va_D A [(h0, .inr (1, [.null, .int 0, .int 0])), (q7, .inl (ca 1, 40, .inr (.inl (fun _ => 0))))] := hD
  refine W.widen (k := 1) (n := 40) (Nat.le_of_ble_eq_true rfl) (Nat.le_of_ble_eq_true rfl) ?_
  refine va_putF (D := D) (ci := 1) (v := .ref q7) (ty := .array .long) (C := RX1) (T := TX1) (N := 3) hx hb hts (fun w hw => List.mem_cons_of_mem _ (fw_1 w hw)) tyX1 tyX1_ok nmX1 hown hK hP hD hS 0 rfl rfl 0 (by decide) (hts (.fieldLink RX1 9 RX1 "numbers" "[J") (List.mem_cons_of_mem _ (na_mem (i := 177) (by decide +kernel) (by decide +kernel)))) (fun _ h9 => h9) rfl hin rfl (by decide +kernel) rfl rfl (Nat.le_of_ble_eq_true rfl) dX1_init_9 (fun H locs hP hD hS => ?_)
  have hP : va_P D vwCl [(h0, .inr (1, [.ref q7, .int 0, .int 0])), (q7, .inl (ca 1, 40, .inr (.inl (fun _ => 0))))] H := hP
  have hD : va_D A [(h0, .inr (1, [.ref q7, .int 0, .int 0])), (q7, .inl (ca 1, 40, .inr (.inl (fun _ => 0))))] := hD
  have hP9 : va_P D vwCl (wX1 ca h0 (ni_pk [q7])) H := hP
  have hD9 : va_D A (wX1 ca h0 (ni_pk [q7])) := hD
  exact W.vret hx hb hr (fun t ht hW => ⟨⟨ni_pk [q7], rfl, trivial, by rw [ht]; exact hP9, hD9⟩, hS.F ht⟩) hS.2.2 dX1_init_12
abbrev qX2i : MI := (yX2_init, cX2_init, 1, none, 1, 12)
abbrev wX2 (ca : Nat → Nat) (h0 : Nat) (u : Nat → Nat) : va_W := [(h0, .inr (2, [.ref (u 0), .int 0, .int 0, .int 0, .int 0, .int 0])), ((u 0), .inl (ca 0, 120, .inl (fun _ => 0)))]
set_option maxHeartbeats 4000000 in
set_option maxRecDepth 100000 in
theorem ci_X2 (l : Launch) (D : va_G) (ca : Nat → Nat) (h0 sz : Nat) : Met l yX2_init (na_ww qX2i) ({ frames := 1, cells := 1, slots := 120, locals := 12 }) (va_Pc [.ref h0] (fun U => U.heap.size = sz ∧ va_P D vwCl [(h0, .inr (2, [.null, .int 0, .int 0, .int 0, .int 0, .int 0]))] U.heap ∧ va_K D vwCl (na_tys ca) U ∧ va_D (fun _ => True) [(h0, .inr (2, [.null, .int 0, .int 0, .int 0, .int 0, .int 0]))])) (va_Qv (fun _ : Nat → Nat => True) (fun u t => va_P D vwCl (wX2 ca h0 u) t.heap ∧ va_D (va_A [(h0, .inr (2, [.null, .int 0, .int 0, .int 0, .int 0, .int 0]))] sz) (wX2 ca h0 u)) (va_A [(h0, .inr (2, [.null, .int 0, .int 0, .int 0, .int 0, .int 0]))] sz)) 1 120 (va_A [(h0, .inr (2, [.null, .int 0, .int 0, .int 0, .int 0, .int 0]))] sz) := by
  refine Met.ofW (cc := cX2_init) (maxL := 1) (ret := none) (by decide) rfl ?_
  intro p e s m args below meth c s₁ B hml hv
  obtain ⟨rfl, hsz, hP, hK, hD0⟩ := hv
  have hx := B.exec
  have hb := B.bytes
  have hr := B.returns
  have hts := atoms_spec (ws := na_ww qX2i) B.pre
  have hown : s.vm.findClass RX2 = some m.cls := findClass_of_methodNamed B.named
  have hlocks := B.notSynchronized
  have hin : meth.name = "<init>" := (name_of_methodNamed B.named B.method).1
  subst hsz
  have hD := hD0.self (sz := s.heap.size)
  generalize hAe : va_A [(h0, .inr (2, [.null, .int 0, .int 0, .int 0, .int 0, .int 0]))] s.heap.size = A at hD ⊢
  have hA : ∀ q : Nat, s.heap.size ≤ q → A q := fun q h => by rw [← hAe]; exact Or.inr h
  have hS : va_S A s.heap s.heap [] := va_S.rf
  have hl := lv_entry ([.ref h0]) (n := 1) (Nat.le_of_ble_eq_true rfl)
  rw [lg_entry_eq]
  generalize (lg_sl ([.ref h0]) ++ List.replicate (1 - (lg_sl ([.ref h0])).length) Slot.unset).toArray = ls at hl ⊢
  have hl : lv_has ls 1 [(0, .ref h0)] := hl
  refine lv_aload_n hx hb dX2_init_0 rfl (lv_at hl 0 rfl) ?_
  refine W.objInit hx hb hown (hts (.methodLink RX2 3 objectInit) (List.mem_cons_of_mem _ (na_mem (i := 149) (by decide +kernel) (by decide +kernel)))) (hts (.instanceMethod objectInit) (List.mem_cons_of_mem _ (na_mem (i := 81) (by decide +kernel) (by decide +kernel)))) (hts (.code objectInit ⟨#[0xb1]⟩ 1 none) (List.mem_cons_of_mem _ (na_mem (i := 82) (by decide +kernel) (by decide +kernel)))) rfl (by rw [hml]; exact hl.1) rfl dX2_init_1 (Nat.le_of_ble_eq_true rfl) (Nat.le_of_ble_eq_true rfl) ?_
  refine W.eq (g2 := F0 m 4 ls []) rfl ?_
  refine lv_aload_n hx hb dX2_init_4 rfl (lv_at hl 0 rfl) ?_
  refine lv_bipush (v := 120) hx hb dX2_init_5 (by decide) ?_
  refine ni_newI (N := 120) hx hb (hts (.arrayClass .int) (List.mem_cons_of_mem _ (na_mem (i := 143) (by decide +kernel) (by decide +kernel)))) hK hP hD hS hA (by decide) (by decide) (by decide) (Nat.le_of_ble_eq_true rfl) (Nat.le_of_ble_eq_true rfl) dX2_init_7 (fun q7 H hP hD hS => ?_)
  have hP : va_P D vwCl [(h0, .inr (2, [.null, .int 0, .int 0, .int 0, .int 0, .int 0])), (q7, .inl (ca 0, 120, .inl (fun _ => 0)))] H := hP
  have hD : va_D A [(h0, .inr (2, [.null, .int 0, .int 0, .int 0, .int 0, .int 0])), (q7, .inl (ca 0, 120, .inl (fun _ => 0)))] := hD
  refine W.widen (k := 1) (n := 120) (Nat.le_of_ble_eq_true rfl) (Nat.le_of_ble_eq_true rfl) ?_
  refine va_putF (D := D) (ci := 2) (v := .ref q7) (ty := .array .int) (C := RX2) (T := TX2) (N := 6) hx hb hts (fun w hw => List.mem_cons_of_mem _ (fw_2 w hw)) tyX2 tyX2_ok nmX2 hown hK hP hD hS 0 rfl rfl 0 (by decide) (hts (.fieldLink RX2 9 RX2 "bytes" "[I") (List.mem_cons_of_mem _ (na_mem (i := 150) (by decide +kernel) (by decide +kernel)))) (fun _ h9 => h9) rfl hin rfl (by decide +kernel) rfl rfl (Nat.le_of_ble_eq_true rfl) dX2_init_9 (fun H locs hP hD hS => ?_)
  have hP : va_P D vwCl [(h0, .inr (2, [.ref q7, .int 0, .int 0, .int 0, .int 0, .int 0])), (q7, .inl (ca 0, 120, .inl (fun _ => 0)))] H := hP
  have hD : va_D A [(h0, .inr (2, [.ref q7, .int 0, .int 0, .int 0, .int 0, .int 0])), (q7, .inl (ca 0, 120, .inl (fun _ => 0)))] := hD
  have hP9 : va_P D vwCl (wX2 ca h0 (ni_pk [q7])) H := hP
  have hD9 : va_D A (wX2 ca h0 (ni_pk [q7])) := hD
  exact W.vret hx hb hr (fun t ht hW => ⟨⟨ni_pk [q7], rfl, trivial, by rw [ht]; exact hP9, hD9⟩, hS.F ht⟩) hS.2.2 dX2_init_12
abbrev qX0i : MI := (yX0_init, cX0_init, 2, none, 1, 12)
abbrev wX0 (ca : Nat → Nat) (h0 : Nat) (u : Nat → Nat) : va_W := [(h0, .inr (0, [.ref (u 0), .ref (u 1), .ref (u 2), .ref (u 3), .int 0, .int 0, .int 0, .int 0, .ref (u 4), .ref (u 5), .ref (u 6), .ref (u 7), .ref (u 8)])), ((u 0), .inl (ca 0, 8, .inl (fA 8))), ((u 1), .inl (ca 0, 8, .inl (fun _ => 0))), ((u 2), .inl (ca 0, 8, .inl (fun _ => 0))), ((u 3), .inl (ca 0, 8, .inl (fT 8))), ((u 4), .inl (ca 0, 8, .inl (fun _ => 0))), ((u 5), .inl (ca 0, 8, .inl (fun _ => 0))), ((u 6), .inl (ca 0, 8, .inl (fun _ => 0))), ((u 7), .inl (ca 0, 8, .inl (fun _ => 0))), ((u 8), .inl (ca 0, 8, .inl (fun _ => 0)))]
set_option maxHeartbeats 4000000 in
set_option maxRecDepth 100000 in
theorem ci_X0 (l : Launch) (D : va_G) (ca : Nat → Nat) (h0 sz : Nat) : Met l yX0_init (na_ww qX0i) ({ frames := 1, cells := 9, slots := 72, locals := 12 }) (va_Pc [.ref h0] (fun U => U.heap.size = sz ∧ va_P D vwCl [(h0, .inr (0, [.null, .null, .null, .null, .int 0, .int 0, .int 0, .int 0, .null, .null, .null, .null, .null]))] U.heap ∧ va_K D vwCl (na_tys ca) U ∧ va_D (fun _ => True) [(h0, .inr (0, [.null, .null, .null, .null, .int 0, .int 0, .int 0, .int 0, .null, .null, .null, .null, .null]))])) (va_Qv (fun _ : Nat → Nat => True) (fun u t => va_P D vwCl (wX0 ca h0 u) t.heap ∧ va_D (va_A [(h0, .inr (0, [.null, .null, .null, .null, .int 0, .int 0, .int 0, .int 0, .null, .null, .null, .null, .null]))] sz) (wX0 ca h0 u)) (va_A [(h0, .inr (0, [.null, .null, .null, .null, .int 0, .int 0, .int 0, .int 0, .null, .null, .null, .null, .null]))] sz)) 9 72 (va_A [(h0, .inr (0, [.null, .null, .null, .null, .int 0, .int 0, .int 0, .int 0, .null, .null, .null, .null, .null]))] sz) := by
  refine Met.ofW (cc := cX0_init) (maxL := 2) (ret := none) (by decide) rfl ?_
  intro p e s m args below meth c s₁ B hml hv
  obtain ⟨rfl, hsz, hP, hK, hD0⟩ := hv
  have hx := B.exec
  have hb := B.bytes
  have hr := B.returns
  have hts := atoms_spec (ws := na_ww qX0i) B.pre
  have hown : s.vm.findClass RX0 = some m.cls := findClass_of_methodNamed B.named
  have hlocks := B.notSynchronized
  have hin : meth.name = "<init>" := (name_of_methodNamed B.named B.method).1
  subst hsz
  have hD := hD0.self (sz := s.heap.size)
  generalize hAe : va_A [(h0, .inr (0, [.null, .null, .null, .null, .int 0, .int 0, .int 0, .int 0, .null, .null, .null, .null, .null]))] s.heap.size = A at hD ⊢
  have hA : ∀ q : Nat, s.heap.size ≤ q → A q := fun q h => by rw [← hAe]; exact Or.inr h
  have hS : va_S A s.heap s.heap [] := va_S.rf
  have hl := lv_entry ([.ref h0]) (n := 2) (Nat.le_of_ble_eq_true rfl)
  rw [lg_entry_eq]
  generalize (lg_sl ([.ref h0]) ++ List.replicate (2 - (lg_sl ([.ref h0])).length) Slot.unset).toArray = ls at hl ⊢
  have hl : lv_has ls 2 [(0, .ref h0)] := hl
  refine lv_aload_n hx hb dX0_init_0 rfl (lv_at hl 0 rfl) ?_
  refine W.objInit hx hb hown (hts (.methodLink RX0 3 objectInit) (List.mem_cons_of_mem _ (na_mem (i := 88) (by decide +kernel) (by decide +kernel)))) (hts (.instanceMethod objectInit) (List.mem_cons_of_mem _ (na_mem (i := 81) (by decide +kernel) (by decide +kernel)))) (hts (.code objectInit ⟨#[0xb1]⟩ 1 none) (List.mem_cons_of_mem _ (na_mem (i := 82) (by decide +kernel) (by decide +kernel)))) rfl (by rw [hml]; exact hl.1) rfl dX0_init_1 (Nat.le_of_ble_eq_true rfl) (Nat.le_of_ble_eq_true rfl) ?_
  refine W.eq (g2 := F0 m 4 ls []) rfl ?_
  refine lv_aload_n hx hb dX0_init_4 rfl (lv_at hl 0 rfl) ?_
  refine lv_bipush (v := 8) hx hb dX0_init_5 (by decide) ?_
  refine ni_newI (N := 8) hx hb (hts (.arrayClass .int) (List.mem_cons_of_mem _ (na_mem (i := 143) (by decide +kernel) (by decide +kernel)))) hK hP hD hS hA (by decide) (by decide) (by decide) (Nat.le_of_ble_eq_true rfl) (Nat.le_of_ble_eq_true rfl) dX0_init_7 (fun q7 H hP hD hS => ?_)
  have hP : va_P D vwCl [(h0, .inr (0, [.null, .null, .null, .null, .int 0, .int 0, .int 0, .int 0, .null, .null, .null, .null, .null])), (q7, .inl (ca 0, 8, .inl (fun _ => 0)))] H := hP
  have hD : va_D A [(h0, .inr (0, [.null, .null, .null, .null, .int 0, .int 0, .int 0, .int 0, .null, .null, .null, .null, .null])), (q7, .inl (ca 0, 8, .inl (fun _ => 0)))] := hD
  refine W.widen (k := 1) (n := 8) (Nat.le_of_ble_eq_true rfl) (Nat.le_of_ble_eq_true rfl) ?_
  refine va_putF (D := D) (ci := 0) (v := .ref q7) (ty := .array .int) (C := RX0) (T := TX0) (N := 13) hx hb hts (fun w hw => List.mem_cons_of_mem _ (fw_0 w hw)) tyX0 tyX0_ok nmX0 hown hK hP hD hS 0 rfl rfl 0 (by decide) (hts (.fieldLink RX0 9 RX0 "airs" "[I") (List.mem_cons_of_mem _ (na_mem (i := 89) (by decide +kernel) (by decide +kernel)))) (fun _ h9 => h9) rfl hin rfl (by decide +kernel) rfl rfl (Nat.le_of_ble_eq_true rfl) dX0_init_9 (fun H locs hP hD hS => ?_)
  have hP : va_P D vwCl [(h0, .inr (0, [.ref q7, .null, .null, .null, .int 0, .int 0, .int 0, .int 0, .null, .null, .null, .null, .null])), (q7, .inl (ca 0, 8, .inl (fun _ => 0)))] H := hP
  have hD : va_D A [(h0, .inr (0, [.ref q7, .null, .null, .null, .int 0, .int 0, .int 0, .int 0, .null, .null, .null, .null, .null])), (q7, .inl (ca 0, 8, .inl (fun _ => 0)))] := hD
  refine lv_aload_n hx hb dX0_init_12 rfl (lv_at hl 0 rfl) ?_
  refine lv_bipush (v := 8) hx hb dX0_init_13 (by decide) ?_
  refine ni_newI (N := 8) hx hb (hts (.arrayClass .int) (List.mem_cons_of_mem _ (na_mem (i := 143) (by decide +kernel) (by decide +kernel)))) hK hP hD hS hA (by decide) (by decide) (by decide) (Nat.le_of_ble_eq_true rfl) (Nat.le_of_ble_eq_true rfl) dX0_init_15 (fun q15 H hP hD hS => ?_)
  have hP : va_P D vwCl [(h0, .inr (0, [.ref q7, .null, .null, .null, .int 0, .int 0, .int 0, .int 0, .null, .null, .null, .null, .null])), (q7, .inl (ca 0, 8, .inl (fun _ => 0))), (q15, .inl (ca 0, 8, .inl (fun _ => 0)))] H := hP
  have hD : va_D A [(h0, .inr (0, [.ref q7, .null, .null, .null, .int 0, .int 0, .int 0, .int 0, .null, .null, .null, .null, .null])), (q7, .inl (ca 0, 8, .inl (fun _ => 0))), (q15, .inl (ca 0, 8, .inl (fun _ => 0)))] := hD
  refine W.widen (k := 2) (n := 16) (Nat.le_of_ble_eq_true rfl) (Nat.le_of_ble_eq_true rfl) ?_
  refine va_putF (D := D) (ci := 0) (v := .ref q15) (ty := .array .int) (C := RX0) (T := TX0) (N := 13) hx hb hts (fun w hw => List.mem_cons_of_mem _ (fw_0 w hw)) tyX0 tyX0_ok nmX0 hown hK hP hD hS 0 rfl rfl 1 (by decide) (hts (.fieldLink RX0 15 RX0 "frosts" "[I") (List.mem_cons_of_mem _ (na_mem (i := 91) (by decide +kernel) (by decide +kernel)))) (fun _ h9 => h9) rfl hin rfl (by decide +kernel) rfl rfl (Nat.le_of_ble_eq_true rfl) dX0_init_17 (fun H locs hP hD hS => ?_)
  have hP : va_P D vwCl [(h0, .inr (0, [.ref q7, .ref q15, .null, .null, .int 0, .int 0, .int 0, .int 0, .null, .null, .null, .null, .null])), (q7, .inl (ca 0, 8, .inl (fun _ => 0))), (q15, .inl (ca 0, 8, .inl (fun _ => 0)))] H := hP
  have hD : va_D A [(h0, .inr (0, [.ref q7, .ref q15, .null, .null, .int 0, .int 0, .int 0, .int 0, .null, .null, .null, .null, .null])), (q7, .inl (ca 0, 8, .inl (fun _ => 0))), (q15, .inl (ca 0, 8, .inl (fun _ => 0)))] := hD
  refine lv_aload_n hx hb dX0_init_20 rfl (lv_at hl 0 rfl) ?_
  refine lv_bipush (v := 8) hx hb dX0_init_21 (by decide) ?_
  refine ni_newI (N := 8) hx hb (hts (.arrayClass .int) (List.mem_cons_of_mem _ (na_mem (i := 143) (by decide +kernel) (by decide +kernel)))) hK hP hD hS hA (by decide) (by decide) (by decide) (Nat.le_of_ble_eq_true rfl) (Nat.le_of_ble_eq_true rfl) dX0_init_23 (fun q23 H hP hD hS => ?_)
  have hP : va_P D vwCl [(h0, .inr (0, [.ref q7, .ref q15, .null, .null, .int 0, .int 0, .int 0, .int 0, .null, .null, .null, .null, .null])), (q7, .inl (ca 0, 8, .inl (fun _ => 0))), (q15, .inl (ca 0, 8, .inl (fun _ => 0))), (q23, .inl (ca 0, 8, .inl (fun _ => 0)))] H := hP
  have hD : va_D A [(h0, .inr (0, [.ref q7, .ref q15, .null, .null, .int 0, .int 0, .int 0, .int 0, .null, .null, .null, .null, .null])), (q7, .inl (ca 0, 8, .inl (fun _ => 0))), (q15, .inl (ca 0, 8, .inl (fun _ => 0))), (q23, .inl (ca 0, 8, .inl (fun _ => 0)))] := hD
  refine W.widen (k := 3) (n := 24) (Nat.le_of_ble_eq_true rfl) (Nat.le_of_ble_eq_true rfl) ?_
  refine va_putF (D := D) (ci := 0) (v := .ref q23) (ty := .array .int) (C := RX0) (T := TX0) (N := 13) hx hb hts (fun w hw => List.mem_cons_of_mem _ (fw_0 w hw)) tyX0 tyX0_ok nmX0 hown hK hP hD hS 0 rfl rfl 2 (by decide) (hts (.fieldLink RX0 18 RX0 "fires" "[I") (List.mem_cons_of_mem _ (na_mem (i := 93) (by decide +kernel) (by decide +kernel)))) (fun _ h9 => h9) rfl hin rfl (by decide +kernel) rfl rfl (Nat.le_of_ble_eq_true rfl) dX0_init_25 (fun H locs hP hD hS => ?_)
  have hP : va_P D vwCl [(h0, .inr (0, [.ref q7, .ref q15, .ref q23, .null, .int 0, .int 0, .int 0, .int 0, .null, .null, .null, .null, .null])), (q7, .inl (ca 0, 8, .inl (fun _ => 0))), (q15, .inl (ca 0, 8, .inl (fun _ => 0))), (q23, .inl (ca 0, 8, .inl (fun _ => 0)))] H := hP
  have hD : va_D A [(h0, .inr (0, [.ref q7, .ref q15, .ref q23, .null, .int 0, .int 0, .int 0, .int 0, .null, .null, .null, .null, .null])), (q7, .inl (ca 0, 8, .inl (fun _ => 0))), (q15, .inl (ca 0, 8, .inl (fun _ => 0))), (q23, .inl (ca 0, 8, .inl (fun _ => 0)))] := hD
  refine lv_aload_n hx hb dX0_init_28 rfl (lv_at hl 0 rfl) ?_
  refine lv_bipush (v := 8) hx hb dX0_init_29 (by decide) ?_
  refine ni_newI (N := 8) hx hb (hts (.arrayClass .int) (List.mem_cons_of_mem _ (na_mem (i := 143) (by decide +kernel) (by decide +kernel)))) hK hP hD hS hA (by decide) (by decide) (by decide) (Nat.le_of_ble_eq_true rfl) (Nat.le_of_ble_eq_true rfl) dX0_init_31 (fun q31 H hP hD hS => ?_)
  have hP : va_P D vwCl [(h0, .inr (0, [.ref q7, .ref q15, .ref q23, .null, .int 0, .int 0, .int 0, .int 0, .null, .null, .null, .null, .null])), (q7, .inl (ca 0, 8, .inl (fun _ => 0))), (q15, .inl (ca 0, 8, .inl (fun _ => 0))), (q23, .inl (ca 0, 8, .inl (fun _ => 0))), (q31, .inl (ca 0, 8, .inl (fun _ => 0)))] H := hP
  have hD : va_D A [(h0, .inr (0, [.ref q7, .ref q15, .ref q23, .null, .int 0, .int 0, .int 0, .int 0, .null, .null, .null, .null, .null])), (q7, .inl (ca 0, 8, .inl (fun _ => 0))), (q15, .inl (ca 0, 8, .inl (fun _ => 0))), (q23, .inl (ca 0, 8, .inl (fun _ => 0))), (q31, .inl (ca 0, 8, .inl (fun _ => 0)))] := hD
  refine W.widen (k := 4) (n := 32) (Nat.le_of_ble_eq_true rfl) (Nat.le_of_ble_eq_true rfl) ?_
  refine va_putF (D := D) (ci := 0) (v := .ref q31) (ty := .array .int) (C := RX0) (T := TX0) (N := 13) hx hb hts (fun w hw => List.mem_cons_of_mem _ (fw_0 w hw)) tyX0 tyX0_ok nmX0 hown hK hP hD hS 0 rfl rfl 3 (by decide) (hts (.fieldLink RX0 21 RX0 "tights" "[I") (List.mem_cons_of_mem _ (na_mem (i := 95) (by decide +kernel) (by decide +kernel)))) (fun _ h9 => h9) rfl hin rfl (by decide +kernel) rfl rfl (Nat.le_of_ble_eq_true rfl) dX0_init_33 (fun H locs hP hD hS => ?_)
  have hP : va_P D vwCl [(h0, .inr (0, [.ref q7, .ref q15, .ref q23, .ref q31, .int 0, .int 0, .int 0, .int 0, .null, .null, .null, .null, .null])), (q7, .inl (ca 0, 8, .inl (fun _ => 0))), (q15, .inl (ca 0, 8, .inl (fun _ => 0))), (q23, .inl (ca 0, 8, .inl (fun _ => 0))), (q31, .inl (ca 0, 8, .inl (fun _ => 0)))] H := hP
  have hD : va_D A [(h0, .inr (0, [.ref q7, .ref q15, .ref q23, .ref q31, .int 0, .int 0, .int 0, .int 0, .null, .null, .null, .null, .null])), (q7, .inl (ca 0, 8, .inl (fun _ => 0))), (q15, .inl (ca 0, 8, .inl (fun _ => 0))), (q23, .inl (ca 0, 8, .inl (fun _ => 0))), (q31, .inl (ca 0, 8, .inl (fun _ => 0)))] := hD
  refine lv_aload_n hx hb dX0_init_36 rfl (lv_at hl 0 rfl) ?_
  refine lv_bipush (v := 8) hx hb dX0_init_37 (by decide) ?_
  refine ni_newI (N := 8) hx hb (hts (.arrayClass .int) (List.mem_cons_of_mem _ (na_mem (i := 143) (by decide +kernel) (by decide +kernel)))) hK hP hD hS hA (by decide) (by decide) (by decide) (Nat.le_of_ble_eq_true rfl) (Nat.le_of_ble_eq_true rfl) dX0_init_39 (fun q39 H hP hD hS => ?_)
  have hP : va_P D vwCl [(h0, .inr (0, [.ref q7, .ref q15, .ref q23, .ref q31, .int 0, .int 0, .int 0, .int 0, .null, .null, .null, .null, .null])), (q7, .inl (ca 0, 8, .inl (fun _ => 0))), (q15, .inl (ca 0, 8, .inl (fun _ => 0))), (q23, .inl (ca 0, 8, .inl (fun _ => 0))), (q31, .inl (ca 0, 8, .inl (fun _ => 0))), (q39, .inl (ca 0, 8, .inl (fun _ => 0)))] H := hP
  have hD : va_D A [(h0, .inr (0, [.ref q7, .ref q15, .ref q23, .ref q31, .int 0, .int 0, .int 0, .int 0, .null, .null, .null, .null, .null])), (q7, .inl (ca 0, 8, .inl (fun _ => 0))), (q15, .inl (ca 0, 8, .inl (fun _ => 0))), (q23, .inl (ca 0, 8, .inl (fun _ => 0))), (q31, .inl (ca 0, 8, .inl (fun _ => 0))), (q39, .inl (ca 0, 8, .inl (fun _ => 0)))] := hD
  refine W.widen (k := 5) (n := 40) (Nat.le_of_ble_eq_true rfl) (Nat.le_of_ble_eq_true rfl) ?_
  refine va_putF (D := D) (ci := 0) (v := .ref q39) (ty := .array .int) (C := RX0) (T := TX0) (N := 13) hx hb hts (fun w hw => List.mem_cons_of_mem _ (fw_0 w hw)) tyX0 tyX0_ok nmX0 hown hK hP hD hS 0 rfl rfl 8 (by decide) (hts (.fieldLink RX0 24 RX0 "kinds" "[I") (List.mem_cons_of_mem _ (na_mem (i := 106) (by decide +kernel) (by decide +kernel)))) (fun _ h9 => h9) rfl hin rfl (by decide +kernel) rfl rfl (Nat.le_of_ble_eq_true rfl) dX0_init_41 (fun H locs hP hD hS => ?_)
  have hP : va_P D vwCl [(h0, .inr (0, [.ref q7, .ref q15, .ref q23, .ref q31, .int 0, .int 0, .int 0, .int 0, .ref q39, .null, .null, .null, .null])), (q7, .inl (ca 0, 8, .inl (fun _ => 0))), (q15, .inl (ca 0, 8, .inl (fun _ => 0))), (q23, .inl (ca 0, 8, .inl (fun _ => 0))), (q31, .inl (ca 0, 8, .inl (fun _ => 0))), (q39, .inl (ca 0, 8, .inl (fun _ => 0)))] H := hP
  have hD : va_D A [(h0, .inr (0, [.ref q7, .ref q15, .ref q23, .ref q31, .int 0, .int 0, .int 0, .int 0, .ref q39, .null, .null, .null, .null])), (q7, .inl (ca 0, 8, .inl (fun _ => 0))), (q15, .inl (ca 0, 8, .inl (fun _ => 0))), (q23, .inl (ca 0, 8, .inl (fun _ => 0))), (q31, .inl (ca 0, 8, .inl (fun _ => 0))), (q39, .inl (ca 0, 8, .inl (fun _ => 0)))] := hD
  refine lv_aload_n hx hb dX0_init_44 rfl (lv_at hl 0 rfl) ?_
  refine lv_bipush (v := 8) hx hb dX0_init_45 (by decide) ?_
  refine ni_newI (N := 8) hx hb (hts (.arrayClass .int) (List.mem_cons_of_mem _ (na_mem (i := 143) (by decide +kernel) (by decide +kernel)))) hK hP hD hS hA (by decide) (by decide) (by decide) (Nat.le_of_ble_eq_true rfl) (Nat.le_of_ble_eq_true rfl) dX0_init_47 (fun q47 H hP hD hS => ?_)
  have hP : va_P D vwCl [(h0, .inr (0, [.ref q7, .ref q15, .ref q23, .ref q31, .int 0, .int 0, .int 0, .int 0, .ref q39, .null, .null, .null, .null])), (q7, .inl (ca 0, 8, .inl (fun _ => 0))), (q15, .inl (ca 0, 8, .inl (fun _ => 0))), (q23, .inl (ca 0, 8, .inl (fun _ => 0))), (q31, .inl (ca 0, 8, .inl (fun _ => 0))), (q39, .inl (ca 0, 8, .inl (fun _ => 0))), (q47, .inl (ca 0, 8, .inl (fun _ => 0)))] H := hP
  have hD : va_D A [(h0, .inr (0, [.ref q7, .ref q15, .ref q23, .ref q31, .int 0, .int 0, .int 0, .int 0, .ref q39, .null, .null, .null, .null])), (q7, .inl (ca 0, 8, .inl (fun _ => 0))), (q15, .inl (ca 0, 8, .inl (fun _ => 0))), (q23, .inl (ca 0, 8, .inl (fun _ => 0))), (q31, .inl (ca 0, 8, .inl (fun _ => 0))), (q39, .inl (ca 0, 8, .inl (fun _ => 0))), (q47, .inl (ca 0, 8, .inl (fun _ => 0)))] := hD
  refine W.widen (k := 6) (n := 48) (Nat.le_of_ble_eq_true rfl) (Nat.le_of_ble_eq_true rfl) ?_
  refine va_putF (D := D) (ci := 0) (v := .ref q47) (ty := .array .int) (C := RX0) (T := TX0) (N := 13) hx hb hts (fun w hw => List.mem_cons_of_mem _ (fw_0 w hw)) tyX0 tyX0_ok nmX0 hown hK hP hD hS 0 rfl rfl 9 (by decide) (hts (.fieldLink RX0 27 RX0 "places" "[I") (List.mem_cons_of_mem _ (na_mem (i := 108) (by decide +kernel) (by decide +kernel)))) (fun _ h9 => h9) rfl hin rfl (by decide +kernel) rfl rfl (Nat.le_of_ble_eq_true rfl) dX0_init_49 (fun H locs hP hD hS => ?_)
  have hP : va_P D vwCl [(h0, .inr (0, [.ref q7, .ref q15, .ref q23, .ref q31, .int 0, .int 0, .int 0, .int 0, .ref q39, .ref q47, .null, .null, .null])), (q7, .inl (ca 0, 8, .inl (fun _ => 0))), (q15, .inl (ca 0, 8, .inl (fun _ => 0))), (q23, .inl (ca 0, 8, .inl (fun _ => 0))), (q31, .inl (ca 0, 8, .inl (fun _ => 0))), (q39, .inl (ca 0, 8, .inl (fun _ => 0))), (q47, .inl (ca 0, 8, .inl (fun _ => 0)))] H := hP
  have hD : va_D A [(h0, .inr (0, [.ref q7, .ref q15, .ref q23, .ref q31, .int 0, .int 0, .int 0, .int 0, .ref q39, .ref q47, .null, .null, .null])), (q7, .inl (ca 0, 8, .inl (fun _ => 0))), (q15, .inl (ca 0, 8, .inl (fun _ => 0))), (q23, .inl (ca 0, 8, .inl (fun _ => 0))), (q31, .inl (ca 0, 8, .inl (fun _ => 0))), (q39, .inl (ca 0, 8, .inl (fun _ => 0))), (q47, .inl (ca 0, 8, .inl (fun _ => 0)))] := hD
  refine lv_aload_n hx hb dX0_init_52 rfl (lv_at hl 0 rfl) ?_
  refine lv_bipush (v := 8) hx hb dX0_init_53 (by decide) ?_
  refine ni_newI (N := 8) hx hb (hts (.arrayClass .int) (List.mem_cons_of_mem _ (na_mem (i := 143) (by decide +kernel) (by decide +kernel)))) hK hP hD hS hA (by decide) (by decide) (by decide) (Nat.le_of_ble_eq_true rfl) (Nat.le_of_ble_eq_true rfl) dX0_init_55 (fun q55 H hP hD hS => ?_)
  have hP : va_P D vwCl [(h0, .inr (0, [.ref q7, .ref q15, .ref q23, .ref q31, .int 0, .int 0, .int 0, .int 0, .ref q39, .ref q47, .null, .null, .null])), (q7, .inl (ca 0, 8, .inl (fun _ => 0))), (q15, .inl (ca 0, 8, .inl (fun _ => 0))), (q23, .inl (ca 0, 8, .inl (fun _ => 0))), (q31, .inl (ca 0, 8, .inl (fun _ => 0))), (q39, .inl (ca 0, 8, .inl (fun _ => 0))), (q47, .inl (ca 0, 8, .inl (fun _ => 0))), (q55, .inl (ca 0, 8, .inl (fun _ => 0)))] H := hP
  have hD : va_D A [(h0, .inr (0, [.ref q7, .ref q15, .ref q23, .ref q31, .int 0, .int 0, .int 0, .int 0, .ref q39, .ref q47, .null, .null, .null])), (q7, .inl (ca 0, 8, .inl (fun _ => 0))), (q15, .inl (ca 0, 8, .inl (fun _ => 0))), (q23, .inl (ca 0, 8, .inl (fun _ => 0))), (q31, .inl (ca 0, 8, .inl (fun _ => 0))), (q39, .inl (ca 0, 8, .inl (fun _ => 0))), (q47, .inl (ca 0, 8, .inl (fun _ => 0))), (q55, .inl (ca 0, 8, .inl (fun _ => 0)))] := hD
  refine W.widen (k := 7) (n := 56) (Nat.le_of_ble_eq_true rfl) (Nat.le_of_ble_eq_true rfl) ?_
  refine va_putF (D := D) (ci := 0) (v := .ref q55) (ty := .array .int) (C := RX0) (T := TX0) (N := 13) hx hb hts (fun w hw => List.mem_cons_of_mem _ (fw_0 w hw)) tyX0 tyX0_ok nmX0 hown hK hP hD hS 0 rfl rfl 10 (by decide) (hts (.fieldLink RX0 30 RX0 "needs" "[I") (List.mem_cons_of_mem _ (na_mem (i := 110) (by decide +kernel) (by decide +kernel)))) (fun _ h9 => h9) rfl hin rfl (by decide +kernel) rfl rfl (Nat.le_of_ble_eq_true rfl) dX0_init_57 (fun H locs hP hD hS => ?_)
  have hP : va_P D vwCl [(h0, .inr (0, [.ref q7, .ref q15, .ref q23, .ref q31, .int 0, .int 0, .int 0, .int 0, .ref q39, .ref q47, .ref q55, .null, .null])), (q7, .inl (ca 0, 8, .inl (fun _ => 0))), (q15, .inl (ca 0, 8, .inl (fun _ => 0))), (q23, .inl (ca 0, 8, .inl (fun _ => 0))), (q31, .inl (ca 0, 8, .inl (fun _ => 0))), (q39, .inl (ca 0, 8, .inl (fun _ => 0))), (q47, .inl (ca 0, 8, .inl (fun _ => 0))), (q55, .inl (ca 0, 8, .inl (fun _ => 0)))] H := hP
  have hD : va_D A [(h0, .inr (0, [.ref q7, .ref q15, .ref q23, .ref q31, .int 0, .int 0, .int 0, .int 0, .ref q39, .ref q47, .ref q55, .null, .null])), (q7, .inl (ca 0, 8, .inl (fun _ => 0))), (q15, .inl (ca 0, 8, .inl (fun _ => 0))), (q23, .inl (ca 0, 8, .inl (fun _ => 0))), (q31, .inl (ca 0, 8, .inl (fun _ => 0))), (q39, .inl (ca 0, 8, .inl (fun _ => 0))), (q47, .inl (ca 0, 8, .inl (fun _ => 0))), (q55, .inl (ca 0, 8, .inl (fun _ => 0)))] := hD
  refine lv_aload_n hx hb dX0_init_60 rfl (lv_at hl 0 rfl) ?_
  refine lv_bipush (v := 8) hx hb dX0_init_61 (by decide) ?_
  refine ni_newI (N := 8) hx hb (hts (.arrayClass .int) (List.mem_cons_of_mem _ (na_mem (i := 143) (by decide +kernel) (by decide +kernel)))) hK hP hD hS hA (by decide) (by decide) (by decide) (Nat.le_of_ble_eq_true rfl) (Nat.le_of_ble_eq_true rfl) dX0_init_63 (fun q63 H hP hD hS => ?_)
  have hP : va_P D vwCl [(h0, .inr (0, [.ref q7, .ref q15, .ref q23, .ref q31, .int 0, .int 0, .int 0, .int 0, .ref q39, .ref q47, .ref q55, .null, .null])), (q7, .inl (ca 0, 8, .inl (fun _ => 0))), (q15, .inl (ca 0, 8, .inl (fun _ => 0))), (q23, .inl (ca 0, 8, .inl (fun _ => 0))), (q31, .inl (ca 0, 8, .inl (fun _ => 0))), (q39, .inl (ca 0, 8, .inl (fun _ => 0))), (q47, .inl (ca 0, 8, .inl (fun _ => 0))), (q55, .inl (ca 0, 8, .inl (fun _ => 0))), (q63, .inl (ca 0, 8, .inl (fun _ => 0)))] H := hP
  have hD : va_D A [(h0, .inr (0, [.ref q7, .ref q15, .ref q23, .ref q31, .int 0, .int 0, .int 0, .int 0, .ref q39, .ref q47, .ref q55, .null, .null])), (q7, .inl (ca 0, 8, .inl (fun _ => 0))), (q15, .inl (ca 0, 8, .inl (fun _ => 0))), (q23, .inl (ca 0, 8, .inl (fun _ => 0))), (q31, .inl (ca 0, 8, .inl (fun _ => 0))), (q39, .inl (ca 0, 8, .inl (fun _ => 0))), (q47, .inl (ca 0, 8, .inl (fun _ => 0))), (q55, .inl (ca 0, 8, .inl (fun _ => 0))), (q63, .inl (ca 0, 8, .inl (fun _ => 0)))] := hD
  refine W.widen (k := 8) (n := 64) (Nat.le_of_ble_eq_true rfl) (Nat.le_of_ble_eq_true rfl) ?_
  refine va_putF (D := D) (ci := 0) (v := .ref q63) (ty := .array .int) (C := RX0) (T := TX0) (N := 13) hx hb hts (fun w hw => List.mem_cons_of_mem _ (fw_0 w hw)) tyX0 tyX0_ok nmX0 hown hK hP hD hS 0 rfl rfl 11 (by decide) (hts (.fieldLink RX0 33 RX0 "stays" "[I") (List.mem_cons_of_mem _ (na_mem (i := 112) (by decide +kernel) (by decide +kernel)))) (fun _ h9 => h9) rfl hin rfl (by decide +kernel) rfl rfl (Nat.le_of_ble_eq_true rfl) dX0_init_65 (fun H locs hP hD hS => ?_)
  have hP : va_P D vwCl [(h0, .inr (0, [.ref q7, .ref q15, .ref q23, .ref q31, .int 0, .int 0, .int 0, .int 0, .ref q39, .ref q47, .ref q55, .ref q63, .null])), (q7, .inl (ca 0, 8, .inl (fun _ => 0))), (q15, .inl (ca 0, 8, .inl (fun _ => 0))), (q23, .inl (ca 0, 8, .inl (fun _ => 0))), (q31, .inl (ca 0, 8, .inl (fun _ => 0))), (q39, .inl (ca 0, 8, .inl (fun _ => 0))), (q47, .inl (ca 0, 8, .inl (fun _ => 0))), (q55, .inl (ca 0, 8, .inl (fun _ => 0))), (q63, .inl (ca 0, 8, .inl (fun _ => 0)))] H := hP
  have hD : va_D A [(h0, .inr (0, [.ref q7, .ref q15, .ref q23, .ref q31, .int 0, .int 0, .int 0, .int 0, .ref q39, .ref q47, .ref q55, .ref q63, .null])), (q7, .inl (ca 0, 8, .inl (fun _ => 0))), (q15, .inl (ca 0, 8, .inl (fun _ => 0))), (q23, .inl (ca 0, 8, .inl (fun _ => 0))), (q31, .inl (ca 0, 8, .inl (fun _ => 0))), (q39, .inl (ca 0, 8, .inl (fun _ => 0))), (q47, .inl (ca 0, 8, .inl (fun _ => 0))), (q55, .inl (ca 0, 8, .inl (fun _ => 0))), (q63, .inl (ca 0, 8, .inl (fun _ => 0)))] := hD
  refine lv_aload_n hx hb dX0_init_68 rfl (lv_at hl 0 rfl) ?_
  refine lv_bipush (v := 8) hx hb dX0_init_69 (by decide) ?_
  refine ni_newI (N := 8) hx hb (hts (.arrayClass .int) (List.mem_cons_of_mem _ (na_mem (i := 143) (by decide +kernel) (by decide +kernel)))) hK hP hD hS hA (by decide) (by decide) (by decide) (Nat.le_of_ble_eq_true rfl) (Nat.le_of_ble_eq_true rfl) dX0_init_71 (fun q71 H hP hD hS => ?_)
  have hP : va_P D vwCl [(h0, .inr (0, [.ref q7, .ref q15, .ref q23, .ref q31, .int 0, .int 0, .int 0, .int 0, .ref q39, .ref q47, .ref q55, .ref q63, .null])), (q7, .inl (ca 0, 8, .inl (fun _ => 0))), (q15, .inl (ca 0, 8, .inl (fun _ => 0))), (q23, .inl (ca 0, 8, .inl (fun _ => 0))), (q31, .inl (ca 0, 8, .inl (fun _ => 0))), (q39, .inl (ca 0, 8, .inl (fun _ => 0))), (q47, .inl (ca 0, 8, .inl (fun _ => 0))), (q55, .inl (ca 0, 8, .inl (fun _ => 0))), (q63, .inl (ca 0, 8, .inl (fun _ => 0))), (q71, .inl (ca 0, 8, .inl (fun _ => 0)))] H := hP
  have hD : va_D A [(h0, .inr (0, [.ref q7, .ref q15, .ref q23, .ref q31, .int 0, .int 0, .int 0, .int 0, .ref q39, .ref q47, .ref q55, .ref q63, .null])), (q7, .inl (ca 0, 8, .inl (fun _ => 0))), (q15, .inl (ca 0, 8, .inl (fun _ => 0))), (q23, .inl (ca 0, 8, .inl (fun _ => 0))), (q31, .inl (ca 0, 8, .inl (fun _ => 0))), (q39, .inl (ca 0, 8, .inl (fun _ => 0))), (q47, .inl (ca 0, 8, .inl (fun _ => 0))), (q55, .inl (ca 0, 8, .inl (fun _ => 0))), (q63, .inl (ca 0, 8, .inl (fun _ => 0))), (q71, .inl (ca 0, 8, .inl (fun _ => 0)))] := hD
  refine W.widen (k := 9) (n := 72) (Nat.le_of_ble_eq_true rfl) (Nat.le_of_ble_eq_true rfl) ?_
  refine va_putF (D := D) (ci := 0) (v := .ref q71) (ty := .array .int) (C := RX0) (T := TX0) (N := 13) hx hb hts (fun w hw => List.mem_cons_of_mem _ (fw_0 w hw)) tyX0 tyX0_ok nmX0 hown hK hP hD hS 0 rfl rfl 12 (by decide) (hts (.fieldLink RX0 36 RX0 "stifled" "[I") (List.mem_cons_of_mem _ (na_mem (i := 114) (by decide +kernel) (by decide +kernel)))) (fun _ h9 => h9) rfl hin rfl (by decide +kernel) rfl rfl (Nat.le_of_ble_eq_true rfl) dX0_init_73 (fun H locs hP hD hS => ?_)
  have hP : va_P D vwCl [(h0, .inr (0, [.ref q7, .ref q15, .ref q23, .ref q31, .int 0, .int 0, .int 0, .int 0, .ref q39, .ref q47, .ref q55, .ref q63, .ref q71])), (q7, .inl (ca 0, 8, .inl (fun _ => 0))), (q15, .inl (ca 0, 8, .inl (fun _ => 0))), (q23, .inl (ca 0, 8, .inl (fun _ => 0))), (q31, .inl (ca 0, 8, .inl (fun _ => 0))), (q39, .inl (ca 0, 8, .inl (fun _ => 0))), (q47, .inl (ca 0, 8, .inl (fun _ => 0))), (q55, .inl (ca 0, 8, .inl (fun _ => 0))), (q63, .inl (ca 0, 8, .inl (fun _ => 0))), (q71, .inl (ca 0, 8, .inl (fun _ => 0)))] H := hP
  have hD : va_D A [(h0, .inr (0, [.ref q7, .ref q15, .ref q23, .ref q31, .int 0, .int 0, .int 0, .int 0, .ref q39, .ref q47, .ref q55, .ref q63, .ref q71])), (q7, .inl (ca 0, 8, .inl (fun _ => 0))), (q15, .inl (ca 0, 8, .inl (fun _ => 0))), (q23, .inl (ca 0, 8, .inl (fun _ => 0))), (q31, .inl (ca 0, 8, .inl (fun _ => 0))), (q39, .inl (ca 0, 8, .inl (fun _ => 0))), (q47, .inl (ca 0, 8, .inl (fun _ => 0))), (q55, .inl (ca 0, 8, .inl (fun _ => 0))), (q63, .inl (ca 0, 8, .inl (fun _ => 0))), (q71, .inl (ca 0, 8, .inl (fun _ => 0)))] := hD
  refine lv_iconst (v := 0) hx hb dX0_init_76 (by decide) ?_
  refine lv_istore_n (lv' := [(1, .int 0), (0, .ref h0)]) hx hb dX0_init_77 rfl hl (by decide) rfl (fun ls hl => ?_)
  refine lv_iload_n hx hb dX0_init_78 rfl (lv_at hl 0 rfl) ?_
  refine lv_bipush (v := 8) hx hb dX0_init_79 (by decide) ?_
  refine lv_icmp_ge (tgt := 105) hx hb dX0_init_81 (by decide) (fun h => absurd h (by decide)) (fun _ => ?_)
  refine lv_aload_n hx hb dX0_init_84 rfl (lv_at hl 1 rfl) ?_
  refine va_get (D := D) (ci := 0) (v := .ref q7) (C := RX0) (T := TX0) (N := 13) hx hb hts (fun w hw => List.mem_cons_of_mem _ (fw_0 w hw)) hown hK hP 0 rfl rfl 0 (by decide) (hts (.fieldLink RX0 9 RX0 "airs" "[I") (List.mem_cons_of_mem _ (na_mem (i := 89) (by decide +kernel) (by decide +kernel)))) (fun _ h9 => h9) rfl dX0_init_85 ?_
  refine lv_iload_n hx hb dX0_init_88 rfl (lv_at hl 0 rfl) ?_
  refine lv_bipush (v := 100) hx hb dX0_init_89 (by decide) ?_
  refine ni_iast hx hb hK hP hD hS 1 0 rfl rfl (by unfold vp_in; decide) 0 (by decide) (show upd (fun _ => 0) 0 100 = fA 1 from rfl) dX0_init_91 (fun H locs hP hD hS => ?_)
  have hP : va_P D vwCl [(h0, .inr (0, [.ref q7, .ref q15, .ref q23, .ref q31, .int 0, .int 0, .int 0, .int 0, .ref q39, .ref q47, .ref q55, .ref q63, .ref q71])), (q7, .inl (ca 0, 8, .inl (fA 1))), (q15, .inl (ca 0, 8, .inl (fun _ => 0))), (q23, .inl (ca 0, 8, .inl (fun _ => 0))), (q31, .inl (ca 0, 8, .inl (fun _ => 0))), (q39, .inl (ca 0, 8, .inl (fun _ => 0))), (q47, .inl (ca 0, 8, .inl (fun _ => 0))), (q55, .inl (ca 0, 8, .inl (fun _ => 0))), (q63, .inl (ca 0, 8, .inl (fun _ => 0))), (q71, .inl (ca 0, 8, .inl (fun _ => 0)))] H := hP
  have hD : va_D A [(h0, .inr (0, [.ref q7, .ref q15, .ref q23, .ref q31, .int 0, .int 0, .int 0, .int 0, .ref q39, .ref q47, .ref q55, .ref q63, .ref q71])), (q7, .inl (ca 0, 8, .inl (fA 1))), (q15, .inl (ca 0, 8, .inl (fun _ => 0))), (q23, .inl (ca 0, 8, .inl (fun _ => 0))), (q31, .inl (ca 0, 8, .inl (fun _ => 0))), (q39, .inl (ca 0, 8, .inl (fun _ => 0))), (q47, .inl (ca 0, 8, .inl (fun _ => 0))), (q55, .inl (ca 0, 8, .inl (fun _ => 0))), (q63, .inl (ca 0, 8, .inl (fun _ => 0))), (q71, .inl (ca 0, 8, .inl (fun _ => 0)))] := hD
  refine lv_aload_n hx hb dX0_init_92 rfl (lv_at hl 1 rfl) ?_
  refine va_get (D := D) (ci := 0) (v := .ref q31) (C := RX0) (T := TX0) (N := 13) hx hb hts (fun w hw => List.mem_cons_of_mem _ (fw_0 w hw)) hown hK hP 0 rfl rfl 3 (by decide) (hts (.fieldLink RX0 21 RX0 "tights" "[I") (List.mem_cons_of_mem _ (na_mem (i := 95) (by decide +kernel) (by decide +kernel)))) (fun _ h9 => h9) rfl dX0_init_93 ?_
  refine lv_iload_n hx hb dX0_init_96 rfl (lv_at hl 0 rfl) ?_
  refine lv_iconst (v := 5) hx hb dX0_init_97 (by decide) ?_
  refine ni_iast hx hb hK hP hD hS 4 0 rfl rfl (by unfold vp_in; decide) 0 (by decide) (show upd (fun _ => 0) 0 5 = fT 1 from rfl) dX0_init_98 (fun H locs hP hD hS => ?_)
  have hP : va_P D vwCl [(h0, .inr (0, [.ref q7, .ref q15, .ref q23, .ref q31, .int 0, .int 0, .int 0, .int 0, .ref q39, .ref q47, .ref q55, .ref q63, .ref q71])), (q7, .inl (ca 0, 8, .inl (fA 1))), (q15, .inl (ca 0, 8, .inl (fun _ => 0))), (q23, .inl (ca 0, 8, .inl (fun _ => 0))), (q31, .inl (ca 0, 8, .inl (fT 1))), (q39, .inl (ca 0, 8, .inl (fun _ => 0))), (q47, .inl (ca 0, 8, .inl (fun _ => 0))), (q55, .inl (ca 0, 8, .inl (fun _ => 0))), (q63, .inl (ca 0, 8, .inl (fun _ => 0))), (q71, .inl (ca 0, 8, .inl (fun _ => 0)))] H := hP
  have hD : va_D A [(h0, .inr (0, [.ref q7, .ref q15, .ref q23, .ref q31, .int 0, .int 0, .int 0, .int 0, .ref q39, .ref q47, .ref q55, .ref q63, .ref q71])), (q7, .inl (ca 0, 8, .inl (fA 1))), (q15, .inl (ca 0, 8, .inl (fun _ => 0))), (q23, .inl (ca 0, 8, .inl (fun _ => 0))), (q31, .inl (ca 0, 8, .inl (fT 1))), (q39, .inl (ca 0, 8, .inl (fun _ => 0))), (q47, .inl (ca 0, 8, .inl (fun _ => 0))), (q55, .inl (ca 0, 8, .inl (fun _ => 0))), (q63, .inl (ca 0, 8, .inl (fun _ => 0))), (q71, .inl (ca 0, 8, .inl (fun _ => 0)))] := hD
  refine lv_iinc (v := 1) (lv' := [(1, .int 1), (0, .ref h0)]) hx hb dX0_init_99 hl (k := 0) rfl (by decide) (by decide) rfl (fun ls hl => ?_)
  refine lv_goto (tgt := 78) hx hb dX0_init_102 (by decide) ?_
  refine lv_iload_n hx hb dX0_init_78 rfl (lv_at hl 0 rfl) ?_
  refine lv_bipush (v := 8) hx hb dX0_init_79 (by decide) ?_
  refine lv_icmp_ge (tgt := 105) hx hb dX0_init_81 (by decide) (fun h => absurd h (by decide)) (fun _ => ?_)
  refine lv_aload_n hx hb dX0_init_84 rfl (lv_at hl 1 rfl) ?_
  refine va_get (D := D) (ci := 0) (v := .ref q7) (C := RX0) (T := TX0) (N := 13) hx hb hts (fun w hw => List.mem_cons_of_mem _ (fw_0 w hw)) hown hK hP 0 rfl rfl 0 (by decide) (hts (.fieldLink RX0 9 RX0 "airs" "[I") (List.mem_cons_of_mem _ (na_mem (i := 89) (by decide +kernel) (by decide +kernel)))) (fun _ h9 => h9) rfl dX0_init_85 ?_
  refine lv_iload_n hx hb dX0_init_88 rfl (lv_at hl 0 rfl) ?_
  refine lv_bipush (v := 100) hx hb dX0_init_89 (by decide) ?_
  refine ni_iast hx hb hK hP hD hS 1 0 rfl rfl (by unfold vp_in; decide) 1 (by decide) (show upd (fA 1) 1 100 = fA 2 from rfl) dX0_init_91 (fun H locs hP hD hS => ?_)
  have hP : va_P D vwCl [(h0, .inr (0, [.ref q7, .ref q15, .ref q23, .ref q31, .int 0, .int 0, .int 0, .int 0, .ref q39, .ref q47, .ref q55, .ref q63, .ref q71])), (q7, .inl (ca 0, 8, .inl (fA 2))), (q15, .inl (ca 0, 8, .inl (fun _ => 0))), (q23, .inl (ca 0, 8, .inl (fun _ => 0))), (q31, .inl (ca 0, 8, .inl (fT 1))), (q39, .inl (ca 0, 8, .inl (fun _ => 0))), (q47, .inl (ca 0, 8, .inl (fun _ => 0))), (q55, .inl (ca 0, 8, .inl (fun _ => 0))), (q63, .inl (ca 0, 8, .inl (fun _ => 0))), (q71, .inl (ca 0, 8, .inl (fun _ => 0)))] H := hP
  have hD : va_D A [(h0, .inr (0, [.ref q7, .ref q15, .ref q23, .ref q31, .int 0, .int 0, .int 0, .int 0, .ref q39, .ref q47, .ref q55, .ref q63, .ref q71])), (q7, .inl (ca 0, 8, .inl (fA 2))), (q15, .inl (ca 0, 8, .inl (fun _ => 0))), (q23, .inl (ca 0, 8, .inl (fun _ => 0))), (q31, .inl (ca 0, 8, .inl (fT 1))), (q39, .inl (ca 0, 8, .inl (fun _ => 0))), (q47, .inl (ca 0, 8, .inl (fun _ => 0))), (q55, .inl (ca 0, 8, .inl (fun _ => 0))), (q63, .inl (ca 0, 8, .inl (fun _ => 0))), (q71, .inl (ca 0, 8, .inl (fun _ => 0)))] := hD
  refine lv_aload_n hx hb dX0_init_92 rfl (lv_at hl 1 rfl) ?_
  refine va_get (D := D) (ci := 0) (v := .ref q31) (C := RX0) (T := TX0) (N := 13) hx hb hts (fun w hw => List.mem_cons_of_mem _ (fw_0 w hw)) hown hK hP 0 rfl rfl 3 (by decide) (hts (.fieldLink RX0 21 RX0 "tights" "[I") (List.mem_cons_of_mem _ (na_mem (i := 95) (by decide +kernel) (by decide +kernel)))) (fun _ h9 => h9) rfl dX0_init_93 ?_
  refine lv_iload_n hx hb dX0_init_96 rfl (lv_at hl 0 rfl) ?_
  refine lv_iconst (v := 5) hx hb dX0_init_97 (by decide) ?_
  refine ni_iast hx hb hK hP hD hS 4 0 rfl rfl (by unfold vp_in; decide) 1 (by decide) (show upd (fT 1) 1 5 = fT 2 from rfl) dX0_init_98 (fun H locs hP hD hS => ?_)
  have hP : va_P D vwCl [(h0, .inr (0, [.ref q7, .ref q15, .ref q23, .ref q31, .int 0, .int 0, .int 0, .int 0, .ref q39, .ref q47, .ref q55, .ref q63, .ref q71])), (q7, .inl (ca 0, 8, .inl (fA 2))), (q15, .inl (ca 0, 8, .inl (fun _ => 0))), (q23, .inl (ca 0, 8, .inl (fun _ => 0))), (q31, .inl (ca 0, 8, .inl (fT 2))), (q39, .inl (ca 0, 8, .inl (fun _ => 0))), (q47, .inl (ca 0, 8, .inl (fun _ => 0))), (q55, .inl (ca 0, 8, .inl (fun _ => 0))), (q63, .inl (ca 0, 8, .inl (fun _ => 0))), (q71, .inl (ca 0, 8, .inl (fun _ => 0)))] H := hP
  have hD : va_D A [(h0, .inr (0, [.ref q7, .ref q15, .ref q23, .ref q31, .int 0, .int 0, .int 0, .int 0, .ref q39, .ref q47, .ref q55, .ref q63, .ref q71])), (q7, .inl (ca 0, 8, .inl (fA 2))), (q15, .inl (ca 0, 8, .inl (fun _ => 0))), (q23, .inl (ca 0, 8, .inl (fun _ => 0))), (q31, .inl (ca 0, 8, .inl (fT 2))), (q39, .inl (ca 0, 8, .inl (fun _ => 0))), (q47, .inl (ca 0, 8, .inl (fun _ => 0))), (q55, .inl (ca 0, 8, .inl (fun _ => 0))), (q63, .inl (ca 0, 8, .inl (fun _ => 0))), (q71, .inl (ca 0, 8, .inl (fun _ => 0)))] := hD
  refine lv_iinc (v := 2) (lv' := [(1, .int 2), (0, .ref h0)]) hx hb dX0_init_99 hl (k := 0) rfl (by decide) (by decide) rfl (fun ls hl => ?_)
  refine lv_goto (tgt := 78) hx hb dX0_init_102 (by decide) ?_
  refine lv_iload_n hx hb dX0_init_78 rfl (lv_at hl 0 rfl) ?_
  refine lv_bipush (v := 8) hx hb dX0_init_79 (by decide) ?_
  refine lv_icmp_ge (tgt := 105) hx hb dX0_init_81 (by decide) (fun h => absurd h (by decide)) (fun _ => ?_)
  refine lv_aload_n hx hb dX0_init_84 rfl (lv_at hl 1 rfl) ?_
  refine va_get (D := D) (ci := 0) (v := .ref q7) (C := RX0) (T := TX0) (N := 13) hx hb hts (fun w hw => List.mem_cons_of_mem _ (fw_0 w hw)) hown hK hP 0 rfl rfl 0 (by decide) (hts (.fieldLink RX0 9 RX0 "airs" "[I") (List.mem_cons_of_mem _ (na_mem (i := 89) (by decide +kernel) (by decide +kernel)))) (fun _ h9 => h9) rfl dX0_init_85 ?_
  refine lv_iload_n hx hb dX0_init_88 rfl (lv_at hl 0 rfl) ?_
  refine lv_bipush (v := 100) hx hb dX0_init_89 (by decide) ?_
  refine ni_iast hx hb hK hP hD hS 1 0 rfl rfl (by unfold vp_in; decide) 2 (by decide) (show upd (fA 2) 2 100 = fA 3 from rfl) dX0_init_91 (fun H locs hP hD hS => ?_)
  have hP : va_P D vwCl [(h0, .inr (0, [.ref q7, .ref q15, .ref q23, .ref q31, .int 0, .int 0, .int 0, .int 0, .ref q39, .ref q47, .ref q55, .ref q63, .ref q71])), (q7, .inl (ca 0, 8, .inl (fA 3))), (q15, .inl (ca 0, 8, .inl (fun _ => 0))), (q23, .inl (ca 0, 8, .inl (fun _ => 0))), (q31, .inl (ca 0, 8, .inl (fT 2))), (q39, .inl (ca 0, 8, .inl (fun _ => 0))), (q47, .inl (ca 0, 8, .inl (fun _ => 0))), (q55, .inl (ca 0, 8, .inl (fun _ => 0))), (q63, .inl (ca 0, 8, .inl (fun _ => 0))), (q71, .inl (ca 0, 8, .inl (fun _ => 0)))] H := hP
  have hD : va_D A [(h0, .inr (0, [.ref q7, .ref q15, .ref q23, .ref q31, .int 0, .int 0, .int 0, .int 0, .ref q39, .ref q47, .ref q55, .ref q63, .ref q71])), (q7, .inl (ca 0, 8, .inl (fA 3))), (q15, .inl (ca 0, 8, .inl (fun _ => 0))), (q23, .inl (ca 0, 8, .inl (fun _ => 0))), (q31, .inl (ca 0, 8, .inl (fT 2))), (q39, .inl (ca 0, 8, .inl (fun _ => 0))), (q47, .inl (ca 0, 8, .inl (fun _ => 0))), (q55, .inl (ca 0, 8, .inl (fun _ => 0))), (q63, .inl (ca 0, 8, .inl (fun _ => 0))), (q71, .inl (ca 0, 8, .inl (fun _ => 0)))] := hD
  refine lv_aload_n hx hb dX0_init_92 rfl (lv_at hl 1 rfl) ?_
  refine va_get (D := D) (ci := 0) (v := .ref q31) (C := RX0) (T := TX0) (N := 13) hx hb hts (fun w hw => List.mem_cons_of_mem _ (fw_0 w hw)) hown hK hP 0 rfl rfl 3 (by decide) (hts (.fieldLink RX0 21 RX0 "tights" "[I") (List.mem_cons_of_mem _ (na_mem (i := 95) (by decide +kernel) (by decide +kernel)))) (fun _ h9 => h9) rfl dX0_init_93 ?_
  refine lv_iload_n hx hb dX0_init_96 rfl (lv_at hl 0 rfl) ?_
  refine lv_iconst (v := 5) hx hb dX0_init_97 (by decide) ?_
  refine ni_iast hx hb hK hP hD hS 4 0 rfl rfl (by unfold vp_in; decide) 2 (by decide) (show upd (fT 2) 2 5 = fT 3 from rfl) dX0_init_98 (fun H locs hP hD hS => ?_)
  have hP : va_P D vwCl [(h0, .inr (0, [.ref q7, .ref q15, .ref q23, .ref q31, .int 0, .int 0, .int 0, .int 0, .ref q39, .ref q47, .ref q55, .ref q63, .ref q71])), (q7, .inl (ca 0, 8, .inl (fA 3))), (q15, .inl (ca 0, 8, .inl (fun _ => 0))), (q23, .inl (ca 0, 8, .inl (fun _ => 0))), (q31, .inl (ca 0, 8, .inl (fT 3))), (q39, .inl (ca 0, 8, .inl (fun _ => 0))), (q47, .inl (ca 0, 8, .inl (fun _ => 0))), (q55, .inl (ca 0, 8, .inl (fun _ => 0))), (q63, .inl (ca 0, 8, .inl (fun _ => 0))), (q71, .inl (ca 0, 8, .inl (fun _ => 0)))] H := hP
  have hD : va_D A [(h0, .inr (0, [.ref q7, .ref q15, .ref q23, .ref q31, .int 0, .int 0, .int 0, .int 0, .ref q39, .ref q47, .ref q55, .ref q63, .ref q71])), (q7, .inl (ca 0, 8, .inl (fA 3))), (q15, .inl (ca 0, 8, .inl (fun _ => 0))), (q23, .inl (ca 0, 8, .inl (fun _ => 0))), (q31, .inl (ca 0, 8, .inl (fT 3))), (q39, .inl (ca 0, 8, .inl (fun _ => 0))), (q47, .inl (ca 0, 8, .inl (fun _ => 0))), (q55, .inl (ca 0, 8, .inl (fun _ => 0))), (q63, .inl (ca 0, 8, .inl (fun _ => 0))), (q71, .inl (ca 0, 8, .inl (fun _ => 0)))] := hD
  refine lv_iinc (v := 3) (lv' := [(1, .int 3), (0, .ref h0)]) hx hb dX0_init_99 hl (k := 0) rfl (by decide) (by decide) rfl (fun ls hl => ?_)
  refine lv_goto (tgt := 78) hx hb dX0_init_102 (by decide) ?_
  refine lv_iload_n hx hb dX0_init_78 rfl (lv_at hl 0 rfl) ?_
  refine lv_bipush (v := 8) hx hb dX0_init_79 (by decide) ?_
  refine lv_icmp_ge (tgt := 105) hx hb dX0_init_81 (by decide) (fun h => absurd h (by decide)) (fun _ => ?_)
  refine lv_aload_n hx hb dX0_init_84 rfl (lv_at hl 1 rfl) ?_
  refine va_get (D := D) (ci := 0) (v := .ref q7) (C := RX0) (T := TX0) (N := 13) hx hb hts (fun w hw => List.mem_cons_of_mem _ (fw_0 w hw)) hown hK hP 0 rfl rfl 0 (by decide) (hts (.fieldLink RX0 9 RX0 "airs" "[I") (List.mem_cons_of_mem _ (na_mem (i := 89) (by decide +kernel) (by decide +kernel)))) (fun _ h9 => h9) rfl dX0_init_85 ?_
  refine lv_iload_n hx hb dX0_init_88 rfl (lv_at hl 0 rfl) ?_
  refine lv_bipush (v := 100) hx hb dX0_init_89 (by decide) ?_
  refine ni_iast hx hb hK hP hD hS 1 0 rfl rfl (by unfold vp_in; decide) 3 (by decide) (show upd (fA 3) 3 100 = fA 4 from rfl) dX0_init_91 (fun H locs hP hD hS => ?_)
  have hP : va_P D vwCl [(h0, .inr (0, [.ref q7, .ref q15, .ref q23, .ref q31, .int 0, .int 0, .int 0, .int 0, .ref q39, .ref q47, .ref q55, .ref q63, .ref q71])), (q7, .inl (ca 0, 8, .inl (fA 4))), (q15, .inl (ca 0, 8, .inl (fun _ => 0))), (q23, .inl (ca 0, 8, .inl (fun _ => 0))), (q31, .inl (ca 0, 8, .inl (fT 3))), (q39, .inl (ca 0, 8, .inl (fun _ => 0))), (q47, .inl (ca 0, 8, .inl (fun _ => 0))), (q55, .inl (ca 0, 8, .inl (fun _ => 0))), (q63, .inl (ca 0, 8, .inl (fun _ => 0))), (q71, .inl (ca 0, 8, .inl (fun _ => 0)))] H := hP
  have hD : va_D A [(h0, .inr (0, [.ref q7, .ref q15, .ref q23, .ref q31, .int 0, .int 0, .int 0, .int 0, .ref q39, .ref q47, .ref q55, .ref q63, .ref q71])), (q7, .inl (ca 0, 8, .inl (fA 4))), (q15, .inl (ca 0, 8, .inl (fun _ => 0))), (q23, .inl (ca 0, 8, .inl (fun _ => 0))), (q31, .inl (ca 0, 8, .inl (fT 3))), (q39, .inl (ca 0, 8, .inl (fun _ => 0))), (q47, .inl (ca 0, 8, .inl (fun _ => 0))), (q55, .inl (ca 0, 8, .inl (fun _ => 0))), (q63, .inl (ca 0, 8, .inl (fun _ => 0))), (q71, .inl (ca 0, 8, .inl (fun _ => 0)))] := hD
  refine lv_aload_n hx hb dX0_init_92 rfl (lv_at hl 1 rfl) ?_
  refine va_get (D := D) (ci := 0) (v := .ref q31) (C := RX0) (T := TX0) (N := 13) hx hb hts (fun w hw => List.mem_cons_of_mem _ (fw_0 w hw)) hown hK hP 0 rfl rfl 3 (by decide) (hts (.fieldLink RX0 21 RX0 "tights" "[I") (List.mem_cons_of_mem _ (na_mem (i := 95) (by decide +kernel) (by decide +kernel)))) (fun _ h9 => h9) rfl dX0_init_93 ?_
  refine lv_iload_n hx hb dX0_init_96 rfl (lv_at hl 0 rfl) ?_
  refine lv_iconst (v := 5) hx hb dX0_init_97 (by decide) ?_
  refine ni_iast hx hb hK hP hD hS 4 0 rfl rfl (by unfold vp_in; decide) 3 (by decide) (show upd (fT 3) 3 5 = fT 4 from rfl) dX0_init_98 (fun H locs hP hD hS => ?_)
  have hP : va_P D vwCl [(h0, .inr (0, [.ref q7, .ref q15, .ref q23, .ref q31, .int 0, .int 0, .int 0, .int 0, .ref q39, .ref q47, .ref q55, .ref q63, .ref q71])), (q7, .inl (ca 0, 8, .inl (fA 4))), (q15, .inl (ca 0, 8, .inl (fun _ => 0))), (q23, .inl (ca 0, 8, .inl (fun _ => 0))), (q31, .inl (ca 0, 8, .inl (fT 4))), (q39, .inl (ca 0, 8, .inl (fun _ => 0))), (q47, .inl (ca 0, 8, .inl (fun _ => 0))), (q55, .inl (ca 0, 8, .inl (fun _ => 0))), (q63, .inl (ca 0, 8, .inl (fun _ => 0))), (q71, .inl (ca 0, 8, .inl (fun _ => 0)))] H := hP
  have hD : va_D A [(h0, .inr (0, [.ref q7, .ref q15, .ref q23, .ref q31, .int 0, .int 0, .int 0, .int 0, .ref q39, .ref q47, .ref q55, .ref q63, .ref q71])), (q7, .inl (ca 0, 8, .inl (fA 4))), (q15, .inl (ca 0, 8, .inl (fun _ => 0))), (q23, .inl (ca 0, 8, .inl (fun _ => 0))), (q31, .inl (ca 0, 8, .inl (fT 4))), (q39, .inl (ca 0, 8, .inl (fun _ => 0))), (q47, .inl (ca 0, 8, .inl (fun _ => 0))), (q55, .inl (ca 0, 8, .inl (fun _ => 0))), (q63, .inl (ca 0, 8, .inl (fun _ => 0))), (q71, .inl (ca 0, 8, .inl (fun _ => 0)))] := hD
  refine lv_iinc (v := 4) (lv' := [(1, .int 4), (0, .ref h0)]) hx hb dX0_init_99 hl (k := 0) rfl (by decide) (by decide) rfl (fun ls hl => ?_)
  refine lv_goto (tgt := 78) hx hb dX0_init_102 (by decide) ?_
  refine lv_iload_n hx hb dX0_init_78 rfl (lv_at hl 0 rfl) ?_
  refine lv_bipush (v := 8) hx hb dX0_init_79 (by decide) ?_
  refine lv_icmp_ge (tgt := 105) hx hb dX0_init_81 (by decide) (fun h => absurd h (by decide)) (fun _ => ?_)
  refine lv_aload_n hx hb dX0_init_84 rfl (lv_at hl 1 rfl) ?_
  refine va_get (D := D) (ci := 0) (v := .ref q7) (C := RX0) (T := TX0) (N := 13) hx hb hts (fun w hw => List.mem_cons_of_mem _ (fw_0 w hw)) hown hK hP 0 rfl rfl 0 (by decide) (hts (.fieldLink RX0 9 RX0 "airs" "[I") (List.mem_cons_of_mem _ (na_mem (i := 89) (by decide +kernel) (by decide +kernel)))) (fun _ h9 => h9) rfl dX0_init_85 ?_
  refine lv_iload_n hx hb dX0_init_88 rfl (lv_at hl 0 rfl) ?_
  refine lv_bipush (v := 100) hx hb dX0_init_89 (by decide) ?_
  refine ni_iast hx hb hK hP hD hS 1 0 rfl rfl (by unfold vp_in; decide) 4 (by decide) (show upd (fA 4) 4 100 = fA 5 from rfl) dX0_init_91 (fun H locs hP hD hS => ?_)
  have hP : va_P D vwCl [(h0, .inr (0, [.ref q7, .ref q15, .ref q23, .ref q31, .int 0, .int 0, .int 0, .int 0, .ref q39, .ref q47, .ref q55, .ref q63, .ref q71])), (q7, .inl (ca 0, 8, .inl (fA 5))), (q15, .inl (ca 0, 8, .inl (fun _ => 0))), (q23, .inl (ca 0, 8, .inl (fun _ => 0))), (q31, .inl (ca 0, 8, .inl (fT 4))), (q39, .inl (ca 0, 8, .inl (fun _ => 0))), (q47, .inl (ca 0, 8, .inl (fun _ => 0))), (q55, .inl (ca 0, 8, .inl (fun _ => 0))), (q63, .inl (ca 0, 8, .inl (fun _ => 0))), (q71, .inl (ca 0, 8, .inl (fun _ => 0)))] H := hP
  have hD : va_D A [(h0, .inr (0, [.ref q7, .ref q15, .ref q23, .ref q31, .int 0, .int 0, .int 0, .int 0, .ref q39, .ref q47, .ref q55, .ref q63, .ref q71])), (q7, .inl (ca 0, 8, .inl (fA 5))), (q15, .inl (ca 0, 8, .inl (fun _ => 0))), (q23, .inl (ca 0, 8, .inl (fun _ => 0))), (q31, .inl (ca 0, 8, .inl (fT 4))), (q39, .inl (ca 0, 8, .inl (fun _ => 0))), (q47, .inl (ca 0, 8, .inl (fun _ => 0))), (q55, .inl (ca 0, 8, .inl (fun _ => 0))), (q63, .inl (ca 0, 8, .inl (fun _ => 0))), (q71, .inl (ca 0, 8, .inl (fun _ => 0)))] := hD
  refine lv_aload_n hx hb dX0_init_92 rfl (lv_at hl 1 rfl) ?_
  refine va_get (D := D) (ci := 0) (v := .ref q31) (C := RX0) (T := TX0) (N := 13) hx hb hts (fun w hw => List.mem_cons_of_mem _ (fw_0 w hw)) hown hK hP 0 rfl rfl 3 (by decide) (hts (.fieldLink RX0 21 RX0 "tights" "[I") (List.mem_cons_of_mem _ (na_mem (i := 95) (by decide +kernel) (by decide +kernel)))) (fun _ h9 => h9) rfl dX0_init_93 ?_
  refine lv_iload_n hx hb dX0_init_96 rfl (lv_at hl 0 rfl) ?_
  refine lv_iconst (v := 5) hx hb dX0_init_97 (by decide) ?_
  refine ni_iast hx hb hK hP hD hS 4 0 rfl rfl (by unfold vp_in; decide) 4 (by decide) (show upd (fT 4) 4 5 = fT 5 from rfl) dX0_init_98 (fun H locs hP hD hS => ?_)
  have hP : va_P D vwCl [(h0, .inr (0, [.ref q7, .ref q15, .ref q23, .ref q31, .int 0, .int 0, .int 0, .int 0, .ref q39, .ref q47, .ref q55, .ref q63, .ref q71])), (q7, .inl (ca 0, 8, .inl (fA 5))), (q15, .inl (ca 0, 8, .inl (fun _ => 0))), (q23, .inl (ca 0, 8, .inl (fun _ => 0))), (q31, .inl (ca 0, 8, .inl (fT 5))), (q39, .inl (ca 0, 8, .inl (fun _ => 0))), (q47, .inl (ca 0, 8, .inl (fun _ => 0))), (q55, .inl (ca 0, 8, .inl (fun _ => 0))), (q63, .inl (ca 0, 8, .inl (fun _ => 0))), (q71, .inl (ca 0, 8, .inl (fun _ => 0)))] H := hP
  have hD : va_D A [(h0, .inr (0, [.ref q7, .ref q15, .ref q23, .ref q31, .int 0, .int 0, .int 0, .int 0, .ref q39, .ref q47, .ref q55, .ref q63, .ref q71])), (q7, .inl (ca 0, 8, .inl (fA 5))), (q15, .inl (ca 0, 8, .inl (fun _ => 0))), (q23, .inl (ca 0, 8, .inl (fun _ => 0))), (q31, .inl (ca 0, 8, .inl (fT 5))), (q39, .inl (ca 0, 8, .inl (fun _ => 0))), (q47, .inl (ca 0, 8, .inl (fun _ => 0))), (q55, .inl (ca 0, 8, .inl (fun _ => 0))), (q63, .inl (ca 0, 8, .inl (fun _ => 0))), (q71, .inl (ca 0, 8, .inl (fun _ => 0)))] := hD
  refine lv_iinc (v := 5) (lv' := [(1, .int 5), (0, .ref h0)]) hx hb dX0_init_99 hl (k := 0) rfl (by decide) (by decide) rfl (fun ls hl => ?_)
  refine lv_goto (tgt := 78) hx hb dX0_init_102 (by decide) ?_
  refine lv_iload_n hx hb dX0_init_78 rfl (lv_at hl 0 rfl) ?_
  refine lv_bipush (v := 8) hx hb dX0_init_79 (by decide) ?_
  refine lv_icmp_ge (tgt := 105) hx hb dX0_init_81 (by decide) (fun h => absurd h (by decide)) (fun _ => ?_)
  refine lv_aload_n hx hb dX0_init_84 rfl (lv_at hl 1 rfl) ?_
  refine va_get (D := D) (ci := 0) (v := .ref q7) (C := RX0) (T := TX0) (N := 13) hx hb hts (fun w hw => List.mem_cons_of_mem _ (fw_0 w hw)) hown hK hP 0 rfl rfl 0 (by decide) (hts (.fieldLink RX0 9 RX0 "airs" "[I") (List.mem_cons_of_mem _ (na_mem (i := 89) (by decide +kernel) (by decide +kernel)))) (fun _ h9 => h9) rfl dX0_init_85 ?_
  refine lv_iload_n hx hb dX0_init_88 rfl (lv_at hl 0 rfl) ?_
  refine lv_bipush (v := 100) hx hb dX0_init_89 (by decide) ?_
  refine ni_iast hx hb hK hP hD hS 1 0 rfl rfl (by unfold vp_in; decide) 5 (by decide) (show upd (fA 5) 5 100 = fA 6 from rfl) dX0_init_91 (fun H locs hP hD hS => ?_)
  have hP : va_P D vwCl [(h0, .inr (0, [.ref q7, .ref q15, .ref q23, .ref q31, .int 0, .int 0, .int 0, .int 0, .ref q39, .ref q47, .ref q55, .ref q63, .ref q71])), (q7, .inl (ca 0, 8, .inl (fA 6))), (q15, .inl (ca 0, 8, .inl (fun _ => 0))), (q23, .inl (ca 0, 8, .inl (fun _ => 0))), (q31, .inl (ca 0, 8, .inl (fT 5))), (q39, .inl (ca 0, 8, .inl (fun _ => 0))), (q47, .inl (ca 0, 8, .inl (fun _ => 0))), (q55, .inl (ca 0, 8, .inl (fun _ => 0))), (q63, .inl (ca 0, 8, .inl (fun _ => 0))), (q71, .inl (ca 0, 8, .inl (fun _ => 0)))] H := hP
  have hD : va_D A [(h0, .inr (0, [.ref q7, .ref q15, .ref q23, .ref q31, .int 0, .int 0, .int 0, .int 0, .ref q39, .ref q47, .ref q55, .ref q63, .ref q71])), (q7, .inl (ca 0, 8, .inl (fA 6))), (q15, .inl (ca 0, 8, .inl (fun _ => 0))), (q23, .inl (ca 0, 8, .inl (fun _ => 0))), (q31, .inl (ca 0, 8, .inl (fT 5))), (q39, .inl (ca 0, 8, .inl (fun _ => 0))), (q47, .inl (ca 0, 8, .inl (fun _ => 0))), (q55, .inl (ca 0, 8, .inl (fun _ => 0))), (q63, .inl (ca 0, 8, .inl (fun _ => 0))), (q71, .inl (ca 0, 8, .inl (fun _ => 0)))] := hD
  refine lv_aload_n hx hb dX0_init_92 rfl (lv_at hl 1 rfl) ?_
  refine va_get (D := D) (ci := 0) (v := .ref q31) (C := RX0) (T := TX0) (N := 13) hx hb hts (fun w hw => List.mem_cons_of_mem _ (fw_0 w hw)) hown hK hP 0 rfl rfl 3 (by decide) (hts (.fieldLink RX0 21 RX0 "tights" "[I") (List.mem_cons_of_mem _ (na_mem (i := 95) (by decide +kernel) (by decide +kernel)))) (fun _ h9 => h9) rfl dX0_init_93 ?_
  refine lv_iload_n hx hb dX0_init_96 rfl (lv_at hl 0 rfl) ?_
  refine lv_iconst (v := 5) hx hb dX0_init_97 (by decide) ?_
  refine ni_iast hx hb hK hP hD hS 4 0 rfl rfl (by unfold vp_in; decide) 5 (by decide) (show upd (fT 5) 5 5 = fT 6 from rfl) dX0_init_98 (fun H locs hP hD hS => ?_)
  have hP : va_P D vwCl [(h0, .inr (0, [.ref q7, .ref q15, .ref q23, .ref q31, .int 0, .int 0, .int 0, .int 0, .ref q39, .ref q47, .ref q55, .ref q63, .ref q71])), (q7, .inl (ca 0, 8, .inl (fA 6))), (q15, .inl (ca 0, 8, .inl (fun _ => 0))), (q23, .inl (ca 0, 8, .inl (fun _ => 0))), (q31, .inl (ca 0, 8, .inl (fT 6))), (q39, .inl (ca 0, 8, .inl (fun _ => 0))), (q47, .inl (ca 0, 8, .inl (fun _ => 0))), (q55, .inl (ca 0, 8, .inl (fun _ => 0))), (q63, .inl (ca 0, 8, .inl (fun _ => 0))), (q71, .inl (ca 0, 8, .inl (fun _ => 0)))] H := hP
  have hD : va_D A [(h0, .inr (0, [.ref q7, .ref q15, .ref q23, .ref q31, .int 0, .int 0, .int 0, .int 0, .ref q39, .ref q47, .ref q55, .ref q63, .ref q71])), (q7, .inl (ca 0, 8, .inl (fA 6))), (q15, .inl (ca 0, 8, .inl (fun _ => 0))), (q23, .inl (ca 0, 8, .inl (fun _ => 0))), (q31, .inl (ca 0, 8, .inl (fT 6))), (q39, .inl (ca 0, 8, .inl (fun _ => 0))), (q47, .inl (ca 0, 8, .inl (fun _ => 0))), (q55, .inl (ca 0, 8, .inl (fun _ => 0))), (q63, .inl (ca 0, 8, .inl (fun _ => 0))), (q71, .inl (ca 0, 8, .inl (fun _ => 0)))] := hD
  refine lv_iinc (v := 6) (lv' := [(1, .int 6), (0, .ref h0)]) hx hb dX0_init_99 hl (k := 0) rfl (by decide) (by decide) rfl (fun ls hl => ?_)
  refine lv_goto (tgt := 78) hx hb dX0_init_102 (by decide) ?_
  refine lv_iload_n hx hb dX0_init_78 rfl (lv_at hl 0 rfl) ?_
  refine lv_bipush (v := 8) hx hb dX0_init_79 (by decide) ?_
  refine lv_icmp_ge (tgt := 105) hx hb dX0_init_81 (by decide) (fun h => absurd h (by decide)) (fun _ => ?_)
  refine lv_aload_n hx hb dX0_init_84 rfl (lv_at hl 1 rfl) ?_
  refine va_get (D := D) (ci := 0) (v := .ref q7) (C := RX0) (T := TX0) (N := 13) hx hb hts (fun w hw => List.mem_cons_of_mem _ (fw_0 w hw)) hown hK hP 0 rfl rfl 0 (by decide) (hts (.fieldLink RX0 9 RX0 "airs" "[I") (List.mem_cons_of_mem _ (na_mem (i := 89) (by decide +kernel) (by decide +kernel)))) (fun _ h9 => h9) rfl dX0_init_85 ?_
  refine lv_iload_n hx hb dX0_init_88 rfl (lv_at hl 0 rfl) ?_
  refine lv_bipush (v := 100) hx hb dX0_init_89 (by decide) ?_
  refine ni_iast hx hb hK hP hD hS 1 0 rfl rfl (by unfold vp_in; decide) 6 (by decide) (show upd (fA 6) 6 100 = fA 7 from rfl) dX0_init_91 (fun H locs hP hD hS => ?_)
  have hP : va_P D vwCl [(h0, .inr (0, [.ref q7, .ref q15, .ref q23, .ref q31, .int 0, .int 0, .int 0, .int 0, .ref q39, .ref q47, .ref q55, .ref q63, .ref q71])), (q7, .inl (ca 0, 8, .inl (fA 7))), (q15, .inl (ca 0, 8, .inl (fun _ => 0))), (q23, .inl (ca 0, 8, .inl (fun _ => 0))), (q31, .inl (ca 0, 8, .inl (fT 6))), (q39, .inl (ca 0, 8, .inl (fun _ => 0))), (q47, .inl (ca 0, 8, .inl (fun _ => 0))), (q55, .inl (ca 0, 8, .inl (fun _ => 0))), (q63, .inl (ca 0, 8, .inl (fun _ => 0))), (q71, .inl (ca 0, 8, .inl (fun _ => 0)))] H := hP
  have hD : va_D A [(h0, .inr (0, [.ref q7, .ref q15, .ref q23, .ref q31, .int 0, .int 0, .int 0, .int 0, .ref q39, .ref q47, .ref q55, .ref q63, .ref q71])), (q7, .inl (ca 0, 8, .inl (fA 7))), (q15, .inl (ca 0, 8, .inl (fun _ => 0))), (q23, .inl (ca 0, 8, .inl (fun _ => 0))), (q31, .inl (ca 0, 8, .inl (fT 6))), (q39, .inl (ca 0, 8, .inl (fun _ => 0))), (q47, .inl (ca 0, 8, .inl (fun _ => 0))), (q55, .inl (ca 0, 8, .inl (fun _ => 0))), (q63, .inl (ca 0, 8, .inl (fun _ => 0))), (q71, .inl (ca 0, 8, .inl (fun _ => 0)))] := hD
  refine lv_aload_n hx hb dX0_init_92 rfl (lv_at hl 1 rfl) ?_
  refine va_get (D := D) (ci := 0) (v := .ref q31) (C := RX0) (T := TX0) (N := 13) hx hb hts (fun w hw => List.mem_cons_of_mem _ (fw_0 w hw)) hown hK hP 0 rfl rfl 3 (by decide) (hts (.fieldLink RX0 21 RX0 "tights" "[I") (List.mem_cons_of_mem _ (na_mem (i := 95) (by decide +kernel) (by decide +kernel)))) (fun _ h9 => h9) rfl dX0_init_93 ?_
  refine lv_iload_n hx hb dX0_init_96 rfl (lv_at hl 0 rfl) ?_
  refine lv_iconst (v := 5) hx hb dX0_init_97 (by decide) ?_
  refine ni_iast hx hb hK hP hD hS 4 0 rfl rfl (by unfold vp_in; decide) 6 (by decide) (show upd (fT 6) 6 5 = fT 7 from rfl) dX0_init_98 (fun H locs hP hD hS => ?_)
  have hP : va_P D vwCl [(h0, .inr (0, [.ref q7, .ref q15, .ref q23, .ref q31, .int 0, .int 0, .int 0, .int 0, .ref q39, .ref q47, .ref q55, .ref q63, .ref q71])), (q7, .inl (ca 0, 8, .inl (fA 7))), (q15, .inl (ca 0, 8, .inl (fun _ => 0))), (q23, .inl (ca 0, 8, .inl (fun _ => 0))), (q31, .inl (ca 0, 8, .inl (fT 7))), (q39, .inl (ca 0, 8, .inl (fun _ => 0))), (q47, .inl (ca 0, 8, .inl (fun _ => 0))), (q55, .inl (ca 0, 8, .inl (fun _ => 0))), (q63, .inl (ca 0, 8, .inl (fun _ => 0))), (q71, .inl (ca 0, 8, .inl (fun _ => 0)))] H := hP
  have hD : va_D A [(h0, .inr (0, [.ref q7, .ref q15, .ref q23, .ref q31, .int 0, .int 0, .int 0, .int 0, .ref q39, .ref q47, .ref q55, .ref q63, .ref q71])), (q7, .inl (ca 0, 8, .inl (fA 7))), (q15, .inl (ca 0, 8, .inl (fun _ => 0))), (q23, .inl (ca 0, 8, .inl (fun _ => 0))), (q31, .inl (ca 0, 8, .inl (fT 7))), (q39, .inl (ca 0, 8, .inl (fun _ => 0))), (q47, .inl (ca 0, 8, .inl (fun _ => 0))), (q55, .inl (ca 0, 8, .inl (fun _ => 0))), (q63, .inl (ca 0, 8, .inl (fun _ => 0))), (q71, .inl (ca 0, 8, .inl (fun _ => 0)))] := hD
  refine lv_iinc (v := 7) (lv' := [(1, .int 7), (0, .ref h0)]) hx hb dX0_init_99 hl (k := 0) rfl (by decide) (by decide) rfl (fun ls hl => ?_)
  refine lv_goto (tgt := 78) hx hb dX0_init_102 (by decide) ?_
  refine lv_iload_n hx hb dX0_init_78 rfl (lv_at hl 0 rfl) ?_
  refine lv_bipush (v := 8) hx hb dX0_init_79 (by decide) ?_
  refine lv_icmp_ge (tgt := 105) hx hb dX0_init_81 (by decide) (fun h => absurd h (by decide)) (fun _ => ?_)
  refine lv_aload_n hx hb dX0_init_84 rfl (lv_at hl 1 rfl) ?_
  refine va_get (D := D) (ci := 0) (v := .ref q7) (C := RX0) (T := TX0) (N := 13) hx hb hts (fun w hw => List.mem_cons_of_mem _ (fw_0 w hw)) hown hK hP 0 rfl rfl 0 (by decide) (hts (.fieldLink RX0 9 RX0 "airs" "[I") (List.mem_cons_of_mem _ (na_mem (i := 89) (by decide +kernel) (by decide +kernel)))) (fun _ h9 => h9) rfl dX0_init_85 ?_
  refine lv_iload_n hx hb dX0_init_88 rfl (lv_at hl 0 rfl) ?_
  refine lv_bipush (v := 100) hx hb dX0_init_89 (by decide) ?_
  refine ni_iast hx hb hK hP hD hS 1 0 rfl rfl (by unfold vp_in; decide) 7 (by decide) (show upd (fA 7) 7 100 = fA 8 from rfl) dX0_init_91 (fun H locs hP hD hS => ?_)
  have hP : va_P D vwCl [(h0, .inr (0, [.ref q7, .ref q15, .ref q23, .ref q31, .int 0, .int 0, .int 0, .int 0, .ref q39, .ref q47, .ref q55, .ref q63, .ref q71])), (q7, .inl (ca 0, 8, .inl (fA 8))), (q15, .inl (ca 0, 8, .inl (fun _ => 0))), (q23, .inl (ca 0, 8, .inl (fun _ => 0))), (q31, .inl (ca 0, 8, .inl (fT 7))), (q39, .inl (ca 0, 8, .inl (fun _ => 0))), (q47, .inl (ca 0, 8, .inl (fun _ => 0))), (q55, .inl (ca 0, 8, .inl (fun _ => 0))), (q63, .inl (ca 0, 8, .inl (fun _ => 0))), (q71, .inl (ca 0, 8, .inl (fun _ => 0)))] H := hP
  have hD : va_D A [(h0, .inr (0, [.ref q7, .ref q15, .ref q23, .ref q31, .int 0, .int 0, .int 0, .int 0, .ref q39, .ref q47, .ref q55, .ref q63, .ref q71])), (q7, .inl (ca 0, 8, .inl (fA 8))), (q15, .inl (ca 0, 8, .inl (fun _ => 0))), (q23, .inl (ca 0, 8, .inl (fun _ => 0))), (q31, .inl (ca 0, 8, .inl (fT 7))), (q39, .inl (ca 0, 8, .inl (fun _ => 0))), (q47, .inl (ca 0, 8, .inl (fun _ => 0))), (q55, .inl (ca 0, 8, .inl (fun _ => 0))), (q63, .inl (ca 0, 8, .inl (fun _ => 0))), (q71, .inl (ca 0, 8, .inl (fun _ => 0)))] := hD
  refine lv_aload_n hx hb dX0_init_92 rfl (lv_at hl 1 rfl) ?_
  refine va_get (D := D) (ci := 0) (v := .ref q31) (C := RX0) (T := TX0) (N := 13) hx hb hts (fun w hw => List.mem_cons_of_mem _ (fw_0 w hw)) hown hK hP 0 rfl rfl 3 (by decide) (hts (.fieldLink RX0 21 RX0 "tights" "[I") (List.mem_cons_of_mem _ (na_mem (i := 95) (by decide +kernel) (by decide +kernel)))) (fun _ h9 => h9) rfl dX0_init_93 ?_
  refine lv_iload_n hx hb dX0_init_96 rfl (lv_at hl 0 rfl) ?_
  refine lv_iconst (v := 5) hx hb dX0_init_97 (by decide) ?_
  refine ni_iast hx hb hK hP hD hS 4 0 rfl rfl (by unfold vp_in; decide) 7 (by decide) (show upd (fT 7) 7 5 = fT 8 from rfl) dX0_init_98 (fun H locs hP hD hS => ?_)
  have hP : va_P D vwCl [(h0, .inr (0, [.ref q7, .ref q15, .ref q23, .ref q31, .int 0, .int 0, .int 0, .int 0, .ref q39, .ref q47, .ref q55, .ref q63, .ref q71])), (q7, .inl (ca 0, 8, .inl (fA 8))), (q15, .inl (ca 0, 8, .inl (fun _ => 0))), (q23, .inl (ca 0, 8, .inl (fun _ => 0))), (q31, .inl (ca 0, 8, .inl (fT 8))), (q39, .inl (ca 0, 8, .inl (fun _ => 0))), (q47, .inl (ca 0, 8, .inl (fun _ => 0))), (q55, .inl (ca 0, 8, .inl (fun _ => 0))), (q63, .inl (ca 0, 8, .inl (fun _ => 0))), (q71, .inl (ca 0, 8, .inl (fun _ => 0)))] H := hP
  have hD : va_D A [(h0, .inr (0, [.ref q7, .ref q15, .ref q23, .ref q31, .int 0, .int 0, .int 0, .int 0, .ref q39, .ref q47, .ref q55, .ref q63, .ref q71])), (q7, .inl (ca 0, 8, .inl (fA 8))), (q15, .inl (ca 0, 8, .inl (fun _ => 0))), (q23, .inl (ca 0, 8, .inl (fun _ => 0))), (q31, .inl (ca 0, 8, .inl (fT 8))), (q39, .inl (ca 0, 8, .inl (fun _ => 0))), (q47, .inl (ca 0, 8, .inl (fun _ => 0))), (q55, .inl (ca 0, 8, .inl (fun _ => 0))), (q63, .inl (ca 0, 8, .inl (fun _ => 0))), (q71, .inl (ca 0, 8, .inl (fun _ => 0)))] := hD
  refine lv_iinc (v := 8) (lv' := [(1, .int 8), (0, .ref h0)]) hx hb dX0_init_99 hl (k := 0) rfl (by decide) (by decide) rfl (fun ls hl => ?_)
  refine lv_goto (tgt := 78) hx hb dX0_init_102 (by decide) ?_
  refine lv_iload_n hx hb dX0_init_78 rfl (lv_at hl 0 rfl) ?_
  refine lv_bipush (v := 8) hx hb dX0_init_79 (by decide) ?_
  refine lv_icmp_ge (tgt := 105) hx hb dX0_init_81 (by decide) (fun _ => ?_) (fun h => absurd (by decide) h)
  have hP9 : va_P D vwCl (wX0 ca h0 (ni_pk [q7, q15, q23, q31, q39, q47, q55, q63, q71])) H := hP
  have hD9 : va_D A (wX0 ca h0 (ni_pk [q7, q15, q23, q31, q39, q47, q55, q63, q71])) := hD
  exact W.vret hx hb hr (fun t ht hW => ⟨⟨ni_pk [q7, q15, q23, q31, q39, q47, q55, q63, q71], rfl, trivial, by rw [ht]; exact hP9, hD9⟩, hS.F ht⟩) hS.2.2 dX0_init_105
abbrev qX4i : MI := (yX4_init, cX4_init, 2, none, 1, 12)
abbrev wX4 (ca : Nat → Nat) (h0 : Nat) (u : Nat → Nat) : va_W := [(h0, .inr (4, [.ref (u 1), .ref (u 2), .ref (u 3), .ref (u 4), .int 0, .int 0, .int 0, .int 0, .long 0, .int 0, .int 0, .ref (u 5), .ref (u 6), .ref (u 7), .ref (u 8), .ref (u 9), .ref (u 10), .int 0])), ((u 1), .inl (ca 0, 76, .inl (fR 8))), ((u 2), .inl (ca 0, 7, .inl (fun _ => 0))), ((u 3), .inl (ca 0, 76, .inl (fun _ => 0))), ((u 4), .inl (ca 0, 120, .inl (fun _ => 0))), ((u 5), .inl (ca 0, 4, .inl (fun _ => 0))), ((u 6), .inl (ca 0, 4, .inl (fun _ => 0))), ((u 7), .inl (ca 1, 160, .inr (.inl (fun _ => 0)))), ((u 8), .inl (ca 1, 40, .inr (.inl (fun _ => 0)))), ((u 9), .inl (ca 0, 76, .inl (fun _ => 0))), ((u 10), .inl (ca 0, 76, .inl (fun _ => 0)))]
set_option maxHeartbeats 4000000 in
set_option maxRecDepth 100000 in
theorem ci_X4 (l : Launch) (D : va_G) (ca : Nat → Nat) (h0 sz : Nat) : Met l yX4_init (na_ww qX4i) ({ frames := 1, cells := 10, slots := 639, locals := 12 }) (va_Pc [.ref h0] (fun U => U.heap.size = sz ∧ va_P D vwCl [(h0, .inr (4, [.null, .null, .null, .null, .int 0, .int 0, .int 0, .int 0, .long 0, .int 0, .int 0, .null, .null, .null, .null, .null, .null, .int 0]))] U.heap ∧ va_K D vwCl (na_tys ca) U ∧ va_D (fun _ => True) [(h0, .inr (4, [.null, .null, .null, .null, .int 0, .int 0, .int 0, .int 0, .long 0, .int 0, .int 0, .null, .null, .null, .null, .null, .null, .int 0]))])) (va_Qv (fun _ : Nat → Nat => True) (fun u t => va_P D vwCl (wX4 ca h0 u) t.heap ∧ va_D (va_A [(h0, .inr (4, [.null, .null, .null, .null, .int 0, .int 0, .int 0, .int 0, .long 0, .int 0, .int 0, .null, .null, .null, .null, .null, .null, .int 0]))] sz) (wX4 ca h0 u)) (va_A [(h0, .inr (4, [.null, .null, .null, .null, .int 0, .int 0, .int 0, .int 0, .long 0, .int 0, .int 0, .null, .null, .null, .null, .null, .null, .int 0]))] sz)) 10 639 (va_A [(h0, .inr (4, [.null, .null, .null, .null, .int 0, .int 0, .int 0, .int 0, .long 0, .int 0, .int 0, .null, .null, .null, .null, .null, .null, .int 0]))] sz) := by
  refine Met.ofW (cc := cX4_init) (maxL := 2) (ret := none) (by decide) rfl ?_
  intro p e s m args below meth c s₁ B hml hv
  obtain ⟨rfl, hsz, hP, hK, hD0⟩ := hv
  have hx := B.exec
  have hb := B.bytes
  have hr := B.returns
  have hts := atoms_spec (ws := na_ww qX4i) B.pre
  have hown : s.vm.findClass RX4 = some m.cls := findClass_of_methodNamed B.named
  have hlocks := B.notSynchronized
  have hin : meth.name = "<init>" := (name_of_methodNamed B.named B.method).1
  subst hsz
  have hD := hD0.self (sz := s.heap.size)
  generalize hAe : va_A [(h0, .inr (4, [.null, .null, .null, .null, .int 0, .int 0, .int 0, .int 0, .long 0, .int 0, .int 0, .null, .null, .null, .null, .null, .null, .int 0]))] s.heap.size = A at hD ⊢
  have hA : ∀ q : Nat, s.heap.size ≤ q → A q := fun q h => by rw [← hAe]; exact Or.inr h
  have hS : va_S A s.heap s.heap [] := va_S.rf
  have hl := lv_entry ([.ref h0]) (n := 2) (Nat.le_of_ble_eq_true rfl)
  rw [lg_entry_eq]
  generalize (lg_sl ([.ref h0]) ++ List.replicate (2 - (lg_sl ([.ref h0])).length) Slot.unset).toArray = ls at hl ⊢
  have hl : lv_has ls 2 [(0, .ref h0)] := hl
  refine lv_aload_n hx hb dX4_init_0 rfl (lv_at hl 0 rfl) ?_
  refine W.objInit hx hb hown (hts (.methodLink RX4 1 objectInit) (List.mem_cons_of_mem _ (na_mem (i := 709) (by decide +kernel) (by decide +kernel)))) (hts (.instanceMethod objectInit) (List.mem_cons_of_mem _ (na_mem (i := 81) (by decide +kernel) (by decide +kernel)))) (hts (.code objectInit ⟨#[0xb1]⟩ 1 none) (List.mem_cons_of_mem _ (na_mem (i := 82) (by decide +kernel) (by decide +kernel)))) rfl (by rw [hml]; exact hl.1) rfl dX4_init_1 (Nat.le_of_ble_eq_true rfl) (Nat.le_of_ble_eq_true rfl) ?_
  refine W.eq (g2 := F0 m 4 ls []) rfl ?_
  refine lv_aload_n hx hb dX4_init_4 rfl (lv_at hl 0 rfl) ?_
  refine lv_bipush (v := 76) hx hb dX4_init_5 (by decide) ?_
  refine ni_newI (N := 76) hx hb (hts (.arrayClass .int) (List.mem_cons_of_mem _ (na_mem (i := 143) (by decide +kernel) (by decide +kernel)))) hK hP hD hS hA (by decide) (by decide) (by decide) (Nat.le_of_ble_eq_true rfl) (Nat.le_of_ble_eq_true rfl) dX4_init_7 (fun q7 H hP hD hS => ?_)
  have hP : va_P D vwCl [(h0, .inr (4, [.null, .null, .null, .null, .int 0, .int 0, .int 0, .int 0, .long 0, .int 0, .int 0, .null, .null, .null, .null, .null, .null, .int 0])), (q7, .inl (ca 0, 76, .inl (fun _ => 0)))] H := hP
  have hD : va_D A [(h0, .inr (4, [.null, .null, .null, .null, .int 0, .int 0, .int 0, .int 0, .long 0, .int 0, .int 0, .null, .null, .null, .null, .null, .null, .int 0])), (q7, .inl (ca 0, 76, .inl (fun _ => 0)))] := hD
  refine W.widen (k := 1) (n := 76) (Nat.le_of_ble_eq_true rfl) (Nat.le_of_ble_eq_true rfl) ?_
  refine va_putF (D := D) (ci := 4) (v := .ref q7) (ty := .array .int) (C := RX4) (T := TX4) (N := 18) hx hb hts (fun w hw => List.mem_cons_of_mem _ (fw_4 w hw)) tyX4 tyX4_ok nmX4 hown hK hP hD hS 0 rfl rfl 0 (by decide) (hts (.fieldLink RX4 7 RX4 "row" "[I") (List.mem_cons_of_mem _ (na_mem (i := 710) (by decide +kernel) (by decide +kernel)))) (fun _ h9 => h9) rfl hin rfl (by decide +kernel) rfl rfl (Nat.le_of_ble_eq_true rfl) dX4_init_9 (fun H locs hP hD hS => ?_)
  have hP : va_P D vwCl [(h0, .inr (4, [.ref q7, .null, .null, .null, .int 0, .int 0, .int 0, .int 0, .long 0, .int 0, .int 0, .null, .null, .null, .null, .null, .null, .int 0])), (q7, .inl (ca 0, 76, .inl (fun _ => 0)))] H := hP
  have hD : va_D A [(h0, .inr (4, [.ref q7, .null, .null, .null, .int 0, .int 0, .int 0, .int 0, .long 0, .int 0, .int 0, .null, .null, .null, .null, .null, .null, .int 0])), (q7, .inl (ca 0, 76, .inl (fun _ => 0)))] := hD
  refine lv_aload_n hx hb dX4_init_12 rfl (lv_at hl 0 rfl) ?_
  refine lv_bipush (v := 7) hx hb dX4_init_13 (by decide) ?_
  refine ni_newI (N := 7) hx hb (hts (.arrayClass .int) (List.mem_cons_of_mem _ (na_mem (i := 143) (by decide +kernel) (by decide +kernel)))) hK hP hD hS hA (by decide) (by decide) (by decide) (Nat.le_of_ble_eq_true rfl) (Nat.le_of_ble_eq_true rfl) dX4_init_15 (fun q15 H hP hD hS => ?_)
  have hP : va_P D vwCl [(h0, .inr (4, [.ref q7, .null, .null, .null, .int 0, .int 0, .int 0, .int 0, .long 0, .int 0, .int 0, .null, .null, .null, .null, .null, .null, .int 0])), (q7, .inl (ca 0, 76, .inl (fun _ => 0))), (q15, .inl (ca 0, 7, .inl (fun _ => 0)))] H := hP
  have hD : va_D A [(h0, .inr (4, [.ref q7, .null, .null, .null, .int 0, .int 0, .int 0, .int 0, .long 0, .int 0, .int 0, .null, .null, .null, .null, .null, .null, .int 0])), (q7, .inl (ca 0, 76, .inl (fun _ => 0))), (q15, .inl (ca 0, 7, .inl (fun _ => 0)))] := hD
  refine W.widen (k := 2) (n := 83) (Nat.le_of_ble_eq_true rfl) (Nat.le_of_ble_eq_true rfl) ?_
  refine va_putF (D := D) (ci := 4) (v := .ref q15) (ty := .array .int) (C := RX4) (T := TX4) (N := 18) hx hb hts (fun w hw => List.mem_cons_of_mem _ (fw_4 w hw)) tyX4 tyX4_ok nmX4 hown hK hP hD hS 0 rfl rfl 1 (by decide) (hts (.fieldLink RX4 13 RX4 "found" "[I") (List.mem_cons_of_mem _ (na_mem (i := 711) (by decide +kernel) (by decide +kernel)))) (fun _ h9 => h9) rfl hin rfl (by decide +kernel) rfl rfl (Nat.le_of_ble_eq_true rfl) dX4_init_17 (fun H locs hP hD hS => ?_)
  have hP : va_P D vwCl [(h0, .inr (4, [.ref q7, .ref q15, .null, .null, .int 0, .int 0, .int 0, .int 0, .long 0, .int 0, .int 0, .null, .null, .null, .null, .null, .null, .int 0])), (q7, .inl (ca 0, 76, .inl (fun _ => 0))), (q15, .inl (ca 0, 7, .inl (fun _ => 0)))] H := hP
  have hD : va_D A [(h0, .inr (4, [.ref q7, .ref q15, .null, .null, .int 0, .int 0, .int 0, .int 0, .long 0, .int 0, .int 0, .null, .null, .null, .null, .null, .null, .int 0])), (q7, .inl (ca 0, 76, .inl (fun _ => 0))), (q15, .inl (ca 0, 7, .inl (fun _ => 0)))] := hD
  refine lv_aload_n hx hb dX4_init_20 rfl (lv_at hl 0 rfl) ?_
  refine lv_bipush (v := 76) hx hb dX4_init_21 (by decide) ?_
  refine ni_newI (N := 76) hx hb (hts (.arrayClass .int) (List.mem_cons_of_mem _ (na_mem (i := 143) (by decide +kernel) (by decide +kernel)))) hK hP hD hS hA (by decide) (by decide) (by decide) (Nat.le_of_ble_eq_true rfl) (Nat.le_of_ble_eq_true rfl) dX4_init_23 (fun q23 H hP hD hS => ?_)
  have hP : va_P D vwCl [(h0, .inr (4, [.ref q7, .ref q15, .null, .null, .int 0, .int 0, .int 0, .int 0, .long 0, .int 0, .int 0, .null, .null, .null, .null, .null, .null, .int 0])), (q7, .inl (ca 0, 76, .inl (fun _ => 0))), (q15, .inl (ca 0, 7, .inl (fun _ => 0))), (q23, .inl (ca 0, 76, .inl (fun _ => 0)))] H := hP
  have hD : va_D A [(h0, .inr (4, [.ref q7, .ref q15, .null, .null, .int 0, .int 0, .int 0, .int 0, .long 0, .int 0, .int 0, .null, .null, .null, .null, .null, .null, .int 0])), (q7, .inl (ca 0, 76, .inl (fun _ => 0))), (q15, .inl (ca 0, 7, .inl (fun _ => 0))), (q23, .inl (ca 0, 76, .inl (fun _ => 0)))] := hD
  refine W.widen (k := 3) (n := 159) (Nat.le_of_ble_eq_true rfl) (Nat.le_of_ble_eq_true rfl) ?_
  refine va_putF (D := D) (ci := 4) (v := .ref q23) (ty := .array .int) (C := RX4) (T := TX4) (N := 18) hx hb hts (fun w hw => List.mem_cons_of_mem _ (fw_4 w hw)) tyX4 tyX4_ok nmX4 hown hK hP hD hS 0 rfl rfl 2 (by decide) (hts (.fieldLink RX4 16 RX4 "tried" "[I") (List.mem_cons_of_mem _ (na_mem (i := 712) (by decide +kernel) (by decide +kernel)))) (fun _ h9 => h9) rfl hin rfl (by decide +kernel) rfl rfl (Nat.le_of_ble_eq_true rfl) dX4_init_25 (fun H locs hP hD hS => ?_)
  have hP : va_P D vwCl [(h0, .inr (4, [.ref q7, .ref q15, .ref q23, .null, .int 0, .int 0, .int 0, .int 0, .long 0, .int 0, .int 0, .null, .null, .null, .null, .null, .null, .int 0])), (q7, .inl (ca 0, 76, .inl (fun _ => 0))), (q15, .inl (ca 0, 7, .inl (fun _ => 0))), (q23, .inl (ca 0, 76, .inl (fun _ => 0)))] H := hP
  have hD : va_D A [(h0, .inr (4, [.ref q7, .ref q15, .ref q23, .null, .int 0, .int 0, .int 0, .int 0, .long 0, .int 0, .int 0, .null, .null, .null, .null, .null, .null, .int 0])), (q7, .inl (ca 0, 76, .inl (fun _ => 0))), (q15, .inl (ca 0, 7, .inl (fun _ => 0))), (q23, .inl (ca 0, 76, .inl (fun _ => 0)))] := hD
  refine lv_aload_n hx hb dX4_init_28 rfl (lv_at hl 0 rfl) ?_
  refine lv_bipush (v := 120) hx hb dX4_init_29 (by decide) ?_
  refine ni_newI (N := 120) hx hb (hts (.arrayClass .int) (List.mem_cons_of_mem _ (na_mem (i := 143) (by decide +kernel) (by decide +kernel)))) hK hP hD hS hA (by decide) (by decide) (by decide) (Nat.le_of_ble_eq_true rfl) (Nat.le_of_ble_eq_true rfl) dX4_init_31 (fun q31 H hP hD hS => ?_)
  have hP : va_P D vwCl [(h0, .inr (4, [.ref q7, .ref q15, .ref q23, .null, .int 0, .int 0, .int 0, .int 0, .long 0, .int 0, .int 0, .null, .null, .null, .null, .null, .null, .int 0])), (q7, .inl (ca 0, 76, .inl (fun _ => 0))), (q15, .inl (ca 0, 7, .inl (fun _ => 0))), (q23, .inl (ca 0, 76, .inl (fun _ => 0))), (q31, .inl (ca 0, 120, .inl (fun _ => 0)))] H := hP
  have hD : va_D A [(h0, .inr (4, [.ref q7, .ref q15, .ref q23, .null, .int 0, .int 0, .int 0, .int 0, .long 0, .int 0, .int 0, .null, .null, .null, .null, .null, .null, .int 0])), (q7, .inl (ca 0, 76, .inl (fun _ => 0))), (q15, .inl (ca 0, 7, .inl (fun _ => 0))), (q23, .inl (ca 0, 76, .inl (fun _ => 0))), (q31, .inl (ca 0, 120, .inl (fun _ => 0)))] := hD
  refine W.widen (k := 4) (n := 279) (Nat.le_of_ble_eq_true rfl) (Nat.le_of_ble_eq_true rfl) ?_
  refine va_putF (D := D) (ci := 4) (v := .ref q31) (ty := .array .int) (C := RX4) (T := TX4) (N := 18) hx hb hts (fun w hw => List.mem_cons_of_mem _ (fw_4 w hw)) tyX4 tyX4_ok nmX4 hown hK hP hD hS 0 rfl rfl 3 (by decide) (hts (.fieldLink RX4 19 RX4 "tape" "[I") (List.mem_cons_of_mem _ (na_mem (i := 713) (by decide +kernel) (by decide +kernel)))) (fun _ h9 => h9) rfl hin rfl (by decide +kernel) rfl rfl (Nat.le_of_ble_eq_true rfl) dX4_init_33 (fun H locs hP hD hS => ?_)
  have hP : va_P D vwCl [(h0, .inr (4, [.ref q7, .ref q15, .ref q23, .ref q31, .int 0, .int 0, .int 0, .int 0, .long 0, .int 0, .int 0, .null, .null, .null, .null, .null, .null, .int 0])), (q7, .inl (ca 0, 76, .inl (fun _ => 0))), (q15, .inl (ca 0, 7, .inl (fun _ => 0))), (q23, .inl (ca 0, 76, .inl (fun _ => 0))), (q31, .inl (ca 0, 120, .inl (fun _ => 0)))] H := hP
  have hD : va_D A [(h0, .inr (4, [.ref q7, .ref q15, .ref q23, .ref q31, .int 0, .int 0, .int 0, .int 0, .long 0, .int 0, .int 0, .null, .null, .null, .null, .null, .null, .int 0])), (q7, .inl (ca 0, 76, .inl (fun _ => 0))), (q15, .inl (ca 0, 7, .inl (fun _ => 0))), (q23, .inl (ca 0, 76, .inl (fun _ => 0))), (q31, .inl (ca 0, 120, .inl (fun _ => 0)))] := hD
  refine lv_aload_n hx hb dX4_init_36 rfl (lv_at hl 0 rfl) ?_
  refine lv_iconst (v := 4) hx hb dX4_init_37 (by decide) ?_
  refine ni_newI (N := 4) hx hb (hts (.arrayClass .int) (List.mem_cons_of_mem _ (na_mem (i := 143) (by decide +kernel) (by decide +kernel)))) hK hP hD hS hA (by decide) (by decide) (by decide) (Nat.le_of_ble_eq_true rfl) (Nat.le_of_ble_eq_true rfl) dX4_init_38 (fun q38 H hP hD hS => ?_)
  have hP : va_P D vwCl [(h0, .inr (4, [.ref q7, .ref q15, .ref q23, .ref q31, .int 0, .int 0, .int 0, .int 0, .long 0, .int 0, .int 0, .null, .null, .null, .null, .null, .null, .int 0])), (q7, .inl (ca 0, 76, .inl (fun _ => 0))), (q15, .inl (ca 0, 7, .inl (fun _ => 0))), (q23, .inl (ca 0, 76, .inl (fun _ => 0))), (q31, .inl (ca 0, 120, .inl (fun _ => 0))), (q38, .inl (ca 0, 4, .inl (fun _ => 0)))] H := hP
  have hD : va_D A [(h0, .inr (4, [.ref q7, .ref q15, .ref q23, .ref q31, .int 0, .int 0, .int 0, .int 0, .long 0, .int 0, .int 0, .null, .null, .null, .null, .null, .null, .int 0])), (q7, .inl (ca 0, 76, .inl (fun _ => 0))), (q15, .inl (ca 0, 7, .inl (fun _ => 0))), (q23, .inl (ca 0, 76, .inl (fun _ => 0))), (q31, .inl (ca 0, 120, .inl (fun _ => 0))), (q38, .inl (ca 0, 4, .inl (fun _ => 0)))] := hD
  refine W.widen (k := 5) (n := 283) (Nat.le_of_ble_eq_true rfl) (Nat.le_of_ble_eq_true rfl) ?_
  refine va_putF (D := D) (ci := 4) (v := .ref q38) (ty := .array .int) (C := RX4) (T := TX4) (N := 18) hx hb hts (fun w hw => List.mem_cons_of_mem _ (fw_4 w hw)) tyX4 tyX4_ok nmX4 hown hK hP hD hS 0 rfl rfl 11 (by decide) (hts (.fieldLink RX4 22 RX4 "bitsOf" "[I") (List.mem_cons_of_mem _ (na_mem (i := 721) (by decide +kernel) (by decide +kernel)))) (fun _ h9 => h9) rfl hin rfl (by decide +kernel) rfl rfl (Nat.le_of_ble_eq_true rfl) dX4_init_40 (fun H locs hP hD hS => ?_)
  have hP : va_P D vwCl [(h0, .inr (4, [.ref q7, .ref q15, .ref q23, .ref q31, .int 0, .int 0, .int 0, .int 0, .long 0, .int 0, .int 0, .ref q38, .null, .null, .null, .null, .null, .int 0])), (q7, .inl (ca 0, 76, .inl (fun _ => 0))), (q15, .inl (ca 0, 7, .inl (fun _ => 0))), (q23, .inl (ca 0, 76, .inl (fun _ => 0))), (q31, .inl (ca 0, 120, .inl (fun _ => 0))), (q38, .inl (ca 0, 4, .inl (fun _ => 0)))] H := hP
  have hD : va_D A [(h0, .inr (4, [.ref q7, .ref q15, .ref q23, .ref q31, .int 0, .int 0, .int 0, .int 0, .long 0, .int 0, .int 0, .ref q38, .null, .null, .null, .null, .null, .int 0])), (q7, .inl (ca 0, 76, .inl (fun _ => 0))), (q15, .inl (ca 0, 7, .inl (fun _ => 0))), (q23, .inl (ca 0, 76, .inl (fun _ => 0))), (q31, .inl (ca 0, 120, .inl (fun _ => 0))), (q38, .inl (ca 0, 4, .inl (fun _ => 0)))] := hD
  refine lv_aload_n hx hb dX4_init_43 rfl (lv_at hl 0 rfl) ?_
  refine lv_iconst (v := 4) hx hb dX4_init_44 (by decide) ?_
  refine ni_newI (N := 4) hx hb (hts (.arrayClass .int) (List.mem_cons_of_mem _ (na_mem (i := 143) (by decide +kernel) (by decide +kernel)))) hK hP hD hS hA (by decide) (by decide) (by decide) (Nat.le_of_ble_eq_true rfl) (Nat.le_of_ble_eq_true rfl) dX4_init_45 (fun q45 H hP hD hS => ?_)
  have hP : va_P D vwCl [(h0, .inr (4, [.ref q7, .ref q15, .ref q23, .ref q31, .int 0, .int 0, .int 0, .int 0, .long 0, .int 0, .int 0, .ref q38, .null, .null, .null, .null, .null, .int 0])), (q7, .inl (ca 0, 76, .inl (fun _ => 0))), (q15, .inl (ca 0, 7, .inl (fun _ => 0))), (q23, .inl (ca 0, 76, .inl (fun _ => 0))), (q31, .inl (ca 0, 120, .inl (fun _ => 0))), (q38, .inl (ca 0, 4, .inl (fun _ => 0))), (q45, .inl (ca 0, 4, .inl (fun _ => 0)))] H := hP
  have hD : va_D A [(h0, .inr (4, [.ref q7, .ref q15, .ref q23, .ref q31, .int 0, .int 0, .int 0, .int 0, .long 0, .int 0, .int 0, .ref q38, .null, .null, .null, .null, .null, .int 0])), (q7, .inl (ca 0, 76, .inl (fun _ => 0))), (q15, .inl (ca 0, 7, .inl (fun _ => 0))), (q23, .inl (ca 0, 76, .inl (fun _ => 0))), (q31, .inl (ca 0, 120, .inl (fun _ => 0))), (q38, .inl (ca 0, 4, .inl (fun _ => 0))), (q45, .inl (ca 0, 4, .inl (fun _ => 0)))] := hD
  refine W.widen (k := 6) (n := 287) (Nat.le_of_ble_eq_true rfl) (Nat.le_of_ble_eq_true rfl) ?_
  refine va_putF (D := D) (ci := 4) (v := .ref q45) (ty := .array .int) (C := RX4) (T := TX4) (N := 18) hx hb hts (fun w hw => List.mem_cons_of_mem _ (fw_4 w hw)) tyX4 tyX4_ok nmX4 hown hK hP hD hS 0 rfl rfl 12 (by decide) (hts (.fieldLink RX4 25 RX4 "sizeOf" "[I") (List.mem_cons_of_mem _ (na_mem (i := 722) (by decide +kernel) (by decide +kernel)))) (fun _ h9 => h9) rfl hin rfl (by decide +kernel) rfl rfl (Nat.le_of_ble_eq_true rfl) dX4_init_47 (fun H locs hP hD hS => ?_)
  have hP : va_P D vwCl [(h0, .inr (4, [.ref q7, .ref q15, .ref q23, .ref q31, .int 0, .int 0, .int 0, .int 0, .long 0, .int 0, .int 0, .ref q38, .ref q45, .null, .null, .null, .null, .int 0])), (q7, .inl (ca 0, 76, .inl (fun _ => 0))), (q15, .inl (ca 0, 7, .inl (fun _ => 0))), (q23, .inl (ca 0, 76, .inl (fun _ => 0))), (q31, .inl (ca 0, 120, .inl (fun _ => 0))), (q38, .inl (ca 0, 4, .inl (fun _ => 0))), (q45, .inl (ca 0, 4, .inl (fun _ => 0)))] H := hP
  have hD : va_D A [(h0, .inr (4, [.ref q7, .ref q15, .ref q23, .ref q31, .int 0, .int 0, .int 0, .int 0, .long 0, .int 0, .int 0, .ref q38, .ref q45, .null, .null, .null, .null, .int 0])), (q7, .inl (ca 0, 76, .inl (fun _ => 0))), (q15, .inl (ca 0, 7, .inl (fun _ => 0))), (q23, .inl (ca 0, 76, .inl (fun _ => 0))), (q31, .inl (ca 0, 120, .inl (fun _ => 0))), (q38, .inl (ca 0, 4, .inl (fun _ => 0))), (q45, .inl (ca 0, 4, .inl (fun _ => 0)))] := hD
  refine lv_aload_n hx hb dX4_init_50 rfl (lv_at hl 0 rfl) ?_
  refine lv_sipush (v := 160) hx hb dX4_init_51 (by decide) ?_
  refine ni_newL (N := 160) hx hb (hts (.arrayClass .long) (List.mem_cons_of_mem _ (na_mem (i := 192) (by decide +kernel) (by decide +kernel)))) hK hP hD hS hA (by decide) (by decide) (by decide) (Nat.le_of_ble_eq_true rfl) (Nat.le_of_ble_eq_true rfl) dX4_init_54 (fun q54 H hP hD hS => ?_)
  have hP : va_P D vwCl [(h0, .inr (4, [.ref q7, .ref q15, .ref q23, .ref q31, .int 0, .int 0, .int 0, .int 0, .long 0, .int 0, .int 0, .ref q38, .ref q45, .null, .null, .null, .null, .int 0])), (q7, .inl (ca 0, 76, .inl (fun _ => 0))), (q15, .inl (ca 0, 7, .inl (fun _ => 0))), (q23, .inl (ca 0, 76, .inl (fun _ => 0))), (q31, .inl (ca 0, 120, .inl (fun _ => 0))), (q38, .inl (ca 0, 4, .inl (fun _ => 0))), (q45, .inl (ca 0, 4, .inl (fun _ => 0))), (q54, .inl (ca 1, 160, .inr (.inl (fun _ => 0))))] H := hP
  have hD : va_D A [(h0, .inr (4, [.ref q7, .ref q15, .ref q23, .ref q31, .int 0, .int 0, .int 0, .int 0, .long 0, .int 0, .int 0, .ref q38, .ref q45, .null, .null, .null, .null, .int 0])), (q7, .inl (ca 0, 76, .inl (fun _ => 0))), (q15, .inl (ca 0, 7, .inl (fun _ => 0))), (q23, .inl (ca 0, 76, .inl (fun _ => 0))), (q31, .inl (ca 0, 120, .inl (fun _ => 0))), (q38, .inl (ca 0, 4, .inl (fun _ => 0))), (q45, .inl (ca 0, 4, .inl (fun _ => 0))), (q54, .inl (ca 1, 160, .inr (.inl (fun _ => 0))))] := hD
  refine W.widen (k := 7) (n := 447) (Nat.le_of_ble_eq_true rfl) (Nat.le_of_ble_eq_true rfl) ?_
  refine va_putF (D := D) (ci := 4) (v := .ref q54) (ty := .array .long) (C := RX4) (T := TX4) (N := 18) hx hb hts (fun w hw => List.mem_cons_of_mem _ (fw_4 w hw)) tyX4 tyX4_ok nmX4 hown hK hP hD hS 0 rfl rfl 13 (by decide) (hts (.fieldLink RX4 28 RX4 "sheets" "[J") (List.mem_cons_of_mem _ (na_mem (i := 723) (by decide +kernel) (by decide +kernel)))) (fun _ h9 => h9) rfl hin rfl (by decide +kernel) rfl rfl (Nat.le_of_ble_eq_true rfl) dX4_init_56 (fun H locs hP hD hS => ?_)
  have hP : va_P D vwCl [(h0, .inr (4, [.ref q7, .ref q15, .ref q23, .ref q31, .int 0, .int 0, .int 0, .int 0, .long 0, .int 0, .int 0, .ref q38, .ref q45, .ref q54, .null, .null, .null, .int 0])), (q7, .inl (ca 0, 76, .inl (fun _ => 0))), (q15, .inl (ca 0, 7, .inl (fun _ => 0))), (q23, .inl (ca 0, 76, .inl (fun _ => 0))), (q31, .inl (ca 0, 120, .inl (fun _ => 0))), (q38, .inl (ca 0, 4, .inl (fun _ => 0))), (q45, .inl (ca 0, 4, .inl (fun _ => 0))), (q54, .inl (ca 1, 160, .inr (.inl (fun _ => 0))))] H := hP
  have hD : va_D A [(h0, .inr (4, [.ref q7, .ref q15, .ref q23, .ref q31, .int 0, .int 0, .int 0, .int 0, .long 0, .int 0, .int 0, .ref q38, .ref q45, .ref q54, .null, .null, .null, .int 0])), (q7, .inl (ca 0, 76, .inl (fun _ => 0))), (q15, .inl (ca 0, 7, .inl (fun _ => 0))), (q23, .inl (ca 0, 76, .inl (fun _ => 0))), (q31, .inl (ca 0, 120, .inl (fun _ => 0))), (q38, .inl (ca 0, 4, .inl (fun _ => 0))), (q45, .inl (ca 0, 4, .inl (fun _ => 0))), (q54, .inl (ca 1, 160, .inr (.inl (fun _ => 0))))] := hD
  refine lv_aload_n hx hb dX4_init_59 rfl (lv_at hl 0 rfl) ?_
  refine lv_bipush (v := 40) hx hb dX4_init_60 (by decide) ?_
  refine ni_newL (N := 40) hx hb (hts (.arrayClass .long) (List.mem_cons_of_mem _ (na_mem (i := 192) (by decide +kernel) (by decide +kernel)))) hK hP hD hS hA (by decide) (by decide) (by decide) (Nat.le_of_ble_eq_true rfl) (Nat.le_of_ble_eq_true rfl) dX4_init_62 (fun q62 H hP hD hS => ?_)
  have hP : va_P D vwCl [(h0, .inr (4, [.ref q7, .ref q15, .ref q23, .ref q31, .int 0, .int 0, .int 0, .int 0, .long 0, .int 0, .int 0, .ref q38, .ref q45, .ref q54, .null, .null, .null, .int 0])), (q7, .inl (ca 0, 76, .inl (fun _ => 0))), (q15, .inl (ca 0, 7, .inl (fun _ => 0))), (q23, .inl (ca 0, 76, .inl (fun _ => 0))), (q31, .inl (ca 0, 120, .inl (fun _ => 0))), (q38, .inl (ca 0, 4, .inl (fun _ => 0))), (q45, .inl (ca 0, 4, .inl (fun _ => 0))), (q54, .inl (ca 1, 160, .inr (.inl (fun _ => 0)))), (q62, .inl (ca 1, 40, .inr (.inl (fun _ => 0))))] H := hP
  have hD : va_D A [(h0, .inr (4, [.ref q7, .ref q15, .ref q23, .ref q31, .int 0, .int 0, .int 0, .int 0, .long 0, .int 0, .int 0, .ref q38, .ref q45, .ref q54, .null, .null, .null, .int 0])), (q7, .inl (ca 0, 76, .inl (fun _ => 0))), (q15, .inl (ca 0, 7, .inl (fun _ => 0))), (q23, .inl (ca 0, 76, .inl (fun _ => 0))), (q31, .inl (ca 0, 120, .inl (fun _ => 0))), (q38, .inl (ca 0, 4, .inl (fun _ => 0))), (q45, .inl (ca 0, 4, .inl (fun _ => 0))), (q54, .inl (ca 1, 160, .inr (.inl (fun _ => 0)))), (q62, .inl (ca 1, 40, .inr (.inl (fun _ => 0))))] := hD
  refine W.widen (k := 8) (n := 487) (Nat.le_of_ble_eq_true rfl) (Nat.le_of_ble_eq_true rfl) ?_
  refine va_putF (D := D) (ci := 4) (v := .ref q62) (ty := .array .long) (C := RX4) (T := TX4) (N := 18) hx hb hts (fun w hw => List.mem_cons_of_mem _ (fw_4 w hw)) tyX4 tyX4_ok nmX4 hown hK hP hD hS 0 rfl rfl 14 (by decide) (hts (.fieldLink RX4 32 RX4 "lent" "[J") (List.mem_cons_of_mem _ (na_mem (i := 724) (by decide +kernel) (by decide +kernel)))) (fun _ h9 => h9) rfl hin rfl (by decide +kernel) rfl rfl (Nat.le_of_ble_eq_true rfl) dX4_init_64 (fun H locs hP hD hS => ?_)
  have hP : va_P D vwCl [(h0, .inr (4, [.ref q7, .ref q15, .ref q23, .ref q31, .int 0, .int 0, .int 0, .int 0, .long 0, .int 0, .int 0, .ref q38, .ref q45, .ref q54, .ref q62, .null, .null, .int 0])), (q7, .inl (ca 0, 76, .inl (fun _ => 0))), (q15, .inl (ca 0, 7, .inl (fun _ => 0))), (q23, .inl (ca 0, 76, .inl (fun _ => 0))), (q31, .inl (ca 0, 120, .inl (fun _ => 0))), (q38, .inl (ca 0, 4, .inl (fun _ => 0))), (q45, .inl (ca 0, 4, .inl (fun _ => 0))), (q54, .inl (ca 1, 160, .inr (.inl (fun _ => 0)))), (q62, .inl (ca 1, 40, .inr (.inl (fun _ => 0))))] H := hP
  have hD : va_D A [(h0, .inr (4, [.ref q7, .ref q15, .ref q23, .ref q31, .int 0, .int 0, .int 0, .int 0, .long 0, .int 0, .int 0, .ref q38, .ref q45, .ref q54, .ref q62, .null, .null, .int 0])), (q7, .inl (ca 0, 76, .inl (fun _ => 0))), (q15, .inl (ca 0, 7, .inl (fun _ => 0))), (q23, .inl (ca 0, 76, .inl (fun _ => 0))), (q31, .inl (ca 0, 120, .inl (fun _ => 0))), (q38, .inl (ca 0, 4, .inl (fun _ => 0))), (q45, .inl (ca 0, 4, .inl (fun _ => 0))), (q54, .inl (ca 1, 160, .inr (.inl (fun _ => 0)))), (q62, .inl (ca 1, 40, .inr (.inl (fun _ => 0))))] := hD
  refine lv_aload_n hx hb dX4_init_67 rfl (lv_at hl 0 rfl) ?_
  refine lv_bipush (v := 76) hx hb dX4_init_68 (by decide) ?_
  refine ni_newI (N := 76) hx hb (hts (.arrayClass .int) (List.mem_cons_of_mem _ (na_mem (i := 143) (by decide +kernel) (by decide +kernel)))) hK hP hD hS hA (by decide) (by decide) (by decide) (Nat.le_of_ble_eq_true rfl) (Nat.le_of_ble_eq_true rfl) dX4_init_70 (fun q70 H hP hD hS => ?_)
  have hP : va_P D vwCl [(h0, .inr (4, [.ref q7, .ref q15, .ref q23, .ref q31, .int 0, .int 0, .int 0, .int 0, .long 0, .int 0, .int 0, .ref q38, .ref q45, .ref q54, .ref q62, .null, .null, .int 0])), (q7, .inl (ca 0, 76, .inl (fun _ => 0))), (q15, .inl (ca 0, 7, .inl (fun _ => 0))), (q23, .inl (ca 0, 76, .inl (fun _ => 0))), (q31, .inl (ca 0, 120, .inl (fun _ => 0))), (q38, .inl (ca 0, 4, .inl (fun _ => 0))), (q45, .inl (ca 0, 4, .inl (fun _ => 0))), (q54, .inl (ca 1, 160, .inr (.inl (fun _ => 0)))), (q62, .inl (ca 1, 40, .inr (.inl (fun _ => 0)))), (q70, .inl (ca 0, 76, .inl (fun _ => 0)))] H := hP
  have hD : va_D A [(h0, .inr (4, [.ref q7, .ref q15, .ref q23, .ref q31, .int 0, .int 0, .int 0, .int 0, .long 0, .int 0, .int 0, .ref q38, .ref q45, .ref q54, .ref q62, .null, .null, .int 0])), (q7, .inl (ca 0, 76, .inl (fun _ => 0))), (q15, .inl (ca 0, 7, .inl (fun _ => 0))), (q23, .inl (ca 0, 76, .inl (fun _ => 0))), (q31, .inl (ca 0, 120, .inl (fun _ => 0))), (q38, .inl (ca 0, 4, .inl (fun _ => 0))), (q45, .inl (ca 0, 4, .inl (fun _ => 0))), (q54, .inl (ca 1, 160, .inr (.inl (fun _ => 0)))), (q62, .inl (ca 1, 40, .inr (.inl (fun _ => 0)))), (q70, .inl (ca 0, 76, .inl (fun _ => 0)))] := hD
  refine W.widen (k := 9) (n := 563) (Nat.le_of_ble_eq_true rfl) (Nat.le_of_ble_eq_true rfl) ?_
  refine va_putF (D := D) (ci := 4) (v := .ref q70) (ty := .array .int) (C := RX4) (T := TX4) (N := 18) hx hb hts (fun w hw => List.mem_cons_of_mem _ (fw_4 w hw)) tyX4 tyX4_ok nmX4 hown hK hP hD hS 0 rfl rfl 15 (by decide) (hts (.fieldLink RX4 35 RX4 "image" "[I") (List.mem_cons_of_mem _ (na_mem (i := 725) (by decide +kernel) (by decide +kernel)))) (fun _ h9 => h9) rfl hin rfl (by decide +kernel) rfl rfl (Nat.le_of_ble_eq_true rfl) dX4_init_72 (fun H locs hP hD hS => ?_)
  have hP : va_P D vwCl [(h0, .inr (4, [.ref q7, .ref q15, .ref q23, .ref q31, .int 0, .int 0, .int 0, .int 0, .long 0, .int 0, .int 0, .ref q38, .ref q45, .ref q54, .ref q62, .ref q70, .null, .int 0])), (q7, .inl (ca 0, 76, .inl (fun _ => 0))), (q15, .inl (ca 0, 7, .inl (fun _ => 0))), (q23, .inl (ca 0, 76, .inl (fun _ => 0))), (q31, .inl (ca 0, 120, .inl (fun _ => 0))), (q38, .inl (ca 0, 4, .inl (fun _ => 0))), (q45, .inl (ca 0, 4, .inl (fun _ => 0))), (q54, .inl (ca 1, 160, .inr (.inl (fun _ => 0)))), (q62, .inl (ca 1, 40, .inr (.inl (fun _ => 0)))), (q70, .inl (ca 0, 76, .inl (fun _ => 0)))] H := hP
  have hD : va_D A [(h0, .inr (4, [.ref q7, .ref q15, .ref q23, .ref q31, .int 0, .int 0, .int 0, .int 0, .long 0, .int 0, .int 0, .ref q38, .ref q45, .ref q54, .ref q62, .ref q70, .null, .int 0])), (q7, .inl (ca 0, 76, .inl (fun _ => 0))), (q15, .inl (ca 0, 7, .inl (fun _ => 0))), (q23, .inl (ca 0, 76, .inl (fun _ => 0))), (q31, .inl (ca 0, 120, .inl (fun _ => 0))), (q38, .inl (ca 0, 4, .inl (fun _ => 0))), (q45, .inl (ca 0, 4, .inl (fun _ => 0))), (q54, .inl (ca 1, 160, .inr (.inl (fun _ => 0)))), (q62, .inl (ca 1, 40, .inr (.inl (fun _ => 0)))), (q70, .inl (ca 0, 76, .inl (fun _ => 0)))] := hD
  refine lv_aload_n hx hb dX4_init_75 rfl (lv_at hl 0 rfl) ?_
  refine lv_bipush (v := 76) hx hb dX4_init_76 (by decide) ?_
  refine ni_newI (N := 76) hx hb (hts (.arrayClass .int) (List.mem_cons_of_mem _ (na_mem (i := 143) (by decide +kernel) (by decide +kernel)))) hK hP hD hS hA (by decide) (by decide) (by decide) (Nat.le_of_ble_eq_true rfl) (Nat.le_of_ble_eq_true rfl) dX4_init_78 (fun q78 H hP hD hS => ?_)
  have hP : va_P D vwCl [(h0, .inr (4, [.ref q7, .ref q15, .ref q23, .ref q31, .int 0, .int 0, .int 0, .int 0, .long 0, .int 0, .int 0, .ref q38, .ref q45, .ref q54, .ref q62, .ref q70, .null, .int 0])), (q7, .inl (ca 0, 76, .inl (fun _ => 0))), (q15, .inl (ca 0, 7, .inl (fun _ => 0))), (q23, .inl (ca 0, 76, .inl (fun _ => 0))), (q31, .inl (ca 0, 120, .inl (fun _ => 0))), (q38, .inl (ca 0, 4, .inl (fun _ => 0))), (q45, .inl (ca 0, 4, .inl (fun _ => 0))), (q54, .inl (ca 1, 160, .inr (.inl (fun _ => 0)))), (q62, .inl (ca 1, 40, .inr (.inl (fun _ => 0)))), (q70, .inl (ca 0, 76, .inl (fun _ => 0))), (q78, .inl (ca 0, 76, .inl (fun _ => 0)))] H := hP
  have hD : va_D A [(h0, .inr (4, [.ref q7, .ref q15, .ref q23, .ref q31, .int 0, .int 0, .int 0, .int 0, .long 0, .int 0, .int 0, .ref q38, .ref q45, .ref q54, .ref q62, .ref q70, .null, .int 0])), (q7, .inl (ca 0, 76, .inl (fun _ => 0))), (q15, .inl (ca 0, 7, .inl (fun _ => 0))), (q23, .inl (ca 0, 76, .inl (fun _ => 0))), (q31, .inl (ca 0, 120, .inl (fun _ => 0))), (q38, .inl (ca 0, 4, .inl (fun _ => 0))), (q45, .inl (ca 0, 4, .inl (fun _ => 0))), (q54, .inl (ca 1, 160, .inr (.inl (fun _ => 0)))), (q62, .inl (ca 1, 40, .inr (.inl (fun _ => 0)))), (q70, .inl (ca 0, 76, .inl (fun _ => 0))), (q78, .inl (ca 0, 76, .inl (fun _ => 0)))] := hD
  refine W.widen (k := 10) (n := 639) (Nat.le_of_ble_eq_true rfl) (Nat.le_of_ble_eq_true rfl) ?_
  refine va_putF (D := D) (ci := 4) (v := .ref q78) (ty := .array .int) (C := RX4) (T := TX4) (N := 18) hx hb hts (fun w hw => List.mem_cons_of_mem _ (fw_4 w hw)) tyX4 tyX4_ok nmX4 hown hK hP hD hS 0 rfl rfl 16 (by decide) (hts (.fieldLink RX4 38 RX4 "before" "[I") (List.mem_cons_of_mem _ (na_mem (i := 726) (by decide +kernel) (by decide +kernel)))) (fun _ h9 => h9) rfl hin rfl (by decide +kernel) rfl rfl (Nat.le_of_ble_eq_true rfl) dX4_init_80 (fun H locs hP hD hS => ?_)
  have hP : va_P D vwCl [(h0, .inr (4, [.ref q7, .ref q15, .ref q23, .ref q31, .int 0, .int 0, .int 0, .int 0, .long 0, .int 0, .int 0, .ref q38, .ref q45, .ref q54, .ref q62, .ref q70, .ref q78, .int 0])), (q7, .inl (ca 0, 76, .inl (fun _ => 0))), (q15, .inl (ca 0, 7, .inl (fun _ => 0))), (q23, .inl (ca 0, 76, .inl (fun _ => 0))), (q31, .inl (ca 0, 120, .inl (fun _ => 0))), (q38, .inl (ca 0, 4, .inl (fun _ => 0))), (q45, .inl (ca 0, 4, .inl (fun _ => 0))), (q54, .inl (ca 1, 160, .inr (.inl (fun _ => 0)))), (q62, .inl (ca 1, 40, .inr (.inl (fun _ => 0)))), (q70, .inl (ca 0, 76, .inl (fun _ => 0))), (q78, .inl (ca 0, 76, .inl (fun _ => 0)))] H := hP
  have hD : va_D A [(h0, .inr (4, [.ref q7, .ref q15, .ref q23, .ref q31, .int 0, .int 0, .int 0, .int 0, .long 0, .int 0, .int 0, .ref q38, .ref q45, .ref q54, .ref q62, .ref q70, .ref q78, .int 0])), (q7, .inl (ca 0, 76, .inl (fun _ => 0))), (q15, .inl (ca 0, 7, .inl (fun _ => 0))), (q23, .inl (ca 0, 76, .inl (fun _ => 0))), (q31, .inl (ca 0, 120, .inl (fun _ => 0))), (q38, .inl (ca 0, 4, .inl (fun _ => 0))), (q45, .inl (ca 0, 4, .inl (fun _ => 0))), (q54, .inl (ca 1, 160, .inr (.inl (fun _ => 0)))), (q62, .inl (ca 1, 40, .inr (.inl (fun _ => 0)))), (q70, .inl (ca 0, 76, .inl (fun _ => 0))), (q78, .inl (ca 0, 76, .inl (fun _ => 0)))] := hD
  refine lv_iconst (v := 0) hx hb dX4_init_83 (by decide) ?_
  refine lv_istore_n (lv' := [(1, .int 0), (0, .ref h0)]) hx hb dX4_init_84 rfl hl (by decide) rfl (fun ls hl => ?_)
  refine lv_iload_n hx hb dX4_init_85 rfl (lv_at hl 0 rfl) ?_
  refine lv_bipush (v := 8) hx hb dX4_init_86 (by decide) ?_
  refine lv_icmp_ge (tgt := 124) hx hb dX4_init_88 (by decide) (fun h => absurd h (by decide)) (fun _ => ?_)
  refine lv_aload_n hx hb dX4_init_91 rfl (lv_at hl 1 rfl) ?_
  refine va_get (D := D) (ci := 4) (v := .ref q7) (C := RX4) (T := TX4) (N := 18) hx hb hts (fun w hw => List.mem_cons_of_mem _ (fw_4 w hw)) hown hK hP 0 rfl rfl 0 (by decide) (hts (.fieldLink RX4 7 RX4 "row" "[I") (List.mem_cons_of_mem _ (na_mem (i := 710) (by decide +kernel) (by decide +kernel)))) (fun _ h9 => h9) rfl dX4_init_92 ?_
  refine lv_iconst (v := 4) hx hb dX4_init_95 (by decide) ?_
  refine lv_iconst (v := 4) hx hb dX4_init_96 (by decide) ?_
  refine lv_iload_n hx hb dX4_init_97 rfl (lv_at hl 0 rfl) ?_
  refine lv_imul hx hb dX4_init_98 ?_
  refine lv_topi (fun x9 e9 => ?_)
  rw [show x9 = 0 from e9.trans (by decide)]
  clear e9 x9
  refine lv_iadd hx hb dX4_init_99 ?_
  refine lv_topi (fun x9 e9 => ?_)
  rw [show x9 = 4 from e9.trans (by decide)]
  clear e9 x9
  refine lv_iconst (v := 0) hx hb dX4_init_100 (by decide) ?_
  refine lv_iadd hx hb dX4_init_101 ?_
  refine lv_topi (fun x9 e9 => ?_)
  rw [show x9 = 4 from e9.trans (by decide)]
  clear e9 x9
  refine lv_bipush (v := 100) hx hb dX4_init_102 (by decide) ?_
  refine ni_iast hx hb hK hP hD hS 1 0 rfl rfl (by unfold vp_in; decide) 4 (by decide) (show upd (fun _ => 0) 4 100 = fR1 0 from rfl) dX4_init_104 (fun H locs hP hD hS => ?_)
  have hP : va_P D vwCl [(h0, .inr (4, [.ref q7, .ref q15, .ref q23, .ref q31, .int 0, .int 0, .int 0, .int 0, .long 0, .int 0, .int 0, .ref q38, .ref q45, .ref q54, .ref q62, .ref q70, .ref q78, .int 0])), (q7, .inl (ca 0, 76, .inl (fR1 0))), (q15, .inl (ca 0, 7, .inl (fun _ => 0))), (q23, .inl (ca 0, 76, .inl (fun _ => 0))), (q31, .inl (ca 0, 120, .inl (fun _ => 0))), (q38, .inl (ca 0, 4, .inl (fun _ => 0))), (q45, .inl (ca 0, 4, .inl (fun _ => 0))), (q54, .inl (ca 1, 160, .inr (.inl (fun _ => 0)))), (q62, .inl (ca 1, 40, .inr (.inl (fun _ => 0)))), (q70, .inl (ca 0, 76, .inl (fun _ => 0))), (q78, .inl (ca 0, 76, .inl (fun _ => 0)))] H := hP
  have hD : va_D A [(h0, .inr (4, [.ref q7, .ref q15, .ref q23, .ref q31, .int 0, .int 0, .int 0, .int 0, .long 0, .int 0, .int 0, .ref q38, .ref q45, .ref q54, .ref q62, .ref q70, .ref q78, .int 0])), (q7, .inl (ca 0, 76, .inl (fR1 0))), (q15, .inl (ca 0, 7, .inl (fun _ => 0))), (q23, .inl (ca 0, 76, .inl (fun _ => 0))), (q31, .inl (ca 0, 120, .inl (fun _ => 0))), (q38, .inl (ca 0, 4, .inl (fun _ => 0))), (q45, .inl (ca 0, 4, .inl (fun _ => 0))), (q54, .inl (ca 1, 160, .inr (.inl (fun _ => 0)))), (q62, .inl (ca 1, 40, .inr (.inl (fun _ => 0)))), (q70, .inl (ca 0, 76, .inl (fun _ => 0))), (q78, .inl (ca 0, 76, .inl (fun _ => 0)))] := hD
  refine lv_aload_n hx hb dX4_init_105 rfl (lv_at hl 1 rfl) ?_
  refine va_get (D := D) (ci := 4) (v := .ref q7) (C := RX4) (T := TX4) (N := 18) hx hb hts (fun w hw => List.mem_cons_of_mem _ (fw_4 w hw)) hown hK hP 0 rfl rfl 0 (by decide) (hts (.fieldLink RX4 7 RX4 "row" "[I") (List.mem_cons_of_mem _ (na_mem (i := 710) (by decide +kernel) (by decide +kernel)))) (fun _ h9 => h9) rfl dX4_init_106 ?_
  refine lv_iconst (v := 4) hx hb dX4_init_109 (by decide) ?_
  refine lv_iconst (v := 4) hx hb dX4_init_110 (by decide) ?_
  refine lv_iload_n hx hb dX4_init_111 rfl (lv_at hl 0 rfl) ?_
  refine lv_imul hx hb dX4_init_112 ?_
  refine lv_topi (fun x9 e9 => ?_)
  rw [show x9 = 0 from e9.trans (by decide)]
  clear e9 x9
  refine lv_iadd hx hb dX4_init_113 ?_
  refine lv_topi (fun x9 e9 => ?_)
  rw [show x9 = 4 from e9.trans (by decide)]
  clear e9 x9
  refine lv_iconst (v := 3) hx hb dX4_init_114 (by decide) ?_
  refine lv_iadd hx hb dX4_init_115 ?_
  refine lv_topi (fun x9 e9 => ?_)
  rw [show x9 = 7 from e9.trans (by decide)]
  clear e9 x9
  refine lv_iconst (v := 5) hx hb dX4_init_116 (by decide) ?_
  refine ni_iast hx hb hK hP hD hS 1 0 rfl rfl (by unfold vp_in; decide) 7 (by decide) (show upd (fR1 0) 7 5 = fR 1 from rfl) dX4_init_117 (fun H locs hP hD hS => ?_)
  have hP : va_P D vwCl [(h0, .inr (4, [.ref q7, .ref q15, .ref q23, .ref q31, .int 0, .int 0, .int 0, .int 0, .long 0, .int 0, .int 0, .ref q38, .ref q45, .ref q54, .ref q62, .ref q70, .ref q78, .int 0])), (q7, .inl (ca 0, 76, .inl (fR 1))), (q15, .inl (ca 0, 7, .inl (fun _ => 0))), (q23, .inl (ca 0, 76, .inl (fun _ => 0))), (q31, .inl (ca 0, 120, .inl (fun _ => 0))), (q38, .inl (ca 0, 4, .inl (fun _ => 0))), (q45, .inl (ca 0, 4, .inl (fun _ => 0))), (q54, .inl (ca 1, 160, .inr (.inl (fun _ => 0)))), (q62, .inl (ca 1, 40, .inr (.inl (fun _ => 0)))), (q70, .inl (ca 0, 76, .inl (fun _ => 0))), (q78, .inl (ca 0, 76, .inl (fun _ => 0)))] H := hP
  have hD : va_D A [(h0, .inr (4, [.ref q7, .ref q15, .ref q23, .ref q31, .int 0, .int 0, .int 0, .int 0, .long 0, .int 0, .int 0, .ref q38, .ref q45, .ref q54, .ref q62, .ref q70, .ref q78, .int 0])), (q7, .inl (ca 0, 76, .inl (fR 1))), (q15, .inl (ca 0, 7, .inl (fun _ => 0))), (q23, .inl (ca 0, 76, .inl (fun _ => 0))), (q31, .inl (ca 0, 120, .inl (fun _ => 0))), (q38, .inl (ca 0, 4, .inl (fun _ => 0))), (q45, .inl (ca 0, 4, .inl (fun _ => 0))), (q54, .inl (ca 1, 160, .inr (.inl (fun _ => 0)))), (q62, .inl (ca 1, 40, .inr (.inl (fun _ => 0)))), (q70, .inl (ca 0, 76, .inl (fun _ => 0))), (q78, .inl (ca 0, 76, .inl (fun _ => 0)))] := hD
  refine lv_iinc (v := 1) (lv' := [(1, .int 1), (0, .ref h0)]) hx hb dX4_init_118 hl (k := 0) rfl (by decide) (by decide) rfl (fun ls hl => ?_)
  refine lv_goto (tgt := 85) hx hb dX4_init_121 (by decide) ?_
  refine lv_iload_n hx hb dX4_init_85 rfl (lv_at hl 0 rfl) ?_
  refine lv_bipush (v := 8) hx hb dX4_init_86 (by decide) ?_
  refine lv_icmp_ge (tgt := 124) hx hb dX4_init_88 (by decide) (fun h => absurd h (by decide)) (fun _ => ?_)
  refine lv_aload_n hx hb dX4_init_91 rfl (lv_at hl 1 rfl) ?_
  refine va_get (D := D) (ci := 4) (v := .ref q7) (C := RX4) (T := TX4) (N := 18) hx hb hts (fun w hw => List.mem_cons_of_mem _ (fw_4 w hw)) hown hK hP 0 rfl rfl 0 (by decide) (hts (.fieldLink RX4 7 RX4 "row" "[I") (List.mem_cons_of_mem _ (na_mem (i := 710) (by decide +kernel) (by decide +kernel)))) (fun _ h9 => h9) rfl dX4_init_92 ?_
  refine lv_iconst (v := 4) hx hb dX4_init_95 (by decide) ?_
  refine lv_iconst (v := 4) hx hb dX4_init_96 (by decide) ?_
  refine lv_iload_n hx hb dX4_init_97 rfl (lv_at hl 0 rfl) ?_
  refine lv_imul hx hb dX4_init_98 ?_
  refine lv_topi (fun x9 e9 => ?_)
  rw [show x9 = 4 from e9.trans (by decide)]
  clear e9 x9
  refine lv_iadd hx hb dX4_init_99 ?_
  refine lv_topi (fun x9 e9 => ?_)
  rw [show x9 = 8 from e9.trans (by decide)]
  clear e9 x9
  refine lv_iconst (v := 0) hx hb dX4_init_100 (by decide) ?_
  refine lv_iadd hx hb dX4_init_101 ?_
  refine lv_topi (fun x9 e9 => ?_)
  rw [show x9 = 8 from e9.trans (by decide)]
  clear e9 x9
  refine lv_bipush (v := 100) hx hb dX4_init_102 (by decide) ?_
  refine ni_iast hx hb hK hP hD hS 1 0 rfl rfl (by unfold vp_in; decide) 8 (by decide) (show upd (fR 1) 8 100 = fR1 1 from rfl) dX4_init_104 (fun H locs hP hD hS => ?_)
  have hP : va_P D vwCl [(h0, .inr (4, [.ref q7, .ref q15, .ref q23, .ref q31, .int 0, .int 0, .int 0, .int 0, .long 0, .int 0, .int 0, .ref q38, .ref q45, .ref q54, .ref q62, .ref q70, .ref q78, .int 0])), (q7, .inl (ca 0, 76, .inl (fR1 1))), (q15, .inl (ca 0, 7, .inl (fun _ => 0))), (q23, .inl (ca 0, 76, .inl (fun _ => 0))), (q31, .inl (ca 0, 120, .inl (fun _ => 0))), (q38, .inl (ca 0, 4, .inl (fun _ => 0))), (q45, .inl (ca 0, 4, .inl (fun _ => 0))), (q54, .inl (ca 1, 160, .inr (.inl (fun _ => 0)))), (q62, .inl (ca 1, 40, .inr (.inl (fun _ => 0)))), (q70, .inl (ca 0, 76, .inl (fun _ => 0))), (q78, .inl (ca 0, 76, .inl (fun _ => 0)))] H := hP
  have hD : va_D A [(h0, .inr (4, [.ref q7, .ref q15, .ref q23, .ref q31, .int 0, .int 0, .int 0, .int 0, .long 0, .int 0, .int 0, .ref q38, .ref q45, .ref q54, .ref q62, .ref q70, .ref q78, .int 0])), (q7, .inl (ca 0, 76, .inl (fR1 1))), (q15, .inl (ca 0, 7, .inl (fun _ => 0))), (q23, .inl (ca 0, 76, .inl (fun _ => 0))), (q31, .inl (ca 0, 120, .inl (fun _ => 0))), (q38, .inl (ca 0, 4, .inl (fun _ => 0))), (q45, .inl (ca 0, 4, .inl (fun _ => 0))), (q54, .inl (ca 1, 160, .inr (.inl (fun _ => 0)))), (q62, .inl (ca 1, 40, .inr (.inl (fun _ => 0)))), (q70, .inl (ca 0, 76, .inl (fun _ => 0))), (q78, .inl (ca 0, 76, .inl (fun _ => 0)))] := hD
  refine lv_aload_n hx hb dX4_init_105 rfl (lv_at hl 1 rfl) ?_
  refine va_get (D := D) (ci := 4) (v := .ref q7) (C := RX4) (T := TX4) (N := 18) hx hb hts (fun w hw => List.mem_cons_of_mem _ (fw_4 w hw)) hown hK hP 0 rfl rfl 0 (by decide) (hts (.fieldLink RX4 7 RX4 "row" "[I") (List.mem_cons_of_mem _ (na_mem (i := 710) (by decide +kernel) (by decide +kernel)))) (fun _ h9 => h9) rfl dX4_init_106 ?_
  refine lv_iconst (v := 4) hx hb dX4_init_109 (by decide) ?_
  refine lv_iconst (v := 4) hx hb dX4_init_110 (by decide) ?_
  refine lv_iload_n hx hb dX4_init_111 rfl (lv_at hl 0 rfl) ?_
  refine lv_imul hx hb dX4_init_112 ?_
  refine lv_topi (fun x9 e9 => ?_)
  rw [show x9 = 4 from e9.trans (by decide)]
  clear e9 x9
  refine lv_iadd hx hb dX4_init_113 ?_
  refine lv_topi (fun x9 e9 => ?_)
  rw [show x9 = 8 from e9.trans (by decide)]
  clear e9 x9
  refine lv_iconst (v := 3) hx hb dX4_init_114 (by decide) ?_
  refine lv_iadd hx hb dX4_init_115 ?_
  refine lv_topi (fun x9 e9 => ?_)
  rw [show x9 = 11 from e9.trans (by decide)]
  clear e9 x9
  refine lv_iconst (v := 5) hx hb dX4_init_116 (by decide) ?_
  refine ni_iast hx hb hK hP hD hS 1 0 rfl rfl (by unfold vp_in; decide) 11 (by decide) (show upd (fR1 1) 11 5 = fR 2 from rfl) dX4_init_117 (fun H locs hP hD hS => ?_)
  have hP : va_P D vwCl [(h0, .inr (4, [.ref q7, .ref q15, .ref q23, .ref q31, .int 0, .int 0, .int 0, .int 0, .long 0, .int 0, .int 0, .ref q38, .ref q45, .ref q54, .ref q62, .ref q70, .ref q78, .int 0])), (q7, .inl (ca 0, 76, .inl (fR 2))), (q15, .inl (ca 0, 7, .inl (fun _ => 0))), (q23, .inl (ca 0, 76, .inl (fun _ => 0))), (q31, .inl (ca 0, 120, .inl (fun _ => 0))), (q38, .inl (ca 0, 4, .inl (fun _ => 0))), (q45, .inl (ca 0, 4, .inl (fun _ => 0))), (q54, .inl (ca 1, 160, .inr (.inl (fun _ => 0)))), (q62, .inl (ca 1, 40, .inr (.inl (fun _ => 0)))), (q70, .inl (ca 0, 76, .inl (fun _ => 0))), (q78, .inl (ca 0, 76, .inl (fun _ => 0)))] H := hP
  have hD : va_D A [(h0, .inr (4, [.ref q7, .ref q15, .ref q23, .ref q31, .int 0, .int 0, .int 0, .int 0, .long 0, .int 0, .int 0, .ref q38, .ref q45, .ref q54, .ref q62, .ref q70, .ref q78, .int 0])), (q7, .inl (ca 0, 76, .inl (fR 2))), (q15, .inl (ca 0, 7, .inl (fun _ => 0))), (q23, .inl (ca 0, 76, .inl (fun _ => 0))), (q31, .inl (ca 0, 120, .inl (fun _ => 0))), (q38, .inl (ca 0, 4, .inl (fun _ => 0))), (q45, .inl (ca 0, 4, .inl (fun _ => 0))), (q54, .inl (ca 1, 160, .inr (.inl (fun _ => 0)))), (q62, .inl (ca 1, 40, .inr (.inl (fun _ => 0)))), (q70, .inl (ca 0, 76, .inl (fun _ => 0))), (q78, .inl (ca 0, 76, .inl (fun _ => 0)))] := hD
  refine lv_iinc (v := 2) (lv' := [(1, .int 2), (0, .ref h0)]) hx hb dX4_init_118 hl (k := 0) rfl (by decide) (by decide) rfl (fun ls hl => ?_)
  refine lv_goto (tgt := 85) hx hb dX4_init_121 (by decide) ?_
  refine lv_iload_n hx hb dX4_init_85 rfl (lv_at hl 0 rfl) ?_
  refine lv_bipush (v := 8) hx hb dX4_init_86 (by decide) ?_
  refine lv_icmp_ge (tgt := 124) hx hb dX4_init_88 (by decide) (fun h => absurd h (by decide)) (fun _ => ?_)
  refine lv_aload_n hx hb dX4_init_91 rfl (lv_at hl 1 rfl) ?_
  refine va_get (D := D) (ci := 4) (v := .ref q7) (C := RX4) (T := TX4) (N := 18) hx hb hts (fun w hw => List.mem_cons_of_mem _ (fw_4 w hw)) hown hK hP 0 rfl rfl 0 (by decide) (hts (.fieldLink RX4 7 RX4 "row" "[I") (List.mem_cons_of_mem _ (na_mem (i := 710) (by decide +kernel) (by decide +kernel)))) (fun _ h9 => h9) rfl dX4_init_92 ?_
  refine lv_iconst (v := 4) hx hb dX4_init_95 (by decide) ?_
  refine lv_iconst (v := 4) hx hb dX4_init_96 (by decide) ?_
  refine lv_iload_n hx hb dX4_init_97 rfl (lv_at hl 0 rfl) ?_
  refine lv_imul hx hb dX4_init_98 ?_
  refine lv_topi (fun x9 e9 => ?_)
  rw [show x9 = 8 from e9.trans (by decide)]
  clear e9 x9
  refine lv_iadd hx hb dX4_init_99 ?_
  refine lv_topi (fun x9 e9 => ?_)
  rw [show x9 = 12 from e9.trans (by decide)]
  clear e9 x9
  refine lv_iconst (v := 0) hx hb dX4_init_100 (by decide) ?_
  refine lv_iadd hx hb dX4_init_101 ?_
  refine lv_topi (fun x9 e9 => ?_)
  rw [show x9 = 12 from e9.trans (by decide)]
  clear e9 x9
  refine lv_bipush (v := 100) hx hb dX4_init_102 (by decide) ?_
  refine ni_iast hx hb hK hP hD hS 1 0 rfl rfl (by unfold vp_in; decide) 12 (by decide) (show upd (fR 2) 12 100 = fR1 2 from rfl) dX4_init_104 (fun H locs hP hD hS => ?_)
  have hP : va_P D vwCl [(h0, .inr (4, [.ref q7, .ref q15, .ref q23, .ref q31, .int 0, .int 0, .int 0, .int 0, .long 0, .int 0, .int 0, .ref q38, .ref q45, .ref q54, .ref q62, .ref q70, .ref q78, .int 0])), (q7, .inl (ca 0, 76, .inl (fR1 2))), (q15, .inl (ca 0, 7, .inl (fun _ => 0))), (q23, .inl (ca 0, 76, .inl (fun _ => 0))), (q31, .inl (ca 0, 120, .inl (fun _ => 0))), (q38, .inl (ca 0, 4, .inl (fun _ => 0))), (q45, .inl (ca 0, 4, .inl (fun _ => 0))), (q54, .inl (ca 1, 160, .inr (.inl (fun _ => 0)))), (q62, .inl (ca 1, 40, .inr (.inl (fun _ => 0)))), (q70, .inl (ca 0, 76, .inl (fun _ => 0))), (q78, .inl (ca 0, 76, .inl (fun _ => 0)))] H := hP
  have hD : va_D A [(h0, .inr (4, [.ref q7, .ref q15, .ref q23, .ref q31, .int 0, .int 0, .int 0, .int 0, .long 0, .int 0, .int 0, .ref q38, .ref q45, .ref q54, .ref q62, .ref q70, .ref q78, .int 0])), (q7, .inl (ca 0, 76, .inl (fR1 2))), (q15, .inl (ca 0, 7, .inl (fun _ => 0))), (q23, .inl (ca 0, 76, .inl (fun _ => 0))), (q31, .inl (ca 0, 120, .inl (fun _ => 0))), (q38, .inl (ca 0, 4, .inl (fun _ => 0))), (q45, .inl (ca 0, 4, .inl (fun _ => 0))), (q54, .inl (ca 1, 160, .inr (.inl (fun _ => 0)))), (q62, .inl (ca 1, 40, .inr (.inl (fun _ => 0)))), (q70, .inl (ca 0, 76, .inl (fun _ => 0))), (q78, .inl (ca 0, 76, .inl (fun _ => 0)))] := hD
  refine lv_aload_n hx hb dX4_init_105 rfl (lv_at hl 1 rfl) ?_
  refine va_get (D := D) (ci := 4) (v := .ref q7) (C := RX4) (T := TX4) (N := 18) hx hb hts (fun w hw => List.mem_cons_of_mem _ (fw_4 w hw)) hown hK hP 0 rfl rfl 0 (by decide) (hts (.fieldLink RX4 7 RX4 "row" "[I") (List.mem_cons_of_mem _ (na_mem (i := 710) (by decide +kernel) (by decide +kernel)))) (fun _ h9 => h9) rfl dX4_init_106 ?_
  refine lv_iconst (v := 4) hx hb dX4_init_109 (by decide) ?_
  refine lv_iconst (v := 4) hx hb dX4_init_110 (by decide) ?_
  refine lv_iload_n hx hb dX4_init_111 rfl (lv_at hl 0 rfl) ?_
  refine lv_imul hx hb dX4_init_112 ?_
  refine lv_topi (fun x9 e9 => ?_)
  rw [show x9 = 8 from e9.trans (by decide)]
  clear e9 x9
  refine lv_iadd hx hb dX4_init_113 ?_
  refine lv_topi (fun x9 e9 => ?_)
  rw [show x9 = 12 from e9.trans (by decide)]
  clear e9 x9
  refine lv_iconst (v := 3) hx hb dX4_init_114 (by decide) ?_
  refine lv_iadd hx hb dX4_init_115 ?_
  refine lv_topi (fun x9 e9 => ?_)
  rw [show x9 = 15 from e9.trans (by decide)]
  clear e9 x9
  refine lv_iconst (v := 5) hx hb dX4_init_116 (by decide) ?_
  refine ni_iast hx hb hK hP hD hS 1 0 rfl rfl (by unfold vp_in; decide) 15 (by decide) (show upd (fR1 2) 15 5 = fR 3 from rfl) dX4_init_117 (fun H locs hP hD hS => ?_)
  have hP : va_P D vwCl [(h0, .inr (4, [.ref q7, .ref q15, .ref q23, .ref q31, .int 0, .int 0, .int 0, .int 0, .long 0, .int 0, .int 0, .ref q38, .ref q45, .ref q54, .ref q62, .ref q70, .ref q78, .int 0])), (q7, .inl (ca 0, 76, .inl (fR 3))), (q15, .inl (ca 0, 7, .inl (fun _ => 0))), (q23, .inl (ca 0, 76, .inl (fun _ => 0))), (q31, .inl (ca 0, 120, .inl (fun _ => 0))), (q38, .inl (ca 0, 4, .inl (fun _ => 0))), (q45, .inl (ca 0, 4, .inl (fun _ => 0))), (q54, .inl (ca 1, 160, .inr (.inl (fun _ => 0)))), (q62, .inl (ca 1, 40, .inr (.inl (fun _ => 0)))), (q70, .inl (ca 0, 76, .inl (fun _ => 0))), (q78, .inl (ca 0, 76, .inl (fun _ => 0)))] H := hP
  have hD : va_D A [(h0, .inr (4, [.ref q7, .ref q15, .ref q23, .ref q31, .int 0, .int 0, .int 0, .int 0, .long 0, .int 0, .int 0, .ref q38, .ref q45, .ref q54, .ref q62, .ref q70, .ref q78, .int 0])), (q7, .inl (ca 0, 76, .inl (fR 3))), (q15, .inl (ca 0, 7, .inl (fun _ => 0))), (q23, .inl (ca 0, 76, .inl (fun _ => 0))), (q31, .inl (ca 0, 120, .inl (fun _ => 0))), (q38, .inl (ca 0, 4, .inl (fun _ => 0))), (q45, .inl (ca 0, 4, .inl (fun _ => 0))), (q54, .inl (ca 1, 160, .inr (.inl (fun _ => 0)))), (q62, .inl (ca 1, 40, .inr (.inl (fun _ => 0)))), (q70, .inl (ca 0, 76, .inl (fun _ => 0))), (q78, .inl (ca 0, 76, .inl (fun _ => 0)))] := hD
  refine lv_iinc (v := 3) (lv' := [(1, .int 3), (0, .ref h0)]) hx hb dX4_init_118 hl (k := 0) rfl (by decide) (by decide) rfl (fun ls hl => ?_)
  refine lv_goto (tgt := 85) hx hb dX4_init_121 (by decide) ?_
  refine lv_iload_n hx hb dX4_init_85 rfl (lv_at hl 0 rfl) ?_
  refine lv_bipush (v := 8) hx hb dX4_init_86 (by decide) ?_
  refine lv_icmp_ge (tgt := 124) hx hb dX4_init_88 (by decide) (fun h => absurd h (by decide)) (fun _ => ?_)
  refine lv_aload_n hx hb dX4_init_91 rfl (lv_at hl 1 rfl) ?_
  refine va_get (D := D) (ci := 4) (v := .ref q7) (C := RX4) (T := TX4) (N := 18) hx hb hts (fun w hw => List.mem_cons_of_mem _ (fw_4 w hw)) hown hK hP 0 rfl rfl 0 (by decide) (hts (.fieldLink RX4 7 RX4 "row" "[I") (List.mem_cons_of_mem _ (na_mem (i := 710) (by decide +kernel) (by decide +kernel)))) (fun _ h9 => h9) rfl dX4_init_92 ?_
  refine lv_iconst (v := 4) hx hb dX4_init_95 (by decide) ?_
  refine lv_iconst (v := 4) hx hb dX4_init_96 (by decide) ?_
  refine lv_iload_n hx hb dX4_init_97 rfl (lv_at hl 0 rfl) ?_
  refine lv_imul hx hb dX4_init_98 ?_
  refine lv_topi (fun x9 e9 => ?_)
  rw [show x9 = 12 from e9.trans (by decide)]
  clear e9 x9
  refine lv_iadd hx hb dX4_init_99 ?_
  refine lv_topi (fun x9 e9 => ?_)
  rw [show x9 = 16 from e9.trans (by decide)]
  clear e9 x9
  refine lv_iconst (v := 0) hx hb dX4_init_100 (by decide) ?_
  refine lv_iadd hx hb dX4_init_101 ?_
  refine lv_topi (fun x9 e9 => ?_)
  rw [show x9 = 16 from e9.trans (by decide)]
  clear e9 x9
  refine lv_bipush (v := 100) hx hb dX4_init_102 (by decide) ?_
  refine ni_iast hx hb hK hP hD hS 1 0 rfl rfl (by unfold vp_in; decide) 16 (by decide) (show upd (fR 3) 16 100 = fR1 3 from rfl) dX4_init_104 (fun H locs hP hD hS => ?_)
  have hP : va_P D vwCl [(h0, .inr (4, [.ref q7, .ref q15, .ref q23, .ref q31, .int 0, .int 0, .int 0, .int 0, .long 0, .int 0, .int 0, .ref q38, .ref q45, .ref q54, .ref q62, .ref q70, .ref q78, .int 0])), (q7, .inl (ca 0, 76, .inl (fR1 3))), (q15, .inl (ca 0, 7, .inl (fun _ => 0))), (q23, .inl (ca 0, 76, .inl (fun _ => 0))), (q31, .inl (ca 0, 120, .inl (fun _ => 0))), (q38, .inl (ca 0, 4, .inl (fun _ => 0))), (q45, .inl (ca 0, 4, .inl (fun _ => 0))), (q54, .inl (ca 1, 160, .inr (.inl (fun _ => 0)))), (q62, .inl (ca 1, 40, .inr (.inl (fun _ => 0)))), (q70, .inl (ca 0, 76, .inl (fun _ => 0))), (q78, .inl (ca 0, 76, .inl (fun _ => 0)))] H := hP
  have hD : va_D A [(h0, .inr (4, [.ref q7, .ref q15, .ref q23, .ref q31, .int 0, .int 0, .int 0, .int 0, .long 0, .int 0, .int 0, .ref q38, .ref q45, .ref q54, .ref q62, .ref q70, .ref q78, .int 0])), (q7, .inl (ca 0, 76, .inl (fR1 3))), (q15, .inl (ca 0, 7, .inl (fun _ => 0))), (q23, .inl (ca 0, 76, .inl (fun _ => 0))), (q31, .inl (ca 0, 120, .inl (fun _ => 0))), (q38, .inl (ca 0, 4, .inl (fun _ => 0))), (q45, .inl (ca 0, 4, .inl (fun _ => 0))), (q54, .inl (ca 1, 160, .inr (.inl (fun _ => 0)))), (q62, .inl (ca 1, 40, .inr (.inl (fun _ => 0)))), (q70, .inl (ca 0, 76, .inl (fun _ => 0))), (q78, .inl (ca 0, 76, .inl (fun _ => 0)))] := hD
  refine lv_aload_n hx hb dX4_init_105 rfl (lv_at hl 1 rfl) ?_
  refine va_get (D := D) (ci := 4) (v := .ref q7) (C := RX4) (T := TX4) (N := 18) hx hb hts (fun w hw => List.mem_cons_of_mem _ (fw_4 w hw)) hown hK hP 0 rfl rfl 0 (by decide) (hts (.fieldLink RX4 7 RX4 "row" "[I") (List.mem_cons_of_mem _ (na_mem (i := 710) (by decide +kernel) (by decide +kernel)))) (fun _ h9 => h9) rfl dX4_init_106 ?_
  refine lv_iconst (v := 4) hx hb dX4_init_109 (by decide) ?_
  refine lv_iconst (v := 4) hx hb dX4_init_110 (by decide) ?_
  refine lv_iload_n hx hb dX4_init_111 rfl (lv_at hl 0 rfl) ?_
  refine lv_imul hx hb dX4_init_112 ?_
  refine lv_topi (fun x9 e9 => ?_)
  rw [show x9 = 12 from e9.trans (by decide)]
  clear e9 x9
  refine lv_iadd hx hb dX4_init_113 ?_
  refine lv_topi (fun x9 e9 => ?_)
  rw [show x9 = 16 from e9.trans (by decide)]
  clear e9 x9
  refine lv_iconst (v := 3) hx hb dX4_init_114 (by decide) ?_
  refine lv_iadd hx hb dX4_init_115 ?_
  refine lv_topi (fun x9 e9 => ?_)
  rw [show x9 = 19 from e9.trans (by decide)]
  clear e9 x9
  refine lv_iconst (v := 5) hx hb dX4_init_116 (by decide) ?_
  refine ni_iast hx hb hK hP hD hS 1 0 rfl rfl (by unfold vp_in; decide) 19 (by decide) (show upd (fR1 3) 19 5 = fR 4 from rfl) dX4_init_117 (fun H locs hP hD hS => ?_)
  have hP : va_P D vwCl [(h0, .inr (4, [.ref q7, .ref q15, .ref q23, .ref q31, .int 0, .int 0, .int 0, .int 0, .long 0, .int 0, .int 0, .ref q38, .ref q45, .ref q54, .ref q62, .ref q70, .ref q78, .int 0])), (q7, .inl (ca 0, 76, .inl (fR 4))), (q15, .inl (ca 0, 7, .inl (fun _ => 0))), (q23, .inl (ca 0, 76, .inl (fun _ => 0))), (q31, .inl (ca 0, 120, .inl (fun _ => 0))), (q38, .inl (ca 0, 4, .inl (fun _ => 0))), (q45, .inl (ca 0, 4, .inl (fun _ => 0))), (q54, .inl (ca 1, 160, .inr (.inl (fun _ => 0)))), (q62, .inl (ca 1, 40, .inr (.inl (fun _ => 0)))), (q70, .inl (ca 0, 76, .inl (fun _ => 0))), (q78, .inl (ca 0, 76, .inl (fun _ => 0)))] H := hP
  have hD : va_D A [(h0, .inr (4, [.ref q7, .ref q15, .ref q23, .ref q31, .int 0, .int 0, .int 0, .int 0, .long 0, .int 0, .int 0, .ref q38, .ref q45, .ref q54, .ref q62, .ref q70, .ref q78, .int 0])), (q7, .inl (ca 0, 76, .inl (fR 4))), (q15, .inl (ca 0, 7, .inl (fun _ => 0))), (q23, .inl (ca 0, 76, .inl (fun _ => 0))), (q31, .inl (ca 0, 120, .inl (fun _ => 0))), (q38, .inl (ca 0, 4, .inl (fun _ => 0))), (q45, .inl (ca 0, 4, .inl (fun _ => 0))), (q54, .inl (ca 1, 160, .inr (.inl (fun _ => 0)))), (q62, .inl (ca 1, 40, .inr (.inl (fun _ => 0)))), (q70, .inl (ca 0, 76, .inl (fun _ => 0))), (q78, .inl (ca 0, 76, .inl (fun _ => 0)))] := hD
  refine lv_iinc (v := 4) (lv' := [(1, .int 4), (0, .ref h0)]) hx hb dX4_init_118 hl (k := 0) rfl (by decide) (by decide) rfl (fun ls hl => ?_)
  refine lv_goto (tgt := 85) hx hb dX4_init_121 (by decide) ?_
  refine lv_iload_n hx hb dX4_init_85 rfl (lv_at hl 0 rfl) ?_
  refine lv_bipush (v := 8) hx hb dX4_init_86 (by decide) ?_
  refine lv_icmp_ge (tgt := 124) hx hb dX4_init_88 (by decide) (fun h => absurd h (by decide)) (fun _ => ?_)
  refine lv_aload_n hx hb dX4_init_91 rfl (lv_at hl 1 rfl) ?_
  refine va_get (D := D) (ci := 4) (v := .ref q7) (C := RX4) (T := TX4) (N := 18) hx hb hts (fun w hw => List.mem_cons_of_mem _ (fw_4 w hw)) hown hK hP 0 rfl rfl 0 (by decide) (hts (.fieldLink RX4 7 RX4 "row" "[I") (List.mem_cons_of_mem _ (na_mem (i := 710) (by decide +kernel) (by decide +kernel)))) (fun _ h9 => h9) rfl dX4_init_92 ?_
  refine lv_iconst (v := 4) hx hb dX4_init_95 (by decide) ?_
  refine lv_iconst (v := 4) hx hb dX4_init_96 (by decide) ?_
  refine lv_iload_n hx hb dX4_init_97 rfl (lv_at hl 0 rfl) ?_
  refine lv_imul hx hb dX4_init_98 ?_
  refine lv_topi (fun x9 e9 => ?_)
  rw [show x9 = 16 from e9.trans (by decide)]
  clear e9 x9
  refine lv_iadd hx hb dX4_init_99 ?_
  refine lv_topi (fun x9 e9 => ?_)
  rw [show x9 = 20 from e9.trans (by decide)]
  clear e9 x9
  refine lv_iconst (v := 0) hx hb dX4_init_100 (by decide) ?_
  refine lv_iadd hx hb dX4_init_101 ?_
  refine lv_topi (fun x9 e9 => ?_)
  rw [show x9 = 20 from e9.trans (by decide)]
  clear e9 x9
  refine lv_bipush (v := 100) hx hb dX4_init_102 (by decide) ?_
  refine ni_iast hx hb hK hP hD hS 1 0 rfl rfl (by unfold vp_in; decide) 20 (by decide) (show upd (fR 4) 20 100 = fR1 4 from rfl) dX4_init_104 (fun H locs hP hD hS => ?_)
  have hP : va_P D vwCl [(h0, .inr (4, [.ref q7, .ref q15, .ref q23, .ref q31, .int 0, .int 0, .int 0, .int 0, .long 0, .int 0, .int 0, .ref q38, .ref q45, .ref q54, .ref q62, .ref q70, .ref q78, .int 0])), (q7, .inl (ca 0, 76, .inl (fR1 4))), (q15, .inl (ca 0, 7, .inl (fun _ => 0))), (q23, .inl (ca 0, 76, .inl (fun _ => 0))), (q31, .inl (ca 0, 120, .inl (fun _ => 0))), (q38, .inl (ca 0, 4, .inl (fun _ => 0))), (q45, .inl (ca 0, 4, .inl (fun _ => 0))), (q54, .inl (ca 1, 160, .inr (.inl (fun _ => 0)))), (q62, .inl (ca 1, 40, .inr (.inl (fun _ => 0)))), (q70, .inl (ca 0, 76, .inl (fun _ => 0))), (q78, .inl (ca 0, 76, .inl (fun _ => 0)))] H := hP
  have hD : va_D A [(h0, .inr (4, [.ref q7, .ref q15, .ref q23, .ref q31, .int 0, .int 0, .int 0, .int 0, .long 0, .int 0, .int 0, .ref q38, .ref q45, .ref q54, .ref q62, .ref q70, .ref q78, .int 0])), (q7, .inl (ca 0, 76, .inl (fR1 4))), (q15, .inl (ca 0, 7, .inl (fun _ => 0))), (q23, .inl (ca 0, 76, .inl (fun _ => 0))), (q31, .inl (ca 0, 120, .inl (fun _ => 0))), (q38, .inl (ca 0, 4, .inl (fun _ => 0))), (q45, .inl (ca 0, 4, .inl (fun _ => 0))), (q54, .inl (ca 1, 160, .inr (.inl (fun _ => 0)))), (q62, .inl (ca 1, 40, .inr (.inl (fun _ => 0)))), (q70, .inl (ca 0, 76, .inl (fun _ => 0))), (q78, .inl (ca 0, 76, .inl (fun _ => 0)))] := hD
  refine lv_aload_n hx hb dX4_init_105 rfl (lv_at hl 1 rfl) ?_
  refine va_get (D := D) (ci := 4) (v := .ref q7) (C := RX4) (T := TX4) (N := 18) hx hb hts (fun w hw => List.mem_cons_of_mem _ (fw_4 w hw)) hown hK hP 0 rfl rfl 0 (by decide) (hts (.fieldLink RX4 7 RX4 "row" "[I") (List.mem_cons_of_mem _ (na_mem (i := 710) (by decide +kernel) (by decide +kernel)))) (fun _ h9 => h9) rfl dX4_init_106 ?_
  refine lv_iconst (v := 4) hx hb dX4_init_109 (by decide) ?_
  refine lv_iconst (v := 4) hx hb dX4_init_110 (by decide) ?_
  refine lv_iload_n hx hb dX4_init_111 rfl (lv_at hl 0 rfl) ?_
  refine lv_imul hx hb dX4_init_112 ?_
  refine lv_topi (fun x9 e9 => ?_)
  rw [show x9 = 16 from e9.trans (by decide)]
  clear e9 x9
  refine lv_iadd hx hb dX4_init_113 ?_
  refine lv_topi (fun x9 e9 => ?_)
  rw [show x9 = 20 from e9.trans (by decide)]
  clear e9 x9
  refine lv_iconst (v := 3) hx hb dX4_init_114 (by decide) ?_
  refine lv_iadd hx hb dX4_init_115 ?_
  refine lv_topi (fun x9 e9 => ?_)
  rw [show x9 = 23 from e9.trans (by decide)]
  clear e9 x9
  refine lv_iconst (v := 5) hx hb dX4_init_116 (by decide) ?_
  refine ni_iast hx hb hK hP hD hS 1 0 rfl rfl (by unfold vp_in; decide) 23 (by decide) (show upd (fR1 4) 23 5 = fR 5 from rfl) dX4_init_117 (fun H locs hP hD hS => ?_)
  have hP : va_P D vwCl [(h0, .inr (4, [.ref q7, .ref q15, .ref q23, .ref q31, .int 0, .int 0, .int 0, .int 0, .long 0, .int 0, .int 0, .ref q38, .ref q45, .ref q54, .ref q62, .ref q70, .ref q78, .int 0])), (q7, .inl (ca 0, 76, .inl (fR 5))), (q15, .inl (ca 0, 7, .inl (fun _ => 0))), (q23, .inl (ca 0, 76, .inl (fun _ => 0))), (q31, .inl (ca 0, 120, .inl (fun _ => 0))), (q38, .inl (ca 0, 4, .inl (fun _ => 0))), (q45, .inl (ca 0, 4, .inl (fun _ => 0))), (q54, .inl (ca 1, 160, .inr (.inl (fun _ => 0)))), (q62, .inl (ca 1, 40, .inr (.inl (fun _ => 0)))), (q70, .inl (ca 0, 76, .inl (fun _ => 0))), (q78, .inl (ca 0, 76, .inl (fun _ => 0)))] H := hP
  have hD : va_D A [(h0, .inr (4, [.ref q7, .ref q15, .ref q23, .ref q31, .int 0, .int 0, .int 0, .int 0, .long 0, .int 0, .int 0, .ref q38, .ref q45, .ref q54, .ref q62, .ref q70, .ref q78, .int 0])), (q7, .inl (ca 0, 76, .inl (fR 5))), (q15, .inl (ca 0, 7, .inl (fun _ => 0))), (q23, .inl (ca 0, 76, .inl (fun _ => 0))), (q31, .inl (ca 0, 120, .inl (fun _ => 0))), (q38, .inl (ca 0, 4, .inl (fun _ => 0))), (q45, .inl (ca 0, 4, .inl (fun _ => 0))), (q54, .inl (ca 1, 160, .inr (.inl (fun _ => 0)))), (q62, .inl (ca 1, 40, .inr (.inl (fun _ => 0)))), (q70, .inl (ca 0, 76, .inl (fun _ => 0))), (q78, .inl (ca 0, 76, .inl (fun _ => 0)))] := hD
  refine lv_iinc (v := 5) (lv' := [(1, .int 5), (0, .ref h0)]) hx hb dX4_init_118 hl (k := 0) rfl (by decide) (by decide) rfl (fun ls hl => ?_)
  refine lv_goto (tgt := 85) hx hb dX4_init_121 (by decide) ?_
  refine lv_iload_n hx hb dX4_init_85 rfl (lv_at hl 0 rfl) ?_
  refine lv_bipush (v := 8) hx hb dX4_init_86 (by decide) ?_
  refine lv_icmp_ge (tgt := 124) hx hb dX4_init_88 (by decide) (fun h => absurd h (by decide)) (fun _ => ?_)
  refine lv_aload_n hx hb dX4_init_91 rfl (lv_at hl 1 rfl) ?_
  refine va_get (D := D) (ci := 4) (v := .ref q7) (C := RX4) (T := TX4) (N := 18) hx hb hts (fun w hw => List.mem_cons_of_mem _ (fw_4 w hw)) hown hK hP 0 rfl rfl 0 (by decide) (hts (.fieldLink RX4 7 RX4 "row" "[I") (List.mem_cons_of_mem _ (na_mem (i := 710) (by decide +kernel) (by decide +kernel)))) (fun _ h9 => h9) rfl dX4_init_92 ?_
  refine lv_iconst (v := 4) hx hb dX4_init_95 (by decide) ?_
  refine lv_iconst (v := 4) hx hb dX4_init_96 (by decide) ?_
  refine lv_iload_n hx hb dX4_init_97 rfl (lv_at hl 0 rfl) ?_
  refine lv_imul hx hb dX4_init_98 ?_
  refine lv_topi (fun x9 e9 => ?_)
  rw [show x9 = 20 from e9.trans (by decide)]
  clear e9 x9
  refine lv_iadd hx hb dX4_init_99 ?_
  refine lv_topi (fun x9 e9 => ?_)
  rw [show x9 = 24 from e9.trans (by decide)]
  clear e9 x9
  refine lv_iconst (v := 0) hx hb dX4_init_100 (by decide) ?_
  refine lv_iadd hx hb dX4_init_101 ?_
  refine lv_topi (fun x9 e9 => ?_)
  rw [show x9 = 24 from e9.trans (by decide)]
  clear e9 x9
  refine lv_bipush (v := 100) hx hb dX4_init_102 (by decide) ?_
  refine ni_iast hx hb hK hP hD hS 1 0 rfl rfl (by unfold vp_in; decide) 24 (by decide) (show upd (fR 5) 24 100 = fR1 5 from rfl) dX4_init_104 (fun H locs hP hD hS => ?_)
  have hP : va_P D vwCl [(h0, .inr (4, [.ref q7, .ref q15, .ref q23, .ref q31, .int 0, .int 0, .int 0, .int 0, .long 0, .int 0, .int 0, .ref q38, .ref q45, .ref q54, .ref q62, .ref q70, .ref q78, .int 0])), (q7, .inl (ca 0, 76, .inl (fR1 5))), (q15, .inl (ca 0, 7, .inl (fun _ => 0))), (q23, .inl (ca 0, 76, .inl (fun _ => 0))), (q31, .inl (ca 0, 120, .inl (fun _ => 0))), (q38, .inl (ca 0, 4, .inl (fun _ => 0))), (q45, .inl (ca 0, 4, .inl (fun _ => 0))), (q54, .inl (ca 1, 160, .inr (.inl (fun _ => 0)))), (q62, .inl (ca 1, 40, .inr (.inl (fun _ => 0)))), (q70, .inl (ca 0, 76, .inl (fun _ => 0))), (q78, .inl (ca 0, 76, .inl (fun _ => 0)))] H := hP
  have hD : va_D A [(h0, .inr (4, [.ref q7, .ref q15, .ref q23, .ref q31, .int 0, .int 0, .int 0, .int 0, .long 0, .int 0, .int 0, .ref q38, .ref q45, .ref q54, .ref q62, .ref q70, .ref q78, .int 0])), (q7, .inl (ca 0, 76, .inl (fR1 5))), (q15, .inl (ca 0, 7, .inl (fun _ => 0))), (q23, .inl (ca 0, 76, .inl (fun _ => 0))), (q31, .inl (ca 0, 120, .inl (fun _ => 0))), (q38, .inl (ca 0, 4, .inl (fun _ => 0))), (q45, .inl (ca 0, 4, .inl (fun _ => 0))), (q54, .inl (ca 1, 160, .inr (.inl (fun _ => 0)))), (q62, .inl (ca 1, 40, .inr (.inl (fun _ => 0)))), (q70, .inl (ca 0, 76, .inl (fun _ => 0))), (q78, .inl (ca 0, 76, .inl (fun _ => 0)))] := hD
  refine lv_aload_n hx hb dX4_init_105 rfl (lv_at hl 1 rfl) ?_
  refine va_get (D := D) (ci := 4) (v := .ref q7) (C := RX4) (T := TX4) (N := 18) hx hb hts (fun w hw => List.mem_cons_of_mem _ (fw_4 w hw)) hown hK hP 0 rfl rfl 0 (by decide) (hts (.fieldLink RX4 7 RX4 "row" "[I") (List.mem_cons_of_mem _ (na_mem (i := 710) (by decide +kernel) (by decide +kernel)))) (fun _ h9 => h9) rfl dX4_init_106 ?_
  refine lv_iconst (v := 4) hx hb dX4_init_109 (by decide) ?_
  refine lv_iconst (v := 4) hx hb dX4_init_110 (by decide) ?_
  refine lv_iload_n hx hb dX4_init_111 rfl (lv_at hl 0 rfl) ?_
  refine lv_imul hx hb dX4_init_112 ?_
  refine lv_topi (fun x9 e9 => ?_)
  rw [show x9 = 20 from e9.trans (by decide)]
  clear e9 x9
  refine lv_iadd hx hb dX4_init_113 ?_
  refine lv_topi (fun x9 e9 => ?_)
  rw [show x9 = 24 from e9.trans (by decide)]
  clear e9 x9
  refine lv_iconst (v := 3) hx hb dX4_init_114 (by decide) ?_
  refine lv_iadd hx hb dX4_init_115 ?_
  refine lv_topi (fun x9 e9 => ?_)
  rw [show x9 = 27 from e9.trans (by decide)]
  clear e9 x9
  refine lv_iconst (v := 5) hx hb dX4_init_116 (by decide) ?_
  refine ni_iast hx hb hK hP hD hS 1 0 rfl rfl (by unfold vp_in; decide) 27 (by decide) (show upd (fR1 5) 27 5 = fR 6 from rfl) dX4_init_117 (fun H locs hP hD hS => ?_)
  have hP : va_P D vwCl [(h0, .inr (4, [.ref q7, .ref q15, .ref q23, .ref q31, .int 0, .int 0, .int 0, .int 0, .long 0, .int 0, .int 0, .ref q38, .ref q45, .ref q54, .ref q62, .ref q70, .ref q78, .int 0])), (q7, .inl (ca 0, 76, .inl (fR 6))), (q15, .inl (ca 0, 7, .inl (fun _ => 0))), (q23, .inl (ca 0, 76, .inl (fun _ => 0))), (q31, .inl (ca 0, 120, .inl (fun _ => 0))), (q38, .inl (ca 0, 4, .inl (fun _ => 0))), (q45, .inl (ca 0, 4, .inl (fun _ => 0))), (q54, .inl (ca 1, 160, .inr (.inl (fun _ => 0)))), (q62, .inl (ca 1, 40, .inr (.inl (fun _ => 0)))), (q70, .inl (ca 0, 76, .inl (fun _ => 0))), (q78, .inl (ca 0, 76, .inl (fun _ => 0)))] H := hP
  have hD : va_D A [(h0, .inr (4, [.ref q7, .ref q15, .ref q23, .ref q31, .int 0, .int 0, .int 0, .int 0, .long 0, .int 0, .int 0, .ref q38, .ref q45, .ref q54, .ref q62, .ref q70, .ref q78, .int 0])), (q7, .inl (ca 0, 76, .inl (fR 6))), (q15, .inl (ca 0, 7, .inl (fun _ => 0))), (q23, .inl (ca 0, 76, .inl (fun _ => 0))), (q31, .inl (ca 0, 120, .inl (fun _ => 0))), (q38, .inl (ca 0, 4, .inl (fun _ => 0))), (q45, .inl (ca 0, 4, .inl (fun _ => 0))), (q54, .inl (ca 1, 160, .inr (.inl (fun _ => 0)))), (q62, .inl (ca 1, 40, .inr (.inl (fun _ => 0)))), (q70, .inl (ca 0, 76, .inl (fun _ => 0))), (q78, .inl (ca 0, 76, .inl (fun _ => 0)))] := hD
  refine lv_iinc (v := 6) (lv' := [(1, .int 6), (0, .ref h0)]) hx hb dX4_init_118 hl (k := 0) rfl (by decide) (by decide) rfl (fun ls hl => ?_)
  refine lv_goto (tgt := 85) hx hb dX4_init_121 (by decide) ?_
  refine lv_iload_n hx hb dX4_init_85 rfl (lv_at hl 0 rfl) ?_
  refine lv_bipush (v := 8) hx hb dX4_init_86 (by decide) ?_
  refine lv_icmp_ge (tgt := 124) hx hb dX4_init_88 (by decide) (fun h => absurd h (by decide)) (fun _ => ?_)
  refine lv_aload_n hx hb dX4_init_91 rfl (lv_at hl 1 rfl) ?_
  refine va_get (D := D) (ci := 4) (v := .ref q7) (C := RX4) (T := TX4) (N := 18) hx hb hts (fun w hw => List.mem_cons_of_mem _ (fw_4 w hw)) hown hK hP 0 rfl rfl 0 (by decide) (hts (.fieldLink RX4 7 RX4 "row" "[I") (List.mem_cons_of_mem _ (na_mem (i := 710) (by decide +kernel) (by decide +kernel)))) (fun _ h9 => h9) rfl dX4_init_92 ?_
  refine lv_iconst (v := 4) hx hb dX4_init_95 (by decide) ?_
  refine lv_iconst (v := 4) hx hb dX4_init_96 (by decide) ?_
  refine lv_iload_n hx hb dX4_init_97 rfl (lv_at hl 0 rfl) ?_
  refine lv_imul hx hb dX4_init_98 ?_
  refine lv_topi (fun x9 e9 => ?_)
  rw [show x9 = 24 from e9.trans (by decide)]
  clear e9 x9
  refine lv_iadd hx hb dX4_init_99 ?_
  refine lv_topi (fun x9 e9 => ?_)
  rw [show x9 = 28 from e9.trans (by decide)]
  clear e9 x9
  refine lv_iconst (v := 0) hx hb dX4_init_100 (by decide) ?_
  refine lv_iadd hx hb dX4_init_101 ?_
  refine lv_topi (fun x9 e9 => ?_)
  rw [show x9 = 28 from e9.trans (by decide)]
  clear e9 x9
  refine lv_bipush (v := 100) hx hb dX4_init_102 (by decide) ?_
  refine ni_iast hx hb hK hP hD hS 1 0 rfl rfl (by unfold vp_in; decide) 28 (by decide) (show upd (fR 6) 28 100 = fR1 6 from rfl) dX4_init_104 (fun H locs hP hD hS => ?_)
  have hP : va_P D vwCl [(h0, .inr (4, [.ref q7, .ref q15, .ref q23, .ref q31, .int 0, .int 0, .int 0, .int 0, .long 0, .int 0, .int 0, .ref q38, .ref q45, .ref q54, .ref q62, .ref q70, .ref q78, .int 0])), (q7, .inl (ca 0, 76, .inl (fR1 6))), (q15, .inl (ca 0, 7, .inl (fun _ => 0))), (q23, .inl (ca 0, 76, .inl (fun _ => 0))), (q31, .inl (ca 0, 120, .inl (fun _ => 0))), (q38, .inl (ca 0, 4, .inl (fun _ => 0))), (q45, .inl (ca 0, 4, .inl (fun _ => 0))), (q54, .inl (ca 1, 160, .inr (.inl (fun _ => 0)))), (q62, .inl (ca 1, 40, .inr (.inl (fun _ => 0)))), (q70, .inl (ca 0, 76, .inl (fun _ => 0))), (q78, .inl (ca 0, 76, .inl (fun _ => 0)))] H := hP
  have hD : va_D A [(h0, .inr (4, [.ref q7, .ref q15, .ref q23, .ref q31, .int 0, .int 0, .int 0, .int 0, .long 0, .int 0, .int 0, .ref q38, .ref q45, .ref q54, .ref q62, .ref q70, .ref q78, .int 0])), (q7, .inl (ca 0, 76, .inl (fR1 6))), (q15, .inl (ca 0, 7, .inl (fun _ => 0))), (q23, .inl (ca 0, 76, .inl (fun _ => 0))), (q31, .inl (ca 0, 120, .inl (fun _ => 0))), (q38, .inl (ca 0, 4, .inl (fun _ => 0))), (q45, .inl (ca 0, 4, .inl (fun _ => 0))), (q54, .inl (ca 1, 160, .inr (.inl (fun _ => 0)))), (q62, .inl (ca 1, 40, .inr (.inl (fun _ => 0)))), (q70, .inl (ca 0, 76, .inl (fun _ => 0))), (q78, .inl (ca 0, 76, .inl (fun _ => 0)))] := hD
  refine lv_aload_n hx hb dX4_init_105 rfl (lv_at hl 1 rfl) ?_
  refine va_get (D := D) (ci := 4) (v := .ref q7) (C := RX4) (T := TX4) (N := 18) hx hb hts (fun w hw => List.mem_cons_of_mem _ (fw_4 w hw)) hown hK hP 0 rfl rfl 0 (by decide) (hts (.fieldLink RX4 7 RX4 "row" "[I") (List.mem_cons_of_mem _ (na_mem (i := 710) (by decide +kernel) (by decide +kernel)))) (fun _ h9 => h9) rfl dX4_init_106 ?_
  refine lv_iconst (v := 4) hx hb dX4_init_109 (by decide) ?_
  refine lv_iconst (v := 4) hx hb dX4_init_110 (by decide) ?_
  refine lv_iload_n hx hb dX4_init_111 rfl (lv_at hl 0 rfl) ?_
  refine lv_imul hx hb dX4_init_112 ?_
  refine lv_topi (fun x9 e9 => ?_)
  rw [show x9 = 24 from e9.trans (by decide)]
  clear e9 x9
  refine lv_iadd hx hb dX4_init_113 ?_
  refine lv_topi (fun x9 e9 => ?_)
  rw [show x9 = 28 from e9.trans (by decide)]
  clear e9 x9
  refine lv_iconst (v := 3) hx hb dX4_init_114 (by decide) ?_
  refine lv_iadd hx hb dX4_init_115 ?_
  refine lv_topi (fun x9 e9 => ?_)
  rw [show x9 = 31 from e9.trans (by decide)]
  clear e9 x9
  refine lv_iconst (v := 5) hx hb dX4_init_116 (by decide) ?_
  refine ni_iast hx hb hK hP hD hS 1 0 rfl rfl (by unfold vp_in; decide) 31 (by decide) (show upd (fR1 6) 31 5 = fR 7 from rfl) dX4_init_117 (fun H locs hP hD hS => ?_)
  have hP : va_P D vwCl [(h0, .inr (4, [.ref q7, .ref q15, .ref q23, .ref q31, .int 0, .int 0, .int 0, .int 0, .long 0, .int 0, .int 0, .ref q38, .ref q45, .ref q54, .ref q62, .ref q70, .ref q78, .int 0])), (q7, .inl (ca 0, 76, .inl (fR 7))), (q15, .inl (ca 0, 7, .inl (fun _ => 0))), (q23, .inl (ca 0, 76, .inl (fun _ => 0))), (q31, .inl (ca 0, 120, .inl (fun _ => 0))), (q38, .inl (ca 0, 4, .inl (fun _ => 0))), (q45, .inl (ca 0, 4, .inl (fun _ => 0))), (q54, .inl (ca 1, 160, .inr (.inl (fun _ => 0)))), (q62, .inl (ca 1, 40, .inr (.inl (fun _ => 0)))), (q70, .inl (ca 0, 76, .inl (fun _ => 0))), (q78, .inl (ca 0, 76, .inl (fun _ => 0)))] H := hP
  have hD : va_D A [(h0, .inr (4, [.ref q7, .ref q15, .ref q23, .ref q31, .int 0, .int 0, .int 0, .int 0, .long 0, .int 0, .int 0, .ref q38, .ref q45, .ref q54, .ref q62, .ref q70, .ref q78, .int 0])), (q7, .inl (ca 0, 76, .inl (fR 7))), (q15, .inl (ca 0, 7, .inl (fun _ => 0))), (q23, .inl (ca 0, 76, .inl (fun _ => 0))), (q31, .inl (ca 0, 120, .inl (fun _ => 0))), (q38, .inl (ca 0, 4, .inl (fun _ => 0))), (q45, .inl (ca 0, 4, .inl (fun _ => 0))), (q54, .inl (ca 1, 160, .inr (.inl (fun _ => 0)))), (q62, .inl (ca 1, 40, .inr (.inl (fun _ => 0)))), (q70, .inl (ca 0, 76, .inl (fun _ => 0))), (q78, .inl (ca 0, 76, .inl (fun _ => 0)))] := hD
  refine lv_iinc (v := 7) (lv' := [(1, .int 7), (0, .ref h0)]) hx hb dX4_init_118 hl (k := 0) rfl (by decide) (by decide) rfl (fun ls hl => ?_)
  refine lv_goto (tgt := 85) hx hb dX4_init_121 (by decide) ?_
  refine lv_iload_n hx hb dX4_init_85 rfl (lv_at hl 0 rfl) ?_
  refine lv_bipush (v := 8) hx hb dX4_init_86 (by decide) ?_
  refine lv_icmp_ge (tgt := 124) hx hb dX4_init_88 (by decide) (fun h => absurd h (by decide)) (fun _ => ?_)
  refine lv_aload_n hx hb dX4_init_91 rfl (lv_at hl 1 rfl) ?_
  refine va_get (D := D) (ci := 4) (v := .ref q7) (C := RX4) (T := TX4) (N := 18) hx hb hts (fun w hw => List.mem_cons_of_mem _ (fw_4 w hw)) hown hK hP 0 rfl rfl 0 (by decide) (hts (.fieldLink RX4 7 RX4 "row" "[I") (List.mem_cons_of_mem _ (na_mem (i := 710) (by decide +kernel) (by decide +kernel)))) (fun _ h9 => h9) rfl dX4_init_92 ?_
  refine lv_iconst (v := 4) hx hb dX4_init_95 (by decide) ?_
  refine lv_iconst (v := 4) hx hb dX4_init_96 (by decide) ?_
  refine lv_iload_n hx hb dX4_init_97 rfl (lv_at hl 0 rfl) ?_
  refine lv_imul hx hb dX4_init_98 ?_
  refine lv_topi (fun x9 e9 => ?_)
  rw [show x9 = 28 from e9.trans (by decide)]
  clear e9 x9
  refine lv_iadd hx hb dX4_init_99 ?_
  refine lv_topi (fun x9 e9 => ?_)
  rw [show x9 = 32 from e9.trans (by decide)]
  clear e9 x9
  refine lv_iconst (v := 0) hx hb dX4_init_100 (by decide) ?_
  refine lv_iadd hx hb dX4_init_101 ?_
  refine lv_topi (fun x9 e9 => ?_)
  rw [show x9 = 32 from e9.trans (by decide)]
  clear e9 x9
  refine lv_bipush (v := 100) hx hb dX4_init_102 (by decide) ?_
  refine ni_iast hx hb hK hP hD hS 1 0 rfl rfl (by unfold vp_in; decide) 32 (by decide) (show upd (fR 7) 32 100 = fR1 7 from rfl) dX4_init_104 (fun H locs hP hD hS => ?_)
  have hP : va_P D vwCl [(h0, .inr (4, [.ref q7, .ref q15, .ref q23, .ref q31, .int 0, .int 0, .int 0, .int 0, .long 0, .int 0, .int 0, .ref q38, .ref q45, .ref q54, .ref q62, .ref q70, .ref q78, .int 0])), (q7, .inl (ca 0, 76, .inl (fR1 7))), (q15, .inl (ca 0, 7, .inl (fun _ => 0))), (q23, .inl (ca 0, 76, .inl (fun _ => 0))), (q31, .inl (ca 0, 120, .inl (fun _ => 0))), (q38, .inl (ca 0, 4, .inl (fun _ => 0))), (q45, .inl (ca 0, 4, .inl (fun _ => 0))), (q54, .inl (ca 1, 160, .inr (.inl (fun _ => 0)))), (q62, .inl (ca 1, 40, .inr (.inl (fun _ => 0)))), (q70, .inl (ca 0, 76, .inl (fun _ => 0))), (q78, .inl (ca 0, 76, .inl (fun _ => 0)))] H := hP
  have hD : va_D A [(h0, .inr (4, [.ref q7, .ref q15, .ref q23, .ref q31, .int 0, .int 0, .int 0, .int 0, .long 0, .int 0, .int 0, .ref q38, .ref q45, .ref q54, .ref q62, .ref q70, .ref q78, .int 0])), (q7, .inl (ca 0, 76, .inl (fR1 7))), (q15, .inl (ca 0, 7, .inl (fun _ => 0))), (q23, .inl (ca 0, 76, .inl (fun _ => 0))), (q31, .inl (ca 0, 120, .inl (fun _ => 0))), (q38, .inl (ca 0, 4, .inl (fun _ => 0))), (q45, .inl (ca 0, 4, .inl (fun _ => 0))), (q54, .inl (ca 1, 160, .inr (.inl (fun _ => 0)))), (q62, .inl (ca 1, 40, .inr (.inl (fun _ => 0)))), (q70, .inl (ca 0, 76, .inl (fun _ => 0))), (q78, .inl (ca 0, 76, .inl (fun _ => 0)))] := hD
  refine lv_aload_n hx hb dX4_init_105 rfl (lv_at hl 1 rfl) ?_
  refine va_get (D := D) (ci := 4) (v := .ref q7) (C := RX4) (T := TX4) (N := 18) hx hb hts (fun w hw => List.mem_cons_of_mem _ (fw_4 w hw)) hown hK hP 0 rfl rfl 0 (by decide) (hts (.fieldLink RX4 7 RX4 "row" "[I") (List.mem_cons_of_mem _ (na_mem (i := 710) (by decide +kernel) (by decide +kernel)))) (fun _ h9 => h9) rfl dX4_init_106 ?_
  refine lv_iconst (v := 4) hx hb dX4_init_109 (by decide) ?_
  refine lv_iconst (v := 4) hx hb dX4_init_110 (by decide) ?_
  refine lv_iload_n hx hb dX4_init_111 rfl (lv_at hl 0 rfl) ?_
  refine lv_imul hx hb dX4_init_112 ?_
  refine lv_topi (fun x9 e9 => ?_)
  rw [show x9 = 28 from e9.trans (by decide)]
  clear e9 x9
  refine lv_iadd hx hb dX4_init_113 ?_
  refine lv_topi (fun x9 e9 => ?_)
  rw [show x9 = 32 from e9.trans (by decide)]
  clear e9 x9
  refine lv_iconst (v := 3) hx hb dX4_init_114 (by decide) ?_
  refine lv_iadd hx hb dX4_init_115 ?_
  refine lv_topi (fun x9 e9 => ?_)
  rw [show x9 = 35 from e9.trans (by decide)]
  clear e9 x9
  refine lv_iconst (v := 5) hx hb dX4_init_116 (by decide) ?_
  refine ni_iast hx hb hK hP hD hS 1 0 rfl rfl (by unfold vp_in; decide) 35 (by decide) (show upd (fR1 7) 35 5 = fR 8 from rfl) dX4_init_117 (fun H locs hP hD hS => ?_)
  have hP : va_P D vwCl [(h0, .inr (4, [.ref q7, .ref q15, .ref q23, .ref q31, .int 0, .int 0, .int 0, .int 0, .long 0, .int 0, .int 0, .ref q38, .ref q45, .ref q54, .ref q62, .ref q70, .ref q78, .int 0])), (q7, .inl (ca 0, 76, .inl (fR 8))), (q15, .inl (ca 0, 7, .inl (fun _ => 0))), (q23, .inl (ca 0, 76, .inl (fun _ => 0))), (q31, .inl (ca 0, 120, .inl (fun _ => 0))), (q38, .inl (ca 0, 4, .inl (fun _ => 0))), (q45, .inl (ca 0, 4, .inl (fun _ => 0))), (q54, .inl (ca 1, 160, .inr (.inl (fun _ => 0)))), (q62, .inl (ca 1, 40, .inr (.inl (fun _ => 0)))), (q70, .inl (ca 0, 76, .inl (fun _ => 0))), (q78, .inl (ca 0, 76, .inl (fun _ => 0)))] H := hP
  have hD : va_D A [(h0, .inr (4, [.ref q7, .ref q15, .ref q23, .ref q31, .int 0, .int 0, .int 0, .int 0, .long 0, .int 0, .int 0, .ref q38, .ref q45, .ref q54, .ref q62, .ref q70, .ref q78, .int 0])), (q7, .inl (ca 0, 76, .inl (fR 8))), (q15, .inl (ca 0, 7, .inl (fun _ => 0))), (q23, .inl (ca 0, 76, .inl (fun _ => 0))), (q31, .inl (ca 0, 120, .inl (fun _ => 0))), (q38, .inl (ca 0, 4, .inl (fun _ => 0))), (q45, .inl (ca 0, 4, .inl (fun _ => 0))), (q54, .inl (ca 1, 160, .inr (.inl (fun _ => 0)))), (q62, .inl (ca 1, 40, .inr (.inl (fun _ => 0)))), (q70, .inl (ca 0, 76, .inl (fun _ => 0))), (q78, .inl (ca 0, 76, .inl (fun _ => 0)))] := hD
  refine lv_iinc (v := 8) (lv' := [(1, .int 8), (0, .ref h0)]) hx hb dX4_init_118 hl (k := 0) rfl (by decide) (by decide) rfl (fun ls hl => ?_)
  refine lv_goto (tgt := 85) hx hb dX4_init_121 (by decide) ?_
  refine lv_iload_n hx hb dX4_init_85 rfl (lv_at hl 0 rfl) ?_
  refine lv_bipush (v := 8) hx hb dX4_init_86 (by decide) ?_
  refine lv_icmp_ge (tgt := 124) hx hb dX4_init_88 (by decide) (fun _ => ?_) (fun h => absurd (by decide) h)
  have hP9 : va_P D vwCl (wX4 ca h0 (ni_pk [0, q7, q15, q23, q31, q38, q45, q54, q62, q70, q78])) H := hP
  have hD9 : va_D A (wX4 ca h0 (ni_pk [0, q7, q15, q23, q31, q38, q45, q54, q62, q70, q78])) := hD
  exact W.vret hx hb hr (fun t ht hW => ⟨⟨ni_pk [0, q7, q15, q23, q31, q38, q45, q54, q62, q70, q78], rfl, trivial, by rw [ht]; exact hP9, hD9⟩, hS.F ht⟩) hS.2.2 dX4_init_124
