/-! THE SMALL MACHINE. A memory of ints I and a memory of longs J, by places; places 0 to 53 are the cells of the class and of the reference, read-only places lie above.
na_stp: what one instruction asks of the memory, goal first; na_wp: a stretch of instructions; both are tied to W in part 03. -/
abbrev Mm : Type := Nat → Nat → Int32
abbrev Ml : Type := Nat → Nat → Int64
abbrev Lo : Type := List (Option Value)
/-- what a cell is: an array (0 ints, 1 longs, 2 the row of sheets; its length) or an object (its class, its fields: 0 an int, 1 a long, n + 2 the cell at place n) -/
abbrev Ly : Type := (Nat × Nat) ⊕ (Nat × List Nat)
/-- an instruction: where it stands, its length, itself, hints (numbers, for the check), its constants -/
abbrev En : Type := Nat × Nat × Instr × List Nat × Int32 × Int64
def jmin (x y : Int32) : Int32 := if y < x then y else x
def jmax (x y : Int32) : Int32 := if x < y then y else x
def na_set (I : Mm) (k j : Nat) (v : Int32) : Mm := fun a => if a = k then upd (I k) j v else I a
def na_setL (J : Ml) (k j : Nat) (v : Int64) : Ml := fun a => if a = k then vp_updL (J k) j v else J a
def na_cpI (I : Mm) (a d sp dp n : Nat) : Mm := fun b => if b = d then va_cpy (I a) (I d) sp dp n else I b
def na_cpL (J : Ml) (a d sp dp n : Nat) : Ml := fun b => if b = d then va_cpy (J a) (J d) sp dp n else J b
def na_nth {α : Type} : List α → Nat → Option α
  | [], _ => none
  | a :: _, 0 => some a
  | _ :: r, n + 1 => na_nth r n
def na_dr {α : Type} : Nat → List α → List α
  | 0, l => l
  | _ + 1, [] => []
  | n + 1, _ :: r => na_dr n r
/-- places: 0 the class; 1, 11, 21 its three nights (night, kept, ahead), each an object and nine rows; 31, 32 the tape; 33 the row of sheets; 34 .. 41 four sheets, each an object and its numbers; 42 answered; 43 the reference; 44 .. 53 its rows -/
def na_lay : List Ly :=
  [.inr (3, [3, 13, 23, 0, 33, 35, 44]),
   .inr (0, [4, 5, 6, 7, 0, 0, 0, 0, 8, 9, 10, 11, 12]), .inl (0, 8), .inl (0, 8), .inl (0, 8), .inl (0, 8), .inl (0, 8), .inl (0, 8), .inl (0, 8), .inl (0, 8), .inl (0, 8),
   .inr (0, [14, 15, 16, 17, 0, 0, 0, 0, 18, 19, 20, 21, 22]), .inl (0, 8), .inl (0, 8), .inl (0, 8), .inl (0, 8), .inl (0, 8), .inl (0, 8), .inl (0, 8), .inl (0, 8), .inl (0, 8),
   .inr (0, [24, 25, 26, 27, 0, 0, 0, 0, 28, 29, 30, 31, 32]), .inl (0, 8), .inl (0, 8), .inl (0, 8), .inl (0, 8), .inl (0, 8), .inl (0, 8), .inl (0, 8), .inl (0, 8), .inl (0, 8),
   .inr (2, [34, 0, 0, 0, 0, 0]), .inl (0, 120),
   .inl (2, 4),
   .inr (1, [37, 0, 0]), .inl (1, 40), .inr (1, [39, 0, 0]), .inl (1, 40), .inr (1, [41, 0, 0]), .inl (1, 40), .inr (1, [43, 0, 0]), .inl (1, 40),
   .inl (0, 7),
   .inr (4, [46, 47, 48, 49, 0, 0, 0, 0, 1, 0, 0, 50, 51, 52, 53, 54, 55, 0]), .inl (0, 76), .inl (0, 7), .inl (0, 76), .inl (0, 120), .inl (0, 4), .inl (0, 4), .inl (1, 160), .inl (1, 40), .inl (0, 76), .inl (0, 76)]

/-- the place of sheet j -/
def na_shp (j : Nat) : Nat := 34 + 2 * j
/-- a value of the small machine in the true one: places become addresses; 90 is a value that nobody asks for -/
def na_tv (ad : Nat → Nat) (fm : Value) : Value → Value
  | .ref a => if a = 90 then fm else .ref (ad a)
  | v => v
def na_fw (I : Mm) (J : Ml) (k j : Nat) : Nat → Value
  | 0 => .int (I k j)
  | 1 => .long (J k j)
  | n + 2 => .ref n
def na_fv (ad : Nat → Nat) (I : Mm) (J : Ml) (k j : Nat) : Nat → Value
  | 0 => .int (I k j)
  | 1 => .long (J k j)
  | n + 2 => .ref (ad n)
def na_fs (ad : Nat → Nat) (I : Mm) (J : Ml) (k : Nat) : Nat → List Nat → List Value
  | _, [] => []
  | j, c :: r => na_fv ad I J k j c :: na_fs ad I J k (j + 1) r
def na_ce (ca ad : Nat → Nat) (I : Mm) (J : Ml) (k : Nat) (e : Ly) : va_E := match e with
  | .inl (0, n) => .inl (ca 0, n, .inl (I k))
  | .inl (1, n) => .inl (ca 1, n, .inr (.inl (J k)))
  | .inl (_ + 2, n) => .inl (ca 2, n, .inr (.inr (.inr (.inr (fun j => some (ad (na_shp j)))))))
  | .inr (c, fs) => .inr (c, na_fs ad I J k 0 fs)
def na_ws (ca ad : Nat → Nat) (I : Mm) (J : Ml) : Nat → List Ly → va_W
  | _, [] => []
  | k, e :: r => (ad k, na_ce ca ad I J k e) :: na_ws ca ad I J (k + 1) r
/-! read-only places: 60 .. 64 the class's tables, 70 the script, 100 .. 116 the words, 120 .. 136 their letters -/
def na_lst (l : List Int32) : Nat → Int32 := fun j => l.getD j 0
def na_sa (sx : Nat × (Nat → Int32)) : Nat → Option (Nat × (Nat → Int32))
  | 60 => some (4, na_lst [9999, 9999, 99, 9])
  | 61 => some (5, na_lst [0, 0, 1, 0, 0])
  | 62 => some (5, na_lst [5, 7, 20, 999, 1])
  | 63 => some (6, na_lst [-1, 0, 0, 0, 1, 2])
  | 64 => some (7, na_lst [1, 1, 2, 6, 24, 120, 720])
  | 70 => some sx
  | _ => none
def na_wd : List (Nat × String × List Int32) :=
  [(66, "person", [112, 101, 114, 115, 111, 110]), (68, "dancer", [100, 97, 110, 99, 101, 114]), (70, "sleeper", [115, 108, 101, 101, 112, 101, 114]), (72, "holder", [104, 111, 108, 100, 101, 114]), (74, "choir", [99, 104, 111, 105, 114]), (76, "dreamer", [100, 114, 101, 97, 109, 101, 114]),
   (84, "in", [105, 110]), (93, "need", [110, 101, 101, 100]), (43, "room", [114, 111, 111, 109]), (99, "air", [97, 105, 114]), (105, "frost", [102, 114, 111, 115, 116]), (107, "fire", [102, 105, 114, 101]), (109, "tight", [116, 105, 103, 104, 116]), (52, "open", [111, 112, 101, 110]), (57, "shut", [115, 104, 117, 116]), (59, "cold", [99, 111, 108, 100]), (64, "mild", [109, 105, 108, 100])]
/-- the letters of the word at place 120 + i -/
def na_sb (a : Nat) : Option (Nat × (Nat → Int32)) := if a < 120 then none else match na_nth na_wd (a - 120) with
  | some w => some (w.2.2.length, na_lst w.2.2)
  | none => none
def na_st : List (String × String × String × Value) :=
  [(RX3, "MOST_OF_ROOM", "[I", .ref 60), (RX3, "LEAST_OF_ONE", "[I", .ref 61), (RX3, "MOST_OF_ONE", "[I", .ref 62), (RX3, "UNDER", "[I", .ref 63), (RX3, "ORDERS", "[I", .ref 64), (RJ0, "COMPACT_STRINGS", "Z", .int 1), (RJ3, "SIOOBE_FORMATTER", "Ljava/util/function/BiFunction;", .ref 90)]
/-! the stack and the locals -/
def na_pI (st : List Value) (k : Int32 → List Value → Prop) : Prop := match st with
  | .int x :: r => k x r
  | _ => False
def na_pL (st : List Value) (k : Int64 → List Value → Prop) : Prop := match st with
  | .long x :: r => k x r
  | _ => False
def na_pR (st : List Value) (k : Nat → List Value → Prop) : Prop := match st with
  | .ref x :: r => k x r
  | _ => False
def na_p1 (st : List Value) (k : Value → List Value → Prop) : Prop := match st with
  | .int x :: r => k (.int x) r
  | .ref x :: r => k (.ref x) r
  | _ => False
def na_ld (l : Option (Option Value)) (k : Value → Prop) : Prop := match l with
  | some (some v) => k v
  | _ => False
/-- a store; the long that it cuts in two is gone -/
def na_s1 : Lo → Nat → Value → Lo
  | [], _, _ => []
  | _ :: r, 0, v => some v :: r
  | x :: r, 1, v => (match x with
    | some (.long _) => none
    | some (.double _) => none
    | y => y) :: na_s1 r 0 v
  | x :: r, i + 2, v => x :: na_s1 r (i + 1) v
def na_n1 : Lo → Lo
  | [] => []
  | _ :: r => none :: r
def na_s2 : Lo → Nat → Value → Lo
  | [], _, _ => []
  | _ :: r, 0, v => some v :: na_n1 r
  | x :: r, 1, v => (match x with
    | some (.long _) => none
    | some (.double _) => none
    | y => y) :: na_s2 r 0 v
  | x :: r, i + 2, v => x :: na_s2 r (i + 1) v
def na_tk : Nat → List Value → List Value → (List Value → List Value → Prop) → Prop
  | 0, acc, st, k => k acc st
  | n + 1, acc, v :: st, k => na_tk n (v :: acc) st k
  | _ + 1, _, [], _ => False
def na_cat (st : List Value) : Nat := (st.map fun v => v.category).sum
def na_nl (ty : FieldType) (v : Int32) : Prop := match ty with
  | .int => True
  | t => narrow t (.int v) = .int v
def na_h0 (h : List Nat) : Nat := match h with
  | [] => 0
  | a :: _ => a
def na_h1 (h : List Nat) : Nat := na_h0 h.tail
def na_h2 (h : List Nat) : Nat := na_h0 h.tail.tail
/-- an int row at a place: its length, its numbers -/
def na_ar (sx : Nat × (Nat → Int32)) (I : Mm) (a : Nat) (k : Nat → (Nat → Int32) → Prop) : Prop := match na_nth na_lay a with
  | some (.inl (0, n)) => k n (I a)
  | some _ => False
  | none => match na_sa sx a with
    | some q => k q.1 q.2
    | none => False
