/-! The one state that both objects show. -/
/-- a command of a test or value, as the class has it: the ordinal of its kind (3 a number, 7 a flock asked for, 8 not, 11 .. 14 a field, else what joins) and a number -/
abbrev Cmd : Type := Nat × Int32
/-- a window: start, end, how many, what they make -/
abbrev Win : Type := Int32 × Int32 × Int32 × Int32
/-- a goose: its flock, how wide, its step (0: with a gap), what it tells (0 count, 1 sum, 2 most, 3 least), of what -/
abbrev Gs : Type := Nat × Nat × Nat × Nat × List Cmd
/-- a book: the moon's numbers, the flocks' tests, the geese -/
abbrev Bk : Type := List Int32 × List (List Cmd) × List Gs
/-- what the commands that join are in the model -/
def mOp (k : Nat) : Int32 := if k = 35 then 2 else if k = 36 then 3 else if k = 37 then 4 else if k = 32 then 5 else if k = 33 then 6 else if k = 34 then 7 else if k = 9 then 10 else 11
def mCmd (c : Cmd) : List Int32 := if c.1 = 3 then [0, c.2] else if c.1 = 7 then [8, c.2] else if c.1 = 8 then [9] else if 11 ≤ c.1 ∧ c.1 ≤ 14 then [1, Int32.ofNat (c.1 - 11)] else [mOp c.1]
/-- a program from place i on in the class's rows (p: the program's cell) -/
def pgC (h : PH) (p i : Nat) (l : List Cmd) : Prop := ∀ (j : Nat) (c : Cmd), l[j]? = some c → h.2.2.1 (p + 1) (i + j) = (40, 0, c.1) ∧ h.1 (p + 2) (i + j) = c.2
/-- .. and in the model's -/
def pgM (h : PH) (a i : Nat) (l : List Cmd) : Prop := ∀ (j : Nat) (v : Int32), (l.flatMap mCmd)[j]? = some v → h.1 a (i + j) = v
