/-! The one state that both objects show. -/
/-- a command of a test or value: a number, a field of the comma, a flock asked for, or what joins -/
inductive Cmd
  | num (n : Int32)
  | fld (k : Nat)
  | ask (f : Int32)
  | neg
  | op (k : Nat)
/-- a window: start, end, how many, what they make -/
abbrev Win : Type := Int32 × Int32 × Int32 × Int32
/-- a goose: its flock, how wide, its step (0: with a gap), what it tells (0 count, 1 sum, 2 most, 3 least), of what -/
structure Gs where
  fl : Nat
  wd : Nat
  sp : Nat
  tl : Nat
  pg : List Cmd
structure Bk where
  ms : List Int32
  fs : List (List Cmd)
  gs : List Gs
structure Sta where
  tp : List Int32
  ea : Int32
  bk : Bk
  cs : List (Int32 × Int32)
  nt : Nat
  gr : Int32
  wm : Int32
  ws : List (List Win)
  lt : List Int32
  tl : List (Nat × Win)
/-- the cells of the class's objects: windows of a goose, books -/
def nW (g : Nat) : Nat := 32 + 5 * g
def bA (b : Nat) : Nat := b + 1
def bP (b : Nat) : Nat := b + 5
def bG (b g : Nat) : Nat := b + 9 + g
/-- a program of the class: kinds' numbers (enum ordinals) and numbers -/
def cOrd (c : Cmd) : Nat × Int32 := match c with
  | .num n => (3, n)
  | .fld k => (11 + k, 0)
  | .ask f => (7, f)
  | .neg => (8, 0)
  | .op k => (k, 0)
/-- the commands that join, by the class's ordinals: PLUS 35, MINUS 36, TIMES 37, LESS 32, GREATER 33, EQUAL 34, AND 9, OR 10; by the model's numbers 2 .. 7, 10, 11 -/
def mOp (k : Nat) : Int32 := if k = 35 then 2 else if k = 36 then 3 else if k = 37 then 4 else if k = 32 then 5 else if k = 33 then 6 else if k = 34 then 7 else if k = 9 then 10 else 11
def mCmd (c : Cmd) : List Int32 := match c with
  | .num n => [0, n]
  | .fld k => [1, Int32.ofNat k]
  | .ask f => [8, f]
  | .neg => [9]
  | .op k => [mOp k]
/-- a program from place i on in the class's rows (p: the program's cell) -/
def pgC (h : PH) (p i : Nat) (l : List Cmd) : Prop := ∀ (j : Nat) (c : Cmd), l[j]? = some c → h.2.2.1 (p + 1) (i + j) = (40, 0, (cOrd c).1) ∧ h.1 (p + 2) (i + j) = (cOrd c).2
/-- .. and in the model's rows -/
def pgM (h : PH) (a i : Nat) (l : List Cmd) : Prop := ∀ (j : Nat) (v : Int32), (l.flatMap mCmd)[j]? = some v → h.1 a (i + j) = v
