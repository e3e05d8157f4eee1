/-! The one state that both objects show. -/
/-- a command of a test or value, as the class has it: the ordinal of its kind (3 a number, 7 a flock asked for, 8 not, 11 .. 14 a field, else what joins) and a number -/
abbrev Cmd : Type := Nat × Int32
/-- a window: start, end, how many, what they make -/
abbrev Win : Type := Int32 × Int32 × Int32 × Int32
/-- a goose: its flock, how wide, its step (0: with a gap), what it tells (0 count, 1 sum, 2 most, 3 least), of what -/
abbrev Gs : Type := Nat × Nat × Nat × Nat × List Cmd
/-- a book: the moon's numbers, the flocks' tests, the geese -/
abbrev Bk : Type := List Int32 × List (List Cmd) × List Gs
/-- what the commands that join are in the model -/
def mOp (k : Nat) : Int32 := if k = 35 then 2 else if k = 36 then 3 else if k = 37 then 4 else if k = 32 then 5 else if k = 33 then 6 else if k = 34 then 7 else if k = 9 then 10 else 11
def mCmd (c : Cmd) : List Int32 := if c.1 = 3 then [0, c.2] else if c.1 = 7 then [8, c.2] else if c.1 = 8 then [9] else if 11 ≤ c.1 ∧ c.1 ≤ 14 then [1, Int32.ofNat (c.1 - 11)] else [mOp c.1]
/-- a program from place i on in the class's rows (p: the program's cell) -/
def pgC (h : PH) (p i : Nat) (l : List Cmd) : Prop := ∀ (j : Nat) (c : Cmd), l[j]? = some c → h.2.2.1 (p + 1) (i + j) = (40, 0, c.1) ∧ h.1 (p + 2) (i + j) = c.2
/-- .. and in the model's -/
def pgM (h : PH) (a i : Nat) (l : List Cmd) : Prop := ∀ (j : Nat) (v : Int32), (l.flatMap mCmd)[j]? = some v → h.1 a (i + j) = v
/-- the state: tape, error's place, book, commas (hour, takers), nights, greatest hour, watermark, open windows a goose, too late a goose, tellings -/
abbrev Sta : Type := List Int32 × Int32 × Bk × List (Int32 × Int32) × Nat × Int32 × Int32 × List (List Win) × List Int32 × List (Nat × Win)
def tpS (S : Sta) : List Int32 := S.1
def eaS (S : Sta) : Int32 := S.2.1
def bkS (S : Sta) : Bk := S.2.2.1
def csS (S : Sta) : List (Int32 × Int32) := S.2.2.2.1
def ntS (S : Sta) : Nat := S.2.2.2.2.1
def grS (S : Sta) : Int32 := S.2.2.2.2.2.1
def wmS (S : Sta) : Int32 := S.2.2.2.2.2.2.1
def wsS2 (S : Sta) : List (List Win) := S.2.2.2.2.2.2.2.1
def ltS (S : Sta) : List Int32 := S.2.2.2.2.2.2.2.2.1
def tlS (S : Sta) : List (Nat × Win) := S.2.2.2.2.2.2.2.2.2
/-- a list of ints from place i on in row a -/
def rowI (h : PH) (a i : Nat) (l : List Int32) : Prop := ∀ (j : Nat) (v : Int32), l[j]? = some v → h.1 a (i + j) = v
def i3 (n : Nat) : Int32 := Int32.ofNat n
/-- what a goose tells, as the class has it -/
def tOrd (t : Nat) : Nat := 21 + t
/-- the class's book at b -/
def bkC (h : PH) (b : Nat) (B : Bk) : Prop :=
  ((h.1 b 5 = 0 ∧ B.1 = [5]) ∨ (h.1 b 5 = i3 B.1.length ∧ rowI h (b + 1) 0 B.1)) ∧
  h.1 b 6 = i3 B.2.1.length ∧ h.1 b 7 = i3 B.2.2.length ∧
  (∀ (f : Nat) (l : List Cmd), B.2.1[f]? = some l → ∃ i, i + l.length ≤ 400 ∧ h.1 (b + 2) f = i3 i ∧ h.1 (b + 3) f = i3 (i + l.length) ∧ pgC h (b + 5) i l) ∧
  (∀ (g : Nat) (G : Gs), B.2.2[g]? = some G → h.1 (b + 9 + g) 0 = i3 G.1 ∧ h.1 (b + 9 + g) 1 = (if G.2.2.1 = 0 then 1 else 0) ∧ h.1 (b + 9 + g) 2 = i3 G.2.1 ∧ h.1 (b + 9 + g) 3 = (if G.2.2.1 = 0 then 1 else i3 G.2.2.1) ∧ h.2.2.1 (b + 9 + g) 4 = (40, 0, tOrd G.2.2.2.1) ∧
    ∃ i, i + G.2.2.2.2.length ≤ 400 ∧ h.1 (b + 9 + g) 5 = i3 i ∧ h.1 (b + 9 + g) 6 = i3 (i + G.2.2.2.2.length) ∧ pgC h (b + 5) i G.2.2.2.2)
/-- the model's book -/
def bkM (h : PH) (B : Bk) : Prop :=
  h.1 93 0 = i3 B.2.1.length ∧ h.1 93 1 = i3 B.2.2.length ∧ h.1 93 2 = i3 B.1.length ∧ rowI h 93 3 B.1 ∧
  (∀ (f : Nat) (l : List Cmd), B.2.1[f]? = some l → ∃ i, i + (l.flatMap mCmd).length ≤ 1024 ∧ h.1 93 (11 + 2 * f) = i3 i ∧ h.1 93 (12 + 2 * f) = i3 (i + (l.flatMap mCmd).length) ∧ pgM h 94 i l) ∧
  (∀ (g : Nat) (G : Gs), B.2.2[g]? = some G → h.1 93 (27 + 6 * g) = i3 G.1 ∧ h.1 93 (28 + 6 * g) = i3 G.2.1 ∧ h.1 93 (29 + 6 * g) = i3 G.2.2.1 ∧ h.1 93 (30 + 6 * g) = i3 G.2.2.2.1 ∧
    ∃ i, i + (G.2.2.2.2.flatMap mCmd).length ≤ 1024 ∧ h.1 93 (31 + 6 * g) = i3 i ∧ h.1 93 (32 + 6 * g) = i3 (i + (G.2.2.2.2.flatMap mCmd).length) ∧ pgM h 94 i G.2.2.2.2)
/-- windows as the model's row has them: goose, start, end, how many, what they make -/
def wRow (l : List (Nat × Win)) : List Int32 := l.flatMap fun q => [i3 q.1, q.2.1, q.2.2.1, q.2.2.2.1, q.2.2.2.2]
def wAll (ws : List (List Win)) : List (Nat × Win) := (List.range ws.length).flatMap fun g => (ws.getD g []).map fun w => (g, w)
/-- the class's object shows S; b: its book in use, b2: the teacher's; q: the rows of what was told, of n places -/
def RC (h : PH) (b b2 n : Nat) (q : Nat → Nat) (S : Sta) : Prop :=
  (h.1 4 1 = i3 (tpS S).length ∧ rowI h 5 0 (tpS S)) ∧ h.1 2 7 = eaS S ∧
  ((b = 13 ∧ b2 = 68) ∨ (b = 68 ∧ b2 = 13)) ∧ h.2.2.1 1 7 = (2, 0, b) ∧ h.2.2.1 2 4 = (2, 0, b2) ∧ bkC h b (bkS S) ∧
  (h.1 1 8 = i3 (csS S).length ∧ rowI h 29 0 ((csS S).map Prod.fst) ∧ rowI h 30 0 ((csS S).map Prod.snd)) ∧
  h.1 1 9 = i3 (ntS S) ∧ h.1 1 10 = grS S ∧ h.1 1 11 = wmS S ∧
  (∀ (g : Nat) (l : List Win), (wsS2 S)[g]? = some l → h.1 (32 + 5 * g) 4 = i3 l.length ∧ rowI h (33 + 5 * g) 0 (l.map fun w => w.1) ∧ rowI h (34 + 5 * g) 0 (l.map fun w => w.2.1) ∧ rowI h (35 + 5 * g) 0 (l.map fun w => w.2.2.1) ∧ rowI h (36 + 5 * g) 0 (l.map fun w => w.2.2.2)) ∧
  (∀ (g : Nat) (v : Int32), (ltS S)[g]? = some v → h.1 (32 + 5 * g) 5 = v) ∧
  (h.1 62 5 = i3 (tlS S).length ∧ (tlS S).length ≤ n ∧ (∀ k, k < 5 → h.2.2.1 62 k = (20, n, q k)) ∧
    rowI h (q 0) 0 ((tlS S).map fun t => i3 t.1) ∧ rowI h (q 1) 0 ((tlS S).map fun t => t.2.1) ∧ rowI h (q 2) 0 ((tlS S).map fun t => t.2.2.1) ∧ rowI h (q 3) 0 ((tlS S).map fun t => t.2.2.2.1) ∧ rowI h (q 4) 0 ((tlS S).map fun t => t.2.2.2.2))
/-- the model shows S; o, t: its rows of open windows and of tellings, of no and nt places -/
def RM2 (h : PH) (o no t nt : Nat) (S : Sta) : Prop :=
  (h.1 83 2 = i3 (tpS S).length ∧ rowI h 84 0 (tpS S)) ∧ h.1 83 11 = eaS S ∧ bkM h (bkS S) ∧
  (h.1 83 21 = i3 (csS S).length ∧ rowI h 96 0 ((csS S).map Prod.fst) ∧ rowI h 97 0 ((csS S).map Prod.snd)) ∧
  h.1 83 25 = i3 (ntS S) ∧ h.1 83 26 = grS S ∧ h.1 83 27 = wmS S ∧ rowI h 99 0 (ltS S) ∧
  (h.2.2.1 83 29 = (20, no, o) ∧ h.1 83 30 = i3 (wAll (wsS2 S)).length ∧ 5 * (wAll (wsS2 S)).length ≤ no ∧ rowI h o 0 (wRow (wAll (wsS2 S)))) ∧
  (h.2.2.1 83 31 = (20, nt, t) ∧ h.1 83 32 = i3 (tlS S).length ∧ 5 * (tlS S).length ≤ nt ∧ rowI h t 0 (wRow (tlS S)))
