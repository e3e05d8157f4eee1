/-! Tokens: what both sides read out of a tape. -/
abbrev Tok : Type := Nat × Int × Int × Int
def tk0 : Tok := (0, 0, 0, 0)
def isLt (c : Int) : Bool := decide (97 ≤ c ∧ c ≤ 122)
def isDg (c : Int) : Bool := decide (48 ≤ c ∧ c ≤ 57)
def isBk (c : Int) : Bool := decide (c = 32 ∨ c = 10)
theorem isLt_t {c : Int} : isLt c = true ↔ 97 ≤ c ∧ c ≤ 122 := decide_eq_true_iff
theorem isDg_t {c : Int} : isDg c = true ↔ 48 ≤ c ∧ c ≤ 57 := decide_eq_true_iff
theorem isBk_t {c : Int} : isBk c = true ↔ c = 32 ∨ c = 10 := decide_eq_true_iff
/-- the tape's byte -/
def by_ (tp : List Int) (k : Nat) : Int := tp.getD k 0
def rnF (f : Int → Bool) (tp : List Int) : Nat → Nat → Nat
  | 0, k => k
  | n + 1, k => if k < tp.length ∧ f (by_ tp k) = true then rnF f tp n (k + 1) else k
/-- how far it goes on -/
def rn (f : Int → Bool) (tp : List Int) (k : Nat) : Nat := rnF f tp (tp.length - k) k
theorem rn_s {f : Int → Bool} {tp : List Int} {k : Nat} (h : k < tp.length) (hf : f (by_ tp k) = true) : rn f tp k = rn f tp (k + 1) := by
  unfold rn
  rw [show tp.length - k = (tp.length - (k + 1)) + 1 by omega]
  exact if_pos ⟨h, hf⟩
theorem rn_e {f : Int → Bool} {tp : List Int} {k : Nat} (h : ¬ (k < tp.length ∧ f (by_ tp k) = true)) : rn f tp k = k := by
  unfold rn
  match hn : tp.length - k with
  | 0 => rfl
  | n + 1 => exact if_neg h
theorem rn_in {f : Int → Bool} {tp : List Int} (m : Nat) : ∀ k, tp.length < k + m → k ≤ rn f tp k ∧ (k ≤ tp.length → rn f tp k ≤ tp.length) ∧ (∀ j, k ≤ j → j < rn f tp k → j < tp.length ∧ f (by_ tp j) = true) ∧ ¬ (rn f tp k < tp.length ∧ f (by_ tp (rn f tp k)) = true) := by
  induction m with
  | zero =>
    intro k h
    rw [rn_e (fun z => by omega)]
    exact ⟨Nat.le_refl _, fun z => z, fun j a b => by omega, fun z => by omega⟩
  | succ m ih =>
    intro k h
    by_cases c : k < tp.length ∧ f (by_ tp k) = true
    · obtain ⟨i1, i2, i3, i4⟩ := ih (k + 1) (by omega)
      rw [rn_s c.1 c.2]
      refine ⟨by omega, fun _ => i2 (by omega), fun j a b => ?_, i4⟩
      by_cases e : j = k
      · subst e; exact c
      · exact i3 j (by omega) b
    · rw [rn_e c]
      exact ⟨Nat.le_refl _, fun z => z, fun j a b => by omega, c⟩
theorem rn_ge (f : Int → Bool) (tp : List Int) (k : Nat) : k ≤ rn f tp k := (rn_in (f := f) (tp := tp) (tp.length + 1) k (by omega)).1
theorem rn_le {f : Int → Bool} {tp : List Int} {k : Nat} (h : k ≤ tp.length) : rn f tp k ≤ tp.length := (rn_in (f := f) (tp := tp) (tp.length + 1) k (by omega)).2.1 h
theorem rn_all {f : Int → Bool} {tp : List Int} {k : Nat} : ∀ j, k ≤ j → j < rn f tp k → j < tp.length ∧ f (by_ tp j) = true := (rn_in (f := f) (tp := tp) (tp.length + 1) k (by omega)).2.2.1
theorem rn_stop (f : Int → Bool) (tp : List Int) (k : Nat) : ¬ (rn f tp k < tp.length ∧ f (by_ tp (rn f tp k)) = true) := (rn_in (f := f) (tp := tp) (tp.length + 1) k (by omega)).2.2.2
/-- the bytes from a on, n of them -/
def slc (tp : List Int) : Nat → Nat → List Int
  | 0, _ => []
  | n + 1, a => by_ tp a :: slc tp n (a + 1)
theorem slc_len (tp : List Int) : ∀ n a, (slc tp n a).length = n := by
  intro n
  induction n with
  | zero => intro a; rfl
  | succ n ih => intro a; show (slc tp n (a + 1)).length + 1 = n + 1; rw [ih]
theorem slc_get (tp : List Int) : ∀ n a j, j < n → (slc tp n a).getD j 0 = by_ tp (a + j) := by
  intro n
  induction n with
  | zero => intro a j h; omega
  | succ n ih =>
    intro a j h
    match j with
    | 0 => rfl
    | j + 1 =>
      show (slc tp n (a + 1)).getD j 0 = _
      rw [ih _ _ (by omega)]
      congr 1; omega
theorem slc_all {p : Int → Prop} (tp : List Int) : ∀ n a, (∀ j, a ≤ j → j < a + n → p (by_ tp j)) → ∀ c ∈ slc tp n a, p c := by
  intro n
  induction n with
  | zero => intro a _ c hc; exact absurd hc List.not_mem_nil
  | succ n ih =>
    intro a h c hc
    rcases List.mem_cons.mp hc with e | e
    · rw [e]; exact h a (Nat.le_refl _) (by omega)
    · exact ih (a + 1) (fun j h1 h2 => h j (by omega) (by omega)) c e
theorem slc_eq (tp : List Int) (t : List Int) : ∀ n a, slc tp n a = t ↔ (t.length = n ∧ ∀ j, j < n → by_ tp (a + j) = t.getD j 0) := by
  induction t with
  | nil =>
    intro n a
    match n with
    | 0 => exact ⟨fun _ => ⟨rfl, fun j h => absurd h (Nat.not_lt_zero _)⟩, fun _ => rfl⟩
    | n + 1 => exact ⟨fun h => (by cases h), fun h => absurd h.1 (by simp)⟩
  | cons x t ih =>
    intro n a
    match n with
    | 0 => exact ⟨fun h => (by cases h), fun h => absurd h.1 (by simp)⟩
    | n + 1 =>
      show by_ tp a :: slc tp n (a + 1) = x :: t ↔ _
      rw [List.cons.injEq, ih]
      constructor
      · intro ⟨h1, h2, h3⟩
        refine ⟨by show t.length + 1 = n + 1; omega, fun j hj => ?_⟩
        match j with
        | 0 => exact h1
        | j + 1 =>
          have := h3 j (by omega)
          rw [show a + (j + 1) = a + 1 + j by omega]
          exact this
      · intro ⟨h1, h2⟩
        refine ⟨h2 0 (by omega), by have : t.length + 1 = n + 1 := h1; omega, fun j hj => ?_⟩
        have := h2 (j + 1) (by omega)
        rw [show a + 1 + j = a + (j + 1) by omega]
        exact this
/-! Words as numbers. -/
def enF : List Int → Int → Int
  | [], w => w
  | c :: l, w => enF l (w * 32 + (c - 96))
def enc (l : List Int) : Int := enF l 0
def ltL (l : List Int) : Prop := ∀ c ∈ l, 97 ≤ c ∧ c ≤ 122
theorem enF_app (l : List Int) (c : Int) : ∀ w, enF (l ++ [c]) w = enF l w * 32 + (c - 96) := by
  induction l with
  | nil => intro w; rfl
  | cons x l ih => intro w; exact ih _
theorem enF_ge (l : List Int) : ∀ w, 0 ≤ w → ltL l → w ≤ enF l w := by
  induction l with
  | nil => intro w _ _; exact Int.le_refl _
  | cons x l ih =>
    intro w h1 h2
    have hx := h2 x List.mem_cons_self
    have i := ih (w * 32 + (x - 96)) (by omega) (fun c hc => h2 c (List.mem_cons_of_mem _ hc))
    show w ≤ enF l (w * 32 + (x - 96))
    omega
theorem enF_lt (l : List Int) : ∀ w B, 0 ≤ w → w + 1 ≤ B → ltL l → enF l w + 1 ≤ B * 32 ^ l.length := by
  induction l with
  | nil => intro w B _ h _; show w + 1 ≤ B * 1; omega
  | cons x l ih =>
    intro w B h1 h3 h2
    have hx := h2 x List.mem_cons_self
    have i := ih (w * 32 + (x - 96)) (B * 32) (by omega) (by omega) (fun c hc => h2 c (List.mem_cons_of_mem _ hc))
    show enF l (w * 32 + (x - 96)) + 1 ≤ B * 32 ^ (l.length + 1)
    rw [Int.pow_succ, Int.mul_comm (32 ^ l.length) 32, ← Int.mul_assoc]
    exact i
theorem enc_pos {l : List Int} (h : ltL l) (hn : l ≠ []) : 1 ≤ enc l := by
  match l with
  | [] => exact absurd rfl hn
  | x :: l =>
    have hx := h x List.mem_cons_self
    have i := enF_ge l (0 * 32 + (x - 96)) (by omega) (fun c hc => h c (List.mem_cons_of_mem _ hc))
    show 1 ≤ enF l (0 * 32 + (x - 96))
    omega
theorem enc_inj (n : Nat) : ∀ (a b : List Int), a.length ≤ n → ltL a → ltL b → enc a = enc b → a = b := by
  induction n with
  | zero =>
    intro a b hn ha hb h
    have ea : a = [] := List.eq_nil_of_length_eq_zero (by omega)
    subst ea
    by_cases c : b = []
    · rw [c]
    · have := enc_pos hb c
      have e0 : enc [] = 0 := rfl
      omega
  | succ n ih =>
    intro a b hn ha hb h
    by_cases ca : a = []
    · subst ca
      by_cases c : b = []
      · rw [c]
      · have := enc_pos hb c
        have e0 : enc [] = 0 := rfl
        omega
    · by_cases c : b = []
      · subst c
        have := enc_pos ha ca
        have e0 : enc [] = 0 := rfl
        omega
      · have ea := List.dropLast_concat_getLast ca
        have eb := List.dropLast_concat_getLast c
        have ha1 := ha _ (List.getLast_mem ca)
        have hb1 := hb _ (List.getLast_mem c)
        have ha2 : ltL a.dropLast := fun x hx => ha x (List.dropLast_subset a hx)
        have hb2 : ltL b.dropLast := fun x hx => hb x (List.dropLast_subset b hx)
        have ga := enF_app a.dropLast (a.getLast ca) 0
        have gb := enF_app b.dropLast (b.getLast c) 0
        rw [ea] at ga
        rw [eb] at gb
        replace h : enF a 0 = enF b 0 := h
        rw [ga, gb] at h
        have l0 := List.length_dropLast (xs := a)
        have i := ih a.dropLast b.dropLast (by omega) ha2 hb2 (show enF a.dropLast 0 = enF b.dropLast 0 by omega)
        have j : a.getLast ca = b.getLast c := by rw [i] at h; omega
        rw [← ea, ← eb, i, j]
def nbF : List Int → Int → Int
  | [], w => w
  | c :: l, w => nbF l (w * 10 + c - 48)
def dgL (l : List Int) : Prop := ∀ c ∈ l, 48 ≤ c ∧ c ≤ 57
theorem nbF_b (l : List Int) : ∀ w B, 0 ≤ w → w + 1 ≤ B → dgL l → 0 ≤ nbF l w ∧ nbF l w + 1 ≤ B * 10 ^ l.length := by
  induction l with
  | nil => intro w B h0 h _; exact ⟨h0, by show w + 1 ≤ B * 1; omega⟩
  | cons x l ih =>
    intro w B h1 h3 h2
    have hx := h2 x List.mem_cons_self
    have i := ih (w * 10 + x - 48) (B * 10) (by omega) (by omega) (fun c hc => h2 c (List.mem_cons_of_mem _ hc))
    refine ⟨i.1, ?_⟩
    show nbF l (w * 10 + x - 48) + 1 ≤ B * 10 ^ (l.length + 1)
    rw [Int.pow_succ, Int.mul_comm (10 ^ l.length) 10, ← Int.mul_assoc]
    exact i.2
/-! The kinds' texts. -/
def txts : List (List Int) := [[], [], [], [], [109, 111, 111, 110], [102, 108, 111, 99, 107], [116, 97, 107, 101, 115], [105, 110], [110, 111, 116], [97, 110, 100], [111, 114], [104, 111, 117, 114], [107, 105, 110, 100], [119, 101, 105, 103, 104, 116], [119, 105, 110, 103], [103, 111, 111, 115, 101], [111, 110], [101, 118, 101, 114, 121], [115, 116, 101, 112], [103, 97, 112], [116, 101, 108, 108, 115], [99, 111, 117, 110, 116], [115, 117, 109], [109, 111, 115, 116], [108, 101, 97, 115, 116], [111, 102], [40], [41], [91], [93], [59], [44], [60], [62], [61], [43], [45], [42]]
def kwL : List Int := [-1, -1, -1, -1, 441838, 6700139, 21015731, 302, 14836, 1476, 498, 278194, 370116, 777297172, 763335, 7847525, 494, 5969497, 643248, 7216, 21148051, 3659220, 20141, 441972, 12748404, 486, -1, -1, -1, -1, -1, -1, -1, -1, -1, -1, -1, -1]
def kdS : List (List Int) → Nat → List Int → Nat → Nat
  | [], _, _, f => f
  | t :: L, k, s, f => if s = t then k else kdS L (k + 1) s f
def kwS : List Int → Nat → Int → Nat
  | [], _, _ => 2
  | c :: L, k, w => if c = w then k else kwS L (k + 1) w
def kindW (w : Int) : Nat := kwS kwL 0 w
def kindS (c : Int) : Nat := kdS txts 0 [c] 1
theorem kd_kw {s : List Int} {w : Int} : ∀ (A : List (List Int)) (B : List Int) (k : Nat), A.length = B.length → (∀ j, j < A.length → (s = A.getD j [] ↔ B.getD j 0 = w)) → kdS A k s 2 = kwS B k w := by
  intro A
  induction A with
  | nil =>
    intro B k h _
    match B with
    | [] => rfl
    | _ :: _ => cases h
  | cons t A ih =>
    intro B k h e
    match B, h with
    | c :: B, h =>
      have e0 := e 0 (Nat.succ_pos _)
      replace e0 : s = t ↔ c = w := e0
      show (if s = t then k else kdS A (k + 1) s 2) = (if c = w then k else kwS B (k + 1) w)
      by_cases x : s = t
      · rw [if_pos x, if_pos (e0.mp x)]
      · rw [if_neg x, if_neg (fun z => x (e0.mpr z))]
        exact ih B (k + 1) (Nat.succ.inj h) (fun j hj => e (j + 1) (Nat.succ_lt_succ hj))
theorem txt_w : ∀ j, j < 38 → (ltL (txts.getD j []) ∧ enc (txts.getD j []) = kwL.getD j 0 ∧ txts.getD j [] ≠ []) ∨ (kwL.getD j 0 = -1 ∧ (txts.getD j [] = [] ∨ ∃ c, txts.getD j [] = [c] ∧ ¬ (97 ≤ c ∧ c ≤ 122))) := by
  intro j hj
  have h : ∀ j : Fin 38, ((∀ c ∈ txts.getD j.val [], 97 ≤ c ∧ c ≤ 122) ∧ enc (txts.getD j.val []) = kwL.getD j.val 0 ∧ (txts.getD j.val []).length ≠ 0) ∨ (kwL.getD j.val 0 = -1 ∧ ((txts.getD j.val []).length = 0 ∨ ((txts.getD j.val []).length = 1 ∧ ¬ (97 ≤ (txts.getD j.val []).getD 0 0 ∧ (txts.getD j.val []).getD 0 0 ≤ 122)))) := by decide +kernel
  rcases h ⟨j, hj⟩ with ⟨a, b, c⟩ | ⟨a, b⟩
  · exact .inl ⟨a, b, fun z => c (by show (txts.getD j []).length = 0; rw [z]; rfl)⟩
  · refine .inr ⟨a, ?_⟩
    rcases b with b | ⟨b, c⟩
    · exact .inl (List.eq_nil_of_length_eq_zero b)
    · obtain ⟨x, hx⟩ := List.length_eq_one_iff.mp b
      refine .inr ⟨x, hx, ?_⟩
      have c2 : ¬ (97 ≤ (txts.getD j []).getD 0 0 ∧ (txts.getD j []).getD 0 0 ≤ 122) := c
      rw [show txts.getD j [] = [x] from hx] at c2
      exact c2
/-- a word's kind by its text or by its number -/
theorem kd_word {s : List Int} (hs : ltL s) (hn : s ≠ []) : kdS txts 0 s 2 = kindW (enc s) := by
  refine kd_kw txts kwL 0 (by decide) (fun j hj => ?_)
  rcases txt_w j hj with ⟨a, b, c⟩ | ⟨a, b⟩
  · constructor
    · intro e; rw [← b, ← e]
    · intro e
      exact enc_inj s.length s _ (Nat.le_refl _) hs a (by rw [b, e])
  · have p := enc_pos hs hn
    constructor
    · intro e
      rcases b with b | ⟨x, b, b2⟩
      · exact absurd (e.trans b) hn
      · rw [b] at e
        exact absurd (hs x (by rw [e]; exact List.mem_singleton.mpr rfl)) b2
    · intro e; omega
theorem kdS_f {s : List Int} {f g : Nat} : ∀ (A : List (List Int)) (k : Nat), (∀ t ∈ A, s ≠ t) → kdS A k s f = f := by
  intro A
  induction A with
  | nil => intro k _; rfl
  | cons t A ih =>
    intro k h
    show (if s = t then k else kdS A (k + 1) s f) = f
    rw [if_neg (h t List.mem_cons_self)]
    exact ih (k + 1) (fun x hx => h x (List.mem_cons_of_mem _ hx))
theorem txt_len : ∀ t ∈ txts, t.length ≤ 6 := by decide +kernel
theorem kd_long {s : List Int} (h : 6 < s.length) (f : Nat) : kdS txts 0 s f = f := kdS_f (g := 0) txts 0 (fun t ht e => by have := txt_len t ht; rw [← e] at this; omega)
theorem kdS_fb {s : List Int} (f g : Nat) : ∀ (A : List (List Int)) (k : Nat), (∃ t ∈ A, s = t) → kdS A k s f = kdS A k s g := by
  intro A
  induction A with
  | nil => intro k h; obtain ⟨t, ht, -⟩ := h; exact absurd ht List.not_mem_nil
  | cons t A ih =>
    intro k h
    show (if s = t then k else kdS A (k + 1) s f) = (if s = t then k else kdS A (k + 1) s g)
    by_cases c : s = t
    · rw [if_pos c, if_pos c]
    · rw [if_neg c, if_neg c]
      refine ih (k + 1) ?_
      obtain ⟨x, hx, e⟩ := h
      rcases List.mem_cons.mp hx with z | z
      · exact absurd (e.trans z) c
      · exact ⟨x, z, e⟩
theorem kwS_in (w : Int) : ∀ (B : List Int) (k : Nat), (∃ j, j < B.length ∧ B.getD j 0 = w ∧ kwS B k w = k + j) ∨ ((∀ j, j < B.length → B.getD j 0 ≠ w) ∧ kwS B k w = 2) := by
  intro B
  induction B with
  | nil => intro k; exact .inr ⟨fun j h => absurd h (Nat.not_lt_zero _), rfl⟩
  | cons c B ih =>
    intro k
    by_cases e : c = w
    · exact .inl ⟨0, Nat.succ_pos _, e, if_pos e⟩
    · have n : kwS (c :: B) k w = kwS B (k + 1) w := if_neg e
      rw [n]
      rcases ih (k + 1) with ⟨j, h1, h2, h3⟩ | ⟨h1, h2⟩
      · exact .inl ⟨j + 1, Nat.succ_lt_succ h1, h2, by rw [h3]; omega⟩
      · refine .inr ⟨fun j hj => ?_, h2⟩
        match j with
        | 0 => exact e
        | j + 1 => exact h1 j (Nat.lt_of_succ_lt_succ hj)
theorem kindW_k {w : Int} (hw : 0 ≤ w) : (kindW w = 2 ∧ ∀ j, j < 38 → kwL.getD j 0 ≠ w) ∨ (4 ≤ kindW w ∧ kindW w ≤ 25 ∧ kwL.getD (kindW w) 0 = w) := by
  have z : ∀ j : Fin 38, kwL.getD j.val 0 = -1 ∨ (4 ≤ j.val ∧ j.val ≤ 25) := by decide +kernel
  rcases kwS_in w kwL 0 with ⟨j, h1, h2, h3⟩ | ⟨h1, h2⟩
  · right
    have e : kindW w = j := by unfold kindW; omega
    rw [e]
    rcases z ⟨j, h1⟩ with y | y
    · replace y : kwL.getD j 0 = -1 := y
      omega
    · exact ⟨y.1, y.2, h2⟩
  · exact .inl ⟨h2, h1⟩
theorem kwL_inj : ∀ i j : Fin 38, 4 ≤ i.val → i.val ≤ 25 → kwL.getD i.val 0 = kwL.getD j.val 0 → i = j := by decide +kernel
theorem kindS_k : ∀ b : Fin 256, kindS ((b.val : Int) - 128) = 1 ∨ (26 ≤ kindS ((b.val : Int) - 128) ∧ kindS ((b.val : Int) - 128) ≤ 37 ∧ (txts.getD (kindS ((b.val : Int) - 128)) []) = [(b.val : Int) - 128]) := by decide +kernel
/-! The tokens of a tape. -/
def wdO (tp : List Int) (a e : Nat) : Int := enc (slc tp (e - a) a)
def nbO (tp : List Int) (a e : Nat) : Int := nbF (slc tp (e - a) a) 0
def tkE (tp : List Int) (k : Nat) : Nat := if isLt (by_ tp k) = true then rn isLt tp k else if isDg (by_ tp k) = true then rn isDg tp k else k + 1
def tkA (tp : List Int) (k : Nat) : Tok :=
  if isLt (by_ tp k) = true then (if tkE tp k - k ≤ 8 then (kindW (wdO tp k (tkE tp k)), k, 0, if kindW (wdO tp k (tkE tp k)) = 2 then wdO tp k (tkE tp k) else 0) else (1, k, 0, 0))
  else if isDg (by_ tp k) = true then (if tkE tp k - k ≤ 4 then (3, k, nbO tp k (tkE tp k), 0) else (1, k, 0, 0))
  else (kindS (by_ tp k), k, 0, 0)
def lexF (tp : List Int) : Nat → Nat → List Tok
  | 0, k => if rn isBk tp k < tp.length then [(1, (rn isBk tp k : Int), 0, 0)] else [(0, (rn isBk tp k : Int), 0, 0)]
  | n + 1, k => if rn isBk tp k < tp.length then (if (tkA tp (rn isBk tp k)).1 = 1 then [tkA tp (rn isBk tp k)] else tkA tp (rn isBk tp k) :: lexF tp n (tkE tp (rn isBk tp k))) else [(0, (rn isBk tp k : Int), 0, 0)]
def lex (tp : List Int) : List Tok := lexF tp 400 0
/-- the tape's bytes are bytes -/
def byT (tp : List Int) : Prop := ∀ j, -128 ≤ by_ tp j ∧ by_ tp j < 128
theorem tkE_b {tp : List Int} {k : Nat} (h : k < tp.length) : k < tkE tp k ∧ tkE tp k ≤ tp.length := by
  unfold tkE
  by_cases c : isLt (by_ tp k) = true
  · rw [if_pos c]
    have := rn_ge isLt tp (k + 1)
    rw [rn_s h c]
    exact ⟨by omega, rn_le (by omega)⟩
  · rw [if_neg c]
    by_cases e : isDg (by_ tp k) = true
    · rw [if_pos e]
      have := rn_ge isDg tp (k + 1)
      rw [rn_s h e]
      exact ⟨by omega, rn_le (by omega)⟩
    · rw [if_neg e]; omega
theorem tkE_lt {tp : List Int} {k : Nat} (c : isLt (by_ tp k) = true) : ltL (slc tp (tkE tp k - k) k) := by
  unfold tkE
  rw [if_pos c]
  refine slc_all (p := fun c => 97 ≤ c ∧ c ≤ 122) tp _ _ (fun j h1 h2 => isLt_t.mp (rn_all j h1 (by omega)).2)
theorem tkE_dg {tp : List Int} {k : Nat} (c : ¬ isLt (by_ tp k) = true) (e : isDg (by_ tp k) = true) : dgL (slc tp (tkE tp k - k) k) := by
  unfold tkE
  rw [if_neg c, if_pos e]
  refine slc_all (p := fun c => 48 ≤ c ∧ c ≤ 57) tp _ _ (fun j h1 h2 => isDg_t.mp (rn_all j h1 (by omega)).2)
/-- a token's numbers -/
def tkB (t : Tok) : Prop := t.1 ≤ 37 ∧ 0 ≤ t.2.1 ∧ t.2.1 ≤ 1600 ∧ 0 ≤ t.2.2.1 ∧ t.2.2.1 ≤ 9999 ∧ (t.1 ≠ 3 → t.2.2.1 = 0) ∧ 0 ≤ t.2.2.2 ∧ t.2.2.2 < 1099511627776 ∧ (t.1 = 2 → 0 < t.2.2.2 ∧ ∀ j, j < 38 → kwL.getD j 0 ≠ t.2.2.2) ∧ (t.1 ≠ 2 → t.2.2.2 = 0)
theorem tkB_i {i k : Nat} {nu wd : Int} (hi : i ≤ 37) (hk : k ≤ 1600) (n1 : 0 ≤ nu ∧ nu ≤ 9999) (n2 : i ≠ 3 → nu = 0) (w1 : 0 ≤ wd ∧ wd < 1099511627776) (w2 : i = 2 → 0 < wd ∧ ∀ j, j < 38 → kwL.getD j 0 ≠ wd) (w3 : i ≠ 2 → wd = 0) : tkB (i, (k : Int), nu, wd) := ⟨hi, by show (0 : Int) ≤ k; omega, by show (k : Int) ≤ 1600; omega, n1.1, n1.2, n2, w1.1, w1.2, w2, w3⟩
theorem wdO_b {tp : List Int} {k : Nat} (h : k < tp.length) (c : isLt (by_ tp k) = true) (h8 : tkE tp k - k ≤ 8) : 0 < wdO tp k (tkE tp k) ∧ wdO tp k (tkE tp k) < 1099511627776 := by
  have l := tkE_lt c
  have e := tkE_b h
  have sl := slc_len tp (tkE tp k - k) k
  have p := enc_pos l (fun z => by rw [z] at sl; simp at sl; omega)
  have q := enF_lt (slc tp (tkE tp k - k) k) 0 1 (by omega) (by omega) l
  rw [sl, Int.one_mul] at q
  have q2 : (32 : Int) ^ (tkE tp k - k) ≤ 32 ^ 8 := by
    have : (32 : Nat) ^ (tkE tp k - k) ≤ 32 ^ 8 := Nat.pow_le_pow_right (by omega) h8
    exact_mod_cast this
  have e8 : (32 : Int) ^ 8 = 1099511627776 := by decide
  unfold wdO
  unfold enc at p ⊢
  omega
theorem tkA_b {tp : List Int} {k : Nat} (ht : tp.length ≤ 1600) (hb : byT tp) (h : k < tp.length) : tkB (tkA tp k) ∧ (tkA tp k).2.1 = k ∧ 1 ≤ (tkA tp k).1 := by
  have e := tkE_b h
  unfold tkA
  by_cases c : isLt (by_ tp k) = true
  · rw [if_pos c]
    by_cases h8 : tkE tp k - k ≤ 8
    · rw [if_pos h8]
      obtain ⟨w1, w2⟩ := wdO_b h c h8
      generalize wdO tp k (tkE tp k) = w at w1 w2
      rcases kindW_k (w := w) (by omega) with ⟨a, b⟩ | ⟨a, b, d⟩
      · rw [a, if_pos rfl]
        exact ⟨tkB_i (by omega) (by omega) ⟨by omega, by omega⟩ (fun _ => rfl) ⟨by omega, by omega⟩ (fun _ => ⟨w1, b⟩) (fun z => absurd rfl z), rfl, by show 1 ≤ 2; omega⟩
      · rw [if_neg (by omega)]
        exact ⟨tkB_i (by omega) (by omega) ⟨by omega, by omega⟩ (fun _ => rfl) ⟨by omega, by omega⟩ (fun z => by omega) (fun _ => rfl), rfl, by show 1 ≤ kindW w; omega⟩
    · rw [if_neg h8]
      exact ⟨tkB_i (by omega) (by omega) ⟨by omega, by omega⟩ (fun _ => rfl) ⟨by omega, by omega⟩ (fun z => absurd z (by decide)) (fun _ => rfl), rfl, by show 1 ≤ 1; omega⟩
  · rw [if_neg c]
    by_cases d : isDg (by_ tp k) = true
    · rw [if_pos d]
      by_cases h4 : tkE tp k - k ≤ 4
      · rw [if_pos h4]
        have sl := slc_len tp (tkE tp k - k) k
        have q := nbF_b (slc tp (tkE tp k - k) k) 0 1 (by omega) (by omega) (tkE_dg c d)
        rw [sl, Int.one_mul] at q
        have q2 : (10 : Int) ^ (tkE tp k - k) ≤ 10 ^ 4 := by
          have : (10 : Nat) ^ (tkE tp k - k) ≤ 10 ^ 4 := Nat.pow_le_pow_right (by omega) h4
          exact_mod_cast this
        have e8 : (10 : Int) ^ 4 = 10000 := by decide
        have q3 : 0 ≤ nbO tp k (tkE tp k) ∧ nbO tp k (tkE tp k) ≤ 9999 := by
          unfold nbO
          omega
        exact ⟨tkB_i (by omega) (by omega) q3 (fun z => absurd rfl z) ⟨by omega, by omega⟩ (fun z => absurd z (by decide)) (fun _ => rfl), rfl, by show 1 ≤ 3; omega⟩
      · rw [if_neg h4]
        exact ⟨tkB_i (by omega) (by omega) ⟨by omega, by omega⟩ (fun _ => rfl) ⟨by omega, by omega⟩ (fun z => absurd z (by decide)) (fun _ => rfl), rfl, by show 1 ≤ 1; omega⟩
    · rw [if_neg d]
      obtain ⟨b1, b2⟩ := hb k
      have kk := kindS_k ⟨(by_ tp k + 128).toNat, by omega⟩
      have e0 : ((((by_ tp k + 128).toNat : Nat) : Int) - 128) = by_ tp k := by omega
      replace kk : kindS ((((by_ tp k + 128).toNat : Nat) : Int) - 128) = 1 ∨ (26 ≤ kindS ((((by_ tp k + 128).toNat : Nat) : Int) - 128) ∧ kindS ((((by_ tp k + 128).toNat : Nat) : Int) - 128) ≤ 37 ∧ (txts.getD (kindS ((((by_ tp k + 128).toNat : Nat) : Int) - 128)) []) = [(((by_ tp k + 128).toNat : Nat) : Int) - 128]) := kk
      rw [e0] at kk
      have k1 : 1 ≤ kindS (by_ tp k) ∧ kindS (by_ tp k) ≤ 37 ∧ kindS (by_ tp k) ≠ 2 ∧ kindS (by_ tp k) ≠ 3 := by omega
      exact ⟨tkB_i k1.2.1 (by omega) ⟨by omega, by omega⟩ (fun _ => rfl) ⟨by omega, by omega⟩ (fun z => absurd z k1.2.2.1) (fun _ => rfl), rfl, k1.1⟩
/-- a row of tokens: the last one is the end or a wrong one, the others are neither -/
def tkW (T : List Tok) : Prop := 1 ≤ T.length ∧ T.length ≤ 401 ∧ (∀ j, j < T.length → tkB (T.getD j tk0)) ∧ (∀ j, j + 1 < T.length → 2 ≤ (T.getD j tk0).1) ∧ (T.getD (T.length - 1) tk0).1 ≤ 1
theorem tkW_1 {t : Tok} (h : tkB t) (h1 : t.1 ≤ 1) : tkW [t] := ⟨Nat.le_refl _, by show 1 ≤ 401; omega, fun j hj => by (have hj2 : j < 1 := hj); (obtain rfl : j = 0 := by omega); exact h, fun j hj => by (have hj2 : j + 1 < 1 := hj); omega, h1⟩
theorem tkB_e {k i : Nat} (h : k ≤ 1600) (hi : i ≤ 1) : tkB (i, (k : Int), 0, 0) := tkB_i (by omega) h ⟨by omega, by omega⟩ (fun _ => rfl) ⟨by omega, by omega⟩ (fun z => by omega) (fun _ => rfl)
theorem lexF_w {tp : List Int} (ht : tp.length ≤ 1600) (hb : byT tp) : ∀ n k, n ≤ 400 → k ≤ tp.length → tkW (lexF tp n k) ∧ (lexF tp n k).length ≤ n + 1 := by
  intro n
  induction n with
  | zero =>
    intro k _ hk
    have l := rn_le (f := isBk) hk
    show tkW (if rn isBk tp k < tp.length then [(1, (rn isBk tp k : Int), 0, 0)] else [(0, (rn isBk tp k : Int), 0, 0)]) ∧ (if rn isBk tp k < tp.length then [((1, (rn isBk tp k : Int), 0, 0) : Tok)] else [(0, (rn isBk tp k : Int), 0, 0)]).length ≤ 0 + 1
    split
    · exact ⟨tkW_1 (tkB_e (by omega) (by omega)) (Nat.le_refl _), Nat.le_refl _⟩
    · exact ⟨tkW_1 (tkB_e (by omega) (by omega)) (Nat.zero_le _), Nat.le_refl _⟩
  | succ n ih =>
    intro k hn hk
    have l := rn_le (f := isBk) hk
    show tkW (if rn isBk tp k < tp.length then (if (tkA tp (rn isBk tp k)).1 = 1 then [tkA tp (rn isBk tp k)] else tkA tp (rn isBk tp k) :: lexF tp n (tkE tp (rn isBk tp k))) else [(0, (rn isBk tp k : Int), 0, 0)]) ∧ (if rn isBk tp k < tp.length then (if (tkA tp (rn isBk tp k)).1 = 1 then [tkA tp (rn isBk tp k)] else tkA tp (rn isBk tp k) :: lexF tp n (tkE tp (rn isBk tp k))) else [((0, (rn isBk tp k : Int), 0, 0) : Tok)]).length ≤ n + 1 + 1
    by_cases c : rn isBk tp k < tp.length
    · rw [if_pos c]
      obtain ⟨a1, a2, a3⟩ := tkA_b ht hb c
      by_cases e : (tkA tp (rn isBk tp k)).1 = 1
      · rw [if_pos e]
        exact ⟨tkW_1 a1 (by omega), by show 1 ≤ n + 1 + 1; omega⟩
      · rw [if_neg e]
        obtain ⟨⟨i1, i2, i3, i4, i5⟩, i6⟩ := ih (tkE tp (rn isBk tp k)) (by omega) (tkE_b c).2
        refine ⟨⟨by show 1 ≤ (lexF tp n (tkE tp (rn isBk tp k))).length + 1; omega, by show (lexF tp n (tkE tp (rn isBk tp k))).length + 1 ≤ 401; omega, fun j hj => ?_, fun j hj => ?_, ?_⟩, by show (lexF tp n (tkE tp (rn isBk tp k))).length + 1 ≤ n + 1 + 1; omega⟩
        · match j with
          | 0 => exact a1
          | j + 1 => exact i3 j (Nat.lt_of_succ_lt_succ hj)
        · match j with
          | 0 => show 2 ≤ (tkA tp (rn isBk tp k)).1; omega
          | j + 1 => exact i4 j (Nat.lt_of_succ_lt_succ hj)
        · show ((tkA tp (rn isBk tp k) :: lexF tp n (tkE tp (rn isBk tp k))).getD ((lexF tp n (tkE tp (rn isBk tp k))).length + 1 - 1) tk0).1 ≤ 1
          rw [show (lexF tp n (tkE tp (rn isBk tp k))).length + 1 - 1 = ((lexF tp n (tkE tp (rn isBk tp k))).length - 1) + 1 by omega]
          exact i5
    · rw [if_neg c]
      exact ⟨tkW_1 (tkB_e (by omega) (by omega)) (Nat.zero_le _), by show 1 ≤ n + 1 + 1; omega⟩
theorem lex_w {tp : List Int} (ht : tp.length ≤ 1600) (hb : byT tp) : tkW (lex tp) := (lexF_w ht hb 400 0 (Nat.le_refl _) (Nat.zero_le _)).1
