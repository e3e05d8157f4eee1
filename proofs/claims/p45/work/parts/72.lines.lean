/-! The book's lines: what they read, what they mean. -/
/-- a line: flock 0 or goose 1, its name's token, its commands; of a goose: the flock's token, gap, the number's, the step's token (0 none), what it tells -/
abbrev Ln : Type := Nat × Nat × List Cmd × Nat × Nat × Nat × Nat × Nat
abbrev Lz : Type := Bool × Nat × Ln
def l0 : Ln := (0, 0, [], 0, 0, 0, 0, 0)
def flkF (T : List Tok) (p : Nat) : Lz := if tK T p = 2 then (if tK T (p + 1) = 6 then ((syT T 6 (p + 2)).1, (syT T 6 (p + 2)).2.1, (0, p, (syT T 6 (p + 2)).2.2, 0, 0, 0, 0, 0)) else (false, p + 1, l0)) else (false, p, l0)
/-- a window: gap, the number's token, the step's -/
abbrev Wz : Type := Bool × Nat × Nat × Nat × Nat
def winF (T : List Tok) (q : Nat) : Wz :=
  if tK T q = 19 then (if tK T (q + 1) = 3 then (true, q + 2, 1, q + 1, 0) else (false, q + 1, 0, 0, 0))
  else if tK T q = 17 then (if tK T (q + 1) = 3 then (if tK T (q + 2) = 18 then (if tK T (q + 3) = 3 then (true, q + 4, 0, q + 1, q + 3) else (false, q + 3, 0, 0, 0)) else (true, q + 2, 0, q + 1, 0)) else (false, q + 1, 0, 0, 0))
  else (false, q, 0, 0, 0)
abbrev Tz : Type := Bool × Nat × Nat × List Cmd
def telF (T : List Tok) (q : Nat) : Tz :=
  if tK T q = 21 then (true, q + 1, 0, [])
  else if tK T q = 22 ∨ tK T q = 23 ∨ tK T q = 24 then (if tK T (q + 1) = 25 then ((syV T 6 (q + 2)).1, (syV T 6 (q + 2)).2.1, tK T q - 21, (syV T 6 (q + 2)).2.2) else (false, q + 1, 0, []))
  else (false, q, 0, [])
def gooF (T : List Tok) (p : Nat) : Lz :=
  if tK T p = 2 then (if tK T (p + 1) = 16 then (if tK T (p + 2) = 2 then
    (if (winF T (p + 3)).1 = true then (if tK T (winF T (p + 3)).2.1 = 20 then
      ((telF T ((winF T (p + 3)).2.1 + 1)).1, (telF T ((winF T (p + 3)).2.1 + 1)).2.1, (1, p, (telF T ((winF T (p + 3)).2.1 + 1)).2.2.2, p + 2, (winF T (p + 3)).2.2.1, (winF T (p + 3)).2.2.2.1, (winF T (p + 3)).2.2.2.2, (telF T ((winF T (p + 3)).2.1 + 1)).2.2.1))
      else (false, (winF T (p + 3)).2.1, l0)) else (false, (winF T (p + 3)).2.1, l0))
    else (false, p + 2, l0)) else (false, p + 1, l0)) else (false, p, l0)
/-- behind a line stands a sign -/
def semF (T : List Tok) (r : Lz) : Lz := if r.1 = true then (if tK T r.2.1 = 30 then (true, r.2.1 + 1, r.2.2) else (false, r.2.1, l0)) else (false, r.2.1, l0)
def linF (T : List Tok) (p : Nat) : Lz := if tK T p = 5 then semF T (flkF T (p + 1)) else if tK T p = 15 then semF T (gooF T (p + 1)) else (false, p, l0)
def lnsF (T : List Tok) : Nat → Nat → Bool × Nat × List Ln
  | 0, p => (true, p, [])
  | n + 1, p => if tK T p = 0 then (true, p, []) else if (linF T p).1 = true then ((lnsF T n (linF T p).2.1).1, (lnsF T n (linF T p).2.1).2.1, (linF T p).2.2 :: (lnsF T n (linF T p).2.1).2.2) else (false, (linF T p).2.1, [])
abbrev Mz : Type := Bool × Nat × List Nat
def mns (T : List Tok) : Nat → Nat → Mz
  | 0, p => if tK T p = 30 then (true, p + 1, []) else (false, p, [])
  | n + 1, p => if tK T p = 31 then (if tK T (p + 1) = 3 then ((mns T n (p + 2)).1, (mns T n (p + 2)).2.1, (p + 1) :: (mns T n (p + 2)).2.2) else (false, p + 1, [])) else if tK T p = 30 then (true, p + 1, []) else (false, p, [])
def moonF (T : List Tok) (p : Nat) : Mz := if tK T p = 4 then (if tK T (p + 1) = 3 then ((mns T 400 (p + 2)).1, (mns T 400 (p + 2)).2.1, (p + 1) :: (mns T 400 (p + 2)).2.2) else (false, p + 1, [])) else (true, p, [])
/-! What lines mean: error, moon, names, program, tests' places, geese. -/
abbrev Gc : Type := Int × Nat × Int × Int × Nat × Nat × Nat
def gc0 : Gc := (0, 0, 0, 0, 0, 0, 0)
abbrev Sm : Type := (Nat × Nat) × List Int × List Int × List Int × List Cmd × List (Nat × Nat) × List Gc
def smE (s : Sm) : Nat × Nat := s.1
def smM (s : Sm) : List Int := s.2.1
def smF (s : Sm) : List Int := s.2.2.1
def smG (s : Sm) : List Int := s.2.2.2.1
def smP (s : Sm) : List Cmd := s.2.2.2.2.1
def smT (s : Sm) : List (Nat × Nat) := s.2.2.2.2.2.1
def smX (s : Sm) : List Gc := s.2.2.2.2.2.2
def sm0 : Sm := ((0, 0), [], [], [], [], [], [])
def wE (c : Prop) [Decidable c] (n p : Nat) : Nat × Nat := if c then (n, p) else (0, 0)
def told (F G : List Int) (w : Int) : Prop := 0 ≤ lk F w ∨ 0 ≤ lk G w
def nwE (T : List Tok) (F G : List Int) (n m p : Nat) : Nat × Nat := ntE (if 0 ≤ lk F (tW T p) ∨ 0 ≤ lk G (tW T p) then (2, p) else (0, 0)) (if m ≤ n then (4, p) else (0, 0))
/-- one more number of the moon -/
def phE (T : List Tok) (M : List Int) (q : Nat) : Nat × Nat := ntE (if 8 ≤ M.length then (4, q) else (0, 0)) (if 99 < tN T q then (5, q) else (0, 0))
def smQ (T : List Tok) (s : Sm) (q : Nat) : Sm := (ntE (smE s) (phE T (smM s) q), (if (smM s).length < 8 then smM s ++ [tN T q] else smM s), smF s, smG s, smP s, smT s, smX s)
def flE (T : List Tok) (F G : List Int) (p : Nat) (raw : List Cmd) : Nat × Nat := ntE (nwE T F G F.length 8 p) (fb T F raw)
def smFl (T : List Tok) (s : Sm) (p : Nat) (raw : List Cmd) : Sm := (ntE (smE s) (flE T (smF s) (smG s) p raw), smM s, (if (smF s).length < 8 then smF s ++ [tW T p] else smF s), smG s, smP s ++ raw.map (rsl T (smF s)), (if (smF s).length < 8 then smT s ++ [((smP s).length, (smP s ++ raw.map (rsl T (smF s))).length)] else smT s), smX s)
/-- the error of a window -/
def wnE (T : List Tok) (nu st : Nat) : Nat × Nat := ntE (if tN T nu < 1 ∨ 200 < tN T nu then (5, nu) else (0, 0)) (if st = 0 then (0, 0) else if tN T st < 1 ∨ tN T nu < tN T st ∨ 6 < tN T nu / tN T st then (5, st) else (0, 0))
def goE (T : List Tok) (F G : List Int) (p on nu st : Nat) : Nat × Nat := ntE (nwE T F G G.length 6 p) (ntE (if lk F (tW T on) < 0 then (3, on) else (0, 0)) (wnE T nu st))
/-- the step as the class has it -/
def stpC (T : List Tok) (gap nu st : Nat) : Int := if st = 0 then (if gap = 1 then 1 else tN T nu) else tN T st
def smGo (T : List Tok) (s : Sm) (p : Nat) (raw : List Cmd) (on gap nu st tl : Nat) : Sm := (ntE (smE s) (goE T (smF s) (smG s) p on nu st), smM s, smF s, (if (smG s).length < 6 then smG s ++ [tW T p] else smG s), smP s ++ raw, smT s, (if (smG s).length < 6 then smX s ++ [(lk (smF s) (tW T on), gap, tN T nu, stpC T gap nu st, tl, (smP s).length, (smP s ++ raw).length)] else smX s))
def smL (T : List Tok) (s : Sm) (l : Ln) : Sm := if l.1 = 0 then smFl T s l.2.1 l.2.2.1 else smGo T s l.2.1 l.2.2.1 l.2.2.2.1 l.2.2.2.2.1 l.2.2.2.2.2.1 l.2.2.2.2.2.2.1 l.2.2.2.2.2.2.2
theorem semF_t {T : List Tok} {r : Lz} (h : r.1 = true) (k : tK T r.2.1 = 30) : semF T r = (true, r.2.1 + 1, r.2.2) := by unfold semF; rw [if_pos h, if_pos k]
theorem semF_k {T : List Tok} {r : Lz} (h : r.1 = true) (k : ¬ tK T r.2.1 = 30) : semF T r = (false, r.2.1, l0) := by unfold semF; rw [if_pos h, if_neg k]
theorem semF_f {T : List Tok} {r : Lz} (h : r.1 = false) : semF T r = (false, r.2.1, l0) := by unfold semF; rw [if_neg (by rw [h]; decide)]
/-- a line's commands and places -/
theorem flkF_g {T : List Tok} (w : tkW T) {p : Nat} (h : (flkF T p).1 = true) : (flkF T p).2.2.2.2.1.length + p + 2 ≤ (flkF T p).2.1 ∧ p + 3 ≤ (flkF T p).2.1 := by
  unfold flkF at h ⊢
  by_cases a : tK T p = 2
  · rw [if_pos a] at h ⊢
    by_cases b : tK T (p + 1) = 6
    · rw [if_pos b] at h ⊢
      obtain ⟨g1, g2, -⟩ := gd_syT w 6 (p + 2) h
      exact ⟨by show (syT T 6 (p + 2)).2.2.length + p + 2 ≤ (syT T 6 (p + 2)).2.1; omega, by show p + 3 ≤ (syT T 6 (p + 2)).2.1; omega⟩
    · rw [if_neg b] at h; cases h
  · rw [if_neg a] at h; cases h
theorem winF_g {T : List Tok} {q : Nat} : (winF T q).1 = true → q + 2 ≤ (winF T q).2.1 := by
  intro h
  unfold winF at h ⊢
  by_cases a : tK T q = 19
  · rw [if_pos a] at h ⊢
    by_cases b : tK T (q + 1) = 3
    · rw [if_pos b]; exact Nat.le_refl _
    · rw [if_neg b] at h; cases h
  · rw [if_neg a] at h ⊢
    by_cases c : tK T q = 17
    · rw [if_pos c] at h ⊢
      by_cases b : tK T (q + 1) = 3
      · rw [if_pos b] at h ⊢
        by_cases d : tK T (q + 2) = 18
        · rw [if_pos d] at h ⊢
          by_cases e : tK T (q + 3) = 3
          · rw [if_pos e]; show q + 2 ≤ q + 4; omega
          · rw [if_neg e] at h; cases h
        · rw [if_neg d]; exact Nat.le_refl _
      · rw [if_neg b] at h; cases h
    · rw [if_neg c] at h; cases h
theorem telF_g {T : List Tok} (w : tkW T) {q : Nat} : (telF T q).1 = true → (telF T q).2.2.2.length + q ≤ (telF T q).2.1 ∧ q + 1 ≤ (telF T q).2.1 ∧ (telF T q).2.2.1 < 4 ∧ (∀ c ∈ (telF T q).2.2.2, okVl c) := by
  intro h
  unfold telF at h ⊢
  by_cases a : tK T q = 21
  · rw [if_pos a]; exact ⟨by show 0 + q ≤ q + 1; omega, Nat.le_refl _, by show 0 < 4; decide, fun c hc => absurd hc List.not_mem_nil⟩
  · rw [if_neg a] at h ⊢
    by_cases b : tK T q = 22 ∨ tK T q = 23 ∨ tK T q = 24
    · rw [if_pos b] at h ⊢
      by_cases c : tK T (q + 1) = 25
      · rw [if_pos c] at h ⊢
        obtain ⟨g1, g2, g3⟩ := gd_syV w 6 (q + 2) h
        exact ⟨by show (syV T 6 (q + 2)).2.2.length + q ≤ (syV T 6 (q + 2)).2.1; omega, by show q + 1 ≤ (syV T 6 (q + 2)).2.1; omega, by show tK T q - 21 < 4; omega, g3⟩
      · rw [if_neg c] at h; cases h
    · rw [if_neg b] at h; cases h
