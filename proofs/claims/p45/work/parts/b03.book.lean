/-! Lines of a book that tokens make: what reading the whole makes of them. -/
def BKs (ks : List Sg) (s : Sm) (nl : Nat) : Prop := ∀ T, segT T 0 ks → tK T ks.length ≠ 4 → ∃ (p1 : Nat) (qs : List Nat) (Lns : List Ln), rdM T = (true, p1, qs) ∧ Lns.length = nl ∧ (∀ n, lnsF T (n + nl) p1 = ((lnsF T n ks.length).1, (lnsF T n ks.length).2.1, Lns ++ (lnsF T n ks.length).2.2)) ∧ Lns.foldl (smL T) (qs.foldl (smQ T) sm0) = s
theorem BKs_0 : BKs [] sm0 0 := fun T _ h => ⟨0, [], [], if_neg (show ¬ tK T 0 = 4 from h), rfl, fun n => rfl, rfl⟩
def mnsK : List Int → List Sg
  | [] => [(30, 0, 0)]
  | n :: l => (31, 0, 0) :: (3, n, 0) :: mnsK l
theorem mns_ok {T : List Tok} : ∀ (l : List Int) (N p : Nat), l.length ≤ N → segT T p (mnsK l) → ∃ qs : List Nat, mns T N p = (true, p + (mnsK l).length, qs) ∧ qs.map (tN T) = l := by
  intro l
  induction l with
  | nil =>
    intro N p _ s
    have e := (segT_1 s).1
    replace e : tK T p = 30 := e
    cases N with
    | zero => exact ⟨[], by show (if tK T p = 30 then _ else _) = _; rw [if_pos e]; rfl, rfl⟩
    | succ N => exact ⟨[], by show (if tK T p = 31 then _ else _) = _; rw [if_neg (by rw [e]; decide), if_pos e]; rfl, rfl⟩
  | cons n l ih =>
    intro N p hN s
    obtain ⟨e1, -, -, s1⟩ := segT_1 s
    obtain ⟨e2, e3, -, s2⟩ := segT_1 s1
    replace e1 : tK T p = 31 := e1
    replace e2 : tK T (p + 1) = 3 := e2
    replace e3 : tN T (p + 1) = n := e3
    obtain ⟨N, rfl⟩ : ∃ M, N = M + 1 := ⟨N - 1, by rw [List.length_cons] at hN; omega⟩
    rw [List.length_cons] at hN
    obtain ⟨qs, q1, q2⟩ := ih N (p + 2) (by omega) s2
    refine ⟨(p + 1) :: qs, ?_, by rw [List.map_cons, e3, q2]⟩
    show (if tK T p = 31 then _ else _) = _
    rw [if_pos e1, if_pos e2, q1]
    show (true, p + 2 + (mnsK l).length, (p + 1) :: qs) = (true, p + ((mnsK l).length + 1 + 1), (p + 1) :: qs)
    rw [show p + 2 + (mnsK l).length = p + ((mnsK l).length + 1 + 1) by omega]
theorem smQ_ok {T : List Tok} : ∀ (qs : List Nat) (M : List Int), M.length + qs.length ≤ 8 → (∀ q ∈ qs, tN T q ≤ 99) → qs.foldl (smQ T) ((0, 0), M, [], [], [], [], []) = ((0, 0), M ++ qs.map (tN T), [], [], [], [], []) := by
  intro qs
  induction qs with
  | nil => intro M _ _; rw [List.map_nil, List.append_nil]; rfl
  | cons q qs ih =>
    intro M h1 h2
    rw [List.length_cons] at h1
    have e : smQ T ((0, 0), M, [], [], [], [], []) q = ((0, 0), M ++ [tN T q], [], [], [], [], []) := by
      have h3 := h2 q List.mem_cons_self
      show (ntE (0, 0) (phE T M q), (if M.length < 8 then M ++ [tN T q] else M), ([] : List Int), ([] : List Int), ([] : List Cmd), ([] : List (Nat × Nat)), ([] : List Gc)) = _
      rw [ntE_0, if_pos (by omega)]
      unfold phE
      rw [if_neg (by omega), if_neg (by omega)]
      rfl
    rw [List.foldl_cons, e, ih _ (by rw [List.length_append]; show M.length + 1 + qs.length ≤ 8; omega) (fun z hz => h2 z (List.mem_cons_of_mem _ hz)), List.map_cons, List.append_assoc]
    rfl
/-- the line of the moon -/
theorem BKs_moon {n : Int} {l : List Int} (h : l.length ≤ 7) (hb : ∀ x ∈ n :: l, x ≤ 99) : BKs ((4, 0, 0) :: (3, n, 0) :: mnsK l) ((0, 0), n :: l, [], [], [], [], []) 0 := by
  intro T s _
  obtain ⟨e1, -, -, s1⟩ := segT_1 s
  obtain ⟨e2, e3, -, s2⟩ := segT_1 s1
  replace e1 : tK T 0 = 4 := e1
  replace e2 : tK T (0 + 1) = 3 := e2
  replace e3 : tN T (0 + 1) = n := e3
  obtain ⟨qs, q1, q2⟩ := mns_ok l 400 2 (by omega) s2
  refine ⟨2 + (mnsK l).length, 1 :: qs, [], ?_, rfl, fun k => ?_, ?_⟩
  · unfold rdM moonF
    rw [if_pos e1, if_pos e2, q1]
  · show lnsF T k (2 + (mnsK l).length) = _
    rw [show ((4, 0, 0) :: (3, n, 0) :: mnsK l : List Sg).length = 2 + (mnsK l).length by rw [List.length_cons, List.length_cons]; omega]
    rfl
  · have le : qs.length = l.length := by rw [← q2, List.length_map]
    have m : (1 :: qs).map (tN T) = n :: l := by rw [List.map_cons, q2]; rw [show tN T 1 = n from e3]
    have := smQ_ok (T := T) (1 :: qs) [] (by rw [List.length_cons]; show 0 + _ ≤ 8; omega) (fun q hq => hb _ (by rw [← m]; exact List.mem_map_of_mem hq))
    rw [m] at this
    exact this
/-- one more line -/
theorem BKs_line {ks k2 : List Sg} {s s2 : Sm} {nl : Nat} (h : BKs ks s nl) (h4 : ∀ T, segT T ks.length k2 → tK T ks.length ≠ 4) (hl : ∀ T, segT T ks.length k2 → tK T ks.length ≠ 0 ∧ ∃ L, linF T ks.length = (true, ks.length + k2.length, L) ∧ smL T s L = s2) : BKs (ks ++ k2) s2 (nl + 1) := by
  intro T sg _
  obtain ⟨sa, sb⟩ := segT_app sg
  rw [Nat.zero_add] at sb
  obtain ⟨p1, qs, Lns, a1, a2, a3, a4⟩ := h T sa (h4 T sb)
  obtain ⟨b0, L, b1, b2⟩ := hl T sb
  refine ⟨p1, qs, Lns ++ [L], a1, by rw [List.length_append, a2]; rfl, fun n => ?_, by rw [List.foldl_append, a4]; exact b2⟩
  have e := a3 (n + 1)
  rw [show n + 1 + nl = n + (nl + 1) by omega] at e
  have e2 : lnsF T (n + 1) ks.length = ((lnsF T n (ks ++ k2).length).1, (lnsF T n (ks ++ k2).length).2.1, L :: (lnsF T n (ks ++ k2).length).2.2) := by
    show (if tK T ks.length = 0 then _ else _) = _
    rw [if_neg b0, if_pos (by rw [b1]), b1, List.length_append]
  rw [e, e2, List.append_assoc]
  rfl
/-- no error, places in order -/
def BIs (s : Sm) : Prop := smE s = (0, 0) ∧ (∀ t ∈ smT s, t.1 ≤ t.2 ∧ t.2 ≤ (smP s).length) ∧ (∀ g ∈ smX s, g.2.2.2.2.2.1 ≤ g.2.2.2.2.2.2 ∧ g.2.2.2.2.2.2 ≤ (smP s).length)
theorem T_app {P A : List Cmd} {t : List (Nat × Nat)} (h : ∀ x ∈ t, x.1 ≤ x.2 ∧ x.2 ≤ P.length) : t.map (fun x => slP (P ++ A) x.1 x.2) = t.map (fun x => slP P x.1 x.2) := List.map_congr_left (fun x hx => slP_app (h x hx).1 (h x hx).2)
theorem X_app {P A : List Cmd} {t : List Gc} (h : ∀ g ∈ t, g.2.2.2.2.2.1 ≤ g.2.2.2.2.2.2 ∧ g.2.2.2.2.2.2 ≤ P.length) : t.map (gsO (P ++ A)) = t.map (gsO P) := List.map_congr_left (fun x hx => by unfold gsO; rw [slP_app (h x hx).1 (h x hx).2])
/-- the book with one more flock -/
def sFl (s : Sm) (w : Int) (c : List Cmd) : Sm := (smE s, smM s, smF s ++ [w], smG s, smP s ++ c, smT s ++ [((smP s).length, (smP s ++ c).length)], smX s)
def sGo (s : Sm) (w fi gap n st : Int) (gp tl : Nat) (c : List Cmd) : Sm := (smE s, smM s, smF s, smG s ++ [w], smP s ++ c, smT s, smX s ++ [(fi, gp, n, st, tl, (smP s).length, (smP s ++ c).length)])
theorem sFl_B {s : Sm} {w : Int} {c : List Cmd} (b : BIs s) : BIs (sFl s w c) ∧ bkO (sFl s w c) = ((bkO s).1, (bkO s).2.1 ++ [c], (bkO s).2.2) := by
  obtain ⟨b1, b2, b3⟩ := b
  have l : (smP s ++ c).length = (smP s).length + c.length := List.length_append
  refine ⟨⟨b1, fun t ht => ?_, fun g hg => ?_⟩, ?_⟩
  · rcases List.mem_append.mp ht with ht | ht
    · have := b2 t ht
      exact ⟨this.1, by show t.2 ≤ (smP s ++ c).length; omega⟩
    · rw [List.mem_singleton.mp ht]
      exact ⟨by show (smP s).length ≤ (smP s ++ c).length; omega, Nat.le_refl _⟩
  · have := b3 g hg
    exact ⟨this.1, by show _ ≤ (smP s ++ c).length; omega⟩
  · show ((if smM s = [] then [5] else smM s), (smT s ++ [((smP s).length, (smP s ++ c).length)]).map (fun t => slP (smP s ++ c) t.1 t.2), (smX s).map (gsO (smP s ++ c))) = _
    rw [List.map_append, T_app b2, X_app b3]
    show (_, _ ++ [slP (smP s ++ c) (smP s).length (smP s ++ c).length], _) = _
    rw [slP_new]
    rfl
theorem sGo_B {s : Sm} {w fi gap n st : Int} {gp tl : Nat} {c : List Cmd} (b : BIs s) : BIs (sGo s w fi gap n st gp tl c) ∧ bkO (sGo s w fi gap n st gp tl c) = ((bkO s).1, (bkO s).2.1, (bkO s).2.2 ++ [(fi.toNat, n, (if gp = 1 then 0 else st), tl, c)]) := by
  obtain ⟨b1, b2, b3⟩ := b
  have l : (smP s ++ c).length = (smP s).length + c.length := List.length_append
  refine ⟨⟨b1, fun t ht => ?_, fun g hg => ?_⟩, ?_⟩
  · have := b2 t ht
    exact ⟨this.1, by show t.2 ≤ (smP s ++ c).length; omega⟩
  · rcases List.mem_append.mp hg with hg | hg
    · have := b3 g hg
      exact ⟨this.1, by show _ ≤ (smP s ++ c).length; omega⟩
    · rw [List.mem_singleton.mp hg]
      exact ⟨by show (smP s).length ≤ (smP s ++ c).length; omega, Nat.le_refl _⟩
  · show ((if smM s = [] then [5] else smM s), (smT s).map (fun t => slP (smP s ++ c) t.1 t.2), (smX s ++ [(fi, gp, n, st, tl, (smP s).length, (smP s ++ c).length)]).map (gsO (smP s ++ c))) = _
    rw [List.map_append, T_app b2, X_app b3]
    show (_, _, _ ++ [(fi.toNat, n, (if gp = 1 then (0 : Int) else st), tl, slP (smP s ++ c) (smP s).length (smP s ++ c).length)]) = _
    rw [slP_new]
    rfl
theorem ntE_00 (x : Nat × Nat) : ntE (0, 0) x = x := rfl
theorem nwE_0 {T : List Tok} {F G : List Int} {n m p : Nat} {w : Int} (e : tW T p = w) (h1 : lk F w = -1) (h2 : lk G w = -1) (h3 : n < m) : nwE T F G n m p = (0, 0) := by
  unfold nwE
  rw [e, if_neg (by omega), if_neg (by omega)]
  rfl
theorem BKs_flock {ks kk : List Sg} {s : Sm} {nl : Nat} {w : Int} {c : List Cmd} (h : BKs ks s nl) (b : BIs s) (t : TPk (smF s) 6 kk c) (h1 : lk (smF s) w = -1) (h2 : lk (smG s) w = -1) (h8 : (smF s).length < 8) : BKs (ks ++ ((5, 0, 0) :: (2, 0, w) :: (6, 0, 0) :: (kk ++ [(30, 0, 0)]))) (sFl s w c) (nl + 1) := by
  refine BKs_line h (fun T sg => by rw [(segT_1 sg).1]; show 5 ≠ 4; decide) (fun T sg => ?_)
  obtain ⟨e1, -, -, s1⟩ := segT_1 sg
  obtain ⟨e2, -, e3, s2⟩ := segT_1 s1
  obtain ⟨e4, -, -, s3⟩ := segT_1 s2
  obtain ⟨s4, s5⟩ := segT_app s3
  obtain ⟨e5, -, -, -⟩ := segT_1 s5
  generalize ks.length = p at *
  replace e1 : tK T p = 5 := e1
  replace e2 : tK T (p + 1) = 2 := e2
  replace e3 : tW T (p + 1) = w := e3
  replace e4 : tK T (p + 1 + 1) = 6 := e4
  replace e5 : tK T (p + 1 + 1 + 1 + kk.length) = 30 := e5
  obtain ⟨raw, r1, r2, r3⟩ := t.2 T (p + 1 + 1 + 1) s4 ⟨by rw [e5]; rfl, by rw [e5]; rfl⟩ (by rw [e5]; rfl) (by rw [e5]; rfl)
  have fl : flkF T (p + 1) = (true, p + 1 + 1 + 1 + kk.length, (0, p + 1, raw, 0, 0, 0, 0, 0)) := by
    unfold flkF
    rw [if_pos e2, if_pos e4, show p + 1 + 2 = p + 1 + 1 + 1 by omega, r1]
  refine ⟨by rw [e1]; decide, (0, p + 1, raw, 0, 0, 0, 0, 0), ?_, ?_⟩
  · unfold linF
    rw [if_pos e1, fl, semF_t rfl e5]
    show (true, p + 1 + 1 + 1 + kk.length + 1, _) = _
    rw [show p + 1 + 1 + 1 + kk.length + 1 = p + ((5, 0, 0) :: (2, 0, w) :: (6, 0, 0) :: (kk ++ [(30, 0, 0)]) : List Sg).length by rw [List.length_cons, List.length_cons, List.length_cons, List.length_append]; show _ = p + (kk.length + 1 + 1 + 1 + 1); omega]
  · show smFl T s (p + 1) raw = _
    unfold smFl sFl
    rw [if_pos h8, if_pos h8, r2, e3]
    unfold flE
    rw [nwE_0 e3 h1 h2 h8, r3, b.1]
    rfl
/-- a goose's window, as tokens -/
def wiK (n st : Int) : Nat → List Sg
  | 0 => [(19, 0, 0), (3, n, 0)]
  | 1 => [(17, 0, 0), (3, n, 0)]
  | _ => [(17, 0, 0), (3, n, 0), (18, 0, 0), (3, st, 0)]
/-- what it tells, as tokens -/
def teK (kk : List Sg) : Nat → List Sg
  | 0 => [(21, 0, 0)]
  | t + 1 => (22 + t, 0, 0) :: (25, 0, 0) :: kk
theorem tel_ok {T : List Tok} {q tl : Nat} {kk : List Sg} {c : List Cmd} (htl : tl < 4) (v : tl ≠ 0 → VPk 6 kk c) (v0 : tl = 0 → c = []) (s : segT T q (teK kk tl)) (e : tK T (q + (teK kk tl).length) = 30) : telF T q = (true, q + (teK kk tl).length, tl, c) := by
  cases tl with
  | zero =>
    have e1 := (segT_1 s).1
    replace e1 : tK T q = 21 := e1
    unfold telF
    rw [if_pos e1, v0 rfl]
    rfl
  | succ t =>
    obtain ⟨e1, -, -, s1⟩ := segT_1 s
    obtain ⟨e2, -, -, s2⟩ := segT_1 s1
    replace e1 : tK T q = 22 + t := e1
    replace e2 : tK T (q + 1) = 25 := e2
    have le : q + (teK kk (t + 1)).length = q + 1 + 1 + kk.length := by show q + (kk.length + 1 + 1) = _; omega
    rw [le] at e ⊢
    have r := (v (Nat.succ_ne_zero t)).2.2 T (q + 1 + 1) s2 ⟨by rw [e]; rfl, by rw [e]; rfl⟩
    unfold telF
    rw [if_neg (by omega), if_pos (by omega), if_pos e2, show q + 2 = q + 1 + 1 by omega, r, e1]
    dsimp only
    rw [show 22 + t - 21 = t + 1 by omega]
theorem win_ok {T : List Tok} {q wk : Nat} {n st : Int} (s : segT T q (wiK n st wk)) (e : tK T (q + (wiK n st wk).length) = 20) : ∃ nu sp : Nat, winF T q = (true, q + (wiK n st wk).length, (if wk = 0 then 1 else 0), nu, sp) ∧ tN T nu = n ∧ (wk < 2 → sp = 0) ∧ (2 ≤ wk → sp ≠ 0 ∧ tN T sp = st) := by
  match wk, s, e with
  | 0, s, e =>
    obtain ⟨e1, -, -, s1⟩ := segT_1 s
    obtain ⟨e2, e3, -, -⟩ := segT_1 s1
    replace e1 : tK T q = 19 := e1
    replace e2 : tK T (q + 1) = 3 := e2
    exact ⟨q + 1, 0, by unfold winF; rw [if_pos e1, if_pos e2]; rfl, e3, fun _ => rfl, fun z => absurd z (by decide)⟩
  | 1, s, e =>
    obtain ⟨e1, -, -, s1⟩ := segT_1 s
    obtain ⟨e2, e3, -, -⟩ := segT_1 s1
    replace e1 : tK T q = 17 := e1
    replace e2 : tK T (q + 1) = 3 := e2
    replace e : tK T (q + 2) = 20 := e
    exact ⟨q + 1, 0, by unfold winF; rw [if_neg (by rw [e1]; decide), if_pos e1, if_pos e2, if_neg (by rw [e]; decide)]; rfl, e3, fun _ => rfl, fun z => absurd z (by decide)⟩
  | k + 2, s, e =>
    obtain ⟨e1, -, -, s1⟩ := segT_1 s
    obtain ⟨e2, e3, -, s2⟩ := segT_1 s1
    obtain ⟨e4, -, -, s3⟩ := segT_1 s2
    obtain ⟨e5, e6, -, -⟩ := segT_1 s3
    replace e1 : tK T q = 17 := e1
    replace e2 : tK T (q + 1) = 3 := e2
    replace e4 : tK T (q + 2) = 18 := e4
    replace e5 : tK T (q + 3) = 3 := e5
    exact ⟨q + 1, q + 3, by unfold winF; rw [if_neg (by rw [e1]; decide), if_pos e1, if_pos e2, if_pos e4, if_pos e5, if_neg (by omega)]; rfl, e3, fun z => absurd z (by omega), fun _ => ⟨by omega, e6⟩⟩
theorem BKs_goose {ks kk : List Sg} {s : Sm} {nl wk tl : Nat} {w wf n st fi : Int} {c : List Cmd} (h : BKs ks s nl) (b : BIs s) (htl : tl < 4) (v : tl ≠ 0 → VPk 6 kk c) (v0 : tl = 0 → c = []) (h1 : lk (smF s) w = -1) (h2 : lk (smG s) w = -1) (h6 : (smG s).length < 6) (hf : lk (smF s) wf = fi) (hf0 : 0 ≤ fi) (hn : 1 ≤ n ∧ n ≤ 200) (hst : 2 ≤ wk → 1 ≤ st ∧ st ≤ n ∧ n / st ≤ 6) (hst1 : wk = 1 → st = n) (hst0 : wk = 0 → st = 1) : BKs (ks ++ ((15, 0, 0) :: (2, 0, w) :: (16, 0, 0) :: (2, 0, wf) :: (wiK n st wk ++ ((20, 0, 0) :: (teK kk tl ++ [(30, 0, 0)]))))) (sGo s w fi 0 n st (if wk = 0 then 1 else 0) tl c) (nl + 1) := by
  refine BKs_line h (fun T sg => by rw [(segT_1 sg).1]; show 15 ≠ 4; decide) (fun T sg => ?_)
  obtain ⟨e1, -, -, s1⟩ := segT_1 sg
  obtain ⟨e2, -, e3, s2⟩ := segT_1 s1
  obtain ⟨e4, -, -, s3⟩ := segT_1 s2
  obtain ⟨e5, -, e6, s4⟩ := segT_1 s3
  obtain ⟨s5, s6⟩ := segT_app s4
  obtain ⟨e7, -, -, s7⟩ := segT_1 s6
  obtain ⟨s8, s9⟩ := segT_app s7
  obtain ⟨e8, -, -, -⟩ := segT_1 s9
  generalize ks.length = p at *
  replace e1 : tK T p = 15 := e1
  replace e2 : tK T (p + 1) = 2 := e2
  replace e3 : tW T (p + 1) = w := e3
  replace e4 : tK T (p + 1 + 1) = 16 := e4
  replace e5 : tK T (p + 1 + 1 + 1) = 2 := e5
  replace e6 : tW T (p + 1 + 1 + 1) = wf := e6
  obtain ⟨nu, sp, w1, w2, w3, w4⟩ := win_ok s5 e7
  have r := tel_ok htl v v0 s8 e8
  have go : gooF T (p + 1) = (true, p + 1 + 1 + 1 + 1 + (wiK n st wk).length + 1 + (teK kk tl).length, (1, p + 1, c, p + 1 + 1 + 1, (if wk = 0 then 1 else 0), nu, sp, tl)) := by
    unfold gooF
    rw [if_pos e2, if_pos e4, show p + 1 + 2 = p + 1 + 1 + 1 by omega, if_pos e5, show p + 1 + 3 = p + 1 + 1 + 1 + 1 by omega, w1]
    dsimp only
    rw [if_pos rfl, if_pos e7, r]
  refine ⟨by rw [e1]; decide, (1, p + 1, c, p + 1 + 1 + 1, (if wk = 0 then 1 else 0), nu, sp, tl), ?_, ?_⟩
  · unfold linF
    rw [if_neg (by rw [e1]; decide), if_pos e1, go, semF_t rfl e8]
    have le : p + 1 + 1 + 1 + 1 + (wiK n st wk).length + 1 + (teK kk tl).length + 1 = p + ((15, 0, 0) :: (2, 0, w) :: (16, 0, 0) :: (2, 0, wf) :: (wiK n st wk ++ ((20, 0, 0) :: (teK kk tl ++ [(30, 0, 0)]))) : List Sg).length := by
      rw [List.length_cons, List.length_cons, List.length_cons, List.length_cons, List.length_append, List.length_cons, List.length_append]
      show _ = p + (_ + ((teK kk tl).length + 1 + 1) + 1 + 1 + 1 + 1)
      omega
    rw [← le]
  · show smGo T s (p + 1) c (p + 1 + 1 + 1) (if wk = 0 then 1 else 0) nu sp tl = _
    unfold smGo sGo
    have we : wnE T nu sp = (0, 0) := by
      unfold wnE
      rw [w2, if_neg (by omega)]
      by_cases k : wk < 2
      · rw [w3 k, if_pos rfl]; rfl
      · obtain ⟨k1, k2⟩ := w4 (by omega)
        have := hst (by omega)
        rw [if_neg k1, k2, if_neg (by omega)]; rfl
    have se : stpC T (if wk = 0 then 1 else 0) nu sp = st := by
      unfold stpC
      by_cases k : wk < 2
      · rw [w3 k, if_pos rfl, w2]
        by_cases k0 : wk = 0
        · rw [if_pos k0, if_pos rfl, hst0 k0]
        · rw [if_neg k0, if_neg (by decide), hst1 (by omega)]
      · obtain ⟨k1, k2⟩ := w4 (by omega)
        rw [if_neg k1, k2]
    rw [if_pos h6, if_pos h6, e3, e6, hf, w2, se]
    unfold goE
    rw [nwE_0 e3 h1 h2 h6, e6, hf, if_neg (by omega), we, b.1]
    rfl
/-- the whole -/
theorem BKs_end {tp : List Int} {ks : List Sg} {s : Sm} {nl : Nat} (l : LXs tp ks) (h : BKs ks s nl) (b : BIs s) (hk : ks.length ≤ 400) (hn : nl ≤ 399) : rdE (lex tp) = (0, -1) ∧ rdS (lex tp) = s := by
  obtain ⟨tks, y, t1, y1, y2, y3, e⟩ := LXs_end l hk
  have le : tks.length = ks.length := by rw [← t1, List.length_map]
  have sg : segT (lex tp) 0 ks := by
    intro i hi
    rw [e, Nat.zero_add, List.getD_eq_getElem?_getD, List.getElem?_append_left (by omega), ← t1, List.getD_eq_getElem?_getD, List.getElem?_map, List.getElem?_eq_getElem (by omega)]
    rfl
  have k0 : tK (lex tp) ks.length = 0 := by
    unfold tK
    rw [e, List.getD_eq_getElem?_getD, List.getElem?_append_right (by omega), le, Nat.sub_self]
    exact y1
  obtain ⟨p1, qs, Lns, a1, a2, a3, a4⟩ := h (lex tp) sg (by rw [k0]; decide)
  have e400 := a3 (400 - nl)
  have l0 : lnsF (lex tp) (400 - nl) ks.length = (true, ks.length, []) := by
    rw [show 400 - nl = (399 - nl) + 1 by omega]
    exact if_pos k0
  rw [l0, List.append_nil, show 400 - nl + nl = 400 by omega] at e400
  have rl : rdL (lex tp) = (true, ks.length, Lns) := by
    unfold rdL
    rw [a1]
    exact e400
  have rs : rdS (lex tp) = s := by
    unfold rdS
    rw [rl, a1]
    exact a4
  refine ⟨?_, rs⟩
  unfold rdE
  rw [if_pos (by rw [a1]), if_pos (by rw [rl]), rs, b.1, if_pos rfl]
