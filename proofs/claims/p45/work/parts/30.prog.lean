/-! Programs: what a row of commands makes, and that the class makes it. -/
abbrev Cmd : Type := Nat × Int
abbrev Ctx : Type := Int × Int × Int × Int
def bitv (t f : Int32) : Int32 := (t >>> (f &&& 31)) &&& iZ 1
/-- what a command puts -/
def psh (c : Cmd) (x : Ctx) (tk : Int32) : Int32 := if c.1 = 3 then iZ c.2 else if c.1 = 7 then bitv tk (iZ c.2) else if c.1 = 11 then iZ x.1 else if c.1 = 12 then iZ x.2.1 else if c.1 = 13 then iZ x.2.2.1 else iZ x.2.2.2
/-- what a command joins -/
def opj (k : Nat) (l r : Int32) : Int32 := if k = 35 then l + r else if k = 36 then l - r else if k = 37 then l * r else if k = 32 then (if l < r then iZ 1 else iZ 0) else if k = 33 then (if r < l then iZ 1 else iZ 0) else if k = 34 then (if l = r then iZ 1 else iZ 0) else if k = 9 then l &&& r else l ||| r
theorem opj_32 (l r : Int32) : opj 32 l r = (if l < r then iZ 1 else iZ 0) := rfl
theorem opj_33 (l r : Int32) : opj 33 l r = (if r < l then iZ 1 else iZ 0) := rfl
theorem opj_34 (l r : Int32) : opj 34 l r = (if l = r then iZ 1 else iZ 0) := rfl
def kPu (k : Nat) : Prop := k = 3 ∨ k = 7 ∨ k = 11 ∨ k = 12 ∨ k = 13 ∨ k = 14
def kJ (k : Nat) : Prop := k = 9 ∨ k = 10 ∨ k = 32 ∨ k = 33 ∨ k = 34 ∨ k = 35 ∨ k = 36 ∨ k = 37
/-- a command takes the stack s to s1 -/
def ev1 (c : Cmd) (x : Ctx) (tk : Int32) (s s1 : List Int32) : Prop := (kPu c.1 ∧ s.length < 32 ∧ s1 = psh c x tk :: s) ∨ (c.1 = 8 ∧ ∃ v t, s = v :: t ∧ s1 = (iZ 1 - v) :: t) ∨ (kJ c.1 ∧ ∃ r l t, s = r :: l :: t ∧ s1 = opj c.1 l r :: t)
/-- a row of commands takes s to s1 -/
def evs : List Cmd → Ctx → Int32 → List Int32 → List Int32 → Prop
  | [], _, _, s, s1 => s1 = s
  | c :: l, x, tk, s, s1 => ∃ s2, ev1 c x tk s s2 ∧ evs l x tk s2 s1
theorem evs_app {x : Ctx} {tk : Int32} (l2 : List Cmd) (s2 : List Int32) : ∀ (l1 : List Cmd) (s s1 : List Int32), evs l1 x tk s s1 → evs l2 x tk s1 s2 → evs (l1 ++ l2) x tk s s2 := by
  intro l1
  induction l1 with
  | nil => intro s s1 h1 h2; cases h1; exact h2
  | cons c l ih =>
    intro s s1 h1 h2
    obtain ⟨s3, a, b⟩ := h1
    exact ⟨s3, a, ih s3 s1 b h2⟩
theorem ev1_len {c : Cmd} {x : Ctx} {tk : Int32} {s s1 : List Int32} (h : ev1 c x tk s s1) (hl : s.length ≤ 32) : s1.length ≤ 32 := by
  rcases h with ⟨-, h2, h3⟩ | ⟨-, v, t, h2, h3⟩ | ⟨-, r, l, t, h2, h3⟩
  · rw [h3]; show s.length + 1 ≤ 32; omega
  · rw [h3]; rw [h2] at hl; exact hl
  · rw [h3]; rw [h2] at hl
    replace hl : t.length + 1 + 1 ≤ 32 := hl
    show t.length + 1 ≤ 32
    omega
theorem len_cons {α : Type} (v : α) (s : List α) : ((v :: s).length : Int) = (s.length : Int) + 1 := by rw [List.length_cons]; omega
/-- a stack in row a, its top at the length of the rest -/
def stR (h : PH) (a : Nat) : List Int32 → Prop
  | [] => True
  | v :: s => h.1 a s.length = v ∧ stR h a s
theorem stR_eq {h h' : PH} {a : Nat} (e : ∀ j, h'.1 a j = h.1 a j) : ∀ (s : List Int32), stR h a s → stR h' a s := by
  intro s
  induction s with
  | nil => intro _; trivial
  | cons v s ih => intro q; exact ⟨(e _).trans q.1, ih q.2⟩
theorem stR_set {h : PH} {a k : Nat} {v : Int32} : ∀ (s : List Int32), s.length ≤ k → stR h a s → stR (setI h a k v) a s := by
  intro s
  induction s with
  | nil => intro _ _; trivial
  | cons w s ih =>
    intro hk q
    replace hk : s.length + 1 ≤ k := hk
    exact ⟨(setI_ne (by omega)).trans q.1, ih (by omega) q.2⟩
theorem stR_put {h : PH} {a : Nat} {v : Int32} {s : List Int32} (q : stR h a s) : stR (setI h a s.length v) a (v :: s) := ⟨setI_self _ _ _ _, stR_set s (Nat.le_refl _) q⟩
/-- the class's program at b + 5: its stack shows s -/
def stC (h : PH) (b : Nat) (s : List Int32) : Prop := h.1 (b + 5) 4 = iZ s.length ∧ stR h (b + 8) s
/-- nothing but the program's stack has changed -/
def fp (b : Nat) (h h' : PH) : Prop := h'.2 = h.2 ∧ (∀ a, a ≠ b + 5 → a ≠ b + 8 → h'.1 a = h.1 a) ∧ (∀ k, k ≠ 4 → h'.1 (b + 5) k = h.1 (b + 5) k)
theorem fp_refl (b : Nat) (h : PH) : fp b h h := ⟨rfl, fun _ _ _ => rfl, fun _ _ => rfl⟩
theorem fp_trans {b : Nat} {h h1 h2 : PH} (a : fp b h h1) (c : fp b h1 h2) : fp b h h2 := ⟨c.1.trans a.1, fun x h1 h2 => (c.2.1 x h1 h2).trans (a.2.1 x h1 h2), fun k hk => (c.2.2 k hk).trans (a.2.2 k hk)⟩
theorem fp_d (b : Nat) (h : PH) (v : Int32) : fp b h (setI h (b + 5) 4 v) := ⟨rfl, fun a h1 _ => setI_oth h1, fun k hk => setI_ne (by omega)⟩
theorem fp_s (b : Nat) (h : PH) (k : Nat) (v : Int32) : fp b h (setI h (b + 8) k v) := ⟨rfl, fun a _ h1 => setI_oth h1, fun k hk => setI_ne (by omega)⟩
/-- the comma that is judged -/
def proC (h : PH) (x : Ctx) (tk : Int32) : Prop := h.1 28 0 = iZ x.1 ∧ h.1 28 1 = iZ x.2.1 ∧ h.1 28 2 = iZ x.2.2.1 ∧ h.1 28 3 = iZ x.2.2.2 ∧ h.1 28 4 = tk
theorem proC_fp {h h' : PH} {b : Nat} {x : Ctx} {tk : Int32} (hb : b = 13 ∨ b = 68) (f : fp b h h') (p : proC h x tk) : proC h' x tk := by
  unfold proC
  rw [f.2.1 28 (by omega) (by omega)]
  exact p
theorem sp_push {d b : Nat} {v : Int32} {s : List Int32} {h : PH} {Q : Rs → PH → Prop} (sh : Sh h) (hb : b = 13 ∨ b = 68) (hs : stC h b s) (hl : s.length < 32) (q : ∀ h1, fp b h h1 → stC h1 b (v :: s) → Q (.inl none) h1) : Rn d 99 [.inr (.inr (.inr (5, 0, (b + 5)))), .inl (v)] h Q := by
  refine Ev.sts 1 (c' := (1, [some (.inr (.inr (.inr (5, 0, (b + 5))))), some (.inl (v))], [.inr (.inr (.inr (5, 0, (b + 5))))], h)) rfl ?_
  refine Ev.gv (w := (iZ (s.length))) rfl hs.1 ?_
  refine Ev.brF (p := (iZ (s.length)) < (iZ (0))) (c1 := (39, [some (.inr (.inr (.inr (5, 0, (b + 5))))), some (.inl (v))], [], h)) (c2 := (7, [some (.inr (.inr (.inr (5, 0, (b + 5))))), some (.inl (v))], [], h)) (fun c_ => absurd ((iZ_lt ⟨by omega, by omega⟩ ⟨by omega, by omega⟩).mp c_) (by omega)) rfl ?_
  refine Ev.sts 1 (c' := (8, [some (.inr (.inr (.inr (5, 0, (b + 5))))), some (.inl (v))], [.inr (.inr (.inr (5, 0, (b + 5))))], h)) rfl ?_
  refine Ev.gv (w := (iZ (s.length))) rfl hs.1 ?_
  refine Ev.sts 1 (c' := (12, [some (.inr (.inr (.inr (5, 0, (b + 5))))), some (.inl (v))], [.inr (.inr (.inr (5, 0, (b + 5)))), .inl (iZ (s.length))], h)) rfl ?_
  refine Ev.gfr (r := (20, 32, (b + 8))) rfl (sh_p2 sh hb) ?_
  refine Ev.sts 1 (c' := (16, [some (.inr (.inr (.inr (5, 0, (b + 5))))), some (.inl (v))], [.inl (iZ (32)), .inl (iZ (s.length))], h)) rfl ?_
  refine Ev.brF (p := (iZ (32)) ≤ (iZ (s.length))) (c1 := (39, [some (.inr (.inr (.inr (5, 0, (b + 5))))), some (.inl (v))], [], h)) (c2 := (19, [some (.inr (.inr (.inr (5, 0, (b + 5))))), some (.inl (v))], [], h)) (fun c_ => absurd ((iZ_le ⟨by omega, by omega⟩ ⟨by omega, by omega⟩).mp c_) (by omega)) rfl ?_
  refine Ev.sts 1 (c' := (20, [some (.inr (.inr (.inr (5, 0, (b + 5))))), some (.inl (v))], [.inr (.inr (.inr (5, 0, (b + 5))))], h)) rfl ?_
  refine Ev.gfr (r := (20, 32, (b + 8))) rfl (sh_p2 sh hb) ?_
  refine Ev.sts 1 (c' := (24, [some (.inr (.inr (.inr (5, 0, (b + 5))))), some (.inl (v))], [.inr (.inr (.inr (5, 0, (b + 5)))), .inr (.inr (.inr (20, 32, (b + 8))))], h)) rfl ?_
  refine Ev.gv (w := (iZ (s.length))) rfl hs.1 ?_
  refine Ev.sts 1 (c' := (28, [some (.inr (.inr (.inr (5, 0, (b + 5))))), some (.inl (v))], [.inl (v), .inl (iZ (s.length)), .inr (.inr (.inr (20, 32, (b + 8))))], h)) rfl ?_
  refine Ev.sto (j := (iZ (s.length))) (n := 32) (h2 := (setI h (b + 8) s.length (v))) (iZ_in (by omega) (by omega) (by omega)) rfl (by rw [iZ_ix (n := s.length) (by omega) (by omega)]) ?_
  refine Ev.sts 2 (c' := (31, [some (.inr (.inr (.inr (5, 0, (b + 5))))), some (.inl (v))], [.inr (.inr (.inr (5, 0, (b + 5)))), .inr (.inr (.inr (5, 0, (b + 5))))], (setI h (b + 8) s.length (v)))) rfl ?_
  refine Ev.gv (w := (iZ (s.length))) rfl ((setI_ne (b := b + 5) (by omega)).trans hs.1) ?_
  refine Ev.sts 1 (c' := (35, [some (.inr (.inr (.inr (5, 0, (b + 5))))), some (.inl (v))], [.inl (iZ (1)), .inl (iZ (s.length)), .inr (.inr (.inr (5, 0, (b + 5))))], (setI h (b + 8) s.length (v)))) rfl ?_
  refine Ev.gv (w := (iZ (s.length + 1))) rfl (iZ_add _ _) ?_
  refine Ev.sts 1 (c' := (39, [some (.inr (.inr (.inr (5, 0, (b + 5))))), some (.inl (v))], [], (setI (setI h (b + 8) s.length (v)) (b + 5) 4 ((iZ (s.length + 1)))))) rfl ?_
  exact Ev.ret rfl (q _ (fp_trans (fp_s b h s.length v) (fp_d b _ _)) ⟨setI_self _ _ _ _, stR_eq (fun j => setI_ne (by omega)) _ (stR_put hs.2)⟩)

theorem sp_pop {d b : Nat} {v : Int32} {s : List Int32} {h : PH} {Q : Rs → PH → Prop} (sh : Sh h) (hb : b = 13 ∨ b = 68) (hs : stC h b (v :: s)) (hl : s.length < 32) (q : ∀ h1, fp b h h1 → stC h1 b s → Q (.inl (some (.inl v))) h1) : Rn d 100 [.inr (.inr (.inr (5, 0, (b + 5))))] h Q := by
  refine Ev.sts 1 (c' := (1, [some (.inr (.inr (.inr (5, 0, (b + 5)))))], [.inr (.inr (.inr (5, 0, (b + 5))))], h)) rfl ?_
  refine Ev.gv (w := (iZ (s.length + 1))) rfl (hs.1.trans (congrArg iZ (len_cons _ _))) ?_
  refine Ev.sts 1 (c' := (5, [some (.inr (.inr (.inr (5, 0, (b + 5)))))], [.inl (iZ (1)), .inl (iZ (s.length + 1))], h)) rfl ?_
  refine Ev.brF (p := (iZ (s.length + 1)) < (iZ (1))) (c1 := (20, [some (.inr (.inr (.inr (5, 0, (b + 5)))))], [], h)) (c2 := (8, [some (.inr (.inr (.inr (5, 0, (b + 5)))))], [], h)) (fun c_ => absurd ((iZ_lt ⟨by omega, by omega⟩ ⟨by omega, by omega⟩).mp c_) (by omega)) rfl ?_
  refine Ev.sts 1 (c' := (9, [some (.inr (.inr (.inr (5, 0, (b + 5)))))], [.inr (.inr (.inr (5, 0, (b + 5))))], h)) rfl ?_
  refine Ev.gv (w := (iZ (s.length + 1))) rfl (hs.1.trans (congrArg iZ (len_cons _ _))) ?_
  refine Ev.sts 1 (c' := (13, [some (.inr (.inr (.inr (5, 0, (b + 5)))))], [.inr (.inr (.inr (5, 0, (b + 5)))), .inl (iZ (s.length + 1))], h)) rfl ?_
  refine Ev.gfr (r := (20, 32, (b + 8))) rfl (sh_p2 sh hb) ?_
  refine Ev.sts 1 (c' := (17, [some (.inr (.inr (.inr (5, 0, (b + 5)))))], [.inl (iZ (32)), .inl (iZ (s.length + 1))], h)) rfl ?_
  refine Ev.brT (p := (iZ (s.length + 1)) ≤ (iZ (32))) (c1 := (22, [some (.inr (.inr (.inr (5, 0, (b + 5)))))], [], h)) (c2 := (20, [some (.inr (.inr (.inr (5, 0, (b + 5)))))], [], h)) ((iZ_le ⟨by omega, by omega⟩ ⟨by omega, by omega⟩).mpr (by omega)) rfl ?_
  refine Ev.sts 2 (c' := (24, [some (.inr (.inr (.inr (5, 0, (b + 5)))))], [.inr (.inr (.inr (5, 0, (b + 5)))), .inr (.inr (.inr (5, 0, (b + 5))))], h)) rfl ?_
  refine Ev.gv (w := (iZ (s.length + 1))) rfl (hs.1.trans (congrArg iZ (len_cons _ _))) ?_
  refine Ev.sts 1 (c' := (28, [some (.inr (.inr (.inr (5, 0, (b + 5)))))], [.inl (iZ (1)), .inl (iZ (s.length + 1)), .inr (.inr (.inr (5, 0, (b + 5))))], h)) rfl ?_
  refine Ev.gv (w := (iZ ((s.length + 1) - 1))) rfl (iZ_sub _ _) ?_
  refine Ev.sts 2 (c' := (33, [some (.inr (.inr (.inr (5, 0, (b + 5)))))], [.inr (.inr (.inr (5, 0, (b + 5))))], (setI h (b + 5) 4 ((iZ ((s.length + 1) - 1)))))) rfl ?_
  refine Ev.gfr (r := (20, 32, (b + 8))) rfl (sh_p2 sh hb) ?_
  refine Ev.sts 1 (c' := (37, [some (.inr (.inr (.inr (5, 0, (b + 5)))))], [.inr (.inr (.inr (5, 0, (b + 5)))), .inr (.inr (.inr (20, 32, (b + 8))))], (setI h (b + 5) 4 ((iZ ((s.length + 1) - 1)))))) rfl ?_
  refine Ev.gv (w := (iZ ((s.length + 1) - 1))) rfl (setI_self _ _ _ _) ?_
  refine Ev.ldv (j := (iZ ((s.length + 1) - 1))) (n := 32) (w := .inl (v)) (iZ_in (by omega) (by omega) (by omega)) rfl (by rw [iZ_ix (n := s.length) (by omega) (by omega)]; exact congrArg vI ((setI_ne (b := b + 8) (j := s.length) (by omega)).trans hs.2.1)) ?_
  exact Ev.ret rfl (q _ (fp_d b h _) ⟨(setI_self _ _ _ _).trans (congrArg iZ (by omega)), stR_eq (fun j => setI_ne (by omega)) _ hs.2.2⟩)

theorem sp_ordinal {d : Nat} {n : Nat} {h : PH} : Rv d 213 [.inr (.inr (.inr (40, 0, n)))] h (some (.inl (Int32.ofNat n))) h := Rv.of fun Q q => by
  refine Ev.sts 2 (c' := (4, [some (.inr (.inr (.inr (40, 0, n))))], [.inl ((Int32.ofNat n))], h)) rfl ?_
  exact Ev.ret rfl (q)

theorem sp_jn_9 {d : Nat} {l r : Int32} {h : PH} : Rv (d + 1) 101 [.inr (.inr (.inr (40, 0, 9))), .inl (l), .inl (r)] h (some (.inl (opj 9 l r))) h := Rv.of fun Q q => by
  refine Ev.sts 2 (c' := (4, [some (.inr (.inr (.inr (40, 0, 9)))), some (.inl (l)), some (.inl (r))], [.inr (.inr (.inr (40, 0, 9))), .inr (.inr (.inr (42, 38, 0)))], h)) rfl ?_
  refine Ev.callv (a := [.inr (.inr (.inr (40, 0, 9)))]) rfl sp_ordinal ?_
  refine Ev.ldv (j := (iZ (9))) (n := 38) (w := .inl (iZ (14))) (by decide) rfl rfl ?_
  refine Ev.sts 4 (c' := (100, [some (.inr (.inr (.inr (40, 0, 9)))), some (.inl (l)), some (.inl (r))], [.inl ((l &&& r))], h)) rfl ?_
  exact Ev.ret rfl (q)

theorem sp_jn_10 {d : Nat} {l r : Int32} {h : PH} : Rv (d + 1) 101 [.inr (.inr (.inr (40, 0, 10))), .inl (l), .inl (r)] h (some (.inl (opj 10 l r))) h := Rv.of fun Q q => by
  refine Ev.sts 2 (c' := (4, [some (.inr (.inr (.inr (40, 0, 10)))), some (.inl (l)), some (.inl (r))], [.inr (.inr (.inr (40, 0, 10))), .inr (.inr (.inr (42, 38, 0)))], h)) rfl ?_
  refine Ev.callv (a := [.inr (.inr (.inr (40, 0, 10)))]) rfl sp_ordinal ?_
  refine Ev.ldv (j := (iZ (10))) (n := 38) (w := .inl (iZ (0))) (by decide) rfl rfl ?_
  refine Ev.sts 4 (c' := (104, [some (.inr (.inr (.inr (40, 0, 10)))), some (.inl (l)), some (.inl (r))], [.inl ((l ||| r))], h)) rfl ?_
  exact Ev.ret rfl (q)

theorem sp_jn_32 {d : Nat} {l r : Int32} {h : PH} : Rv (d + 1) 101 [.inr (.inr (.inr (40, 0, 32))), .inl (l), .inl (r)] h (some (.inl (opj 32 l r))) h := Rv.of fun Q q => by
  refine Ev.sts 2 (c' := (4, [some (.inr (.inr (.inr (40, 0, 32)))), some (.inl (l)), some (.inl (r))], [.inr (.inr (.inr (40, 0, 32))), .inr (.inr (.inr (42, 38, 0)))], h)) rfl ?_
  refine Ev.callv (a := [.inr (.inr (.inr (40, 0, 32)))]) rfl sp_ordinal ?_
  refine Ev.ldv (j := (iZ (32))) (n := 38) (w := .inl (iZ (11))) (by decide) rfl rfl ?_
  refine Ev.sts 3 (c' := (66, [some (.inr (.inr (.inr (40, 0, 32)))), some (.inl (l)), some (.inl (r))], [.inl (r), .inl (l)], h)) rfl ?_
  refine Ev.br (p := r ≤ l) (c1 := (73, [some (.inr (.inr (.inr (40, 0, 32)))), some (.inl (l)), some (.inl (r))], [], h)) (c2 := (69, [some (.inr (.inr (.inr (40, 0, 32)))), some (.inl (l)), some (.inl (r))], [], h)) rfl (fun c0 => ?_) (fun c0 => ?_)
  · refine Ev.sts 1 (c' := (74, [some (.inr (.inr (.inr (40, 0, 32)))), some (.inl (l)), some (.inl (r))], [.inl (iZ (0))], h)) rfl ?_
    have e : opj 32 l r = iZ 0 := (opj_32 _ _).trans (if_neg (by first | exact c0 | exact Int32.not_lt.mpr c0))
    rw [e] at q
    exact Ev.ret rfl q
  · refine Ev.sts 2 (c' := (74, [some (.inr (.inr (.inr (40, 0, 32)))), some (.inl (l)), some (.inl (r))], [.inl (iZ (1))], h)) rfl ?_
    have e : opj 32 l r = iZ 1 := (opj_32 _ _).trans (if_pos (by first | exact c0 | exact Classical.not_not.mp c0 | exact Int32.not_le.mp c0))
    rw [e] at q
    exact Ev.ret rfl q

theorem sp_jn_33 {d : Nat} {l r : Int32} {h : PH} : Rv (d + 1) 101 [.inr (.inr (.inr (40, 0, 33))), .inl (l), .inl (r)] h (some (.inl (opj 33 l r))) h := Rv.of fun Q q => by
  refine Ev.sts 2 (c' := (4, [some (.inr (.inr (.inr (40, 0, 33)))), some (.inl (l)), some (.inl (r))], [.inr (.inr (.inr (40, 0, 33))), .inr (.inr (.inr (42, 38, 0)))], h)) rfl ?_
  refine Ev.callv (a := [.inr (.inr (.inr (40, 0, 33)))]) rfl sp_ordinal ?_
  refine Ev.ldv (j := (iZ (33))) (n := 38) (w := .inl (iZ (12))) (by decide) rfl rfl ?_
  refine Ev.sts 3 (c' := (77, [some (.inr (.inr (.inr (40, 0, 33)))), some (.inl (l)), some (.inl (r))], [.inl (r), .inl (l)], h)) rfl ?_
  refine Ev.br (p := l ≤ r) (c1 := (84, [some (.inr (.inr (.inr (40, 0, 33)))), some (.inl (l)), some (.inl (r))], [], h)) (c2 := (80, [some (.inr (.inr (.inr (40, 0, 33)))), some (.inl (l)), some (.inl (r))], [], h)) rfl (fun c0 => ?_) (fun c0 => ?_)
  · refine Ev.sts 1 (c' := (85, [some (.inr (.inr (.inr (40, 0, 33)))), some (.inl (l)), some (.inl (r))], [.inl (iZ (0))], h)) rfl ?_
    have e : opj 33 l r = iZ 0 := (opj_33 _ _).trans (if_neg (by first | exact c0 | exact Int32.not_lt.mpr c0))
    rw [e] at q
    exact Ev.ret rfl q
  · refine Ev.sts 2 (c' := (85, [some (.inr (.inr (.inr (40, 0, 33)))), some (.inl (l)), some (.inl (r))], [.inl (iZ (1))], h)) rfl ?_
    have e : opj 33 l r = iZ 1 := (opj_33 _ _).trans (if_pos (by first | exact c0 | exact Classical.not_not.mp c0 | exact Int32.not_le.mp c0))
    rw [e] at q
    exact Ev.ret rfl q

theorem sp_jn_34 {d : Nat} {l r : Int32} {h : PH} : Rv (d + 1) 101 [.inr (.inr (.inr (40, 0, 34))), .inl (l), .inl (r)] h (some (.inl (opj 34 l r))) h := Rv.of fun Q q => by
  refine Ev.sts 2 (c' := (4, [some (.inr (.inr (.inr (40, 0, 34)))), some (.inl (l)), some (.inl (r))], [.inr (.inr (.inr (40, 0, 34))), .inr (.inr (.inr (42, 38, 0)))], h)) rfl ?_
  refine Ev.callv (a := [.inr (.inr (.inr (40, 0, 34)))]) rfl sp_ordinal ?_
  refine Ev.ldv (j := (iZ (34))) (n := 38) (w := .inl (iZ (13))) (by decide) rfl rfl ?_
  refine Ev.sts 3 (c' := (88, [some (.inr (.inr (.inr (40, 0, 34)))), some (.inl (l)), some (.inl (r))], [.inl (r), .inl (l)], h)) rfl ?_
  refine Ev.br (p := ¬ l = r) (c1 := (95, [some (.inr (.inr (.inr (40, 0, 34)))), some (.inl (l)), some (.inl (r))], [], h)) (c2 := (91, [some (.inr (.inr (.inr (40, 0, 34)))), some (.inl (l)), some (.inl (r))], [], h)) rfl (fun c0 => ?_) (fun c0 => ?_)
  · refine Ev.sts 1 (c' := (96, [some (.inr (.inr (.inr (40, 0, 34)))), some (.inl (l)), some (.inl (r))], [.inl (iZ (0))], h)) rfl ?_
    have e : opj 34 l r = iZ 0 := (opj_34 _ _).trans (if_neg (by first | exact c0 | exact Int32.not_lt.mpr c0))
    rw [e] at q
    exact Ev.ret rfl q
  · refine Ev.sts 2 (c' := (96, [some (.inr (.inr (.inr (40, 0, 34)))), some (.inl (l)), some (.inl (r))], [.inl (iZ (1))], h)) rfl ?_
    have e : opj 34 l r = iZ 1 := (opj_34 _ _).trans (if_pos (by first | exact c0 | exact Classical.not_not.mp c0 | exact Int32.not_le.mp c0))
    rw [e] at q
    exact Ev.ret rfl q

theorem sp_jn_35 {d : Nat} {l r : Int32} {h : PH} : Rv (d + 1) 101 [.inr (.inr (.inr (40, 0, 35))), .inl (l), .inl (r)] h (some (.inl (opj 35 l r))) h := Rv.of fun Q q => by
  refine Ev.sts 2 (c' := (4, [some (.inr (.inr (.inr (40, 0, 35)))), some (.inl (l)), some (.inl (r))], [.inr (.inr (.inr (40, 0, 35))), .inr (.inr (.inr (42, 38, 0)))], h)) rfl ?_
  refine Ev.callv (a := [.inr (.inr (.inr (40, 0, 35)))]) rfl sp_ordinal ?_
  refine Ev.ldv (j := (iZ (35))) (n := 38) (w := .inl (iZ (8))) (by decide) rfl rfl ?_
  refine Ev.sts 4 (c' := (55, [some (.inr (.inr (.inr (40, 0, 35)))), some (.inl (l)), some (.inl (r))], [.inl ((l + r))], h)) rfl ?_
  exact Ev.ret rfl (q)

theorem sp_jn_36 {d : Nat} {l r : Int32} {h : PH} : Rv (d + 1) 101 [.inr (.inr (.inr (40, 0, 36))), .inl (l), .inl (r)] h (some (.inl (opj 36 l r))) h := Rv.of fun Q q => by
  refine Ev.sts 2 (c' := (4, [some (.inr (.inr (.inr (40, 0, 36)))), some (.inl (l)), some (.inl (r))], [.inr (.inr (.inr (40, 0, 36))), .inr (.inr (.inr (42, 38, 0)))], h)) rfl ?_
  refine Ev.callv (a := [.inr (.inr (.inr (40, 0, 36)))]) rfl sp_ordinal ?_
  refine Ev.ldv (j := (iZ (36))) (n := 38) (w := .inl (iZ (9))) (by decide) rfl rfl ?_
  refine Ev.sts 4 (c' := (59, [some (.inr (.inr (.inr (40, 0, 36)))), some (.inl (l)), some (.inl (r))], [.inl ((l - r))], h)) rfl ?_
  exact Ev.ret rfl (q)

theorem sp_jn_37 {d : Nat} {l r : Int32} {h : PH} : Rv (d + 1) 101 [.inr (.inr (.inr (40, 0, 37))), .inl (l), .inl (r)] h (some (.inl (opj 37 l r))) h := Rv.of fun Q q => by
  refine Ev.sts 2 (c' := (4, [some (.inr (.inr (.inr (40, 0, 37)))), some (.inl (l)), some (.inl (r))], [.inr (.inr (.inr (40, 0, 37))), .inr (.inr (.inr (42, 38, 0)))], h)) rfl ?_
  refine Ev.callv (a := [.inr (.inr (.inr (40, 0, 37)))]) rfl sp_ordinal ?_
  refine Ev.ldv (j := (iZ (37))) (n := 38) (w := .inl (iZ (10))) (by decide) rfl rfl ?_
  refine Ev.sts 4 (c' := (63, [some (.inr (.inr (.inr (40, 0, 37)))), some (.inl (l)), some (.inl (r))], [.inl ((l * r))], h)) rfl ?_
  exact Ev.ret rfl (q)

theorem bitv_1 {t f : Int32} (c : bitP t f) : bitv t f = iZ 1 := c
theorem and1 (x : Int32) : x &&& iZ 1 = iZ 0 ∨ x &&& iZ 1 = iZ 1 := by
  have e : (x &&& iZ 1).toInt = x.toInt % 2 ^ 1 := Jvm.Kit.i32_mask x (iZ 1) (by decide) (by decide)
  have e1 := Int.emod_two_eq x.toInt
  rcases e1 with e1 | e1
  · left
    apply Int32.toInt_inj.1
    rw [e]; exact e1
  · right
    apply Int32.toInt_inj.1
    rw [e]; exact e1
theorem bitv_0 {t f : Int32} (c : ¬ bitP t f) : bitv t f = iZ 0 := by
  rcases and1 (t >>> (f &&& 31)) with e | e
  · exact e
  · exact absurd e c
theorem sp_ob_3 {d b : Nat} {n : Int} {x : Ctx} {tk : Int32} {s : List Int32} {h : PH} {Q : Rs → PH → Prop} (sh : Sh h) (hb : b = 13 ∨ b = 68) (px : proC h x tk) (hs : stC h b s) (hl : s.length < 32) (q : ∀ h1, fp b h h1 → stC h1 b (psh (3, n) x tk :: s) → Q (.inl none) h1) : Rn (d + 1) 98 [.inr (.inr (.inr (5, 0, (b + 5)))), .inr (.inr (.inr (40, 0, 3))), .inl ((iZ n)), .inr (.inr (.inr (3, 0, 28)))] h Q := by
  refine Ev.sts 2 (c' := (4, [some (.inr (.inr (.inr (5, 0, (b + 5))))), some (.inr (.inr (.inr (40, 0, 3)))), some (.inl ((iZ n))), some (.inr (.inr (.inr (3, 0, 28)))), none, none], [.inr (.inr (.inr (40, 0, 3))), .inr (.inr (.inr (42, 38, 0)))], h)) rfl ?_
  refine Ev.callv (a := [.inr (.inr (.inr (40, 0, 3)))]) rfl sp_ordinal ?_
  refine Ev.ldv (j := (iZ (3))) (n := 38) (w := .inl (iZ (1))) (by decide) rfl rfl ?_
  refine Ev.sts 3 (c' := (54, [some (.inr (.inr (.inr (5, 0, (b + 5))))), some (.inr (.inr (.inr (40, 0, 3)))), some (.inl ((iZ n))), some (.inr (.inr (.inr (3, 0, 28)))), none, none], [.inl ((iZ n)), .inr (.inr (.inr (5, 0, (b + 5))))], h)) rfl ?_
  refine Ev.callw (a := [.inr (.inr (.inr (5, 0, (b + 5)))), .inl ((iZ n))]) rfl (sp_push sh hb hs (by omega) (fun h1 f1 s1 => ?_))
  refine Ev.sts 1 (c' := (164, [some (.inr (.inr (.inr (5, 0, (b + 5))))), some (.inr (.inr (.inr (40, 0, 3)))), some (.inl ((iZ n))), some (.inr (.inr (.inr (3, 0, 28)))), none, none], [], h1)) rfl ?_
  exact Ev.ret rfl (q h1 f1 s1)

theorem sp_ob_7 {d b : Nat} {n : Int} {x : Ctx} {tk : Int32} {s : List Int32} {h : PH} {Q : Rs → PH → Prop} (sh : Sh h) (hb : b = 13 ∨ b = 68) (px : proC h x tk) (hs : stC h b s) (hl : s.length < 32) (q : ∀ h1, fp b h h1 → stC h1 b (psh (7, n) x tk :: s) → Q (.inl none) h1) : Rn (d + 1) 98 [.inr (.inr (.inr (5, 0, (b + 5)))), .inr (.inr (.inr (40, 0, 7))), .inl ((iZ n)), .inr (.inr (.inr (3, 0, 28)))] h Q := by
  refine Ev.sts 2 (c' := (4, [some (.inr (.inr (.inr (5, 0, (b + 5))))), some (.inr (.inr (.inr (40, 0, 7)))), some (.inl ((iZ n))), some (.inr (.inr (.inr (3, 0, 28)))), none, none], [.inr (.inr (.inr (40, 0, 7))), .inr (.inr (.inr (42, 38, 0)))], h)) rfl ?_
  refine Ev.callv (a := [.inr (.inr (.inr (40, 0, 7)))]) rfl sp_ordinal ?_
  refine Ev.ldv (j := (iZ (7))) (n := 38) (w := .inl (iZ (6))) (by decide) rfl rfl ?_
  refine Ev.sts 4 (c' := (107, [some (.inr (.inr (.inr (5, 0, (b + 5))))), some (.inr (.inr (.inr (40, 0, 7)))), some (.inl ((iZ n))), some (.inr (.inr (.inr (3, 0, 28)))), none, none], [.inr (.inr (.inr (3, 0, 28))), .inl ((iZ n)), .inr (.inr (.inr (5, 0, (b + 5))))], h)) rfl ?_
  refine Ev.gv (w := tk) rfl px.2.2.2.2 ?_
  refine Ev.callw (a := [.inl ((iZ n)), .inl (tk)]) rfl (sp_takes (fun c1 => ?_) (fun c1 => ?_))
  · rw [show psh (7, n) x tk = iZ 1 from bitv_1 c1] at q
    refine Ev.brF (p := (iZ (1)) = (iZ (0))) (c1 := (120, [some (.inr (.inr (.inr (5, 0, (b + 5))))), some (.inr (.inr (.inr (40, 0, 7)))), some (.inl ((iZ n))), some (.inr (.inr (.inr (3, 0, 28)))), none, none], [.inr (.inr (.inr (5, 0, (b + 5))))], h)) (c2 := (116, [some (.inr (.inr (.inr (5, 0, (b + 5))))), some (.inr (.inr (.inr (40, 0, 7)))), some (.inl ((iZ n))), some (.inr (.inr (.inr (3, 0, 28)))), none, none], [.inr (.inr (.inr (5, 0, (b + 5))))], h)) (by decide) rfl ?_
    refine Ev.sts 2 (c' := (121, [some (.inr (.inr (.inr (5, 0, (b + 5))))), some (.inr (.inr (.inr (40, 0, 7)))), some (.inl ((iZ n))), some (.inr (.inr (.inr (3, 0, 28)))), none, none], [.inl (iZ (1)), .inr (.inr (.inr (5, 0, (b + 5))))], h)) rfl ?_
    refine Ev.callw (a := [.inr (.inr (.inr (5, 0, (b + 5)))), .inl (iZ (1))]) rfl (sp_push sh hb hs (by omega) (fun h1 f1 s1 => ?_))
    refine Ev.sts 1 (c' := (164, [some (.inr (.inr (.inr (5, 0, (b + 5))))), some (.inr (.inr (.inr (40, 0, 7)))), some (.inl ((iZ n))), some (.inr (.inr (.inr (3, 0, 28)))), none, none], [], h1)) rfl ?_
    exact Ev.ret rfl (q h1 f1 s1)
  · rw [show psh (7, n) x tk = iZ 0 from bitv_0 c1] at q
    refine Ev.brT (p := (iZ (0)) = (iZ (0))) (c1 := (120, [some (.inr (.inr (.inr (5, 0, (b + 5))))), some (.inr (.inr (.inr (40, 0, 7)))), some (.inl ((iZ n))), some (.inr (.inr (.inr (3, 0, 28)))), none, none], [.inr (.inr (.inr (5, 0, (b + 5))))], h)) (c2 := (116, [some (.inr (.inr (.inr (5, 0, (b + 5))))), some (.inr (.inr (.inr (40, 0, 7)))), some (.inl ((iZ n))), some (.inr (.inr (.inr (3, 0, 28)))), none, none], [.inr (.inr (.inr (5, 0, (b + 5))))], h)) (by decide) rfl ?_
    refine Ev.sts 1 (c' := (121, [some (.inr (.inr (.inr (5, 0, (b + 5))))), some (.inr (.inr (.inr (40, 0, 7)))), some (.inl ((iZ n))), some (.inr (.inr (.inr (3, 0, 28)))), none, none], [.inl (iZ (0)), .inr (.inr (.inr (5, 0, (b + 5))))], h)) rfl ?_
    refine Ev.callw (a := [.inr (.inr (.inr (5, 0, (b + 5)))), .inl (iZ (0))]) rfl (sp_push sh hb hs (by omega) (fun h1 f1 s1 => ?_))
    refine Ev.sts 1 (c' := (164, [some (.inr (.inr (.inr (5, 0, (b + 5))))), some (.inr (.inr (.inr (40, 0, 7)))), some (.inl ((iZ n))), some (.inr (.inr (.inr (3, 0, 28)))), none, none], [], h1)) rfl ?_
    exact Ev.ret rfl (q h1 f1 s1)

theorem sp_ob_11 {d b : Nat} {n : Int} {x : Ctx} {tk : Int32} {s : List Int32} {h : PH} {Q : Rs → PH → Prop} (sh : Sh h) (hb : b = 13 ∨ b = 68) (px : proC h x tk) (hs : stC h b s) (hl : s.length < 32) (q : ∀ h1, fp b h h1 → stC h1 b (psh (11, n) x tk :: s) → Q (.inl none) h1) : Rn (d + 1) 98 [.inr (.inr (.inr (5, 0, (b + 5)))), .inr (.inr (.inr (40, 0, 11))), .inl ((iZ n)), .inr (.inr (.inr (3, 0, 28)))] h Q := by
  refine Ev.sts 2 (c' := (4, [some (.inr (.inr (.inr (5, 0, (b + 5))))), some (.inr (.inr (.inr (40, 0, 11)))), some (.inl ((iZ n))), some (.inr (.inr (.inr (3, 0, 28)))), none, none], [.inr (.inr (.inr (40, 0, 11))), .inr (.inr (.inr (42, 38, 0)))], h)) rfl ?_
  refine Ev.callv (a := [.inr (.inr (.inr (40, 0, 11)))]) rfl sp_ordinal ?_
  refine Ev.ldv (j := (iZ (11))) (n := 38) (w := .inl (iZ (2))) (by decide) rfl rfl ?_
  refine Ev.sts 3 (c' := (62, [some (.inr (.inr (.inr (5, 0, (b + 5))))), some (.inr (.inr (.inr (40, 0, 11)))), some (.inl ((iZ n))), some (.inr (.inr (.inr (3, 0, 28)))), none, none], [.inr (.inr (.inr (3, 0, 28))), .inr (.inr (.inr (5, 0, (b + 5))))], h)) rfl ?_
  refine Ev.gv (w := (iZ (x.1))) rfl px.1 ?_
  refine Ev.callw (a := [.inr (.inr (.inr (5, 0, (b + 5)))), .inl (iZ (x.1))]) rfl (sp_push sh hb hs (by omega) (fun h1 f1 s1 => ?_))
  refine Ev.sts 1 (c' := (164, [some (.inr (.inr (.inr (5, 0, (b + 5))))), some (.inr (.inr (.inr (40, 0, 11)))), some (.inl ((iZ n))), some (.inr (.inr (.inr (3, 0, 28)))), none, none], [], h1)) rfl ?_
  exact Ev.ret rfl (q h1 f1 s1)

theorem sp_ob_12 {d b : Nat} {n : Int} {x : Ctx} {tk : Int32} {s : List Int32} {h : PH} {Q : Rs → PH → Prop} (sh : Sh h) (hb : b = 13 ∨ b = 68) (px : proC h x tk) (hs : stC h b s) (hl : s.length < 32) (q : ∀ h1, fp b h h1 → stC h1 b (psh (12, n) x tk :: s) → Q (.inl none) h1) : Rn (d + 1) 98 [.inr (.inr (.inr (5, 0, (b + 5)))), .inr (.inr (.inr (40, 0, 12))), .inl ((iZ n)), .inr (.inr (.inr (3, 0, 28)))] h Q := by
  refine Ev.sts 2 (c' := (4, [some (.inr (.inr (.inr (5, 0, (b + 5))))), some (.inr (.inr (.inr (40, 0, 12)))), some (.inl ((iZ n))), some (.inr (.inr (.inr (3, 0, 28)))), none, none], [.inr (.inr (.inr (40, 0, 12))), .inr (.inr (.inr (42, 38, 0)))], h)) rfl ?_
  refine Ev.callv (a := [.inr (.inr (.inr (40, 0, 12)))]) rfl sp_ordinal ?_
  refine Ev.ldv (j := (iZ (12))) (n := 38) (w := .inl (iZ (3))) (by decide) rfl rfl ?_
  refine Ev.sts 3 (c' := (73, [some (.inr (.inr (.inr (5, 0, (b + 5))))), some (.inr (.inr (.inr (40, 0, 12)))), some (.inl ((iZ n))), some (.inr (.inr (.inr (3, 0, 28)))), none, none], [.inr (.inr (.inr (3, 0, 28))), .inr (.inr (.inr (5, 0, (b + 5))))], h)) rfl ?_
  refine Ev.gv (w := (iZ (x.2.1))) rfl px.2.1 ?_
  refine Ev.callw (a := [.inr (.inr (.inr (5, 0, (b + 5)))), .inl (iZ (x.2.1))]) rfl (sp_push sh hb hs (by omega) (fun h1 f1 s1 => ?_))
  refine Ev.sts 1 (c' := (164, [some (.inr (.inr (.inr (5, 0, (b + 5))))), some (.inr (.inr (.inr (40, 0, 12)))), some (.inl ((iZ n))), some (.inr (.inr (.inr (3, 0, 28)))), none, none], [], h1)) rfl ?_
  exact Ev.ret rfl (q h1 f1 s1)

theorem sp_ob_13 {d b : Nat} {n : Int} {x : Ctx} {tk : Int32} {s : List Int32} {h : PH} {Q : Rs → PH → Prop} (sh : Sh h) (hb : b = 13 ∨ b = 68) (px : proC h x tk) (hs : stC h b s) (hl : s.length < 32) (q : ∀ h1, fp b h h1 → stC h1 b (psh (13, n) x tk :: s) → Q (.inl none) h1) : Rn (d + 1) 98 [.inr (.inr (.inr (5, 0, (b + 5)))), .inr (.inr (.inr (40, 0, 13))), .inl ((iZ n)), .inr (.inr (.inr (3, 0, 28)))] h Q := by
  refine Ev.sts 2 (c' := (4, [some (.inr (.inr (.inr (5, 0, (b + 5))))), some (.inr (.inr (.inr (40, 0, 13)))), some (.inl ((iZ n))), some (.inr (.inr (.inr (3, 0, 28)))), none, none], [.inr (.inr (.inr (40, 0, 13))), .inr (.inr (.inr (42, 38, 0)))], h)) rfl ?_
  refine Ev.callv (a := [.inr (.inr (.inr (40, 0, 13)))]) rfl sp_ordinal ?_
  refine Ev.ldv (j := (iZ (13))) (n := 38) (w := .inl (iZ (4))) (by decide) rfl rfl ?_
  refine Ev.sts 3 (c' := (84, [some (.inr (.inr (.inr (5, 0, (b + 5))))), some (.inr (.inr (.inr (40, 0, 13)))), some (.inl ((iZ n))), some (.inr (.inr (.inr (3, 0, 28)))), none, none], [.inr (.inr (.inr (3, 0, 28))), .inr (.inr (.inr (5, 0, (b + 5))))], h)) rfl ?_
  refine Ev.gv (w := (iZ (x.2.2.1))) rfl px.2.2.1 ?_
  refine Ev.callw (a := [.inr (.inr (.inr (5, 0, (b + 5)))), .inl (iZ (x.2.2.1))]) rfl (sp_push sh hb hs (by omega) (fun h1 f1 s1 => ?_))
  refine Ev.sts 1 (c' := (164, [some (.inr (.inr (.inr (5, 0, (b + 5))))), some (.inr (.inr (.inr (40, 0, 13)))), some (.inl ((iZ n))), some (.inr (.inr (.inr (3, 0, 28)))), none, none], [], h1)) rfl ?_
  exact Ev.ret rfl (q h1 f1 s1)

theorem sp_ob_14 {d b : Nat} {n : Int} {x : Ctx} {tk : Int32} {s : List Int32} {h : PH} {Q : Rs → PH → Prop} (sh : Sh h) (hb : b = 13 ∨ b = 68) (px : proC h x tk) (hs : stC h b s) (hl : s.length < 32) (q : ∀ h1, fp b h h1 → stC h1 b (psh (14, n) x tk :: s) → Q (.inl none) h1) : Rn (d + 1) 98 [.inr (.inr (.inr (5, 0, (b + 5)))), .inr (.inr (.inr (40, 0, 14))), .inl ((iZ n)), .inr (.inr (.inr (3, 0, 28)))] h Q := by
  refine Ev.sts 2 (c' := (4, [some (.inr (.inr (.inr (5, 0, (b + 5))))), some (.inr (.inr (.inr (40, 0, 14)))), some (.inl ((iZ n))), some (.inr (.inr (.inr (3, 0, 28)))), none, none], [.inr (.inr (.inr (40, 0, 14))), .inr (.inr (.inr (42, 38, 0)))], h)) rfl ?_
  refine Ev.callv (a := [.inr (.inr (.inr (40, 0, 14)))]) rfl sp_ordinal ?_
  refine Ev.ldv (j := (iZ (14))) (n := 38) (w := .inl (iZ (5))) (by decide) rfl rfl ?_
  refine Ev.sts 3 (c' := (95, [some (.inr (.inr (.inr (5, 0, (b + 5))))), some (.inr (.inr (.inr (40, 0, 14)))), some (.inl ((iZ n))), some (.inr (.inr (.inr (3, 0, 28)))), none, none], [.inr (.inr (.inr (3, 0, 28))), .inr (.inr (.inr (5, 0, (b + 5))))], h)) rfl ?_
  refine Ev.gv (w := (iZ (x.2.2.2))) rfl px.2.2.2.1 ?_
  refine Ev.callw (a := [.inr (.inr (.inr (5, 0, (b + 5)))), .inl (iZ (x.2.2.2))]) rfl (sp_push sh hb hs (by omega) (fun h1 f1 s1 => ?_))
  refine Ev.sts 1 (c' := (164, [some (.inr (.inr (.inr (5, 0, (b + 5))))), some (.inr (.inr (.inr (40, 0, 14)))), some (.inl ((iZ n))), some (.inr (.inr (.inr (3, 0, 28)))), none, none], [], h1)) rfl ?_
  exact Ev.ret rfl (q h1 f1 s1)

theorem sp_ob_8 {d b : Nat} {n : Int} {v : Int32} {s : List Int32} {h : PH} {Q : Rs → PH → Prop} (sh : Sh h) (hb : b = 13 ∨ b = 68) (hs : stC h b (v :: s)) (hl : s.length < 32) (q : ∀ h1, fp b h h1 → stC h1 b ((iZ 1 - v) :: s) → Q (.inl none) h1) : Rn (d + 1) 98 [.inr (.inr (.inr (5, 0, (b + 5)))), .inr (.inr (.inr (40, 0, 8))), .inl ((iZ n)), .inr (.inr (.inr (3, 0, 28)))] h Q := by
  refine Ev.sts 2 (c' := (4, [some (.inr (.inr (.inr (5, 0, (b + 5))))), some (.inr (.inr (.inr (40, 0, 8)))), some (.inl ((iZ n))), some (.inr (.inr (.inr (3, 0, 28)))), none, none], [.inr (.inr (.inr (40, 0, 8))), .inr (.inr (.inr (42, 38, 0)))], h)) rfl ?_
  refine Ev.callv (a := [.inr (.inr (.inr (40, 0, 8)))]) rfl sp_ordinal ?_
  refine Ev.ldv (j := (iZ (8))) (n := 38) (w := .inl (iZ (7))) (by decide) rfl rfl ?_
  refine Ev.sts 4 (c' := (130, [some (.inr (.inr (.inr (5, 0, (b + 5))))), some (.inr (.inr (.inr (40, 0, 8)))), some (.inl ((iZ n))), some (.inr (.inr (.inr (3, 0, 28)))), none, none], [.inr (.inr (.inr (5, 0, (b + 5)))), .inl (iZ (1)), .inr (.inr (.inr (5, 0, (b + 5))))], h)) rfl ?_
  refine Ev.callw (a := [.inr (.inr (.inr (5, 0, (b + 5))))]) rfl (sp_pop sh hb hs (by omega) (fun h1 f1 s1 => ?_))
  refine Ev.sts 1 (c' := (134, [some (.inr (.inr (.inr (5, 0, (b + 5))))), some (.inr (.inr (.inr (40, 0, 8)))), some (.inl ((iZ n))), some (.inr (.inr (.inr (3, 0, 28)))), none, none], [.inl (((iZ (1)) - v)), .inr (.inr (.inr (5, 0, (b + 5))))], h1)) rfl ?_
  refine Ev.callw (a := [.inr (.inr (.inr (5, 0, (b + 5)))), .inl (((iZ (1)) - v))]) rfl (sp_push (Sh_eq sh f1.1) hb s1 (by omega) (fun h2 f2 s2 => ?_))
  refine Ev.sts 1 (c' := (164, [some (.inr (.inr (.inr (5, 0, (b + 5))))), some (.inr (.inr (.inr (40, 0, 8)))), some (.inl ((iZ n))), some (.inr (.inr (.inr (3, 0, 28)))), none, none], [], h2)) rfl ?_
  exact Ev.ret rfl (q h2 (fp_trans f1 f2) s2)

theorem sp_ob_9 {d b : Nat} {n : Int} {r l : Int32} {s : List Int32} {h : PH} {Q : Rs → PH → Prop} (sh : Sh h) (hb : b = 13 ∨ b = 68) (hs : stC h b (r :: l :: s)) (hl : s.length < 31) (hll : (l :: s).length < 32) (q : ∀ h1, fp b h h1 → stC h1 b (opj 9 l r :: s) → Q (.inl none) h1) : Rn (d + 2) 98 [.inr (.inr (.inr (5, 0, (b + 5)))), .inr (.inr (.inr (40, 0, 9))), .inl ((iZ n)), .inr (.inr (.inr (3, 0, 28)))] h Q := by
  refine Ev.sts 2 (c' := (4, [some (.inr (.inr (.inr (5, 0, (b + 5))))), some (.inr (.inr (.inr (40, 0, 9)))), some (.inl ((iZ n))), some (.inr (.inr (.inr (3, 0, 28)))), none, none], [.inr (.inr (.inr (40, 0, 9))), .inr (.inr (.inr (42, 38, 0)))], h)) rfl ?_
  refine Ev.callv (a := [.inr (.inr (.inr (40, 0, 9)))]) rfl sp_ordinal ?_
  refine Ev.ldv (j := (iZ (9))) (n := 38) (w := .inl (iZ (14))) (by decide) rfl rfl ?_
  refine Ev.sts 2 (c' := (141, [some (.inr (.inr (.inr (5, 0, (b + 5))))), some (.inr (.inr (.inr (40, 0, 9)))), some (.inl ((iZ n))), some (.inr (.inr (.inr (3, 0, 28)))), none, none], [.inr (.inr (.inr (5, 0, (b + 5))))], h)) rfl ?_
  refine Ev.callw (a := [.inr (.inr (.inr (5, 0, (b + 5))))]) rfl (sp_pop sh hb hs (by omega) (fun h1 f1 s1 => ?_))
  refine Ev.sts 2 (c' := (147, [some (.inr (.inr (.inr (5, 0, (b + 5))))), some (.inr (.inr (.inr (40, 0, 9)))), some (.inl ((iZ n))), some (.inr (.inr (.inr (3, 0, 28)))), some (.inl (r)), none], [.inr (.inr (.inr (5, 0, (b + 5))))], h1)) rfl ?_
  refine Ev.callw (a := [.inr (.inr (.inr (5, 0, (b + 5))))]) rfl (sp_pop (Sh_eq sh f1.1) hb s1 (by omega) (fun h2 f2 s2 => ?_))
  refine Ev.sts 5 (c' := (158, [some (.inr (.inr (.inr (5, 0, (b + 5))))), some (.inr (.inr (.inr (40, 0, 9)))), some (.inl ((iZ n))), some (.inr (.inr (.inr (3, 0, 28)))), some (.inl (r)), some (.inl (l))], [.inl (r), .inl (l), .inr (.inr (.inr (40, 0, 9))), .inr (.inr (.inr (5, 0, (b + 5))))], h2)) rfl ?_
  refine Ev.callv (a := [.inr (.inr (.inr (40, 0, 9))), .inl (l), .inl (r)]) rfl sp_jn_9 ?_
  refine Ev.callw (a := [.inr (.inr (.inr (5, 0, (b + 5)))), .inl ((opj 9 l r))]) rfl (sp_push (Sh_eq (Sh_eq sh f1.1) f2.1) hb s2 (by omega) (fun h3 f3 s3 => ?_))
  exact Ev.ret rfl (q h3 (fp_trans (fp_trans f1 f2) f3) s3)

theorem sp_ob_10 {d b : Nat} {n : Int} {r l : Int32} {s : List Int32} {h : PH} {Q : Rs → PH → Prop} (sh : Sh h) (hb : b = 13 ∨ b = 68) (hs : stC h b (r :: l :: s)) (hl : s.length < 31) (hll : (l :: s).length < 32) (q : ∀ h1, fp b h h1 → stC h1 b (opj 10 l r :: s) → Q (.inl none) h1) : Rn (d + 2) 98 [.inr (.inr (.inr (5, 0, (b + 5)))), .inr (.inr (.inr (40, 0, 10))), .inl ((iZ n)), .inr (.inr (.inr (3, 0, 28)))] h Q := by
  refine Ev.sts 2 (c' := (4, [some (.inr (.inr (.inr (5, 0, (b + 5))))), some (.inr (.inr (.inr (40, 0, 10)))), some (.inl ((iZ n))), some (.inr (.inr (.inr (3, 0, 28)))), none, none], [.inr (.inr (.inr (40, 0, 10))), .inr (.inr (.inr (42, 38, 0)))], h)) rfl ?_
  refine Ev.callv (a := [.inr (.inr (.inr (40, 0, 10)))]) rfl sp_ordinal ?_
  refine Ev.ldv (j := (iZ (10))) (n := 38) (w := .inl (iZ (0))) (by decide) rfl rfl ?_
  refine Ev.sts 2 (c' := (141, [some (.inr (.inr (.inr (5, 0, (b + 5))))), some (.inr (.inr (.inr (40, 0, 10)))), some (.inl ((iZ n))), some (.inr (.inr (.inr (3, 0, 28)))), none, none], [.inr (.inr (.inr (5, 0, (b + 5))))], h)) rfl ?_
  refine Ev.callw (a := [.inr (.inr (.inr (5, 0, (b + 5))))]) rfl (sp_pop sh hb hs (by omega) (fun h1 f1 s1 => ?_))
  refine Ev.sts 2 (c' := (147, [some (.inr (.inr (.inr (5, 0, (b + 5))))), some (.inr (.inr (.inr (40, 0, 10)))), some (.inl ((iZ n))), some (.inr (.inr (.inr (3, 0, 28)))), some (.inl (r)), none], [.inr (.inr (.inr (5, 0, (b + 5))))], h1)) rfl ?_
  refine Ev.callw (a := [.inr (.inr (.inr (5, 0, (b + 5))))]) rfl (sp_pop (Sh_eq sh f1.1) hb s1 (by omega) (fun h2 f2 s2 => ?_))
  refine Ev.sts 5 (c' := (158, [some (.inr (.inr (.inr (5, 0, (b + 5))))), some (.inr (.inr (.inr (40, 0, 10)))), some (.inl ((iZ n))), some (.inr (.inr (.inr (3, 0, 28)))), some (.inl (r)), some (.inl (l))], [.inl (r), .inl (l), .inr (.inr (.inr (40, 0, 10))), .inr (.inr (.inr (5, 0, (b + 5))))], h2)) rfl ?_
  refine Ev.callv (a := [.inr (.inr (.inr (40, 0, 10))), .inl (l), .inl (r)]) rfl sp_jn_10 ?_
  refine Ev.callw (a := [.inr (.inr (.inr (5, 0, (b + 5)))), .inl ((opj 10 l r))]) rfl (sp_push (Sh_eq (Sh_eq sh f1.1) f2.1) hb s2 (by omega) (fun h3 f3 s3 => ?_))
  exact Ev.ret rfl (q h3 (fp_trans (fp_trans f1 f2) f3) s3)

theorem sp_ob_32 {d b : Nat} {n : Int} {r l : Int32} {s : List Int32} {h : PH} {Q : Rs → PH → Prop} (sh : Sh h) (hb : b = 13 ∨ b = 68) (hs : stC h b (r :: l :: s)) (hl : s.length < 31) (hll : (l :: s).length < 32) (q : ∀ h1, fp b h h1 → stC h1 b (opj 32 l r :: s) → Q (.inl none) h1) : Rn (d + 2) 98 [.inr (.inr (.inr (5, 0, (b + 5)))), .inr (.inr (.inr (40, 0, 32))), .inl ((iZ n)), .inr (.inr (.inr (3, 0, 28)))] h Q := by
  refine Ev.sts 2 (c' := (4, [some (.inr (.inr (.inr (5, 0, (b + 5))))), some (.inr (.inr (.inr (40, 0, 32)))), some (.inl ((iZ n))), some (.inr (.inr (.inr (3, 0, 28)))), none, none], [.inr (.inr (.inr (40, 0, 32))), .inr (.inr (.inr (42, 38, 0)))], h)) rfl ?_
  refine Ev.callv (a := [.inr (.inr (.inr (40, 0, 32)))]) rfl sp_ordinal ?_
  refine Ev.ldv (j := (iZ (32))) (n := 38) (w := .inl (iZ (11))) (by decide) rfl rfl ?_
  refine Ev.sts 2 (c' := (141, [some (.inr (.inr (.inr (5, 0, (b + 5))))), some (.inr (.inr (.inr (40, 0, 32)))), some (.inl ((iZ n))), some (.inr (.inr (.inr (3, 0, 28)))), none, none], [.inr (.inr (.inr (5, 0, (b + 5))))], h)) rfl ?_
  refine Ev.callw (a := [.inr (.inr (.inr (5, 0, (b + 5))))]) rfl (sp_pop sh hb hs (by omega) (fun h1 f1 s1 => ?_))
  refine Ev.sts 2 (c' := (147, [some (.inr (.inr (.inr (5, 0, (b + 5))))), some (.inr (.inr (.inr (40, 0, 32)))), some (.inl ((iZ n))), some (.inr (.inr (.inr (3, 0, 28)))), some (.inl (r)), none], [.inr (.inr (.inr (5, 0, (b + 5))))], h1)) rfl ?_
  refine Ev.callw (a := [.inr (.inr (.inr (5, 0, (b + 5))))]) rfl (sp_pop (Sh_eq sh f1.1) hb s1 (by omega) (fun h2 f2 s2 => ?_))
  refine Ev.sts 5 (c' := (158, [some (.inr (.inr (.inr (5, 0, (b + 5))))), some (.inr (.inr (.inr (40, 0, 32)))), some (.inl ((iZ n))), some (.inr (.inr (.inr (3, 0, 28)))), some (.inl (r)), some (.inl (l))], [.inl (r), .inl (l), .inr (.inr (.inr (40, 0, 32))), .inr (.inr (.inr (5, 0, (b + 5))))], h2)) rfl ?_
  refine Ev.callv (a := [.inr (.inr (.inr (40, 0, 32))), .inl (l), .inl (r)]) rfl sp_jn_32 ?_
  refine Ev.callw (a := [.inr (.inr (.inr (5, 0, (b + 5)))), .inl ((opj 32 l r))]) rfl (sp_push (Sh_eq (Sh_eq sh f1.1) f2.1) hb s2 (by omega) (fun h3 f3 s3 => ?_))
  exact Ev.ret rfl (q h3 (fp_trans (fp_trans f1 f2) f3) s3)

theorem sp_ob_33 {d b : Nat} {n : Int} {r l : Int32} {s : List Int32} {h : PH} {Q : Rs → PH → Prop} (sh : Sh h) (hb : b = 13 ∨ b = 68) (hs : stC h b (r :: l :: s)) (hl : s.length < 31) (hll : (l :: s).length < 32) (q : ∀ h1, fp b h h1 → stC h1 b (opj 33 l r :: s) → Q (.inl none) h1) : Rn (d + 2) 98 [.inr (.inr (.inr (5, 0, (b + 5)))), .inr (.inr (.inr (40, 0, 33))), .inl ((iZ n)), .inr (.inr (.inr (3, 0, 28)))] h Q := by
  refine Ev.sts 2 (c' := (4, [some (.inr (.inr (.inr (5, 0, (b + 5))))), some (.inr (.inr (.inr (40, 0, 33)))), some (.inl ((iZ n))), some (.inr (.inr (.inr (3, 0, 28)))), none, none], [.inr (.inr (.inr (40, 0, 33))), .inr (.inr (.inr (42, 38, 0)))], h)) rfl ?_
  refine Ev.callv (a := [.inr (.inr (.inr (40, 0, 33)))]) rfl sp_ordinal ?_
  refine Ev.ldv (j := (iZ (33))) (n := 38) (w := .inl (iZ (12))) (by decide) rfl rfl ?_
  refine Ev.sts 2 (c' := (141, [some (.inr (.inr (.inr (5, 0, (b + 5))))), some (.inr (.inr (.inr (40, 0, 33)))), some (.inl ((iZ n))), some (.inr (.inr (.inr (3, 0, 28)))), none, none], [.inr (.inr (.inr (5, 0, (b + 5))))], h)) rfl ?_
  refine Ev.callw (a := [.inr (.inr (.inr (5, 0, (b + 5))))]) rfl (sp_pop sh hb hs (by omega) (fun h1 f1 s1 => ?_))
  refine Ev.sts 2 (c' := (147, [some (.inr (.inr (.inr (5, 0, (b + 5))))), some (.inr (.inr (.inr (40, 0, 33)))), some (.inl ((iZ n))), some (.inr (.inr (.inr (3, 0, 28)))), some (.inl (r)), none], [.inr (.inr (.inr (5, 0, (b + 5))))], h1)) rfl ?_
  refine Ev.callw (a := [.inr (.inr (.inr (5, 0, (b + 5))))]) rfl (sp_pop (Sh_eq sh f1.1) hb s1 (by omega) (fun h2 f2 s2 => ?_))
  refine Ev.sts 5 (c' := (158, [some (.inr (.inr (.inr (5, 0, (b + 5))))), some (.inr (.inr (.inr (40, 0, 33)))), some (.inl ((iZ n))), some (.inr (.inr (.inr (3, 0, 28)))), some (.inl (r)), some (.inl (l))], [.inl (r), .inl (l), .inr (.inr (.inr (40, 0, 33))), .inr (.inr (.inr (5, 0, (b + 5))))], h2)) rfl ?_
  refine Ev.callv (a := [.inr (.inr (.inr (40, 0, 33))), .inl (l), .inl (r)]) rfl sp_jn_33 ?_
  refine Ev.callw (a := [.inr (.inr (.inr (5, 0, (b + 5)))), .inl ((opj 33 l r))]) rfl (sp_push (Sh_eq (Sh_eq sh f1.1) f2.1) hb s2 (by omega) (fun h3 f3 s3 => ?_))
  exact Ev.ret rfl (q h3 (fp_trans (fp_trans f1 f2) f3) s3)

theorem sp_ob_34 {d b : Nat} {n : Int} {r l : Int32} {s : List Int32} {h : PH} {Q : Rs → PH → Prop} (sh : Sh h) (hb : b = 13 ∨ b = 68) (hs : stC h b (r :: l :: s)) (hl : s.length < 31) (hll : (l :: s).length < 32) (q : ∀ h1, fp b h h1 → stC h1 b (opj 34 l r :: s) → Q (.inl none) h1) : Rn (d + 2) 98 [.inr (.inr (.inr (5, 0, (b + 5)))), .inr (.inr (.inr (40, 0, 34))), .inl ((iZ n)), .inr (.inr (.inr (3, 0, 28)))] h Q := by
  refine Ev.sts 2 (c' := (4, [some (.inr (.inr (.inr (5, 0, (b + 5))))), some (.inr (.inr (.inr (40, 0, 34)))), some (.inl ((iZ n))), some (.inr (.inr (.inr (3, 0, 28)))), none, none], [.inr (.inr (.inr (40, 0, 34))), .inr (.inr (.inr (42, 38, 0)))], h)) rfl ?_
  refine Ev.callv (a := [.inr (.inr (.inr (40, 0, 34)))]) rfl sp_ordinal ?_
  refine Ev.ldv (j := (iZ (34))) (n := 38) (w := .inl (iZ (13))) (by decide) rfl rfl ?_
  refine Ev.sts 2 (c' := (141, [some (.inr (.inr (.inr (5, 0, (b + 5))))), some (.inr (.inr (.inr (40, 0, 34)))), some (.inl ((iZ n))), some (.inr (.inr (.inr (3, 0, 28)))), none, none], [.inr (.inr (.inr (5, 0, (b + 5))))], h)) rfl ?_
  refine Ev.callw (a := [.inr (.inr (.inr (5, 0, (b + 5))))]) rfl (sp_pop sh hb hs (by omega) (fun h1 f1 s1 => ?_))
  refine Ev.sts 2 (c' := (147, [some (.inr (.inr (.inr (5, 0, (b + 5))))), some (.inr (.inr (.inr (40, 0, 34)))), some (.inl ((iZ n))), some (.inr (.inr (.inr (3, 0, 28)))), some (.inl (r)), none], [.inr (.inr (.inr (5, 0, (b + 5))))], h1)) rfl ?_
  refine Ev.callw (a := [.inr (.inr (.inr (5, 0, (b + 5))))]) rfl (sp_pop (Sh_eq sh f1.1) hb s1 (by omega) (fun h2 f2 s2 => ?_))
  refine Ev.sts 5 (c' := (158, [some (.inr (.inr (.inr (5, 0, (b + 5))))), some (.inr (.inr (.inr (40, 0, 34)))), some (.inl ((iZ n))), some (.inr (.inr (.inr (3, 0, 28)))), some (.inl (r)), some (.inl (l))], [.inl (r), .inl (l), .inr (.inr (.inr (40, 0, 34))), .inr (.inr (.inr (5, 0, (b + 5))))], h2)) rfl ?_
  refine Ev.callv (a := [.inr (.inr (.inr (40, 0, 34))), .inl (l), .inl (r)]) rfl sp_jn_34 ?_
  refine Ev.callw (a := [.inr (.inr (.inr (5, 0, (b + 5)))), .inl ((opj 34 l r))]) rfl (sp_push (Sh_eq (Sh_eq sh f1.1) f2.1) hb s2 (by omega) (fun h3 f3 s3 => ?_))
  exact Ev.ret rfl (q h3 (fp_trans (fp_trans f1 f2) f3) s3)

theorem sp_ob_35 {d b : Nat} {n : Int} {r l : Int32} {s : List Int32} {h : PH} {Q : Rs → PH → Prop} (sh : Sh h) (hb : b = 13 ∨ b = 68) (hs : stC h b (r :: l :: s)) (hl : s.length < 31) (hll : (l :: s).length < 32) (q : ∀ h1, fp b h h1 → stC h1 b (opj 35 l r :: s) → Q (.inl none) h1) : Rn (d + 2) 98 [.inr (.inr (.inr (5, 0, (b + 5)))), .inr (.inr (.inr (40, 0, 35))), .inl ((iZ n)), .inr (.inr (.inr (3, 0, 28)))] h Q := by
  refine Ev.sts 2 (c' := (4, [some (.inr (.inr (.inr (5, 0, (b + 5))))), some (.inr (.inr (.inr (40, 0, 35)))), some (.inl ((iZ n))), some (.inr (.inr (.inr (3, 0, 28)))), none, none], [.inr (.inr (.inr (40, 0, 35))), .inr (.inr (.inr (42, 38, 0)))], h)) rfl ?_
  refine Ev.callv (a := [.inr (.inr (.inr (40, 0, 35)))]) rfl sp_ordinal ?_
  refine Ev.ldv (j := (iZ (35))) (n := 38) (w := .inl (iZ (8))) (by decide) rfl rfl ?_
  refine Ev.sts 2 (c' := (141, [some (.inr (.inr (.inr (5, 0, (b + 5))))), some (.inr (.inr (.inr (40, 0, 35)))), some (.inl ((iZ n))), some (.inr (.inr (.inr (3, 0, 28)))), none, none], [.inr (.inr (.inr (5, 0, (b + 5))))], h)) rfl ?_
  refine Ev.callw (a := [.inr (.inr (.inr (5, 0, (b + 5))))]) rfl (sp_pop sh hb hs (by omega) (fun h1 f1 s1 => ?_))
  refine Ev.sts 2 (c' := (147, [some (.inr (.inr (.inr (5, 0, (b + 5))))), some (.inr (.inr (.inr (40, 0, 35)))), some (.inl ((iZ n))), some (.inr (.inr (.inr (3, 0, 28)))), some (.inl (r)), none], [.inr (.inr (.inr (5, 0, (b + 5))))], h1)) rfl ?_
  refine Ev.callw (a := [.inr (.inr (.inr (5, 0, (b + 5))))]) rfl (sp_pop (Sh_eq sh f1.1) hb s1 (by omega) (fun h2 f2 s2 => ?_))
  refine Ev.sts 5 (c' := (158, [some (.inr (.inr (.inr (5, 0, (b + 5))))), some (.inr (.inr (.inr (40, 0, 35)))), some (.inl ((iZ n))), some (.inr (.inr (.inr (3, 0, 28)))), some (.inl (r)), some (.inl (l))], [.inl (r), .inl (l), .inr (.inr (.inr (40, 0, 35))), .inr (.inr (.inr (5, 0, (b + 5))))], h2)) rfl ?_
  refine Ev.callv (a := [.inr (.inr (.inr (40, 0, 35))), .inl (l), .inl (r)]) rfl sp_jn_35 ?_
  refine Ev.callw (a := [.inr (.inr (.inr (5, 0, (b + 5)))), .inl ((opj 35 l r))]) rfl (sp_push (Sh_eq (Sh_eq sh f1.1) f2.1) hb s2 (by omega) (fun h3 f3 s3 => ?_))
  exact Ev.ret rfl (q h3 (fp_trans (fp_trans f1 f2) f3) s3)

theorem sp_ob_36 {d b : Nat} {n : Int} {r l : Int32} {s : List Int32} {h : PH} {Q : Rs → PH → Prop} (sh : Sh h) (hb : b = 13 ∨ b = 68) (hs : stC h b (r :: l :: s)) (hl : s.length < 31) (hll : (l :: s).length < 32) (q : ∀ h1, fp b h h1 → stC h1 b (opj 36 l r :: s) → Q (.inl none) h1) : Rn (d + 2) 98 [.inr (.inr (.inr (5, 0, (b + 5)))), .inr (.inr (.inr (40, 0, 36))), .inl ((iZ n)), .inr (.inr (.inr (3, 0, 28)))] h Q := by
  refine Ev.sts 2 (c' := (4, [some (.inr (.inr (.inr (5, 0, (b + 5))))), some (.inr (.inr (.inr (40, 0, 36)))), some (.inl ((iZ n))), some (.inr (.inr (.inr (3, 0, 28)))), none, none], [.inr (.inr (.inr (40, 0, 36))), .inr (.inr (.inr (42, 38, 0)))], h)) rfl ?_
  refine Ev.callv (a := [.inr (.inr (.inr (40, 0, 36)))]) rfl sp_ordinal ?_
  refine Ev.ldv (j := (iZ (36))) (n := 38) (w := .inl (iZ (9))) (by decide) rfl rfl ?_
  refine Ev.sts 2 (c' := (141, [some (.inr (.inr (.inr (5, 0, (b + 5))))), some (.inr (.inr (.inr (40, 0, 36)))), some (.inl ((iZ n))), some (.inr (.inr (.inr (3, 0, 28)))), none, none], [.inr (.inr (.inr (5, 0, (b + 5))))], h)) rfl ?_
  refine Ev.callw (a := [.inr (.inr (.inr (5, 0, (b + 5))))]) rfl (sp_pop sh hb hs (by omega) (fun h1 f1 s1 => ?_))
  refine Ev.sts 2 (c' := (147, [some (.inr (.inr (.inr (5, 0, (b + 5))))), some (.inr (.inr (.inr (40, 0, 36)))), some (.inl ((iZ n))), some (.inr (.inr (.inr (3, 0, 28)))), some (.inl (r)), none], [.inr (.inr (.inr (5, 0, (b + 5))))], h1)) rfl ?_
  refine Ev.callw (a := [.inr (.inr (.inr (5, 0, (b + 5))))]) rfl (sp_pop (Sh_eq sh f1.1) hb s1 (by omega) (fun h2 f2 s2 => ?_))
  refine Ev.sts 5 (c' := (158, [some (.inr (.inr (.inr (5, 0, (b + 5))))), some (.inr (.inr (.inr (40, 0, 36)))), some (.inl ((iZ n))), some (.inr (.inr (.inr (3, 0, 28)))), some (.inl (r)), some (.inl (l))], [.inl (r), .inl (l), .inr (.inr (.inr (40, 0, 36))), .inr (.inr (.inr (5, 0, (b + 5))))], h2)) rfl ?_
  refine Ev.callv (a := [.inr (.inr (.inr (40, 0, 36))), .inl (l), .inl (r)]) rfl sp_jn_36 ?_
  refine Ev.callw (a := [.inr (.inr (.inr (5, 0, (b + 5)))), .inl ((opj 36 l r))]) rfl (sp_push (Sh_eq (Sh_eq sh f1.1) f2.1) hb s2 (by omega) (fun h3 f3 s3 => ?_))
  exact Ev.ret rfl (q h3 (fp_trans (fp_trans f1 f2) f3) s3)

theorem sp_ob_37 {d b : Nat} {n : Int} {r l : Int32} {s : List Int32} {h : PH} {Q : Rs → PH → Prop} (sh : Sh h) (hb : b = 13 ∨ b = 68) (hs : stC h b (r :: l :: s)) (hl : s.length < 31) (hll : (l :: s).length < 32) (q : ∀ h1, fp b h h1 → stC h1 b (opj 37 l r :: s) → Q (.inl none) h1) : Rn (d + 2) 98 [.inr (.inr (.inr (5, 0, (b + 5)))), .inr (.inr (.inr (40, 0, 37))), .inl ((iZ n)), .inr (.inr (.inr (3, 0, 28)))] h Q := by
  refine Ev.sts 2 (c' := (4, [some (.inr (.inr (.inr (5, 0, (b + 5))))), some (.inr (.inr (.inr (40, 0, 37)))), some (.inl ((iZ n))), some (.inr (.inr (.inr (3, 0, 28)))), none, none], [.inr (.inr (.inr (40, 0, 37))), .inr (.inr (.inr (42, 38, 0)))], h)) rfl ?_
  refine Ev.callv (a := [.inr (.inr (.inr (40, 0, 37)))]) rfl sp_ordinal ?_
  refine Ev.ldv (j := (iZ (37))) (n := 38) (w := .inl (iZ (10))) (by decide) rfl rfl ?_
  refine Ev.sts 2 (c' := (141, [some (.inr (.inr (.inr (5, 0, (b + 5))))), some (.inr (.inr (.inr (40, 0, 37)))), some (.inl ((iZ n))), some (.inr (.inr (.inr (3, 0, 28)))), none, none], [.inr (.inr (.inr (5, 0, (b + 5))))], h)) rfl ?_
  refine Ev.callw (a := [.inr (.inr (.inr (5, 0, (b + 5))))]) rfl (sp_pop sh hb hs (by omega) (fun h1 f1 s1 => ?_))
  refine Ev.sts 2 (c' := (147, [some (.inr (.inr (.inr (5, 0, (b + 5))))), some (.inr (.inr (.inr (40, 0, 37)))), some (.inl ((iZ n))), some (.inr (.inr (.inr (3, 0, 28)))), some (.inl (r)), none], [.inr (.inr (.inr (5, 0, (b + 5))))], h1)) rfl ?_
  refine Ev.callw (a := [.inr (.inr (.inr (5, 0, (b + 5))))]) rfl (sp_pop (Sh_eq sh f1.1) hb s1 (by omega) (fun h2 f2 s2 => ?_))
  refine Ev.sts 5 (c' := (158, [some (.inr (.inr (.inr (5, 0, (b + 5))))), some (.inr (.inr (.inr (40, 0, 37)))), some (.inl ((iZ n))), some (.inr (.inr (.inr (3, 0, 28)))), some (.inl (r)), some (.inl (l))], [.inl (r), .inl (l), .inr (.inr (.inr (40, 0, 37))), .inr (.inr (.inr (5, 0, (b + 5))))], h2)) rfl ?_
  refine Ev.callv (a := [.inr (.inr (.inr (40, 0, 37))), .inl (l), .inl (r)]) rfl sp_jn_37 ?_
  refine Ev.callw (a := [.inr (.inr (.inr (5, 0, (b + 5)))), .inl ((opj 37 l r))]) rfl (sp_push (Sh_eq (Sh_eq sh f1.1) f2.1) hb s2 (by omega) (fun h3 f3 s3 => ?_))
  exact Ev.ret rfl (q h3 (fp_trans (fp_trans f1 f2) f3) s3)

theorem sp_obey {d b : Nat} {c : Cmd} {x : Ctx} {tk : Int32} {s s1 : List Int32} {h : PH} {Q : Rs → PH → Prop} (sh : Sh h) (hb : b = 13 ∨ b = 68) (px : proC h x tk) (hs : stC h b s) (hl : s.length ≤ 32) (e : ev1 c x tk s s1) (q : ∀ h1, fp b h h1 → stC h1 b s1 → Q (.inl none) h1) : Rn (d + 2) 98 [.inr (.inr (.inr (5, 0, (b + 5)))), .inr (.inr (.inr (40, 0, c.1))), .inl (iZ c.2), .inr (.inr (.inr (3, 0, 28)))] h Q := by
  obtain ⟨k, n⟩ := c
  rcases e with ⟨e1, e2, e3⟩ | ⟨e1, v, t, e2, e3⟩ | ⟨e1, r, l, t, e2, e3⟩
  · subst e3
    rcases e1 with e1 | e1 | e1 | e1 | e1 | e1
    · cases e1; exact sp_ob_3 (d := d + 1) sh hb px hs e2 q
    · cases e1; exact sp_ob_7 (d := d + 1) sh hb px hs e2 q
    · cases e1; exact sp_ob_11 (d := d + 1) sh hb px hs e2 q
    · cases e1; exact sp_ob_12 (d := d + 1) sh hb px hs e2 q
    · cases e1; exact sp_ob_13 (d := d + 1) sh hb px hs e2 q
    · cases e1; exact sp_ob_14 (d := d + 1) sh hb px hs e2 q
  · subst e3; subst e2; cases e1
    exact sp_ob_8 (d := d + 1) sh hb hs (by replace hl : t.length + 1 ≤ 32 := hl; omega) q
  · subst e3; subst e2
    replace hl : t.length + 1 + 1 ≤ 32 := hl
    rcases e1 with e1 | e1 | e1 | e1 | e1 | e1 | e1 | e1
    · cases e1; exact sp_ob_9 (d := d + 0) sh hb hs (by omega) (by show t.length + 1 < 32; omega) q
    · cases e1; exact sp_ob_10 (d := d + 0) sh hb hs (by omega) (by show t.length + 1 < 32; omega) q
    · cases e1; exact sp_ob_32 (d := d + 0) sh hb hs (by omega) (by show t.length + 1 < 32; omega) q
    · cases e1; exact sp_ob_33 (d := d + 0) sh hb hs (by omega) (by show t.length + 1 < 32; omega) q
    · cases e1; exact sp_ob_34 (d := d + 0) sh hb hs (by omega) (by show t.length + 1 < 32; omega) q
    · cases e1; exact sp_ob_35 (d := d + 0) sh hb hs (by omega) (by show t.length + 1 < 32; omega) q
    · cases e1; exact sp_ob_36 (d := d + 0) sh hb hs (by omega) (by show t.length + 1 < 32; omega) q
    · cases e1; exact sp_ob_37 (d := d + 0) sh hb hs (by omega) (by show t.length + 1 < 32; omega) q
/-- the class's rows hold the commands l from place i on -/
def pgC (h : PH) (b i : Nat) (l : List Cmd) : Prop := ∀ j, j < l.length → h.2.2.1 (b + 6) (i + j) = (40, 0, (l.getD j (3, 0)).1) ∧ h.1 (b + 7) (i + j) = iZ (l.getD j (3, 0)).2
theorem pgC_hd {h : PH} {b i : Nat} {c : Cmd} {l : List Cmd} (p : pgC h b i (c :: l)) : h.2.2.1 (b + 6) i = (40, 0, c.1) ∧ h.1 (b + 7) i = iZ c.2 := p 0 (Nat.zero_lt_succ _)
theorem pgC_tl {h : PH} {b i : Nat} {c : Cmd} {l : List Cmd} (p : pgC h b i (c :: l)) : pgC h b (i + 1) l := by
  intro j hj
  have := p (j + 1) (Nat.succ_lt_succ hj)
  rw [show i + 1 + j = i + (j + 1) by omega]
  exact this
theorem pgC_fp {h h' : PH} {b i : Nat} {l : List Cmd} (f : fp b h h') (p : pgC h b i l) : pgC h' b i l := by
  intro j hj
  obtain ⟨p1, p2⟩ := p j hj
  exact ⟨by rw [f.1]; exact p1, by rw [f.2.1 (b + 7) (by omega) (by omega)]; exact p2⟩
theorem sp_run_lp {d b : Nat} {f e : Int} {x : Ctx} {tk v : Int32} {Q : Rs → PH → Prop} (hb : b = 13 ∨ b = 68) (l : List Cmd) : ∀ (h : PH) (k : Nat) (s : List Int32), Sh h → (e = ((k + l.length : Nat) : Int) ∧ k + l.length ≤ 400) → pgC h b k l → proC h x tk → stC h b s → s.length ≤ 32 → evs l x tk s [v] → (∀ h1, fp b h h1 → Q (.inl (some (.inl v))) h1) → Ev (d + 3) 97 (12, [some (.inr (.inr (.inr (5, 0, (b + 5))))), some (.inl (iZ (f))), some (.inl (iZ (e))), some (.inr (.inr (.inr (3, 0, 28)))), some (.inl (iZ (k)))], [], h) Q := by
  induction l with
  | nil =>
    intro h k s sh he pg px hs hl ev q
    cases ev
    obtain ⟨he1, he2⟩ := he
    replace he1 : e = (k : Int) := he1
    replace he2 : k ≤ 400 := he2
    refine Ev.sts 2 (c' := (15, [some (.inr (.inr (.inr (5, 0, (b + 5))))), some (.inl (iZ (f))), some (.inl (iZ (e))), some (.inr (.inr (.inr (3, 0, 28)))), some (.inl (iZ (k)))], [.inl (iZ (e)), .inl (iZ (k))], h)) rfl ?_
    refine Ev.brT (p := (iZ (e)) ≤ (iZ (k))) (c1 := (73, [some (.inr (.inr (.inr (5, 0, (b + 5))))), some (.inl (iZ (f))), some (.inl (iZ (e))), some (.inr (.inr (.inr (3, 0, 28)))), some (.inl (iZ (k)))], [], h)) (c2 := (18, [some (.inr (.inr (.inr (5, 0, (b + 5))))), some (.inl (iZ (f))), some (.inl (iZ (e))), some (.inr (.inr (.inr (3, 0, 28)))), some (.inl (iZ (k)))], [], h)) ((iZ_le ⟨by omega, by omega⟩ ⟨by omega, by omega⟩).mpr (by omega)) rfl ?_
    refine Ev.sts 1 (c' := (74, [some (.inr (.inr (.inr (5, 0, (b + 5))))), some (.inl (iZ (f))), some (.inl (iZ (e))), some (.inr (.inr (.inr (3, 0, 28)))), some (.inl (iZ (k)))], [.inr (.inr (.inr (5, 0, (b + 5))))], h)) rfl ?_
    refine Ev.callw (a := [.inr (.inr (.inr (5, 0, (b + 5))))]) rfl (sp_pop sh hb hs (by show (0 : Nat) < 32; omega) (fun h1 f1 s1 => ?_))
    exact Ev.ret rfl (q h1 f1)
  | cons c l ih =>
    intro h k s sh he pg px hs hl ev q
    obtain ⟨s2, ev, evr⟩ := ev
    obtain ⟨he1, he2⟩ := he
    replace he1 : e = ((k + (l.length + 1) : Nat) : Int) := he1
    replace he2 : k + (l.length + 1) ≤ 400 := he2
    have hd := pgC_hd pg
    refine Ev.sts 2 (c' := (15, [some (.inr (.inr (.inr (5, 0, (b + 5))))), some (.inl (iZ (f))), some (.inl (iZ (e))), some (.inr (.inr (.inr (3, 0, 28)))), some (.inl (iZ (k)))], [.inl (iZ (e)), .inl (iZ (k))], h)) rfl ?_
    refine Ev.brF (p := (iZ (e)) ≤ (iZ (k))) (c1 := (73, [some (.inr (.inr (.inr (5, 0, (b + 5))))), some (.inl (iZ (f))), some (.inl (iZ (e))), some (.inr (.inr (.inr (3, 0, 28)))), some (.inl (iZ (k)))], [], h)) (c2 := (18, [some (.inr (.inr (.inr (5, 0, (b + 5))))), some (.inl (iZ (f))), some (.inl (iZ (e))), some (.inr (.inr (.inr (3, 0, 28)))), some (.inl (iZ (k)))], [], h)) (fun c_ => absurd ((iZ_le ⟨by omega, by omega⟩ ⟨by omega, by omega⟩).mp c_) (by omega)) rfl ?_
    refine Ev.sts 2 (c' := (21, [some (.inr (.inr (.inr (5, 0, (b + 5))))), some (.inl (iZ (f))), some (.inl (iZ (e))), some (.inr (.inr (.inr (3, 0, 28)))), some (.inl (iZ (k)))], [.inr (.inr (.inr (5, 0, (b + 5)))), .inl (iZ (k))], h)) rfl ?_
    refine Ev.gfr (r := (23, 400, (b + 6))) rfl (sh_p0 sh hb) ?_
    refine Ev.sts 1 (c' := (25, [some (.inr (.inr (.inr (5, 0, (b + 5))))), some (.inl (iZ (f))), some (.inl (iZ (e))), some (.inr (.inr (.inr (3, 0, 28)))), some (.inl (iZ (k)))], [.inl (iZ (400)), .inl (iZ (k))], h)) rfl ?_
    refine Ev.brF (p := (iZ (400)) ≤ (iZ (k))) (c1 := (73, [some (.inr (.inr (.inr (5, 0, (b + 5))))), some (.inl (iZ (f))), some (.inl (iZ (e))), some (.inr (.inr (.inr (3, 0, 28)))), some (.inl (iZ (k)))], [], h)) (c2 := (28, [some (.inr (.inr (.inr (5, 0, (b + 5))))), some (.inl (iZ (f))), some (.inl (iZ (e))), some (.inr (.inr (.inr (3, 0, 28)))), some (.inl (iZ (k)))], [], h)) (fun c_ => absurd ((iZ_le ⟨by omega, by omega⟩ ⟨by omega, by omega⟩).mp c_) (by omega)) rfl ?_
    refine Ev.sts 2 (c' := (31, [some (.inr (.inr (.inr (5, 0, (b + 5))))), some (.inl (iZ (f))), some (.inl (iZ (e))), some (.inr (.inr (.inr (3, 0, 28)))), some (.inl (iZ (k)))], [.inr (.inr (.inr (5, 0, (b + 5)))), .inl (iZ (k))], h)) rfl ?_
    refine Ev.gfr (r := (20, 400, (b + 7))) rfl (sh_p1 sh hb) ?_
    refine Ev.sts 1 (c' := (35, [some (.inr (.inr (.inr (5, 0, (b + 5))))), some (.inl (iZ (f))), some (.inl (iZ (e))), some (.inr (.inr (.inr (3, 0, 28)))), some (.inl (iZ (k)))], [.inl (iZ (400)), .inl (iZ (k))], h)) rfl ?_
    refine Ev.brF (p := (iZ (400)) ≤ (iZ (k))) (c1 := (73, [some (.inr (.inr (.inr (5, 0, (b + 5))))), some (.inl (iZ (f))), some (.inl (iZ (e))), some (.inr (.inr (.inr (3, 0, 28)))), some (.inl (iZ (k)))], [], h)) (c2 := (38, [some (.inr (.inr (.inr (5, 0, (b + 5))))), some (.inl (iZ (f))), some (.inl (iZ (e))), some (.inr (.inr (.inr (3, 0, 28)))), some (.inl (iZ (k)))], [], h)) (fun c_ => absurd ((iZ_le ⟨by omega, by omega⟩ ⟨by omega, by omega⟩).mp c_) (by omega)) rfl ?_
    refine Ev.sts 1 (c' := (39, [some (.inr (.inr (.inr (5, 0, (b + 5))))), some (.inl (iZ (f))), some (.inl (iZ (e))), some (.inr (.inr (.inr (3, 0, 28)))), some (.inl (iZ (k)))], [.inr (.inr (.inr (5, 0, (b + 5))))], h)) rfl ?_
    refine Ev.gfr (r := (23, 400, (b + 6))) rfl (sh_p0 sh hb) ?_
    refine Ev.sts 1 (c' := (44, [some (.inr (.inr (.inr (5, 0, (b + 5))))), some (.inl (iZ (f))), some (.inl (iZ (e))), some (.inr (.inr (.inr (3, 0, 28)))), some (.inl (iZ (k)))], [.inl (iZ (k)), .inr (.inr (.inr (23, 400, (b + 6))))], h)) rfl ?_
    refine Ev.ldv (j := (iZ (k))) (n := 400) (w := .inr (.inr (.inr (40, 0, c.1)))) (iZ_in (by omega) (by omega) (by omega)) rfl (by rw [iZ_ix (n := k) (by omega) (by omega)]; exact congrArg vR hd.1) ?_
    refine Ev.brF (p := (40 : Nat) = 0) (c1 := (67, [some (.inr (.inr (.inr (5, 0, (b + 5))))), some (.inl (iZ (f))), some (.inl (iZ (e))), some (.inr (.inr (.inr (3, 0, 28)))), some (.inl (iZ (k)))], [], h)) (c2 := (48, [some (.inr (.inr (.inr (5, 0, (b + 5))))), some (.inl (iZ (f))), some (.inl (iZ (e))), some (.inr (.inr (.inr (3, 0, 28)))), some (.inl (iZ (k)))], [], h)) (by decide) rfl ?_
    refine Ev.sts 2 (c' := (50, [some (.inr (.inr (.inr (5, 0, (b + 5))))), some (.inl (iZ (f))), some (.inl (iZ (e))), some (.inr (.inr (.inr (3, 0, 28)))), some (.inl (iZ (k)))], [.inr (.inr (.inr (5, 0, (b + 5)))), .inr (.inr (.inr (5, 0, (b + 5))))], h)) rfl ?_
    refine Ev.gfr (r := (23, 400, (b + 6))) rfl (sh_p0 sh hb) ?_
    refine Ev.sts 1 (c' := (55, [some (.inr (.inr (.inr (5, 0, (b + 5))))), some (.inl (iZ (f))), some (.inl (iZ (e))), some (.inr (.inr (.inr (3, 0, 28)))), some (.inl (iZ (k)))], [.inl (iZ (k)), .inr (.inr (.inr (23, 400, (b + 6)))), .inr (.inr (.inr (5, 0, (b + 5))))], h)) rfl ?_
    refine Ev.ldv (j := (iZ (k))) (n := 400) (w := .inr (.inr (.inr (40, 0, c.1)))) (iZ_in (by omega) (by omega) (by omega)) rfl (by rw [iZ_ix (n := k) (by omega) (by omega)]; exact congrArg vR hd.1) ?_
    refine Ev.sts 1 (c' := (57, [some (.inr (.inr (.inr (5, 0, (b + 5))))), some (.inl (iZ (f))), some (.inl (iZ (e))), some (.inr (.inr (.inr (3, 0, 28)))), some (.inl (iZ (k)))], [.inr (.inr (.inr (5, 0, (b + 5)))), .inr (.inr (.inr (40, 0, c.1))), .inr (.inr (.inr (5, 0, (b + 5))))], h)) rfl ?_
    refine Ev.gfr (r := (20, 400, (b + 7))) rfl (sh_p1 sh hb) ?_
    refine Ev.sts 1 (c' := (62, [some (.inr (.inr (.inr (5, 0, (b + 5))))), some (.inl (iZ (f))), some (.inl (iZ (e))), some (.inr (.inr (.inr (3, 0, 28)))), some (.inl (iZ (k)))], [.inl (iZ (k)), .inr (.inr (.inr (20, 400, (b + 7)))), .inr (.inr (.inr (40, 0, c.1))), .inr (.inr (.inr (5, 0, (b + 5))))], h)) rfl ?_
    refine Ev.ldv (j := (iZ (k))) (n := 400) (w := .inl ((iZ c.2))) (iZ_in (by omega) (by omega) (by omega)) rfl (by rw [iZ_ix (n := k) (by omega) (by omega)]; exact congrArg vI hd.2) ?_
    refine Ev.sts 1 (c' := (64, [some (.inr (.inr (.inr (5, 0, (b + 5))))), some (.inl (iZ (f))), some (.inl (iZ (e))), some (.inr (.inr (.inr (3, 0, 28)))), some (.inl (iZ (k)))], [.inr (.inr (.inr (3, 0, 28))), .inl ((iZ c.2)), .inr (.inr (.inr (40, 0, c.1))), .inr (.inr (.inr (5, 0, (b + 5))))], h)) rfl ?_
    refine Ev.callw (a := [.inr (.inr (.inr (5, 0, (b + 5)))), .inr (.inr (.inr (40, 0, c.1))), .inl ((iZ c.2)), .inr (.inr (.inr (3, 0, 28)))]) rfl (sp_obey sh hb px hs hl ev (fun h1 f1 s1 => ?_))
    refine Ev.stc (c1 := (70, [some (.inr (.inr (.inr (5, 0, (b + 5))))), some (.inl (iZ (f))), some (.inl (iZ (e))), some (.inr (.inr (.inr (3, 0, 28)))), some (.inl ((iZ (k)) + (iZ (1))))], [], h1)) (c2 := (70, [some (.inr (.inr (.inr (5, 0, (b + 5))))), some (.inl (iZ (f))), some (.inl (iZ (e))), some (.inr (.inr (.inr (3, 0, 28)))), some (.inl (iZ (k + 1)))], [], h1)) rfl (by rw [iZ_add]) ?_
    refine Ev.sts 1 (c' := (12, [some (.inr (.inr (.inr (5, 0, (b + 5))))), some (.inl (iZ (f))), some (.inl (iZ (e))), some (.inr (.inr (.inr (3, 0, 28)))), some (.inl (iZ (k + 1)))], [], h1)) rfl ?_
    exact ih h1 (k + 1) s2 (Sh_eq sh f1.1) (by omega) (pgC_tl pg |> pgC_fp f1) (proC_fp hb f1 px) s1 (ev1_len ev hl) evr (fun h2 f2 => q h2 (fp_trans f1 f2))

theorem sp_run {d b i : Nat} {e : Int} {x : Ctx} {tk v : Int32} {l : List Cmd} {h : PH} {Q : Rs → PH → Prop} (sh : Sh h) (hb : b = 13 ∨ b = 68) (he : e = ((i + l.length : Nat) : Int)) (hi : i + l.length ≤ 400) (pg : pgC h b i l) (px : proC h x tk) (ev : evs l x tk [] [v]) (q : ∀ h1, fp b h h1 → Q (.inl (some (.inl v))) h1) : Rn (d + 3) 97 [.inr (.inr (.inr (5, 0, (b + 5)))), .inl (iZ (i)), .inl (iZ (e)), .inr (.inr (.inr (3, 0, 28)))] h Q := by
  refine Ev.sts 5 (c' := (7, [some (.inr (.inr (.inr (5, 0, (b + 5))))), some (.inl (iZ (i))), some (.inl (iZ (e))), some (.inr (.inr (.inr (3, 0, 28)))), none], [.inl (iZ (0)), .inl (iZ (i))], (setI h (b + 5) 4 ((iZ (0)))))) rfl ?_
  refine Ev.gv (w := (iZ (max i 0))) rfl (iZ_max ⟨by omega, by omega⟩ ⟨by omega, by omega⟩) ?_
  refine Ev.sts 1 (c' := (12, [some (.inr (.inr (.inr (5, 0, (b + 5))))), some (.inl (iZ (i))), some (.inl (iZ (e))), some (.inr (.inr (.inr (3, 0, 28)))), some (.inl (iZ (max i 0)))], [], (setI h (b + 5) 4 ((iZ (0)))))) rfl ?_
  rw [show max (i : Int) 0 = (i : Int) by omega]
  exact sp_run_lp hb l _ i [] (Sh_eq sh rfl) ⟨he, hi⟩ (pgC_fp (fp_d b h _) pg) (proC_fp hb (fp_d b h _) px) ⟨setI_self _ _ _ _, trivial⟩ (by show (0 : Nat) ≤ 32; omega) ev (fun h1 f1 => q h1 (fp_trans (fp_d b h _) f1))

