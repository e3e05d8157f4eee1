/-! The class's open windows of a goose: rows, places, insertion. -/
abbrev Win : Type := Int × Int × Int × Int32
abbrev R4 : Type := Int32 × Int32 × Int32 × Int32
def w0 : Win := (0, 0, 0, 0)
def wz (w : Win) : R4 := (iZ w.1, iZ w.2.1, iZ w.2.2.1, w.2.2.2)
def wr (h : PH) (g j : Nat) : R4 := (h.1 (33 + 5 * g) j, h.1 (34 + 5 * g) j, h.1 (35 + 5 * g) j, h.1 (36 + 5 * g) j)
/-- the class's rows of goose g show the windows W -/
def winC (h : PH) (g : Nat) (W : List Win) : Prop := h.1 (32 + 5 * g) 4 = iZ W.length ∧ W.length ≤ 128 ∧ ∀ j, j < W.length → wr h g j = wz (W.getD j w0)
/-- numbers of windows are small -/
def wB (N : Int) (w : Win) : Prop := 0 ≤ w.1 ∧ w.1 < 1000 ∧ 0 ≤ w.2.1 ∧ w.2.1 < 1300 ∧ 1 ≤ w.2.2.1 ∧ w.2.2.1 ≤ N
def wsB (N : Int) (W : List Win) : Prop := ∀ j, j < W.length → wB N (W.getD j w0)
theorem winC_s {h : PH} {g j : Nat} {W : List Win} (w : winC h g W) (hj : j < W.length) : h.1 (33 + 5 * g) j = iZ (W.getD j w0).1 := congrArg (fun q => q.1) (w.2.2 j hj)
theorem winC_e {h : PH} {g j : Nat} {W : List Win} (w : winC h g W) (hj : j < W.length) : h.1 (34 + 5 * g) j = iZ (W.getD j w0).2.1 := congrArg (fun q => q.2.1) (w.2.2 j hj)
theorem winC_c {h : PH} {g j : Nat} {W : List Win} (w : winC h g W) (hj : j < W.length) : h.1 (35 + 5 * g) j = iZ (W.getD j w0).2.2.1 := congrArg (fun q => q.2.2.1) (w.2.2 j hj)
theorem winC_v {h : PH} {g j : Nat} {W : List Win} (w : winC h g W) (hj : j < W.length) : h.1 (36 + 5 * g) j = (W.getD j w0).2.2.2 := congrArg (fun q => q.2.2.2) (w.2.2 j hj)
/-- where a start stands -/
def pl : List Win → Int → Nat
  | [], _ => 0
  | w :: W, s => if w.1 < s then pl W s + 1 else 0
theorem pl_le (W : List Win) (s : Int) : pl W s ≤ W.length := by
  induction W with
  | nil => exact Nat.le_refl _
  | cons w W ih =>
    show (if w.1 < s then pl W s + 1 else 0) ≤ W.length + 1
    split <;> omega
theorem pl_lt (W : List Win) (s : Int) : ∀ j, j < pl W s → (W.getD j w0).1 < s := by
  induction W with
  | nil => intro j hj; exact absurd hj (Nat.not_lt_zero _)
  | cons w W ih =>
    intro j hj
    replace hj : j < (if w.1 < s then pl W s + 1 else 0) := hj
    split at hj
    · match j with
      | 0 => assumption
      | j + 1 => exact ih j (by omega)
    · omega
theorem pl_at (W : List Win) (s : Int) : pl W s < W.length → ¬ (W.getD (pl W s) w0).1 < s := by
  induction W with
  | nil => intro hj; exact absurd hj (Nat.not_lt_zero _)
  | cons w W ih =>
    intro hj
    by_cases c : w.1 < s
    · have e : pl (w :: W) s = pl W s + 1 := if_pos c
      rw [e] at hj ⊢
      exact ih (by simpa using hj)
    · have e : pl (w :: W) s = 0 := if_neg c
      rw [e]
      exact c
theorem pl_eq {W : List Win} {s : Int} {k : Nat} (h1 : k ≤ W.length) (h2 : ∀ j, j < k → (W.getD j w0).1 < s) (h3 : k = W.length ∨ ¬ (W.getD k w0).1 < s) : pl W s = k := by
  have a1 := pl_le W s
  rcases Nat.lt_trichotomy (pl W s) k with c | c | c
  · exact absurd (h2 _ c) (pl_at W s (by omega))
  · exact c
  · rcases h3 with h3 | h3
    · omega
    · exact absurd (pl_lt W s k c) h3
def insW (W : List Win) (x : Win) : List Win := W.take (pl W x.1) ++ x :: W.drop (pl W x.1)
theorem ins_get {α : Type} (d : α) (x : α) (W : List α) : ∀ (p : Nat), p ≤ W.length → ∀ j, (W.take p ++ x :: W.drop p).getD j d = if j < p then W.getD j d else if j = p then x else W.getD (j - 1) d := by
  induction W with
  | nil =>
    intro p hp j
    have : p = 0 := by simpa using hp
    subst this
    match j with
    | 0 => rfl
    | j + 1 => rfl
  | cons w W ih =>
    intro p hp j
    match p, j with
    | 0, 0 => rfl
    | 0, j + 1 => rfl
    | p + 1, 0 => rfl
    | p + 1, 1 =>
      have := ih p (by simpa using hp) 0
      by_cases c : p = 0
      · subst c; rfl
      · rw [if_pos (show 0 < p by omega)] at this
        rw [if_pos (show 1 < p + 1 by omega)]
        exact this
    | p + 1, j + 2 =>
      have := ih p (by simpa using hp) (j + 1)
      show (W.take p ++ x :: W.drop p).getD (j + 1) d = if j + 2 < p + 1 then W.getD (j + 1) d else if j + 2 = p + 1 then x else W.getD j d
      rw [this]
      by_cases c1 : j + 1 < p
      · rw [if_pos c1, if_pos (show j + 2 < p + 1 by omega)]
      · rw [if_neg c1, if_neg (show ¬ (j + 2 < p + 1) by omega)]
        by_cases c2 : j + 1 = p
        · rw [if_pos c2, if_pos (show j + 2 = p + 1 by omega)]
        · rw [if_neg c2, if_neg (show ¬ (j + 2 = p + 1) by omega)]; rfl
theorem ins_len {α : Type} (x : α) (W : List α) (p : Nat) (hp : p ≤ W.length) : (W.take p ++ x :: W.drop p).length = W.length + 1 := by
  rw [List.length_append, List.length_cons, List.length_take, List.length_drop]
  omega
theorem set_get {α : Type} (d x : α) (W : List α) : ∀ (p : Nat), p < W.length → ∀ j, (W.set p x).getD j d = if j = p then x else W.getD j d := by
  induction W with
  | nil => intro p hp; exact absurd hp (Nat.not_lt_zero _)
  | cons w W ih =>
    intro p hp j
    match p, j with
    | 0, 0 => rfl
    | 0, j + 1 => rfl
    | p + 1, 0 => rfl
    | p + 1, j + 1 =>
      have := ih p (by simpa using hp) j
      show (W.set p x).getD j d = if j + 1 = p + 1 then x else W.getD j d
      rw [this]
      by_cases c : j = p
      · rw [if_pos c, if_pos (by omega)]
      · rw [if_neg c, if_neg (by omega)]
/-- a window's row is set -/
def setW (h : PH) (g p : Nat) (x : R4) : PH := setI (setI (setI (setI h (33 + 5 * g) p x.1) (34 + 5 * g) p x.2.1) (35 + 5 * g) p x.2.2.1) (36 + 5 * g) p x.2.2.2
theorem setW_oth {h : PH} {g p : Nat} {x : R4} {a : Nat} (c : a < 33 + 5 * g ∨ 36 + 5 * g < a) : (setW h g p x).1 a = h.1 a := by
  unfold setW
  rw [setI_oth (by omega), setI_oth (by omega), setI_oth (by omega), setI_oth (by omega)]
theorem wr_setW (h : PH) (g p : Nat) (x : R4) (j : Nat) : wr (setW h g p x) g j = if j = p then x else wr h g j := by
  unfold wr setW
  by_cases c : j = p
  · subst c
    rw [if_pos rfl, setI_ne (b := 33 + 5 * g) (by omega), setI_ne (b := 33 + 5 * g) (by omega), setI_ne (b := 33 + 5 * g) (by omega), setI_self, setI_ne (b := 34 + 5 * g) (by omega), setI_ne (b := 34 + 5 * g) (by omega), setI_self, setI_ne (b := 35 + 5 * g) (by omega), setI_self, setI_self]
  · rw [if_neg c]
    simp only [setI_ne (j := j) (k := p) (fun z => c z.2)]
/-- nothing but goose g's windows has changed -/
def fw (g : Nat) (h h' : PH) : Prop := h'.2 = h.2 ∧ (∀ a, (a < 32 + 5 * g ∨ 36 + 5 * g < a) → h'.1 a = h.1 a) ∧ h'.1 (32 + 5 * g) 5 = h.1 (32 + 5 * g) 5
theorem fw_refl (g : Nat) (h : PH) : fw g h h := ⟨rfl, fun _ _ => rfl, rfl⟩
theorem fw_trans {g : Nat} {h h1 h2 : PH} (a : fw g h h1) (b : fw g h1 h2) : fw g h h2 := ⟨b.1.trans a.1, fun x hx => (b.2.1 x hx).trans (a.2.1 x hx), b.2.2.trans a.2.2⟩
theorem fw_setW (h : PH) (g p : Nat) (x : R4) : fw g h (setW h g p x) := ⟨rfl, fun a ha => setW_oth (by omega), congrFun (setW_oth (by omega)) 5⟩
theorem fw_size (h : PH) (g : Nat) (v : Int32) : fw g h (setI h (32 + 5 * g) 4 v) := ⟨rfl, fun a ha => setI_oth (by omega), setI_ne (by omega)⟩
theorem wr_size (h : PH) (g j : Nat) (v : Int32) : wr (setI h (32 + 5 * g) 4 v) g j = wr h g j := by
  unfold wr
  rw [setI_oth (b := 33 + 5 * g) (by omega), setI_oth (b := 34 + 5 * g) (by omega), setI_oth (b := 35 + 5 * g) (by omega), setI_oth (b := 36 + 5 * g) (by omega)]
theorem sp_set {d g p : Nat} {x : Int} {w : R4} {h : PH} (sh : Sh h) (hg : g < 6) (hx : x = (p : Int)) (hp : p < 128) : Rv d 153 [.inr (.inr (.inr (10, 0, (32 + 5 * g)))), .inl (iZ (x)), .inl (w.1), .inl (w.2.1), .inl (w.2.2.1), .inl (w.2.2.2)] h (none) (setW h g p w) := Rv.of fun Q q => by
  refine Ev.sts 1 (c' := (1, [some (.inr (.inr (.inr (10, 0, (32 + 5 * g))))), some (.inl (iZ (x))), some (.inl (w.1)), some (.inl (w.2.1)), some (.inl (w.2.2.1)), some (.inl (w.2.2.2))], [.inl (iZ (x))], h)) rfl ?_
  refine Ev.brF (p := (iZ (x)) < (iZ (0))) (c1 := (70, [some (.inr (.inr (.inr (10, 0, (32 + 5 * g))))), some (.inl (iZ (x))), some (.inl (w.1)), some (.inl (w.2.1)), some (.inl (w.2.2.1)), some (.inl (w.2.2.2))], [], h)) (c2 := (4, [some (.inr (.inr (.inr (10, 0, (32 + 5 * g))))), some (.inl (iZ (x))), some (.inl (w.1)), some (.inl (w.2.1)), some (.inl (w.2.2.1)), some (.inl (w.2.2.2))], [], h)) (fun c_ => absurd ((iZ_lt ⟨by omega, by omega⟩ ⟨by omega, by omega⟩).mp c_) (by omega)) rfl ?_
  refine Ev.sts 2 (c' := (6, [some (.inr (.inr (.inr (10, 0, (32 + 5 * g))))), some (.inl (iZ (x))), some (.inl (w.1)), some (.inl (w.2.1)), some (.inl (w.2.2.1)), some (.inl (w.2.2.2))], [.inr (.inr (.inr (10, 0, (32 + 5 * g)))), .inl (iZ (x))], h)) rfl ?_
  refine Ev.gfr (r := (20, 128, (33 + 5 * g))) rfl (sh_w0 sh hg) ?_
  refine Ev.sts 1 (c' := (10, [some (.inr (.inr (.inr (10, 0, (32 + 5 * g))))), some (.inl (iZ (x))), some (.inl (w.1)), some (.inl (w.2.1)), some (.inl (w.2.2.1)), some (.inl (w.2.2.2))], [.inl (iZ (128)), .inl (iZ (x))], h)) rfl ?_
  refine Ev.brF (p := (iZ (128)) ≤ (iZ (x))) (c1 := (70, [some (.inr (.inr (.inr (10, 0, (32 + 5 * g))))), some (.inl (iZ (x))), some (.inl (w.1)), some (.inl (w.2.1)), some (.inl (w.2.2.1)), some (.inl (w.2.2.2))], [], h)) (c2 := (13, [some (.inr (.inr (.inr (10, 0, (32 + 5 * g))))), some (.inl (iZ (x))), some (.inl (w.1)), some (.inl (w.2.1)), some (.inl (w.2.2.1)), some (.inl (w.2.2.2))], [], h)) (fun c_ => absurd ((iZ_le ⟨by omega, by omega⟩ ⟨by omega, by omega⟩).mp c_) (by omega)) rfl ?_
  refine Ev.sts 2 (c' := (15, [some (.inr (.inr (.inr (10, 0, (32 + 5 * g))))), some (.inl (iZ (x))), some (.inl (w.1)), some (.inl (w.2.1)), some (.inl (w.2.2.1)), some (.inl (w.2.2.2))], [.inr (.inr (.inr (10, 0, (32 + 5 * g)))), .inl (iZ (x))], h)) rfl ?_
  refine Ev.gfr (r := (20, 128, (34 + 5 * g))) rfl (sh_w1 sh hg) ?_
  refine Ev.sts 1 (c' := (19, [some (.inr (.inr (.inr (10, 0, (32 + 5 * g))))), some (.inl (iZ (x))), some (.inl (w.1)), some (.inl (w.2.1)), some (.inl (w.2.2.1)), some (.inl (w.2.2.2))], [.inl (iZ (128)), .inl (iZ (x))], h)) rfl ?_
  refine Ev.brF (p := (iZ (128)) ≤ (iZ (x))) (c1 := (70, [some (.inr (.inr (.inr (10, 0, (32 + 5 * g))))), some (.inl (iZ (x))), some (.inl (w.1)), some (.inl (w.2.1)), some (.inl (w.2.2.1)), some (.inl (w.2.2.2))], [], h)) (c2 := (22, [some (.inr (.inr (.inr (10, 0, (32 + 5 * g))))), some (.inl (iZ (x))), some (.inl (w.1)), some (.inl (w.2.1)), some (.inl (w.2.2.1)), some (.inl (w.2.2.2))], [], h)) (fun c_ => absurd ((iZ_le ⟨by omega, by omega⟩ ⟨by omega, by omega⟩).mp c_) (by omega)) rfl ?_
  refine Ev.sts 2 (c' := (24, [some (.inr (.inr (.inr (10, 0, (32 + 5 * g))))), some (.inl (iZ (x))), some (.inl (w.1)), some (.inl (w.2.1)), some (.inl (w.2.2.1)), some (.inl (w.2.2.2))], [.inr (.inr (.inr (10, 0, (32 + 5 * g)))), .inl (iZ (x))], h)) rfl ?_
  refine Ev.gfr (r := (20, 128, (35 + 5 * g))) rfl (sh_w2 sh hg) ?_
  refine Ev.sts 1 (c' := (28, [some (.inr (.inr (.inr (10, 0, (32 + 5 * g))))), some (.inl (iZ (x))), some (.inl (w.1)), some (.inl (w.2.1)), some (.inl (w.2.2.1)), some (.inl (w.2.2.2))], [.inl (iZ (128)), .inl (iZ (x))], h)) rfl ?_
  refine Ev.brF (p := (iZ (128)) ≤ (iZ (x))) (c1 := (70, [some (.inr (.inr (.inr (10, 0, (32 + 5 * g))))), some (.inl (iZ (x))), some (.inl (w.1)), some (.inl (w.2.1)), some (.inl (w.2.2.1)), some (.inl (w.2.2.2))], [], h)) (c2 := (31, [some (.inr (.inr (.inr (10, 0, (32 + 5 * g))))), some (.inl (iZ (x))), some (.inl (w.1)), some (.inl (w.2.1)), some (.inl (w.2.2.1)), some (.inl (w.2.2.2))], [], h)) (fun c_ => absurd ((iZ_le ⟨by omega, by omega⟩ ⟨by omega, by omega⟩).mp c_) (by omega)) rfl ?_
  refine Ev.sts 2 (c' := (33, [some (.inr (.inr (.inr (10, 0, (32 + 5 * g))))), some (.inl (iZ (x))), some (.inl (w.1)), some (.inl (w.2.1)), some (.inl (w.2.2.1)), some (.inl (w.2.2.2))], [.inr (.inr (.inr (10, 0, (32 + 5 * g)))), .inl (iZ (x))], h)) rfl ?_
  refine Ev.gfr (r := (20, 128, (36 + 5 * g))) rfl (sh_w3 sh hg) ?_
  refine Ev.sts 1 (c' := (37, [some (.inr (.inr (.inr (10, 0, (32 + 5 * g))))), some (.inl (iZ (x))), some (.inl (w.1)), some (.inl (w.2.1)), some (.inl (w.2.2.1)), some (.inl (w.2.2.2))], [.inl (iZ (128)), .inl (iZ (x))], h)) rfl ?_
  refine Ev.brF (p := (iZ (128)) ≤ (iZ (x))) (c1 := (70, [some (.inr (.inr (.inr (10, 0, (32 + 5 * g))))), some (.inl (iZ (x))), some (.inl (w.1)), some (.inl (w.2.1)), some (.inl (w.2.2.1)), some (.inl (w.2.2.2))], [], h)) (c2 := (40, [some (.inr (.inr (.inr (10, 0, (32 + 5 * g))))), some (.inl (iZ (x))), some (.inl (w.1)), some (.inl (w.2.1)), some (.inl (w.2.2.1)), some (.inl (w.2.2.2))], [], h)) (fun c_ => absurd ((iZ_le ⟨by omega, by omega⟩ ⟨by omega, by omega⟩).mp c_) (by omega)) rfl ?_
  refine Ev.sts 1 (c' := (41, [some (.inr (.inr (.inr (10, 0, (32 + 5 * g))))), some (.inl (iZ (x))), some (.inl (w.1)), some (.inl (w.2.1)), some (.inl (w.2.2.1)), some (.inl (w.2.2.2))], [.inr (.inr (.inr (10, 0, (32 + 5 * g))))], h)) rfl ?_
  refine Ev.gfr (r := (20, 128, (33 + 5 * g))) rfl (sh_w0 sh hg) ?_
  refine Ev.sts 2 (c' := (46, [some (.inr (.inr (.inr (10, 0, (32 + 5 * g))))), some (.inl (iZ (x))), some (.inl (w.1)), some (.inl (w.2.1)), some (.inl (w.2.2.1)), some (.inl (w.2.2.2))], [.inl (w.1), .inl (iZ (x)), .inr (.inr (.inr (20, 128, (33 + 5 * g))))], h)) rfl ?_
  refine Ev.sto (j := (iZ (x))) (n := 128) (h2 := (setI h (33 + 5 * g) p (w.1))) (iZ_in (by omega) (by omega) (by omega)) rfl (by rw [iZ_ix (n := p) (by omega) (by omega)]) ?_
  refine Ev.sts 1 (c' := (48, [some (.inr (.inr (.inr (10, 0, (32 + 5 * g))))), some (.inl (iZ (x))), some (.inl (w.1)), some (.inl (w.2.1)), some (.inl (w.2.2.1)), some (.inl (w.2.2.2))], [.inr (.inr (.inr (10, 0, (32 + 5 * g))))], (setI h (33 + 5 * g) p (w.1)))) rfl ?_
  refine Ev.gfr (r := (20, 128, (34 + 5 * g))) rfl (sh_w1 sh hg) ?_
  refine Ev.sts 2 (c' := (53, [some (.inr (.inr (.inr (10, 0, (32 + 5 * g))))), some (.inl (iZ (x))), some (.inl (w.1)), some (.inl (w.2.1)), some (.inl (w.2.2.1)), some (.inl (w.2.2.2))], [.inl (w.2.1), .inl (iZ (x)), .inr (.inr (.inr (20, 128, (34 + 5 * g))))], (setI h (33 + 5 * g) p (w.1)))) rfl ?_
  refine Ev.sto (j := (iZ (x))) (n := 128) (h2 := (setI (setI h (33 + 5 * g) p (w.1)) (34 + 5 * g) p (w.2.1))) (iZ_in (by omega) (by omega) (by omega)) rfl (by rw [iZ_ix (n := p) (by omega) (by omega)]) ?_
  refine Ev.sts 1 (c' := (55, [some (.inr (.inr (.inr (10, 0, (32 + 5 * g))))), some (.inl (iZ (x))), some (.inl (w.1)), some (.inl (w.2.1)), some (.inl (w.2.2.1)), some (.inl (w.2.2.2))], [.inr (.inr (.inr (10, 0, (32 + 5 * g))))], (setI (setI h (33 + 5 * g) p (w.1)) (34 + 5 * g) p (w.2.1)))) rfl ?_
  refine Ev.gfr (r := (20, 128, (35 + 5 * g))) rfl (sh_w2 sh hg) ?_
  refine Ev.sts 2 (c' := (61, [some (.inr (.inr (.inr (10, 0, (32 + 5 * g))))), some (.inl (iZ (x))), some (.inl (w.1)), some (.inl (w.2.1)), some (.inl (w.2.2.1)), some (.inl (w.2.2.2))], [.inl (w.2.2.1), .inl (iZ (x)), .inr (.inr (.inr (20, 128, (35 + 5 * g))))], (setI (setI h (33 + 5 * g) p (w.1)) (34 + 5 * g) p (w.2.1)))) rfl ?_
  refine Ev.sto (j := (iZ (x))) (n := 128) (h2 := (setI (setI (setI h (33 + 5 * g) p (w.1)) (34 + 5 * g) p (w.2.1)) (35 + 5 * g) p (w.2.2.1))) (iZ_in (by omega) (by omega) (by omega)) rfl (by rw [iZ_ix (n := p) (by omega) (by omega)]) ?_
  refine Ev.sts 1 (c' := (63, [some (.inr (.inr (.inr (10, 0, (32 + 5 * g))))), some (.inl (iZ (x))), some (.inl (w.1)), some (.inl (w.2.1)), some (.inl (w.2.2.1)), some (.inl (w.2.2.2))], [.inr (.inr (.inr (10, 0, (32 + 5 * g))))], (setI (setI (setI h (33 + 5 * g) p (w.1)) (34 + 5 * g) p (w.2.1)) (35 + 5 * g) p (w.2.2.1)))) rfl ?_
  refine Ev.gfr (r := (20, 128, (36 + 5 * g))) rfl (sh_w3 sh hg) ?_
  refine Ev.sts 2 (c' := (69, [some (.inr (.inr (.inr (10, 0, (32 + 5 * g))))), some (.inl (iZ (x))), some (.inl (w.1)), some (.inl (w.2.1)), some (.inl (w.2.2.1)), some (.inl (w.2.2.2))], [.inl (w.2.2.2), .inl (iZ (x)), .inr (.inr (.inr (20, 128, (36 + 5 * g))))], (setI (setI (setI h (33 + 5 * g) p (w.1)) (34 + 5 * g) p (w.2.1)) (35 + 5 * g) p (w.2.2.1)))) rfl ?_
  refine Ev.sto (j := (iZ (x))) (n := 128) (h2 := (setI (setI (setI (setI h (33 + 5 * g) p (w.1)) (34 + 5 * g) p (w.2.1)) (35 + 5 * g) p (w.2.2.1)) (36 + 5 * g) p (w.2.2.2))) (iZ_in (by omega) (by omega) (by omega)) rfl (by rw [iZ_ix (n := p) (by omega) (by omega)]) ?_
  exact Ev.ret rfl (q)

theorem sp_move {d g f t : Nat} {x y : Int} {h : PH} (sh : Sh h) (hg : g < 6) (hx : x = (f : Int)) (hy : y = (t : Int)) (hf : f < 128) (ht : t < 128) : Rv (d + 1) 152 [.inr (.inr (.inr (10, 0, (32 + 5 * g)))), .inl (iZ (x)), .inl (iZ (y))] h (none) (setW h g t (wr h g f)) := Rv.of fun Q q => by
  refine Ev.sts 3 (c' := (3, [some (.inr (.inr (.inr (10, 0, (32 + 5 * g))))), some (.inl (iZ (x))), some (.inl (iZ (y)))], [.inr (.inr (.inr (10, 0, (32 + 5 * g)))), .inl (iZ (y)), .inr (.inr (.inr (10, 0, (32 + 5 * g))))], h)) rfl ?_
  refine Ev.gfr (r := (20, 128, (33 + 5 * g))) rfl (sh_w0 sh hg) ?_
  refine Ev.sts 1 (c' := (7, [some (.inr (.inr (.inr (10, 0, (32 + 5 * g))))), some (.inl (iZ (x))), some (.inl (iZ (y)))], [.inl (iZ (x)), .inr (.inr (.inr (20, 128, (33 + 5 * g)))), .inl (iZ (y)), .inr (.inr (.inr (10, 0, (32 + 5 * g))))], h)) rfl ?_
  refine Ev.callv (a := [.inr (.inr (.inr (20, 128, (33 + 5 * g)))), .inl (iZ (x))]) rfl (sp_at (k := f) (by omega) (by omega) (by omega) rfl) ?_
  refine Ev.sts 1 (c' := (11, [some (.inr (.inr (.inr (10, 0, (32 + 5 * g))))), some (.inl (iZ (x))), some (.inl (iZ (y)))], [.inr (.inr (.inr (10, 0, (32 + 5 * g)))), .inl (h.1 ((33 + 5 * g)) f), .inl (iZ (y)), .inr (.inr (.inr (10, 0, (32 + 5 * g))))], h)) rfl ?_
  refine Ev.gfr (r := (20, 128, (34 + 5 * g))) rfl (sh_w1 sh hg) ?_
  refine Ev.sts 1 (c' := (15, [some (.inr (.inr (.inr (10, 0, (32 + 5 * g))))), some (.inl (iZ (x))), some (.inl (iZ (y)))], [.inl (iZ (x)), .inr (.inr (.inr (20, 128, (34 + 5 * g)))), .inl (h.1 ((33 + 5 * g)) f), .inl (iZ (y)), .inr (.inr (.inr (10, 0, (32 + 5 * g))))], h)) rfl ?_
  refine Ev.callv (a := [.inr (.inr (.inr (20, 128, (34 + 5 * g)))), .inl (iZ (x))]) rfl (sp_at (k := f) (by omega) (by omega) (by omega) rfl) ?_
  refine Ev.sts 1 (c' := (19, [some (.inr (.inr (.inr (10, 0, (32 + 5 * g))))), some (.inl (iZ (x))), some (.inl (iZ (y)))], [.inr (.inr (.inr (10, 0, (32 + 5 * g)))), .inl (h.1 ((34 + 5 * g)) f), .inl (h.1 ((33 + 5 * g)) f), .inl (iZ (y)), .inr (.inr (.inr (10, 0, (32 + 5 * g))))], h)) rfl ?_
  refine Ev.gfr (r := (20, 128, (35 + 5 * g))) rfl (sh_w2 sh hg) ?_
  refine Ev.sts 1 (c' := (23, [some (.inr (.inr (.inr (10, 0, (32 + 5 * g))))), some (.inl (iZ (x))), some (.inl (iZ (y)))], [.inl (iZ (x)), .inr (.inr (.inr (20, 128, (35 + 5 * g)))), .inl (h.1 ((34 + 5 * g)) f), .inl (h.1 ((33 + 5 * g)) f), .inl (iZ (y)), .inr (.inr (.inr (10, 0, (32 + 5 * g))))], h)) rfl ?_
  refine Ev.callv (a := [.inr (.inr (.inr (20, 128, (35 + 5 * g)))), .inl (iZ (x))]) rfl (sp_at (k := f) (by omega) (by omega) (by omega) rfl) ?_
  refine Ev.sts 1 (c' := (27, [some (.inr (.inr (.inr (10, 0, (32 + 5 * g))))), some (.inl (iZ (x))), some (.inl (iZ (y)))], [.inr (.inr (.inr (10, 0, (32 + 5 * g)))), .inl (h.1 ((35 + 5 * g)) f), .inl (h.1 ((34 + 5 * g)) f), .inl (h.1 ((33 + 5 * g)) f), .inl (iZ (y)), .inr (.inr (.inr (10, 0, (32 + 5 * g))))], h)) rfl ?_
  refine Ev.gfr (r := (20, 128, (36 + 5 * g))) rfl (sh_w3 sh hg) ?_
  refine Ev.sts 1 (c' := (31, [some (.inr (.inr (.inr (10, 0, (32 + 5 * g))))), some (.inl (iZ (x))), some (.inl (iZ (y)))], [.inl (iZ (x)), .inr (.inr (.inr (20, 128, (36 + 5 * g)))), .inl (h.1 ((35 + 5 * g)) f), .inl (h.1 ((34 + 5 * g)) f), .inl (h.1 ((33 + 5 * g)) f), .inl (iZ (y)), .inr (.inr (.inr (10, 0, (32 + 5 * g))))], h)) rfl ?_
  refine Ev.callv (a := [.inr (.inr (.inr (20, 128, (36 + 5 * g)))), .inl (iZ (x))]) rfl (sp_at (k := f) (by omega) (by omega) (by omega) rfl) ?_
  refine Ev.callv (a := [.inr (.inr (.inr (10, 0, (32 + 5 * g)))), .inl (iZ (y)), .inl (h.1 ((33 + 5 * g)) f), .inl (h.1 ((34 + 5 * g)) f), .inl (h.1 ((35 + 5 * g)) f), .inl (h.1 ((36 + 5 * g)) f)]) rfl (sp_set (p := t) (w := (h.1 ((33 + 5 * g)) f, h.1 ((34 + 5 * g)) f, h.1 ((35 + 5 * g)) f, h.1 ((36 + 5 * g)) f)) (Sh_eq sh rfl) hg (by omega) (by omega)) ?_
  exact Ev.ret rfl (q)

theorem sp_pl_lp {d g : Nat} {x N : Int} {W : List Win} {h : PH} {Q : Rs → PH → Prop} (sh : Sh h) (hg : g < 6) (hw : winC h g W) (hn : wsB N W) (hN : N ≤ 1900) (hx : -2147483648 ≤ x ∧ x < 2147483648) (q : Q (.inl (some (.inl (iZ (pl W x))))) h) (n : Nat) : ∀ (k : Nat), k ≤ W.length → (∀ j, j < k → (W.getD j w0).1 < x) → W.length < k + n → Ev (d + 1) 156 (2, [some (.inr (.inr (.inr (10, 0, (32 + 5 * g))))), some (.inl (iZ (x))), some (.inl (iZ (k)))], [], h) Q := by
  have hl := hw.2.1
  induction n with
  | zero => intro k h1 hk h2; omega
  | succ n ih =>
    intro k h1 hk h2
    refine Ev.sts 2 (c' := (4, [some (.inr (.inr (.inr (10, 0, (32 + 5 * g))))), some (.inl (iZ (x))), some (.inl (iZ (k)))], [.inr (.inr (.inr (10, 0, (32 + 5 * g)))), .inl (iZ (k))], h)) rfl ?_
    refine Ev.gv (w := (iZ (W.length))) rfl hw.1 ?_
    refine Ev.brc (p := (iZ (W.length)) ≤ (iZ (k))) (q := ((W.length : Int)) ≤ k) (c1 := (30, [some (.inr (.inr (.inr (10, 0, (32 + 5 * g))))), some (.inl (iZ (x))), some (.inl (iZ (k)))], [], h)) (c2 := (10, [some (.inr (.inr (.inr (10, 0, (32 + 5 * g))))), some (.inl (iZ (x))), some (.inl (iZ (k)))], [], h)) rfl (iZ_le ⟨by omega, by omega⟩ ⟨by omega, by omega⟩) (fun c0 => ?_) (fun c0 => ?_)
    · refine Ev.sts 1 (c' := (31, [some (.inr (.inr (.inr (10, 0, (32 + 5 * g))))), some (.inl (iZ (x))), some (.inl (iZ (k)))], [.inr (.inr (.inr (10, 0, (32 + 5 * g))))], h)) rfl ?_
      refine Ev.gv (w := (iZ (W.length))) rfl hw.1 ?_
      exact Ev.ret rfl ((by have e := pl_eq (s := x) (k := W.length) (W := W) (by omega) (fun j hj => hk j (by omega)) (Or.inl rfl); rw [e] at q; exact q))
    · obtain ⟨b1, b2, b3, b4, b5, b6⟩ := hn k (by omega)
      refine Ev.sts 1 (c' := (11, [some (.inr (.inr (.inr (10, 0, (32 + 5 * g))))), some (.inl (iZ (x))), some (.inl (iZ (k)))], [.inr (.inr (.inr (10, 0, (32 + 5 * g))))], h)) rfl ?_
      refine Ev.gfr (r := (20, 128, (33 + 5 * g))) rfl (sh_w0 sh hg) ?_
      refine Ev.sts 1 (c' := (15, [some (.inr (.inr (.inr (10, 0, (32 + 5 * g))))), some (.inl (iZ (x))), some (.inl (iZ (k)))], [.inl (iZ (k)), .inr (.inr (.inr (20, 128, (33 + 5 * g))))], h)) rfl ?_
      refine Ev.callv (a := [.inr (.inr (.inr (20, 128, (33 + 5 * g)))), .inl (iZ (k))]) rfl (sp_at (k := k) (by omega) (by omega) (by omega) (winC_s hw (by omega))) ?_
      refine Ev.sts 1 (c' := (19, [some (.inr (.inr (.inr (10, 0, (32 + 5 * g))))), some (.inl (iZ (x))), some (.inl (iZ (k)))], [.inl (iZ (x)), .inl (iZ ((W.getD k w0).1))], h)) rfl ?_
      refine Ev.brc (p := (iZ ((W.getD k w0).1)) < (iZ (x))) (q := (((W.getD k w0).1 : Int)) < x) (c1 := (24, [some (.inr (.inr (.inr (10, 0, (32 + 5 * g))))), some (.inl (iZ (x))), some (.inl (iZ (k)))], [], h)) (c2 := (22, [some (.inr (.inr (.inr (10, 0, (32 + 5 * g))))), some (.inl (iZ (x))), some (.inl (iZ (k)))], [], h)) rfl (iZ_lt ⟨by omega, by omega⟩ ⟨by omega, by omega⟩) (fun c1 => ?_) (fun c1 => ?_)
      · refine Ev.stc (c1 := (27, [some (.inr (.inr (.inr (10, 0, (32 + 5 * g))))), some (.inl (iZ (x))), some (.inl ((iZ (k)) + (iZ (1))))], [], h)) (c2 := (27, [some (.inr (.inr (.inr (10, 0, (32 + 5 * g))))), some (.inl (iZ (x))), some (.inl (iZ (k + 1)))], [], h)) rfl (by rw [iZ_add]) ?_
        refine Ev.sts 1 (c' := (2, [some (.inr (.inr (.inr (10, 0, (32 + 5 * g))))), some (.inl (iZ (x))), some (.inl (iZ (k + 1)))], [], h)) rfl ?_
        exact ih (k + 1) (by omega) (fun j hj => by
          rcases Nat.lt_or_ge j k with z | z
          · exact hk j z
          · have : j = k := by omega
            subst this; omega) (by omega)
      · refine Ev.sts 1 (c' := (23, [some (.inr (.inr (.inr (10, 0, (32 + 5 * g))))), some (.inl (iZ (x))), some (.inl (iZ (k)))], [.inl (iZ (k))], h)) rfl ?_
        exact Ev.ret rfl ((by have e := pl_eq (s := x) (k := k) (W := W) (by omega) hk (Or.inr (by omega)); rw [e] at q; exact q))

theorem sp_placeFor {d g : Nat} {x N : Int} {W : List Win} {h : PH} (sh : Sh h) (hg : g < 6) (hw : winC h g W) (hn : wsB N W) (hN : N ≤ 1900) (hx : -2147483648 ≤ x ∧ x < 2147483648) : Rv (d + 1) 156 [.inr (.inr (.inr (10, 0, (32 + 5 * g)))), .inl (iZ (x))] h (some (.inl (iZ (pl W x)))) h := Rv.of fun Q q => by
  refine Ev.sts 2 (c' := (2, [some (.inr (.inr (.inr (10, 0, (32 + 5 * g))))), some (.inl (iZ (x))), some (.inl (iZ (0)))], [], h)) rfl ?_
  exact sp_pl_lp sh hg hw hn hN hx q (W.length + 1) 0 (by omega) (fun j hj => absurd hj (Nat.not_lt_zero _)) (by omega)

theorem sp_ins_lp {d g p : Nat} {s e c : Int} {v : Int32} {Q : Rs → PH → Prop} (hg : g < 6) (n : Nat) : ∀ (k : Nat) (h : PH), Sh h → p ≤ k → k ≤ 127 → k < p + n → (∀ h1, fw g h h1 → h1.1 (32 + 5 * g) 4 = h.1 (32 + 5 * g) 4 → (∀ j, wr h1 g j = if p < j ∧ j ≤ k then wr h g (j - 1) else wr h g j) → Ev (d + 2) 155 (47, [some (.inr (.inr (.inr (10, 0, (32 + 5 * g))))), some (.inl (iZ (s))), some (.inl (iZ (e))), some (.inl (iZ (c))), some (.inl (v)), some (.inl (iZ (p))), some (.inl (iZ (p)))], [], h1) Q) → Ev (d + 2) 155 (24, [some (.inr (.inr (.inr (10, 0, (32 + 5 * g))))), some (.inl (iZ (s))), some (.inl (iZ (e))), some (.inl (iZ (c))), some (.inl (v)), some (.inl (iZ (p))), some (.inl (iZ (k)))], [], h) Q := by
  induction n with
  | zero => intro k h sh h1 h2 h3; omega
  | succ n ih =>
    intro k h sh h1 h2 h3 q
    refine Ev.sts 2 (c' := (28, [some (.inr (.inr (.inr (10, 0, (32 + 5 * g))))), some (.inl (iZ (s))), some (.inl (iZ (e))), some (.inl (iZ (c))), some (.inl (v)), some (.inl (iZ (p))), some (.inl (iZ (k)))], [.inl (iZ (p)), .inl (iZ (k))], h)) rfl ?_
    refine Ev.brc (p := (iZ (k)) ≤ (iZ (p))) (q := ((k : Int)) ≤ p) (c1 := (47, [some (.inr (.inr (.inr (10, 0, (32 + 5 * g))))), some (.inl (iZ (s))), some (.inl (iZ (e))), some (.inl (iZ (c))), some (.inl (v)), some (.inl (iZ (p))), some (.inl (iZ (k)))], [], h)) (c2 := (31, [some (.inr (.inr (.inr (10, 0, (32 + 5 * g))))), some (.inl (iZ (s))), some (.inl (iZ (e))), some (.inl (iZ (c))), some (.inl (v)), some (.inl (iZ (p))), some (.inl (iZ (k)))], [], h)) rfl (iZ_le ⟨by omega, by omega⟩ ⟨by omega, by omega⟩) (fun c0 => ?_) (fun c0 => ?_)
    · have e1 : k = p := by omega
      subst e1
      exact q h (fw_refl g h) rfl (fun j => by rw [if_neg (by omega)])
    · refine Ev.sts 3 (c' := (35, [some (.inr (.inr (.inr (10, 0, (32 + 5 * g))))), some (.inl (iZ (s))), some (.inl (iZ (e))), some (.inl (iZ (c))), some (.inl (v)), some (.inl (iZ (p))), some (.inl (iZ (k)))], [.inl (iZ (1)), .inl (iZ (k)), .inr (.inr (.inr (10, 0, (32 + 5 * g))))], h)) rfl ?_
      refine Ev.gv (w := (iZ (k - 1))) rfl (iZ_sub _ _) ?_
      refine Ev.sts 1 (c' := (38, [some (.inr (.inr (.inr (10, 0, (32 + 5 * g))))), some (.inl (iZ (s))), some (.inl (iZ (e))), some (.inl (iZ (c))), some (.inl (v)), some (.inl (iZ (p))), some (.inl (iZ (k)))], [.inl (iZ (k)), .inl (iZ (k - 1)), .inr (.inr (.inr (10, 0, (32 + 5 * g))))], h)) rfl ?_
      refine Ev.callv (a := [.inr (.inr (.inr (10, 0, (32 + 5 * g)))), .inl (iZ (k - 1)), .inl (iZ (k))]) rfl (sp_move (f := k - 1) (t := k) sh hg (by omega) (by omega) (by omega) (by omega)) ?_
      refine Ev.stc (c1 := (44, [some (.inr (.inr (.inr (10, 0, (32 + 5 * g))))), some (.inl (iZ (s))), some (.inl (iZ (e))), some (.inl (iZ (c))), some (.inl (v)), some (.inl (iZ (p))), some (.inl ((iZ (k)) + (iZ (-1))))], [], (setW h g k (wr h g (k - 1))))) (c2 := (44, [some (.inr (.inr (.inr (10, 0, (32 + 5 * g))))), some (.inl (iZ (s))), some (.inl (iZ (e))), some (.inl (iZ (c))), some (.inl (v)), some (.inl (iZ (p))), some (.inl (iZ (k + (-1))))], [], (setW h g k (wr h g (k - 1))))) rfl (by rw [iZ_add]) ?_
      refine Ev.sts 1 (c' := (24, [some (.inr (.inr (.inr (10, 0, (32 + 5 * g))))), some (.inl (iZ (s))), some (.inl (iZ (e))), some (.inl (iZ (c))), some (.inl (v)), some (.inl (iZ (p))), some (.inl (iZ (k + (-1))))], [], (setW h g k (wr h g (k - 1))))) rfl ?_
      have e1 : ((k : Int) + -1) = ((k - 1 : Nat) : Int) := by omega
      rw [e1]
      exact ih (k - 1) _ (Sh_eq sh rfl) (by omega) (by omega) (by omega) (fun h1 f1 s1 r1 => q h1 (fw_trans (fw_setW _ _ _ _) f1) (s1.trans (congrFun (setW_oth (by omega)) 4)) (fun j => by
        rw [r1 j, wr_setW, wr_setW]
        by_cases a1 : p < j ∧ j ≤ k - 1
        · rw [if_pos a1, if_neg (by omega), if_pos (by omega)]
        · rw [if_neg a1]
          by_cases a2 : j = k
          · rw [if_pos a2, if_pos (by omega), a2]
          · rw [if_neg a2, if_neg (by omega)]))

theorem insW_get (W : List Win) (x : Win) (j : Nat) : (insW W x).getD j w0 = if j < pl W x.1 then W.getD j w0 else if j = pl W x.1 then x else W.getD (j - 1) w0 := ins_get w0 x W _ (pl_le _ _) j
theorem insW_len (W : List Win) (x : Win) : (insW W x).length = W.length + 1 := ins_len x W _ (pl_le _ _)
theorem insW_ok {h h1 : PH} {g : Nat} {W : List Win} {s e c : Int} {v : Int32} (hw : winC h g W) (hl : W.length < 128) (r1 : ∀ j, wr h1 g j = if pl W s < j ∧ j ≤ W.length then wr h g (j - 1) else wr h g j) : winC (setI (setW h1 g (pl W s) (iZ s, iZ e, iZ c, v)) (32 + 5 * g) 4 (iZ (W.length + 1))) g (insW W (s, e, c, v)) := by
  have hp := pl_le W s
  refine ⟨?_, ?_, ?_⟩
  · rw [setI_self, insW_len]; rfl
  · rw [insW_len]; omega
  · intro j hj
    rw [insW_len] at hj
    rw [wr_size, wr_setW, r1, insW_get]
    show _ = wz (if j < pl W s then W.getD j w0 else if j = pl W s then (s, e, c, v) else W.getD (j - 1) w0)
    by_cases a1 : j < pl W s
    · rw [if_neg (by omega), if_neg (by omega), if_pos a1]
      exact hw.2.2 j (by omega)
    · by_cases a2 : j = pl W s
      · rw [if_pos a2, if_neg a1, if_pos a2]; rfl
      · rw [if_neg a2, if_pos (by omega), if_neg a1, if_neg a2]
        exact hw.2.2 (j - 1) (by omega)
theorem sp_insert {d g : Nat} {s e c N : Int} {v : Int32} {W : List Win} {h : PH} {Q : Rs → PH → Prop} (sh : Sh h) (hg : g < 6) (hw : winC h g W) (hn : wsB N W) (hN : N ≤ 1900) (hl : W.length < 128) (hs : -2147483648 ≤ s ∧ s < 2147483648) (q : ∀ h1, fw g h h1 → winC h1 g (insW W (s, e, c, v)) → Q (.inl none) h1) : Rn (d + 2) 155 [.inr (.inr (.inr (10, 0, (32 + 5 * g)))), .inl (iZ (s)), .inl (iZ (e)), .inl (iZ (c)), .inl (v)] h Q := by
  have hp := pl_le W s
  refine Ev.sts 1 (c' := (1, [some (.inr (.inr (.inr (10, 0, (32 + 5 * g))))), some (.inl (iZ (s))), some (.inl (iZ (e))), some (.inl (iZ (c))), some (.inl (v)), none, none], [.inr (.inr (.inr (10, 0, (32 + 5 * g))))], h)) rfl ?_
  refine Ev.gv (w := (iZ (W.length))) rfl hw.1 ?_
  refine Ev.sts 1 (c' := (7, [some (.inr (.inr (.inr (10, 0, (32 + 5 * g))))), some (.inl (iZ (s))), some (.inl (iZ (e))), some (.inl (iZ (c))), some (.inl (v)), none, none], [.inl (iZ (128)), .inl (iZ (W.length))], h)) rfl ?_
  refine Ev.brT (p := (iZ (W.length)) < (iZ (128))) (c1 := (11, [some (.inr (.inr (.inr (10, 0, (32 + 5 * g))))), some (.inl (iZ (s))), some (.inl (iZ (e))), some (.inl (iZ (c))), some (.inl (v)), none, none], [], h)) (c2 := (10, [some (.inr (.inr (.inr (10, 0, (32 + 5 * g))))), some (.inl (iZ (s))), some (.inl (iZ (e))), some (.inl (iZ (c))), some (.inl (v)), none, none], [], h)) ((iZ_lt ⟨by omega, by omega⟩ ⟨by omega, by omega⟩).mpr (by omega)) rfl ?_
  refine Ev.sts 2 (c' := (13, [some (.inr (.inr (.inr (10, 0, (32 + 5 * g))))), some (.inl (iZ (s))), some (.inl (iZ (e))), some (.inl (iZ (c))), some (.inl (v)), none, none], [.inl (iZ (s)), .inr (.inr (.inr (10, 0, (32 + 5 * g))))], h)) rfl ?_
  refine Ev.callv (a := [.inr (.inr (.inr (10, 0, (32 + 5 * g)))), .inl (iZ (s))]) rfl (sp_placeFor sh hg hw hn hN ⟨by omega, by omega⟩) ?_
  refine Ev.sts 2 (c' := (19, [some (.inr (.inr (.inr (10, 0, (32 + 5 * g))))), some (.inl (iZ (s))), some (.inl (iZ (e))), some (.inl (iZ (c))), some (.inl (v)), some (.inl (iZ (pl W s))), none], [.inr (.inr (.inr (10, 0, (32 + 5 * g))))], h)) rfl ?_
  refine Ev.gv (w := (iZ (W.length))) rfl hw.1 ?_
  refine Ev.sts 1 (c' := (24, [some (.inr (.inr (.inr (10, 0, (32 + 5 * g))))), some (.inl (iZ (s))), some (.inl (iZ (e))), some (.inl (iZ (c))), some (.inl (v)), some (.inl (iZ (pl W s))), some (.inl (iZ (W.length)))], [], h)) rfl ?_
  refine sp_ins_lp hg (W.length - pl W s + 1) W.length h sh (pl_le W s) (by omega) (by omega) (fun h1 f1 s1 r1 => ?_)
  refine Ev.sts 6 (c' := (55, [some (.inr (.inr (.inr (10, 0, (32 + 5 * g))))), some (.inl (iZ (s))), some (.inl (iZ (e))), some (.inl (iZ (c))), some (.inl (v)), some (.inl (iZ (pl W s))), some (.inl (iZ (pl W s)))], [.inl (v), .inl (iZ (c)), .inl (iZ (e)), .inl (iZ (s)), .inl (iZ (pl W s)), .inr (.inr (.inr (10, 0, (32 + 5 * g))))], h1)) rfl ?_
  refine Ev.callv (a := [.inr (.inr (.inr (10, 0, (32 + 5 * g)))), .inl (iZ (pl W s)), .inl (iZ (s)), .inl (iZ (e)), .inl (iZ (c)), .inl (v)]) rfl (sp_set (p := pl W s) (w := ((iZ (s)), (iZ (e)), (iZ (c)), v)) (Sh_eq (Sh_eq sh f1.1) rfl) hg (by omega) (by omega)) ?_
  refine Ev.sts 2 (c' := (60, [some (.inr (.inr (.inr (10, 0, (32 + 5 * g))))), some (.inl (iZ (s))), some (.inl (iZ (e))), some (.inl (iZ (c))), some (.inl (v)), some (.inl (iZ (pl W s))), some (.inl (iZ (pl W s)))], [.inr (.inr (.inr (10, 0, (32 + 5 * g)))), .inr (.inr (.inr (10, 0, (32 + 5 * g))))], (setW h1 g (pl W s) ((iZ (s)), (iZ (e)), (iZ (c)), v)))) rfl ?_
  refine Ev.gv (w := (iZ (W.length))) rfl ((congrFun (setW_oth (a := 32 + 5 * g) (by omega)) 4).trans (s1.trans hw.1)) ?_
  refine Ev.sts 1 (c' := (64, [some (.inr (.inr (.inr (10, 0, (32 + 5 * g))))), some (.inl (iZ (s))), some (.inl (iZ (e))), some (.inl (iZ (c))), some (.inl (v)), some (.inl (iZ (pl W s))), some (.inl (iZ (pl W s)))], [.inl (iZ (1)), .inl (iZ (W.length)), .inr (.inr (.inr (10, 0, (32 + 5 * g))))], (setW h1 g (pl W s) ((iZ (s)), (iZ (e)), (iZ (c)), v)))) rfl ?_
  refine Ev.gv (w := (iZ (W.length + 1))) rfl (iZ_add _ _) ?_
  refine Ev.sts 1 (c' := (68, [some (.inr (.inr (.inr (10, 0, (32 + 5 * g))))), some (.inl (iZ (s))), some (.inl (iZ (e))), some (.inl (iZ (c))), some (.inl (v)), some (.inl (iZ (pl W s))), some (.inl (iZ (pl W s)))], [], (setI (setW h1 g (pl W s) ((iZ (s)), (iZ (e)), (iZ (c)), v)) (32 + 5 * g) 4 ((iZ (W.length + 1)))))) rfl ?_
  exact Ev.ret rfl (q _ (fw_trans f1 (fw_trans (fw_setW _ _ _ _) (fw_size _ _ _))) (insW_ok hw hl r1))

