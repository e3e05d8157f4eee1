/-! A stream by hand: its windows in one list, by goose and start. -/
abbrev Wn : Type := Nat × Int × Int × List Nat
def wn0 : Wn := (0, 0, 0, [])
/-- where a window of g that starts at s stands -/
def plL : List Wn → Nat → Int → Nat
  | [], _, _ => 0
  | x :: L, g, s => if x.1 < g ∨ (x.1 = g ∧ x.2.1 < s) then plL L g s + 1 else 0
theorem plL_l {x : Wn} {L : List Wn} {g : Nat} {s : Int} (c : x.1 < g ∨ (x.1 = g ∧ x.2.1 < s)) : plL (x :: L) g s = plL L g s + 1 := if_pos c
theorem plL_r {x : Wn} {L : List Wn} {g : Nat} {s : Int} (c : ¬ (x.1 < g ∨ (x.1 = g ∧ x.2.1 < s))) : plL (x :: L) g s = 0 := if_neg c
theorem plL_le (L : List Wn) (g : Nat) (s : Int) : plL L g s ≤ L.length := by
  induction L with
  | nil => exact Nat.le_refl _
  | cons x L ih =>
    show (if x.1 < g ∨ (x.1 = g ∧ x.2.1 < s) then plL L g s + 1 else 0) ≤ L.length + 1
    split <;> omega
theorem plL_lt (L : List Wn) (g : Nat) (s : Int) : ∀ j, j < plL L g s → ((L.getD j wn0).1 < g ∨ ((L.getD j wn0).1 = g ∧ (L.getD j wn0).2.1 < s)) := by
  induction L with
  | nil => intro j hj; exact absurd hj (Nat.not_lt_zero _)
  | cons x L ih =>
    intro j hj
    by_cases c : x.1 < g ∨ (x.1 = g ∧ x.2.1 < s)
    · rw [plL_l c] at hj
      match j with
      | 0 => exact c
      | j + 1 => exact ih j (by omega)
    · rw [plL_r c] at hj; omega
theorem plL_at (L : List Wn) (g : Nat) (s : Int) : plL L g s < L.length → ¬ ((L.getD (plL L g s) wn0).1 < g ∨ ((L.getD (plL L g s) wn0).1 = g ∧ (L.getD (plL L g s) wn0).2.1 < s)) := by
  induction L with
  | nil => intro hj; exact absurd hj (Nat.not_lt_zero _)
  | cons x L ih =>
    intro hj
    by_cases c : x.1 < g ∨ (x.1 = g ∧ x.2.1 < s)
    · rw [plL_l c] at hj ⊢
      exact ih (by simpa using hj)
    · rw [plL_r c]
      exact c
theorem plL_eq {L : List Wn} {g : Nat} {s : Int} {k : Nat} (h1 : k ≤ L.length) (h2 : ∀ j, j < k → ((L.getD j wn0).1 < g ∨ ((L.getD j wn0).1 = g ∧ (L.getD j wn0).2.1 < s))) (h3 : k = L.length ∨ ¬ ((L.getD k wn0).1 < g ∨ ((L.getD k wn0).1 = g ∧ (L.getD k wn0).2.1 < s))) : plL L g s = k := by
  have a1 := plL_le L g s
  rcases Nat.lt_trichotomy (plL L g s) k with c | c | c
  · exact absurd (h2 _ c) (plL_at L g s (by omega))
  · exact c
  · rcases h3 with h3 | h3
    · omega
    · exact absurd (plL_lt L g s k c) h3
/-- a window is put -/
def putL (L : List Wn) (w : Wn) : List Wn := L.take (plL L w.1 w.2.1) ++ w :: L.drop (plL L w.1 w.2.1)
theorem putL_n (w : Wn) : putL [] w = [w] := rfl
theorem putL_l {x w : Wn} {L : List Wn} (c : x.1 < w.1 ∨ (x.1 = w.1 ∧ x.2.1 < w.2.1)) : putL (x :: L) w = x :: putL L w := by
  unfold putL
  rw [plL_l c]
  rfl
theorem putL_r {x w : Wn} {L : List Wn} (c : ¬ (x.1 < w.1 ∨ (x.1 = w.1 ∧ x.2.1 < w.2.1))) : putL (x :: L) w = w :: x :: L := by
  unfold putL
  rw [plL_r c]
  rfl
theorem putL_len (L : List Wn) (w : Wn) : (putL L w).length = L.length + 1 := ins_len w L _ (plL_le _ _ _)
theorem putL_get (L : List Wn) (w : Wn) (j : Nat) : (putL L w).getD j wn0 = if j < plL L w.1 w.2.1 then L.getD j wn0 else if j = plL L w.1 w.2.1 then w else L.getD (j - 1) wn0 := ins_get wn0 w L _ (plL_le _ _ _) j
theorem putL_mem {w y : Wn} : ∀ L : List Wn, y ∈ putL L w ↔ y = w ∨ y ∈ L := by
  intro L
  induction L with
  | nil => rw [putL_n]; exact List.mem_cons
  | cons x L ih =>
    by_cases c : x.1 < w.1 ∨ (x.1 = w.1 ∧ x.2.1 < w.2.1)
    · rw [putL_l c, List.mem_cons, List.mem_cons, ih]
      constructor
      · rintro (a | a | a)
        · exact .inr (.inl a)
        · exact .inl a
        · exact .inr (.inr a)
      · rintro (a | a | a)
        · exact .inr (.inl a)
        · exact .inl a
        · exact .inr (.inr a)
    · rw [putL_r c, List.mem_cons]
/-- in order of goose and start -/
def sL (L : List Wn) : Prop := L.Pairwise (fun x y => x.1 < y.1 ∨ (x.1 = y.1 ∧ x.2.1 < y.2.1))
theorem putL_s {w : Wn} : ∀ L : List Wn, sL L → (∀ x ∈ L, ¬ (x.1 = w.1 ∧ x.2.1 = w.2.1)) → sL (putL L w) := by
  intro L
  induction L with
  | nil => intro _ _; rw [putL_n]; exact List.pairwise_singleton _ _
  | cons x L ih =>
    intro s hne
    obtain ⟨p1, p2⟩ := List.pairwise_cons.mp s
    have hx := hne x List.mem_cons_self
    by_cases c : x.1 < w.1 ∨ (x.1 = w.1 ∧ x.2.1 < w.2.1)
    · rw [putL_l c]
      refine List.pairwise_cons.mpr ⟨fun y hy => ?_, ih p2 (fun y hy => hne y (List.mem_cons_of_mem _ hy))⟩
      rcases (putL_mem L).mp hy with e | e
      · rw [e]; exact c
      · exact p1 y e
    · rw [putL_r c]
      refine List.pairwise_cons.mpr ⟨fun y hy => ?_, s⟩
      rcases List.mem_cons.mp hy with e | e
      · rw [e]; omega
      · have := p1 y e; omega
/-- a comma of number n in the window of g that starts at s -/
def adL (g n : Nat) (s e : Int) : List Wn → List Wn
  | [] => [(g, s, e, [n])]
  | x :: L => if x.1 < g ∨ (x.1 = g ∧ x.2.1 < s) then x :: adL g n s e L else if x.1 = g ∧ x.2.1 = s then (x.1, x.2.1, x.2.2.1, x.2.2.2 ++ [n]) :: L else (g, s, e, [n]) :: x :: L
theorem adL_l {g n : Nat} {s e : Int} {x : Wn} {L : List Wn} (c : x.1 < g ∨ (x.1 = g ∧ x.2.1 < s)) : adL g n s e (x :: L) = x :: adL g n s e L := if_pos c
theorem adL_e {g n : Nat} {s e : Int} {x : Wn} {L : List Wn} (c : x.1 = g ∧ x.2.1 = s) : adL g n s e (x :: L) = (x.1, x.2.1, x.2.2.1, x.2.2.2 ++ [n]) :: L := (if_neg (by omega)).trans (if_pos c)
theorem adL_r {g n : Nat} {s e : Int} {x : Wn} {L : List Wn} (c : ¬ (x.1 < g ∨ (x.1 = g ∧ x.2.1 < s))) (c2 : ¬ (x.1 = g ∧ x.2.1 = s)) : adL g n s e (x :: L) = (g, s, e, [n]) :: x :: L := (if_neg c).trans (if_neg c2)
theorem adL_put {g n : Nat} {s e : Int} : ∀ L : List Wn, (∀ x ∈ L, ¬ (x.1 = g ∧ x.2.1 = s)) → adL g n s e L = putL L (g, s, e, [n]) := by
  intro L
  induction L with
  | nil => intro _; rfl
  | cons x L ih =>
    intro h
    have hx := h x List.mem_cons_self
    by_cases c : x.1 < g ∨ (x.1 = g ∧ x.2.1 < s)
    · rw [adL_l c, putL_l (w := (g, s, e, [n])) c, ih (fun y hy => h y (List.mem_cons_of_mem _ hy))]
    · rw [adL_r c hx, putL_r (w := (g, s, e, [n])) c]
theorem adL_set {g n : Nat} {s e : Int} : ∀ (L : List Wn) (i : Nat), sL L → i < L.length → ((L.getD i wn0).1 = g ∧ (L.getD i wn0).2.1 = s) → adL g n s e L = L.set i (g, s, (L.getD i wn0).2.2.1, (L.getD i wn0).2.2.2 ++ [n]) := by
  intro L
  induction L with
  | nil => intro i _ hi; exact absurd hi (Nat.not_lt_zero _)
  | cons x L ih =>
    intro i sl hi m
    obtain ⟨p1, p2⟩ := List.pairwise_cons.mp sl
    match i with
    | 0 =>
      have m : x.1 = g ∧ x.2.1 = s := m
      rw [adL_e m]
      show _ = (g, s, x.2.2.1, x.2.2.2 ++ [n]) :: L
      rw [m.1, m.2]
    | i + 1 =>
      have hi2 : i < L.length := by simpa using hi
      have m : (L.getD i wn0).1 = g ∧ (L.getD i wn0).2.1 = s := m
      have hm : L.getD i wn0 ∈ L := by rw [List.getD_eq_getElem?_getD, List.getElem?_eq_getElem hi2]; exact List.getElem_mem hi2
      have q := p1 _ hm
      rw [adL_l (by omega), ih i p2 hi2 m]
      rfl
theorem adL_mem {g n : Nat} {s e : Int} {y : Wn} : ∀ L : List Wn, y ∈ adL g n s e L → y ∈ L ∨ y = (g, s, e, [n]) ∨ ∃ x ∈ L, x.1 = g ∧ x.2.1 = s ∧ y = (x.1, x.2.1, x.2.2.1, x.2.2.2 ++ [n]) := by
  intro L
  induction L with
  | nil => intro h; exact .inr (.inl (List.mem_singleton.mp h))
  | cons x L ih =>
    intro h
    by_cases c : x.1 < g ∨ (x.1 = g ∧ x.2.1 < s)
    · rw [adL_l c] at h
      rcases List.mem_cons.mp h with a | a
      · exact .inl (by rw [a]; exact List.mem_cons_self)
      · rcases ih a with b | b | ⟨z, hz, b⟩
        · exact .inl (List.mem_cons_of_mem _ b)
        · exact .inr (.inl b)
        · exact .inr (.inr ⟨z, List.mem_cons_of_mem _ hz, b⟩)
    · by_cases c2 : x.1 = g ∧ x.2.1 = s
      · rw [adL_e c2] at h
        rcases List.mem_cons.mp h with a | a
        · exact .inr (.inr ⟨x, List.mem_cons_self, c2.1, c2.2, a⟩)
        · exact .inl (List.mem_cons_of_mem _ a)
      · rw [adL_r c c2] at h
        rcases List.mem_cons.mp h with a | a
        · exact .inr (.inl a)
        · exact .inl a
theorem adL_s {g n : Nat} {s e : Int} : ∀ L : List Wn, sL L → sL (adL g n s e L) := by
  intro L
  induction L with
  | nil => intro _; exact List.pairwise_singleton _ _
  | cons x L ih =>
    intro sl
    obtain ⟨p1, p2⟩ := List.pairwise_cons.mp sl
    by_cases c : x.1 < g ∨ (x.1 = g ∧ x.2.1 < s)
    · rw [adL_l c]
      refine List.pairwise_cons.mpr ⟨fun y hy => ?_, ih p2⟩
      rcases adL_mem L hy with a | a | ⟨z, hz, z1, z2, a⟩
      · exact p1 y a
      · rw [a]; exact c
      · rw [a]; exact p1 z hz
    · by_cases c2 : x.1 = g ∧ x.2.1 = s
      · rw [adL_e c2]
        exact List.pairwise_cons.mpr ⟨fun y hy => p1 y hy, p2⟩
      · rw [adL_r c c2]
        refine List.pairwise_cons.mpr ⟨fun y hy => ?_, sl⟩
        rcases List.mem_cons.mp hy with a | a
        · rw [a]; show g < x.1 ∨ (g = x.1 ∧ s < x.2.1); omega
        · have := p1 y a
          show g < y.1 ∨ (g = y.1 ∧ s < y.2.1)
          omega
theorem adL_len {g n : Nat} {s e : Int} : ∀ L : List Wn, (adL g n s e L).length ≤ L.length + 1 ∧ L.length ≤ (adL g n s e L).length := by
  intro L
  induction L with
  | nil => exact ⟨Nat.le_refl _, Nat.zero_le _⟩
  | cons x L ih =>
    by_cases c : x.1 < g ∨ (x.1 = g ∧ x.2.1 < s)
    · rw [adL_l c]
      show (adL g n s e L).length + 1 ≤ L.length + 1 + 1 ∧ L.length + 1 ≤ (adL g n s e L).length + 1
      omega
    · by_cases c2 : x.1 = g ∧ x.2.1 = s
      · rw [adL_e c2]; exact ⟨Nat.le_succ _, Nat.le_refl _⟩
      · rw [adL_r c c2]; exact ⟨Nat.le_refl _, Nat.le_succ _⟩
/-- windows of g that a comma with a gap meets: joined to a; the others -/
def mgF (g : Nat) (hr wd : Int) : List Wn → Wn → Wn
  | [], a => a
  | x :: L, a => if x.1 = g ∧ x.2.1 < hr + wd ∧ hr < x.2.2.1 then mgF g hr wd L (a.1, min a.2.1 x.2.1, max a.2.2.1 x.2.2.1, a.2.2.2 ++ x.2.2.2) else mgF g hr wd L a
def mgK (g : Nat) (hr wd : Int) : List Wn → List Wn
  | [] => []
  | x :: L => if x.1 = g ∧ x.2.1 < hr + wd ∧ hr < x.2.2.1 then mgK g hr wd L else x :: mgK g hr wd L
theorem mgF_y {g : Nat} {hr wd : Int} {x a : Wn} {L : List Wn} (c : x.1 = g ∧ x.2.1 < hr + wd ∧ hr < x.2.2.1) : mgF g hr wd (x :: L) a = mgF g hr wd L (a.1, min a.2.1 x.2.1, max a.2.2.1 x.2.2.1, a.2.2.2 ++ x.2.2.2) := if_pos c
theorem mgF_n {g : Nat} {hr wd : Int} {x a : Wn} {L : List Wn} (c : ¬ (x.1 = g ∧ x.2.1 < hr + wd ∧ hr < x.2.2.1)) : mgF g hr wd (x :: L) a = mgF g hr wd L a := if_neg c
theorem mgK_y {g : Nat} {hr wd : Int} {x : Wn} {L : List Wn} (c : x.1 = g ∧ x.2.1 < hr + wd ∧ hr < x.2.2.1) : mgK g hr wd (x :: L) = mgK g hr wd L := if_pos c
theorem mgK_n {g : Nat} {hr wd : Int} {x : Wn} {L : List Wn} (c : ¬ (x.1 = g ∧ x.2.1 < hr + wd ∧ hr < x.2.2.1)) : mgK g hr wd (x :: L) = x :: mgK g hr wd L := if_neg c
theorem mgK_mem {g : Nat} {hr wd : Int} {y : Wn} : ∀ L : List Wn, y ∈ mgK g hr wd L ↔ y ∈ L ∧ ¬ (y.1 = g ∧ y.2.1 < hr + wd ∧ hr < y.2.2.1) := by
  intro L
  induction L with
  | nil => exact ⟨fun h => absurd h List.not_mem_nil, fun h => absurd h.1 List.not_mem_nil⟩
  | cons x L ih =>
    by_cases c : x.1 = g ∧ x.2.1 < hr + wd ∧ hr < x.2.2.1
    · rw [mgK_y c, ih, List.mem_cons]
      constructor
      · intro h; exact ⟨.inr h.1, h.2⟩
      · rintro ⟨a | a, b⟩
        · rw [a] at b; exact absurd c b
        · exact ⟨a, b⟩
    · rw [mgK_n c, List.mem_cons, List.mem_cons, ih]
      constructor
      · rintro (a | a)
        · exact ⟨.inl a, by rw [a]; exact c⟩
        · exact ⟨.inr a.1, a.2⟩
      · rintro ⟨a | a, b⟩
        · exact .inl a
        · exact .inr ⟨a, b⟩
theorem mgK_sub {g : Nat} {hr wd : Int} : ∀ L : List Wn, (mgK g hr wd L).Sublist L := by
  intro L
  induction L with
  | nil => exact List.Sublist.slnil
  | cons x L ih =>
    by_cases c : x.1 = g ∧ x.2.1 < hr + wd ∧ hr < x.2.2.1
    · rw [mgK_y c]; exact List.Sublist.cons _ ih
    · rw [mgK_n c]; exact List.Sublist.cons_cons _ ih
theorem mgK_s {g : Nat} {hr wd : Int} {L : List Wn} (s : sL L) : sL (mgK g hr wd L) := s.sublist (mgK_sub L)
/-- the joined one: its goose, its start is one of those -/
theorem mgF_1 {g : Nat} {hr wd : Int} : ∀ (L : List Wn) (a : Wn), (mgF g hr wd L a).1 = a.1 ∧ ((mgF g hr wd L a).2.1 = a.2.1 ∨ ∃ x ∈ L, (x.1 = g ∧ x.2.1 < hr + wd ∧ hr < x.2.2.1) ∧ (mgF g hr wd L a).2.1 = x.2.1) := by
  intro L
  induction L with
  | nil => intro a; exact ⟨rfl, .inl rfl⟩
  | cons x L ih =>
    intro a
    by_cases c : x.1 = g ∧ x.2.1 < hr + wd ∧ hr < x.2.2.1
    · rw [mgF_y c]
      obtain ⟨i1, i2⟩ := ih (a.1, min a.2.1 x.2.1, max a.2.2.1 x.2.2.1, a.2.2.2 ++ x.2.2.2)
      refine ⟨i1, ?_⟩
      rcases i2 with i2 | ⟨y, hy, i2⟩
      · have i2 : (mgF g hr wd L (a.1, min a.2.1 x.2.1, max a.2.2.1 x.2.2.1, a.2.2.2 ++ x.2.2.2)).2.1 = min a.2.1 x.2.1 := i2
        rw [i2]
        by_cases d : a.2.1 ≤ x.2.1
        · exact .inl (by omega)
        · exact .inr ⟨x, List.mem_cons_self, c, by omega⟩
      · exact .inr ⟨y, List.mem_cons_of_mem _ hy, i2⟩
    · rw [mgF_n c]
      obtain ⟨i1, i2⟩ := ih a
      refine ⟨i1, ?_⟩
      rcases i2 with i2 | ⟨y, hy, i2⟩
      · exact .inl i2
      · exact .inr ⟨y, List.mem_cons_of_mem _ hy, i2⟩
theorem mgF_ns {g : Nat} {hr wd : Int} {N : Nat} : ∀ (L : List Wn) (a : Wn), a.2.2.2 ≠ [] → (∀ n ∈ a.2.2.2, n < N) → (∀ x ∈ L, ∀ n ∈ x.2.2.2, n < N) → (mgF g hr wd L a).2.2.2 ≠ [] ∧ ∀ n ∈ (mgF g hr wd L a).2.2.2, n < N := by
  intro L
  induction L with
  | nil => intro a h1 h2 _; exact ⟨h1, h2⟩
  | cons x L ih =>
    intro a h1 h2 h3
    have h4 : ∀ y ∈ L, ∀ n ∈ y.2.2.2, n < N := fun y hy => h3 y (List.mem_cons_of_mem _ hy)
    by_cases c : x.1 = g ∧ x.2.1 < hr + wd ∧ hr < x.2.2.1
    · rw [mgF_y c]
      refine ih _ (fun z => h1 (List.append_eq_nil_iff.mp z).1) (fun n hn => ?_) h4
      rcases List.mem_append.mp hn with e | e
      · exact h2 n e
      · exact h3 x List.mem_cons_self n e
    · rw [mgF_n c]; exact ih a h1 h2 h4
theorem gap_s {g n : Nat} {hr wd : Int} {L : List Wn} (s : sL L) (hwd : 1 ≤ wd) (he : ∀ x ∈ L, x.2.1 < x.2.2.1) : ∀ x ∈ mgK g hr wd L, ¬ (x.1 = (mgF g hr wd L (g, hr, hr + wd, [n])).1 ∧ x.2.1 = (mgF g hr wd L (g, hr, hr + wd, [n])).2.1) := by
  intro x hx ⟨e1, e2⟩
  obtain ⟨m1, m2⟩ := (mgK_mem L).mp hx
  obtain ⟨f1, f2⟩ := mgF_1 (g := g) (hr := hr) (wd := wd) L (g, hr, hr + wd, [n])
  have f1 : (mgF g hr wd L (g, hr, hr + wd, [n])).1 = g := f1
  rw [f1] at e1
  have hxe := he x m1
  rcases f2 with f2 | ⟨y, hy, c, f2⟩
  · have f2 : (mgF g hr wd L (g, hr, hr + wd, [n])).2.1 = hr := f2
    rw [f2] at e2
    exact m2 ⟨e1, by omega, by omega⟩
  · rw [f2] at e2
    have xy : x = y := by
      have : ∀ L : List Wn, sL L → x ∈ L → y ∈ L → x = y := by
        intro L
        induction L with
        | nil => intro _ h; exact absurd h List.not_mem_nil
        | cons w L ih =>
          intro s h1 h2
          obtain ⟨p1, p2⟩ := List.pairwise_cons.mp s
          rcases List.mem_cons.mp h1 with a | a
          · rcases List.mem_cons.mp h2 with b | b
            · rw [a, b]
            · have := p1 y b; rw [a] at e1 e2; omega
          · rcases List.mem_cons.mp h2 with b | b
            · have := p1 x a; rw [← b] at this; omega
            · exact ih p2 a b
      exact this L s m1 hy
    rw [xy] at m2
    exact m2 c
