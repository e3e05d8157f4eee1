/-! The class's rows out of the list: values, counting, gaps, what is over. -/
theorem mx_as (a b c : Int32) : mx (mx a b) c = mx a (mx b c) := by
  have l : ∀ x y : Int32, (x < y ↔ x.toInt < y.toInt) := fun _ _ => Int32.lt_iff_toInt_lt
  unfold mx
  by_cases h1 : a < b <;> by_cases h2 : b < c <;> by_cases h3 : a < c <;> simp only [h1, h2, h3, if_true, if_false] <;> (rw [l] at h1 h2 h3; omega)
theorem mi_as (a b c : Int32) : mi (mi a b) c = mi a (mi b c) := by
  have l : ∀ x y : Int32, (x < y ↔ x.toInt < y.toInt) := fun _ _ => Int32.lt_iff_toInt_lt
  unfold mi
  by_cases h1 : b < a <;> by_cases h2 : c < b <;> by_cases h3 : c < a <;> simp only [h1, h2, h3, if_true, if_false] <;> (rw [l] at h1 h2 h3; omega)
theorem jn_as (tl : Nat) (a b c : Int32) : jn tl (jn tl a b) c = jn tl a (jn tl b c) := by
  by_cases h2 : tl = 2
  · have e : ∀ x y, jn tl x y = mx x y := fun x y => if_pos h2
    rw [e, e, e, e]; exact mx_as a b c
  · by_cases h3 : tl = 3
    · have e : ∀ x y, jn tl x y = mi x y := fun x y => (if_neg h2).trans (if_pos h3)
      rw [e, e, e, e]; exact mi_as a b c
    · have e : ∀ x y, jn tl x y = x + y := fun x y => (if_neg h2).trans (if_neg h3)
      rw [e, e, e, e]; exact Int32.add_assoc a b c
/-- what a window with these commas is worth -/
def vlF (tl : Nat) (f : Nat → Int32) : List Nat → Int32
  | [] => iZ 0
  | a :: l => l.foldl (fun s b => jn tl s (f b)) (f a)
theorem fold_jn {tl : Nat} {f : Nat → Int32} : ∀ (l : List Nat) (x s : Int32), l.foldl (fun s b => jn tl s (f b)) (jn tl x s) = jn tl x (l.foldl (fun s b => jn tl s (f b)) s) := by
  intro l
  induction l with
  | nil => intro x s; rfl
  | cons b l ih =>
    intro x s
    rw [List.foldl_cons, List.foldl_cons, jn_as, ih]
theorem vlF_app {tl : Nat} {f : Nat → Int32} {a b : List Nat} (ha : a ≠ []) (hb : b ≠ []) : vlF tl f (a ++ b) = jn tl (vlF tl f a) (vlF tl f b) := by
  cases a with
  | nil => exact absurd rfl ha
  | cons x a =>
    cases b with
    | nil => exact absurd rfl hb
    | cons y b =>
      show (a ++ y :: b).foldl _ (f x) = jn tl (a.foldl _ (f x)) (b.foldl _ (f y))
      rw [List.foldl_append, List.foldl_cons, fold_jn]
theorem vlF_1 {tl : Nat} {f : Nat → Int32} {n : Nat} : vlF tl f [n] = f n := rfl
theorem vlF_s {tl : Nat} {f : Nat → Int32} {a : List Nat} {n : Nat} (ha : a ≠ []) : vlF tl f (a ++ [n]) = jn tl (vlF tl f a) (f n) := vlF_app ha (List.cons_ne_nil _ _)
theorem fold_c {f : Nat → Int32} (hf : ∀ n, f n = iZ 1) : ∀ (l : List Nat) (k : Int), l.foldl (fun s b => jn 0 s (f b)) (iZ k) = iZ (k + l.length) := by
  intro l
  induction l with
  | nil => intro k; rw [List.foldl_nil]; show iZ k = iZ (k + 0); rw [Int.add_zero]
  | cons b l ih =>
    intro k
    rw [List.foldl_cons, hf b, jn_s (by decide) (by decide), iZ_add, ih, List.length_cons]
    rw [show k + 1 + (l.length : Int) = k + ((l.length + 1 : Nat) : Int) by omega]
theorem vlF_c {f : Nat → Int32} (hf : ∀ n, f n = iZ 1) {l : List Nat} (h : l ≠ []) : vlF 0 f l = iZ (l.length : Int) := by
  cases l with
  | nil => exact absurd rfl h
  | cons a l =>
    show l.foldl _ (f a) = _
    rw [hf a, fold_c hf, List.length_cons]
    rw [show (1 : Int) + (l.length : Int) = ((l.length + 1 : Nat) : Int) by omega]
theorem foldl_cg {tl : Nat} {f f2 : Nat → Int32} : ∀ (l : List Nat) (s : Int32), (∀ n ∈ l, f n = f2 n) → l.foldl (fun s b => jn tl s (f b)) s = l.foldl (fun s b => jn tl s (f2 b)) s := by
  intro l
  induction l with
  | nil => intro s _; rfl
  | cons b l ih =>
    intro s h
    rw [List.foldl_cons, List.foldl_cons, h b List.mem_cons_self]
    exact ih _ (fun n hn => h n (List.mem_cons_of_mem _ hn))
theorem vlF_cg {tl : Nat} {f f2 : Nat → Int32} {l : List Nat} (h : ∀ n ∈ l, f n = f2 n) : vlF tl f l = vlF tl f2 l := by
  cases l with
  | nil => rfl
  | cons a l =>
    show l.foldl _ (f a) = l.foldl _ (f2 a)
    rw [h a List.mem_cons_self]
    exact foldl_cg l _ (fun n hn => h n (List.mem_cons_of_mem _ hn))
/-- a window as the class has it; tl: how a goose tells, f: its values -/
def wo (tl : Nat → Nat) (f : Nat → Nat → Int32) (w : Wn) : Win := (w.2.1, w.2.2.1, (w.2.2.2.length : Int), vlF (tl w.1) (f w.1) w.2.2.2)
/-- a goose's row -/
def rwL (tl : Nat → Nat) (f : Nat → Nat → Int32) (L : List Wn) (g : Nat) : List Win := (L.filter (fun w => decide (w.1 = g))).map (wo tl f)
theorem fl_y {x : Wn} {L : List Wn} {g : Nat} (c : x.1 = g) : (x :: L).filter (fun w => decide (w.1 = g)) = x :: L.filter (fun w => decide (w.1 = g)) := List.filter_cons_of_pos (decide_eq_true c)
theorem fl_n {x : Wn} {L : List Wn} {g : Nat} (c : ¬ x.1 = g) : (x :: L).filter (fun w => decide (w.1 = g)) = L.filter (fun w => decide (w.1 = g)) := List.filter_cons_of_neg (by rw [decide_eq_true_eq]; exact c)
theorem fm_y {x : Wn} {L : List Wn} {g : Nat} (c : ¬ x.1 = g) : (x :: L).filter (fun w => decide (¬ w.1 = g)) = x :: L.filter (fun w => decide (¬ w.1 = g)) := List.filter_cons_of_pos (decide_eq_true c)
theorem fm_n {x : Wn} {L : List Wn} {g : Nat} (c : x.1 = g) : (x :: L).filter (fun w => decide (¬ w.1 = g)) = L.filter (fun w => decide (¬ w.1 = g)) := List.filter_cons_of_neg (by rw [decide_eq_true_eq]; exact fun z => z c)
theorem rwL_y {tl : Nat → Nat} {f : Nat → Nat → Int32} {x : Wn} {L : List Wn} {g : Nat} (c : x.1 = g) : rwL tl f (x :: L) g = wo tl f x :: rwL tl f L g := by
  unfold rwL
  rw [fl_y c]
  rfl
theorem rwL_n {tl : Nat → Nat} {f : Nat → Nat → Int32} {x : Wn} {L : List Wn} {g : Nat} (c : ¬ x.1 = g) : rwL tl f (x :: L) g = rwL tl f L g := by
  unfold rwL
  rw [fl_n c]
theorem rwL_0 {tl : Nat → Nat} {f : Nat → Nat → Int32} {g : Nat} : ∀ L : List Wn, (∀ x ∈ L, ¬ x.1 = g) → rwL tl f L g = [] := by
  intro L
  induction L with
  | nil => intro _; rfl
  | cons x L ih =>
    intro h
    rw [rwL_n (h x List.mem_cons_self)]
    exact ih (fun y hy => h y (List.mem_cons_of_mem _ hy))
theorem sL_gt {x : Wn} {L : List Wn} {g : Nat} (s : sL (x :: L)) (c : g < x.1) : ∀ y ∈ x :: L, ¬ y.1 = g := by
  intro y hy
  obtain ⟨p1, p2⟩ := List.pairwise_cons.mp s
  rcases List.mem_cons.mp hy with e | e
  · rw [e]; omega
  · have := p1 y e; omega
theorem rwL_put {tl : Nat → Nat} {f : Nat → Nat → Int32} {w : Wn} : ∀ L : List Wn, sL L → rwL tl f (putL L w) w.1 = insW (rwL tl f L w.1) (wo tl f w) := by
  intro L
  induction L with
  | nil => intro _; rw [putL_n, rwL_y rfl]; rfl
  | cons x L ih =>
    intro s
    have p2 := (List.pairwise_cons.mp s).2
    by_cases c : x.1 < w.1 ∨ (x.1 = w.1 ∧ x.2.1 < w.2.1)
    · rw [putL_l c]
      by_cases e : x.1 = w.1
      · rw [rwL_y e, rwL_y e, insW_l (by show x.2.1 < w.2.1; omega), ih p2]
      · rw [rwL_n e, rwL_n e, ih p2]
    · rw [putL_r c, rwL_y rfl]
      by_cases e : x.1 = w.1
      · rw [rwL_y e, insW_r (by show ¬ x.2.1 < w.2.1; omega)]
      · rw [rwL_0 _ (sL_gt s (by omega))]; rfl
theorem rwL_put_o {tl : Nat → Nat} {f : Nat → Nat → Int32} {w : Wn} {g : Nat} (hg : ¬ w.1 = g) : ∀ L : List Wn, rwL tl f (putL L w) g = rwL tl f L g := by
  intro L
  induction L with
  | nil => rw [putL_n, rwL_n hg]
  | cons x L ih =>
    by_cases c : x.1 < w.1 ∨ (x.1 = w.1 ∧ x.2.1 < w.2.1)
    · rw [putL_l c]
      by_cases e : x.1 = g
      · rw [rwL_y e, rwL_y e, ih]
      · rw [rwL_n e, rwL_n e, ih]
    · rw [putL_r c, rwL_n hg]
theorem rwL_ad {tl : Nat → Nat} {f : Nat → Nat → Int32} {g n : Nat} {s wd : Int} : ∀ L : List Wn, sL L → (∀ x ∈ L, x.2.2.2 ≠ []) → rwL tl f (adL g n s (s + wd) L) g = cin wd (tl g) (f g n) (rwL tl f L g) s := by
  intro L
  induction L with
  | nil => intro _ _; rw [rwL_0 [] (fun _ h => absurd h List.not_mem_nil), cin_nil]; exact rwL_y (L := []) rfl
  | cons x L ih =>
    intro sl ne
    have p2 := (List.pairwise_cons.mp sl).2
    have ne2 : ∀ y ∈ L, y.2.2.2 ≠ [] := fun y hy => ne y (List.mem_cons_of_mem _ hy)
    by_cases c : x.1 < g ∨ (x.1 = g ∧ x.2.1 < s)
    · rw [adL_l c]
      by_cases e : x.1 = g
      · rw [rwL_y e, rwL_y e, cin_l (by show x.2.1 < s; omega), ih p2 ne2]
      · rw [rwL_n e, rwL_n e, ih p2 ne2]
    · by_cases c2 : x.1 = g ∧ x.2.1 = s
      · rw [adL_e c2, rwL_y (x := (x.1, x.2.1, x.2.2.1, x.2.2.2 ++ [n])) c2.1, rwL_y c2.1, cin_e (by show x.2.1 = s; exact c2.2)]
        have e1 : vlF (tl x.1) (f x.1) (x.2.2.2 ++ [n]) = jn (tl g) (vlF (tl x.1) (f x.1) x.2.2.2) (f g n) := by rw [vlF_s (ne x List.mem_cons_self), c2.1]
        have e2 : ((x.2.2.2 ++ [n]).length : Int) = (x.2.2.2.length : Int) + 1 := by rw [List.length_append]; rfl
        show (x.2.1, x.2.2.1, ((x.2.2.2 ++ [n]).length : Int), vlF (tl x.1) (f x.1) (x.2.2.2 ++ [n])) :: _ = (s, x.2.2.1, (x.2.2.2.length : Int) + 1, jn (tl g) (vlF (tl x.1) (f x.1) x.2.2.2) (f g n)) :: _
        rw [e1, e2, c2.2]
      · rw [adL_r c c2, rwL_y (x := (g, s, s + wd, [n])) rfl]
        by_cases e : x.1 = g
        · rw [rwL_y e, cin_g (by show s < x.2.1; omega)]; rfl
        · rw [rwL_0 _ (sL_gt sl (by omega)), cin_nil]; rfl
theorem rwL_ad_o {tl : Nat → Nat} {f : Nat → Nat → Int32} {g g2 n : Nat} {s e : Int} (hg : ¬ g = g2) : ∀ L : List Wn, rwL tl f (adL g n s e L) g2 = rwL tl f L g2 := by
  intro L
  induction L with
  | nil => exact rwL_n hg
  | cons x L ih =>
    by_cases c : x.1 < g ∨ (x.1 = g ∧ x.2.1 < s)
    · rw [adL_l c]
      by_cases e : x.1 = g2
      · rw [rwL_y e, rwL_y e, ih]
      · rw [rwL_n e, rwL_n e, ih]
    · by_cases c2 : x.1 = g ∧ x.2.1 = s
      · rw [adL_e c2, rwL_n (x := (x.1, x.2.1, x.2.2.1, x.2.2.2 ++ [n])) (by show ¬ x.1 = g2; omega), rwL_n (by omega)]
      · rw [adL_r c c2, rwL_n (x := (g, s, e, [n])) hg]
theorem rwL_mgK {tl : Nat → Nat} {f : Nat → Nat → Int32} {g : Nat} {hr wd : Int} : ∀ L : List Wn, rwL tl f (mgK g hr wd L) g = gpk hr wd (rwL tl f L g) := by
  intro L
  induction L with
  | nil => rfl
  | cons x L ih =>
    by_cases c : x.1 = g ∧ x.2.1 < hr + wd ∧ hr < x.2.2.1
    · rw [mgK_y c, rwL_y c.1, gpk_n c.2, ih]
    · rw [mgK_n c]
      by_cases e : x.1 = g
      · rw [rwL_y e, rwL_y e, gpk_y (by show ¬ (x.2.1 < hr + wd ∧ hr < x.2.2.1); intro z; exact c ⟨e, z⟩), ih]
      · rw [rwL_n e, rwL_n e, ih]
theorem rwL_mgK_o {tl : Nat → Nat} {f : Nat → Nat → Int32} {g g2 : Nat} {hr wd : Int} (hg : ¬ g = g2) : ∀ L : List Wn, rwL tl f (mgK g hr wd L) g2 = rwL tl f L g2 := by
  intro L
  induction L with
  | nil => rfl
  | cons x L ih =>
    by_cases c : x.1 = g ∧ x.2.1 < hr + wd ∧ hr < x.2.2.1
    · rw [mgK_y c, rwL_n (by omega), ih]
    · rw [mgK_n c]
      by_cases e : x.1 = g2
      · rw [rwL_y e, rwL_y e, ih]
      · rw [rwL_n e, rwL_n e, ih]
theorem wo_mgF {tl : Nat → Nat} {f : Nat → Nat → Int32} {g : Nat} {hr wd : Int} : ∀ (L : List Wn) (a : Wn), a.1 = g → a.2.2.2 ≠ [] → (∀ x ∈ L, x.2.2.2 ≠ []) → wo tl f (mgF g hr wd L a) = gpf hr wd (tl g) (rwL tl f L g) (wo tl f a) := by
  intro L
  induction L with
  | nil => intro a _ _ _; rfl
  | cons x L ih =>
    intro a ha hn ne
    have ne2 : ∀ y ∈ L, y.2.2.2 ≠ [] := fun y hy => ne y (List.mem_cons_of_mem _ hy)
    by_cases c : x.1 = g ∧ x.2.1 < hr + wd ∧ hr < x.2.2.1
    · rw [mgF_y c, rwL_y c.1, gpf_y c.2, ih (a.1, min a.2.1 x.2.1, max a.2.2.1 x.2.2.1, a.2.2.2 ++ x.2.2.2) ha (fun z => hn (List.append_eq_nil_iff.mp z).1) ne2]
      have e1 : vlF (tl a.1) (f a.1) (a.2.2.2 ++ x.2.2.2) = jn (tl g) (vlF (tl a.1) (f a.1) a.2.2.2) (vlF (tl x.1) (f x.1) x.2.2.2) := by rw [vlF_app hn (ne x List.mem_cons_self), ha, c.1]
      have e2 : ((a.2.2.2 ++ x.2.2.2).length : Int) = (a.2.2.2.length : Int) + (x.2.2.2.length : Int) := by rw [List.length_append]; omega
      have e3 : wo tl f (a.1, min a.2.1 x.2.1, max a.2.2.1 x.2.2.1, a.2.2.2 ++ x.2.2.2) = (min (wo tl f a).1 (wo tl f x).1, max (wo tl f a).2.1 (wo tl f x).2.1, (wo tl f a).2.2.1 + (wo tl f x).2.2.1, jn (tl g) (wo tl f a).2.2.2 (wo tl f x).2.2.2) := by
        show (min a.2.1 x.2.1, max a.2.2.1 x.2.2.1, ((a.2.2.2 ++ x.2.2.2).length : Int), vlF (tl a.1) (f a.1) (a.2.2.2 ++ x.2.2.2)) = (min a.2.1 x.2.1, max a.2.2.1 x.2.2.1, (a.2.2.2.length : Int) + (x.2.2.2.length : Int), jn (tl g) (vlF (tl a.1) (f a.1) a.2.2.2) (vlF (tl x.1) (f x.1) x.2.2.2))
        rw [e1, e2]
      rw [e3]
    · rw [mgF_n c, ih a ha hn ne2]
      by_cases e : x.1 = g
      · rw [rwL_y e, gpf_n (by show ¬ (x.2.1 < hr + wd ∧ hr < x.2.2.1); intro z; exact c ⟨e, z⟩)]
      · rw [rwL_n e]
/-- a comma with a gap: the goose's row is the class's -/
theorem rwL_gap {tl : Nat → Nat} {f : Nat → Nat → Int32} {g n : Nat} {hr wd : Int} {L : List Wn} (sl : sL L) (ne : ∀ x ∈ L, x.2.2.2 ≠ []) : rwL tl f (putL (mgK g hr wd L) (mgF g hr wd L (g, hr, hr + wd, [n]))) g = cgap hr wd (tl g) (f g n) (rwL tl f L g) := by
  have e := (mgF_1 (g := g) (hr := hr) (wd := wd) L (g, hr, hr + wd, [n])).1
  have e : (mgF g hr wd L (g, hr, hr + wd, [n])).1 = g := e
  have p := rwL_put (tl := tl) (f := f) (w := mgF g hr wd L (g, hr, hr + wd, [n])) (mgK g hr wd L) (mgK_s sl)
  rw [e] at p
  rw [p, rwL_mgK, wo_mgF L (g, hr, hr + wd, [n]) rfl (List.cons_ne_nil _ _) ne]
  rfl
/-- what is over, what stays -/
def kpL (L : List Wn) (m : Int) : List Wn := L.filter (fun w => decide (m < w.2.2.1))
def gnW (L : List Wn) (m : Int) : List Wn := L.filter (fun w => decide (w.2.2.1 ≤ m))
theorem kpL_y {x : Wn} {L : List Wn} {m : Int} (c : m < x.2.2.1) : kpL (x :: L) m = x :: kpL L m := List.filter_cons_of_pos (decide_eq_true c)
theorem kpL_n {x : Wn} {L : List Wn} {m : Int} (c : ¬ m < x.2.2.1) : kpL (x :: L) m = kpL L m := List.filter_cons_of_neg (by rw [decide_eq_true_eq]; exact c)
theorem gnW_y {x : Wn} {L : List Wn} {m : Int} (c : x.2.2.1 ≤ m) : gnW (x :: L) m = x :: gnW L m := List.filter_cons_of_pos (decide_eq_true c)
theorem gnW_n {x : Wn} {L : List Wn} {m : Int} (c : ¬ x.2.2.1 ≤ m) : gnW (x :: L) m = gnW L m := List.filter_cons_of_neg (by rw [decide_eq_true_eq]; exact c)
theorem rwL_kp {tl : Nat → Nat} {f : Nat → Nat → Int32} {g : Nat} {m : Int} : ∀ L : List Wn, rwL tl f (kpL L m) g = keepE (rwL tl f L g) m := by
  intro L
  induction L with
  | nil => rfl
  | cons x L ih =>
    by_cases c : m < x.2.2.1
    · rw [kpL_y c]
      by_cases e : x.1 = g
      · rw [rwL_y e, rwL_y e, keepE_y (by show m < x.2.2.1; exact c), ih]
      · rw [rwL_n e, rwL_n e, ih]
    · rw [kpL_n c]
      by_cases e : x.1 = g
      · rw [rwL_y e, keepE_n (by show ¬ m < x.2.2.1; exact c), ih]
      · rw [rwL_n e, ih]
theorem rwL_gn {tl : Nat → Nat} {f : Nat → Nat → Int32} {g : Nat} {m : Int} : ∀ L : List Wn, rwL tl f (gnW L m) g = goneE (rwL tl f L g) m := by
  intro L
  induction L with
  | nil => rfl
  | cons x L ih =>
    by_cases c : x.2.2.1 ≤ m
    · rw [gnW_y c]
      by_cases e : x.1 = g
      · rw [rwL_y e, rwL_y e, goneE_y (by show x.2.2.1 ≤ m; exact c), ih]
      · rw [rwL_n e, rwL_n e, ih]
    · rw [gnW_n c]
      by_cases e : x.1 = g
      · rw [rwL_y e, goneE_n (by show ¬ x.2.2.1 ≤ m; exact c), ih]
      · rw [rwL_n e, ih]
/-- a telling as the class has it -/
def tO (tl : Nat → Nat) (f : Nat → Nat → Int32) (w : Wn) : Tel := (w.1, wo tl f w)
/-- geese one after another -/
theorem spl {g : Nat} : ∀ L : List Wn, sL L → (∀ x ∈ L, g ≤ x.1) → L = L.filter (fun w => decide (w.1 = g)) ++ L.filter (fun w => decide (¬ w.1 = g)) := by
  intro L
  induction L with
  | nil => intro _ _; rfl
  | cons x L ih =>
    intro s h
    have p2 := (List.pairwise_cons.mp s).2
    have h2 : ∀ y ∈ L, g ≤ y.1 := fun y hy => h y (List.mem_cons_of_mem _ hy)
    by_cases c : x.1 = g
    · rw [fl_y c, fm_n c]
      show x :: L = x :: (_ ++ _)
      rw [← ih p2 h2]
    · have hx := h x List.mem_cons_self
      have n := sL_gt s (show g < x.1 by omega)
      have e1 : (x :: L).filter (fun w => decide (w.1 = g)) = [] := List.filter_eq_nil_iff.mpr (fun y hy => by rw [decide_eq_true_eq]; exact n y hy)
      have e2 : (x :: L).filter (fun w => decide (¬ w.1 = g)) = x :: L := List.filter_eq_self.mpr (fun y hy => decide_eq_true (n y hy))
      rw [e1, e2]; rfl
theorem gnL_cg {ws ws2 : Nat → List Win} {m : Int} : ∀ n g, (∀ g2, g ≤ g2 → ws g2 = ws2 g2) → gnL ws m n g = gnL ws2 m n g := by
  intro n
  induction n with
  | zero => intro g _; rfl
  | succ n ih =>
    intro g h
    show (goneE (ws g) m).map (Prod.mk g) ++ gnL ws m n (g + 1) = (goneE (ws2 g) m).map (Prod.mk g) ++ gnL ws2 m n (g + 1)
    rw [h g (Nat.le_refl _), ih (g + 1) (fun g2 hg => h g2 (by omega))]
theorem flt_o {tl : Nat → Nat} {f : Nat → Nat → Int32} {g g2 : Nat} (hg : g < g2) (L : List Wn) : rwL tl f (L.filter (fun w => decide (¬ w.1 = g))) g2 = rwL tl f L g2 := by
  induction L with
  | nil => rfl
  | cons x L ih =>
    by_cases c : x.1 = g
    · rw [fm_n c, rwL_n (by omega), ih]
    · rw [fm_y c]
      by_cases e : x.1 = g2
      · rw [rwL_y e, rwL_y e, ih]
      · rw [rwL_n e, rwL_n e, ih]
theorem tO_row {tl : Nat → Nat} {f : Nat → Nat → Int32} {g : Nat} (L : List Wn) : (L.filter (fun w => decide (w.1 = g))).map (tO tl f) = (rwL tl f L g).map (Prod.mk g) := by
  induction L with
  | nil => rfl
  | cons x L ih =>
    by_cases c : x.1 = g
    · rw [rwL_y c, fl_y c, List.map_cons, List.map_cons, ih]
      show (x.1, wo tl f x) :: _ = _
      rw [c]
    · rw [rwL_n c, fl_n c, ih]
theorem sL_flt {L : List Wn} {p : Wn → Bool} (s : sL L) : sL (L.filter p) := s.filter _
theorem gnL_L {tl : Nat → Nat} {f : Nat → Nat → Int32} {m : Int} : ∀ (n g : Nat) (L : List Wn), sL L → (∀ x ∈ L, g ≤ x.1 ∧ x.1 < g + n) → (gnW L m).map (tO tl f) = gnL (rwL tl f L) m n g := by
  intro n
  induction n with
  | zero =>
    intro g L _ h
    cases L with
    | nil => rfl
    | cons x L => have := h x List.mem_cons_self; omega
  | succ n ih =>
    intro g L s h
    have sg : sL (gnW L m) := sL_flt s
    have e := spl (g := g) (gnW L m) sg (fun x hx => (h x (List.mem_filter.mp hx).1).1)
    have e2 : (gnW L m).filter (fun w => decide (¬ w.1 = g)) = gnW (L.filter (fun w => decide (¬ w.1 = g))) m := by
      unfold gnW
      rw [List.filter_filter, List.filter_filter]
      congr 1
      funext w
      exact Bool.and_comm _ _
    have i := ih (g + 1) (L.filter (fun w => decide (¬ w.1 = g))) (sL_flt s) (fun x hx => by
      obtain ⟨h1, h2⟩ := List.mem_filter.mp hx
      have := h x h1
      have h2 := of_decide_eq_true h2
      omega)
    rw [e, List.map_append, tO_row, rwL_gn, e2, i, gnL_cg n (g + 1) (ws2 := rwL tl f L) (fun g2 hg => flt_o (by omega) L)]
    rfl
