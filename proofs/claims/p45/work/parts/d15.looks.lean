/-! What the law looks at: widths, gaps, counts, lates. -/
/-- a window is as wide as told, or wider with a gap -/
def wdY (B : Bk) (w : Wn) : Prop := ((B.2.2.getD w.1 g0).2.2.1 = 0 → (B.2.2.getD w.1 g0).2.1 ≤ w.2.2.1 - w.2.1) ∧ ((B.2.2.getD w.1 g0).2.2.1 ≠ 0 → w.2.2.1 - w.2.1 = (B.2.2.getD w.1 g0).2.1)
/-- no hour in common -/
def djG (g : Nat) (L : List Wn) : Prop := ∀ x ∈ L, ∀ y ∈ L, x.1 = g → y.1 = g → x.2.1 < y.2.1 → x.2.2.1 ≤ y.2.1
theorem mgF_m {g : Nat} {hr wd : Int} : ∀ (L : List Wn) (a : Wn), (mgF g hr wd L a).2.1 ≤ a.2.1 ∧ a.2.2.1 ≤ (mgF g hr wd L a).2.2.1 := by
  intro L
  induction L with
  | nil => intro a; exact ⟨Int.le_refl _, Int.le_refl _⟩
  | cons x L ih =>
    intro a
    by_cases c : x.1 = g ∧ x.2.1 < hr + wd ∧ hr < x.2.2.1
    · rw [mgF_y c]
      obtain ⟨i1, i2⟩ := ih (a.1, min a.2.1 x.2.1, max a.2.2.1 x.2.2.1, a.2.2.2 ++ x.2.2.2)
      have i1 : (mgF g hr wd L (a.1, min a.2.1 x.2.1, max a.2.2.1 x.2.2.1, a.2.2.2 ++ x.2.2.2)).2.1 ≤ min a.2.1 x.2.1 := i1
      have i2 : max a.2.2.1 x.2.2.1 ≤ (mgF g hr wd L (a.1, min a.2.1 x.2.1, max a.2.2.1 x.2.2.1, a.2.2.2 ++ x.2.2.2)).2.2.1 := i2
      omega
    · rw [mgF_n c]; exact ih a
theorem mgF_2 {g : Nat} {hr wd : Int} : ∀ (L : List Wn) (a : Wn), (mgF g hr wd L a).2.2.1 = a.2.2.1 ∨ ∃ x ∈ L, (x.1 = g ∧ x.2.1 < hr + wd ∧ hr < x.2.2.1) ∧ (mgF g hr wd L a).2.2.1 = x.2.2.1 := by
  intro L
  induction L with
  | nil => intro a; exact .inl rfl
  | cons x L ih =>
    intro a
    by_cases c : x.1 = g ∧ x.2.1 < hr + wd ∧ hr < x.2.2.1
    · rw [mgF_y c]
      rcases ih (a.1, min a.2.1 x.2.1, max a.2.2.1 x.2.2.1, a.2.2.2 ++ x.2.2.2) with i2 | ⟨y, hy, i2⟩
      · have i2 : (mgF g hr wd L (a.1, min a.2.1 x.2.1, max a.2.2.1 x.2.2.1, a.2.2.2 ++ x.2.2.2)).2.2.1 = max a.2.2.1 x.2.2.1 := i2
        rw [i2]
        by_cases d : x.2.2.1 ≤ a.2.2.1
        · exact .inl (by omega)
        · exact .inr ⟨x, List.mem_cons_self, c, by omega⟩
      · exact .inr ⟨y, List.mem_cons_of_mem _ hy, i2⟩
    · rw [mgF_n c]
      rcases ih a with i2 | ⟨y, hy, i2⟩
      · exact .inl i2
      · exact .inr ⟨y, List.mem_cons_of_mem _ hy, i2⟩
theorem sL_one {x y : Wn} : ∀ L : List Wn, sL L → x ∈ L → y ∈ L → x.1 = y.1 → x.2.1 = y.2.1 → x = y := by
  intro L
  induction L with
  | nil => intro _ h; exact absurd h List.not_mem_nil
  | cons w L ih =>
    intro s h1 h2 e1 e2
    obtain ⟨p1, p2⟩ := List.pairwise_cons.mp s
    rcases List.mem_cons.mp h1 with a | a
    · rcases List.mem_cons.mp h2 with b | b
      · rw [a, b]
      · have := p1 y b; rw [a] at e1 e2; omega
    · rcases List.mem_cons.mp h2 with b | b
      · have := p1 x a; rw [← b] at this; omega
      · exact ih p2 a b e1 e2
theorem djG_gap {g n : Nat} {hr wd : Int} {L : List Wn} (s : sL L) (hwd : 1 ≤ wd) (he : ∀ x ∈ L, x.2.1 < x.2.2.1) (d : djG g L) : djG g (putL (mgK g hr wd L) (mgF g hr wd L (g, hr, hr + wd, [n]))) := by
  obtain ⟨f1, f2⟩ := mgF_1 (g := g) (hr := hr) (wd := wd) L (g, hr, hr + wd, [n])
  have f3 := mgF_2 (g := g) (hr := hr) (wd := wd) L (g, hr, hr + wd, [n])
  obtain ⟨b1, b2⟩ := mgF_m (g := g) (hr := hr) (wd := wd) L (g, hr, hr + wd, [n])
  generalize mgF g hr wd L (g, hr, hr + wd, [n]) = F at f1 f2 f3 b1 b2 ⊢
  have f2 : F.2.1 = hr ∨ ∃ x ∈ L, (x.1 = g ∧ x.2.1 < hr + wd ∧ hr < x.2.2.1) ∧ F.2.1 = x.2.1 := f2
  have f3 : F.2.2.1 = hr + wd ∨ ∃ x ∈ L, (x.1 = g ∧ x.2.1 < hr + wd ∧ hr < x.2.2.1) ∧ F.2.2.1 = x.2.2.1 := f3
  have b1 : F.2.1 ≤ hr := b1
  have b2 : hr + wd ≤ F.2.2.1 := b2
  have cl : ∀ y ∈ mgK g hr wd L, y.1 = g → y.2.2.1 ≤ F.2.1 ∨ F.2.2.1 ≤ y.2.1 := by
    intro y hy yg
    obtain ⟨hy, nm⟩ := (mgK_mem L).mp hy
    have ye := he y hy
    by_cases c : hr + wd ≤ y.2.1
    · refine .inr ?_
      rcases f3 with e | ⟨x, hx, ⟨x1, x2, x3⟩, e⟩
      · omega
      · rw [e]; exact d x hx y hy x1 yg (by omega)
    · have c2 : y.2.2.1 ≤ hr := by
        by_cases k : y.2.2.1 ≤ hr
        · exact k
        · exact absurd ⟨yg, by omega, by omega⟩ nm
      refine .inl ?_
      rcases f2 with e | ⟨x, hx, ⟨x1, x2, x3⟩, e⟩
      · omega
      · rw [e]
        rcases Int.lt_trichotomy x.2.1 y.2.1 with k | k | k
        · have := d x hx y hy x1 yg k; omega
        · have := sL_one L s hx hy (by omega) k
          rw [this] at x3; omega
        · exact d y hy x hx yg x1 k
  intro x hx y hy xg yg lt
  rcases (putL_mem _).mp hx with ex | ex
  · rcases (putL_mem _).mp hy with ey | ey
    · rw [ex, ey] at lt; omega
    · have ye := he y ((mgK_mem L).mp ey).1
      rw [ex] at lt ⊢
      rcases cl y ey yg with k | k
      · omega
      · exact k
  · rcases (putL_mem _).mp hy with ey | ey
    · have xe := he x ((mgK_mem L).mp ex).1
      rw [ey] at lt ⊢
      rcases cl x ex xg with k | k
      · exact k
      · omega
    · exact d x ((mgK_mem L).mp ex).1 y ((mgK_mem L).mp ey).1 xg yg lt
/-- other geese's windows are as they were -/
theorem goY_o {G : Gs} {g g2 n : Nat} {hr mk : Int} {L : List Wn} (b : goB G) (hg : ¬ g = g2) : ∀ x ∈ goY G g n hr mk L, x.1 = g2 → x ∈ L := by
  unfold goY
  by_cases c : G.2.2.1 = 0
  · rw [if_pos c]
    by_cases d : mk < hr + G.2.1
    · rw [if_pos d]
      intro x hx e
      rcases (putL_mem _).mp hx with k | k
      · have e1 : (mgF g hr G.2.1 L (g, hr, hr + G.2.1, [n])).1 = g := (mgF_1 L _).1
        rw [k, e1] at e; exact absurd e hg
      · exact ((mgK_mem L).mp k).1
    · rw [if_neg d]; exact fun x hx _ => hx
  · rw [if_neg c]
    exact evY_P (P := fun x => x.1 = g2 → x ∈ L) (by have := b.2.2.1; omega) (fun _ _ _ _ _ e => absurd e hg) (fun x hx e e2 => absurd (e.symm.trans e2) hg) 1001 L 0 (Int.le_refl _) (fun x hx _ => hx)
theorem goY_w {B : Bk} {g n : Nat} {hr mk : Int} {L : List Wn} (b : goB (B.2.2.getD g g0)) (h : ∀ x ∈ L, wdY B x) : ∀ x ∈ goY (B.2.2.getD g g0) g n hr mk L, wdY B x := by
  unfold goY
  by_cases c : (B.2.2.getD g g0).2.2.1 = 0
  · rw [if_pos c]
    by_cases d : mk < hr + (B.2.2.getD g g0).2.1
    · rw [if_pos d]
      intro x hx
      rcases (putL_mem _).mp hx with k | k
      · have e1 : (mgF g hr (B.2.2.getD g g0).2.1 L (g, hr, hr + (B.2.2.getD g g0).2.1, [n])).1 = g := (mgF_1 L _).1
        obtain ⟨b1, b2⟩ := mgF_m (g := g) (hr := hr) (wd := (B.2.2.getD g g0).2.1) L (g, hr, hr + (B.2.2.getD g g0).2.1, [n])
        have b1 : (mgF g hr (B.2.2.getD g g0).2.1 L (g, hr, hr + (B.2.2.getD g g0).2.1, [n])).2.1 ≤ hr := b1
        have b2 : hr + (B.2.2.getD g g0).2.1 ≤ (mgF g hr (B.2.2.getD g g0).2.1 L (g, hr, hr + (B.2.2.getD g g0).2.1, [n])).2.2.1 := b2
        rw [k]
        refine ⟨fun _ => ?_, fun z => ?_⟩
        · rw [e1]; omega
        · rw [e1] at z; exact absurd c z
      · exact h x ((mgK_mem L).mp k).1
    · rw [if_neg d]; exact h
  · rw [if_neg c]
    refine evY_P (P := wdY B) (by have := b.2.2.1; omega) (fun s _ _ _ _ => ⟨fun z => absurd z c, fun _ => ?_⟩) (fun x hx _ => hx) 1001 L 0 (Int.le_refl _) h
    show s + (B.2.2.getD g g0).2.1 - s = (B.2.2.getD g g0).2.1
    omega
/-- counts -/
theorem cnt_app {g : Nat} : ∀ (A C : List Wn), cntG g (A ++ C) = cntG g A + cntG g C := by
  intro A
  induction A with
  | nil => intro C; show cntG g C = 0 + cntG g C; omega
  | cons x A ih =>
    intro C
    show (if x.1 = g then x.2.2.2.length else 0) + cntG g (A ++ C) = (if x.1 = g then x.2.2.2.length else 0) + cntG g A + cntG g C
    rw [ih]; omega
theorem cnt_put {g : Nat} {w : Wn} (e : w.1 = g) : ∀ L : List Wn, cntG g (putL L w) = cntG g L + w.2.2.2.length := by
  intro L
  induction L with
  | nil => rw [putL_n]; show (if w.1 = g then w.2.2.2.length else 0) + 0 = 0 + w.2.2.2.length; rw [if_pos e]; omega
  | cons x L ih =>
    by_cases c : x.1 < w.1 ∨ (x.1 = w.1 ∧ x.2.1 < w.2.1)
    · rw [putL_l c]
      show (if x.1 = g then x.2.2.2.length else 0) + cntG g (putL L w) = (if x.1 = g then x.2.2.2.length else 0) + cntG g L + w.2.2.2.length
      rw [ih]; omega
    · rw [putL_r c]
      show (if w.1 = g then w.2.2.2.length else 0) + ((if x.1 = g then x.2.2.2.length else 0) + cntG g L) = (if x.1 = g then x.2.2.2.length else 0) + cntG g L + w.2.2.2.length
      rw [if_pos e]; omega
theorem cnt_mg {g : Nat} {hr wd : Int} : ∀ (L : List Wn) (a : Wn), cntG g (mgK g hr wd L) + (mgF g hr wd L a).2.2.2.length = cntG g L + a.2.2.2.length := by
  intro L
  induction L with
  | nil => intro a; rfl
  | cons x L ih =>
    intro a
    by_cases c : x.1 = g ∧ x.2.1 < hr + wd ∧ hr < x.2.2.1
    · rw [mgK_y c, mgF_y c]
      have i := ih (a.1, min a.2.1 x.2.1, max a.2.2.1 x.2.2.1, a.2.2.2 ++ x.2.2.2)
      have l : (a.2.2.2 ++ x.2.2.2).length = a.2.2.2.length + x.2.2.2.length := List.length_append
      have i : _ = cntG g L + (a.2.2.2 ++ x.2.2.2).length := i
      rw [i, l]
      show _ = (if x.1 = g then x.2.2.2.length else 0) + cntG g L + a.2.2.2.length
      rw [if_pos c.1]; omega
    · rw [mgK_n c, mgF_n c]
      have i := ih a
      show (if x.1 = g then x.2.2.2.length else 0) + cntG g (mgK g hr wd L) + (mgF g hr wd L a).2.2.2.length = (if x.1 = g then x.2.2.2.length else 0) + cntG g L + a.2.2.2.length
      omega
theorem cnt_ad {g n : Nat} {s e : Int} : ∀ L : List Wn, cntG g (adL g n s e L) = cntG g L + 1 := by
  intro L
  induction L with
  | nil => show (if g = g then 1 else 0) + 0 = 0 + 1; rw [if_pos rfl]
  | cons x L ih =>
    by_cases c : x.1 < g ∨ (x.1 = g ∧ x.2.1 < s)
    · rw [adL_l c]
      show (if x.1 = g then x.2.2.2.length else 0) + cntG g (adL g n s e L) = (if x.1 = g then x.2.2.2.length else 0) + cntG g L + 1
      rw [ih]; omega
    · by_cases c2 : x.1 = g ∧ x.2.1 = s
      · rw [adL_e c2]
        show (if x.1 = g then (x.2.2.2 ++ [n]).length else 0) + cntG g L = (if x.1 = g then x.2.2.2.length else 0) + cntG g L + 1
        rw [if_pos c2.1, if_pos c2.1, List.length_append]
        show x.2.2.2.length + 1 + cntG g L = _
        omega
      · rw [adL_r c c2]
        show (if g = g then 1 else 0) + ((if x.1 = g then x.2.2.2.length else 0) + cntG g L) = (if x.1 = g then x.2.2.2.length else 0) + cntG g L + 1
        rw [if_pos rfl]; omega
theorem cnt_ev {wd st hr mk : Int} {g n : Nat} : ∀ (m : Nat) (L : List Wn) (s : Int), cntG g (evY wd st hr mk g n m L s) = cntG g L + nvY wd st hr mk m s := by
  intro m
  induction m with
  | zero => intro L s; rfl
  | succ m ih =>
    intro L s
    by_cases c : hr < s
    · rw [evY_e c, nvY_e c]; rfl
    · rw [evY_s c, nvY_s c, ih]
      by_cases d : hr < s + wd ∧ mk < s + wd
      · rw [if_pos d, if_pos d, cnt_ad]; omega
      · rw [if_neg d, if_neg d]; omega
theorem cnt_go {G : Gs} {g n : Nat} {hr mk : Int} {L : List Wn} : cntG g (goY G g n hr mk L) = cntG g L + nuY G hr mk := by
  unfold goY nuY
  by_cases c : G.2.2.1 = 0
  · rw [if_pos c, if_pos c]
    by_cases d : mk < hr + G.2.1
    · have e1 : (mgF g hr G.2.1 L (g, hr, hr + G.2.1, [n])).1 = g := (mgF_1 L _).1
      rw [if_pos d, if_pos d, cnt_put e1]
      exact cnt_mg L (g, hr, hr + G.2.1, [n])
    · rw [if_neg d, if_neg d]; rfl
  · rw [if_neg c, if_neg c]; exact cnt_ev _ _ _
theorem cnt_go_o {G : Gs} {g g2 n : Nat} {hr mk : Int} {L : List Wn} (hg : ¬ g = g2) : cntG g2 (goY G g n hr mk L) = cntG g2 L := by
  have e1 := cntG_rw (tl := fun _ => 0) (f := fun _ _ => 0) (g := g2) (goY G g n hr mk L)
  have e2 := cntG_rw (tl := fun _ => 0) (f := fun _ _ => 0) (g := g2) L
  rw [rwL_goY_o hg] at e1
  omega
theorem cnt_kg {g : Nat} {m : Int} : ∀ L : List Wn, cntG g (kpL L m) + cntG g (gnW L m) = cntG g L := by
  intro L
  induction L with
  | nil => rfl
  | cons x L ih =>
    have e : cntG g (x :: L) = (if x.1 = g then x.2.2.2.length else 0) + cntG g L := rfl
    by_cases c : m < x.2.2.1
    · rw [kpL_y c, gnW_n (by omega), e]
      show (if x.1 = g then x.2.2.2.length else 0) + cntG g (kpL L m) + cntG g (gnW L m) = _
      omega
    · rw [kpL_n c, gnW_y (by omega), e]
      show cntG g (kpL L m) + ((if x.1 = g then x.2.2.2.length else 0) + cntG g (gnW L m)) = _
      omega
/-- all geese: widths, gaps, counts, lates -/
theorem gsY_w {B : Bk} {N : Nat} {hr mk : Int} {tk : Int32} (b : bkG B) (h0 : 0 ≤ hr) (h1 : hr ≤ 999) : ∀ (m g : Nat) (L : List Wn) (lt : Nat → Nat), g + m = B.2.2.length → sL L → (∀ x ∈ L, x.2.1 < x.2.2.1) → (∀ x ∈ L, wnB (N + 1) x) → (∀ x ∈ L, wdY B x) → (∀ g2, (B.2.2.getD g2 g0).2.2.1 = 0 → djG g2 L) → (∀ x ∈ (gsY B tk N hr mk m g L lt).1, wdY B x) ∧ (∀ g2, (B.2.2.getD g2 g0).2.2.1 = 0 → djG g2 (gsY B tk N hr mk m g L lt).1) ∧ ∀ g2, cntG g2 (gsY B tk N hr mk m g L lt).1 = cntG g2 L + (if g ≤ g2 ∧ g2 < B.2.2.length ∧ bitv tk (iZ (B.2.2.getD g2 g0).1) = iZ 1 then nuY (B.2.2.getD g2 g0) hr mk else 0) ∧ (gsY B tk N hr mk m g L lt).2 g2 = lt g2 + (if g ≤ g2 ∧ g2 < B.2.2.length ∧ bitv tk (iZ (B.2.2.getD g2 g0).1) = iZ 1 ∧ nuY (B.2.2.getD g2 g0) hr mk = 0 then 1 else 0) := by
  intro m
  induction m with
  | zero =>
    intro g L lt hm s he hB hw hd
    refine ⟨hw, hd, fun g2 => ⟨?_, ?_⟩⟩
    · rw [if_neg (by omega)]; rfl
    · rw [if_neg (by omega)]; rfl
  | succ m ih =>
    intro g L lt hm s he hB hw hd
    have gb := b.2 g (by omega)
    have b6 := b.1
    by_cases c : bitv tk (iZ (B.2.2.getD g g0).1) = iZ 1
    · have e : gsY B tk N hr mk (m + 1) g L lt = gsY B tk N hr mk m (g + 1) (goY (B.2.2.getD g g0) g N hr mk L) (fun g2 => if g2 = g then lt g + (if nuY (B.2.2.getD g g0) hr mk = 0 then 1 else 0) else lt g2) := if_pos c
      rw [e]
      have B1 := goY_B1 (mk := mk) gb (show g < 6 by omega) h0 h1 hB
      obtain ⟨i1, i2, i3⟩ := ih (g + 1) (goY (B.2.2.getD g g0) g N hr mk L) (fun g2 => if g2 = g then lt g + (if nuY (B.2.2.getD g g0) hr mk = 0 then 1 else 0) else lt g2) (by omega) (goY_sL s gb he) (fun x hx => (B1 x hx).2.2.1) B1 (goY_w gb hw) (fun g2 z => by
        by_cases k : g2 = g
        · subst k
          unfold goY
          rw [if_pos z]
          by_cases d : mk < hr + (B.2.2.getD g2 g0).2.1
          · rw [if_pos d]; exact djG_gap s gb.1 he (hd g2 z)
          · rw [if_neg d]; exact hd g2 z
        · intro x hx y hy xg yg
          exact hd g2 z x (goY_o gb (fun q => k q.symm) x hx xg) y (goY_o gb (fun q => k q.symm) y hy yg) xg yg)
      refine ⟨i1, i2, fun g2 => ?_⟩
      obtain ⟨j1, j2⟩ := i3 g2
      rw [j1, j2]
      by_cases k : g2 = g
      · subst k
        have n1 : ∀ P : Prop, ¬ (g2 + 1 ≤ g2 ∧ P) := fun P z => by have := z.1; omega
        have p1 : g2 ≤ g2 ∧ g2 < B.2.2.length ∧ bitv tk (iZ (B.2.2.getD g2 g0).1) = iZ 1 := ⟨Nat.le_refl _, by omega, c⟩
        rw [if_neg (n1 _), if_neg (n1 _), if_pos p1, cnt_go, if_pos (rfl : g2 = g2)]
        refine ⟨rfl, ?_⟩
        by_cases z : nuY (B.2.2.getD g2 g0) hr mk = 0
        · rw [if_pos z, if_pos ⟨Nat.le_refl _, by omega, c, z⟩]
        · rw [if_neg z, if_neg (fun q => z q.2.2.2)]
      · rw [cnt_go_o (fun q => k q.symm), if_neg k]
        constructor
        · congr 1
          by_cases z : g + 1 ≤ g2 ∧ g2 < B.2.2.length ∧ bitv tk (iZ (B.2.2.getD g2 g0).1) = iZ 1
          · rw [if_pos z, if_pos ⟨by omega, z.2⟩]
          · rw [if_neg z, if_neg (fun q => z ⟨by omega, q.2⟩)]
        · congr 1
          by_cases z : g + 1 ≤ g2 ∧ g2 < B.2.2.length ∧ bitv tk (iZ (B.2.2.getD g2 g0).1) = iZ 1 ∧ nuY (B.2.2.getD g2 g0) hr mk = 0
          · rw [if_pos z, if_pos ⟨by omega, z.2⟩]
          · rw [if_neg z, if_neg (fun q => z ⟨by omega, q.2⟩)]
    · have e : gsY B tk N hr mk (m + 1) g L lt = gsY B tk N hr mk m (g + 1) L lt := if_neg c
      rw [e]
      obtain ⟨i1, i2, i3⟩ := ih (g + 1) L lt (by omega) s he hB hw hd
      refine ⟨i1, i2, fun g2 => ?_⟩
      obtain ⟨j1, j2⟩ := i3 g2
      rw [j1, j2]
      constructor
      · congr 1
        by_cases z : g + 1 ≤ g2 ∧ g2 < B.2.2.length ∧ bitv tk (iZ (B.2.2.getD g2 g0).1) = iZ 1
        · rw [if_pos z, if_pos ⟨by omega, z.2⟩]
        · rw [if_neg z, if_neg (fun q => z ⟨by
            by_cases k : g2 = g
            · rw [k] at q; exact absurd q.2.2 c
            · omega, q.2⟩)]
      · congr 1
        by_cases z : g + 1 ≤ g2 ∧ g2 < B.2.2.length ∧ bitv tk (iZ (B.2.2.getD g2 g0).1) = iZ 1 ∧ nuY (B.2.2.getD g2 g0) hr mk = 0
        · rw [if_pos z, if_pos ⟨by omega, z.2⟩]
        · rw [if_neg z, if_neg (fun q => z ⟨by
            by_cases k : g2 = g
            · rw [k] at q; exact absurd q.2.2.1 c
            · omega, q.2⟩)]
/-- what the law looks at holds -/
def LIy (M : Ms) (B : Bk) : Prop := (∀ w ∈ yO M, wdY B w) ∧ (∀ w ∈ yT M, wdY B w ∧ w.2.2.1 ≤ yK M) ∧ (∀ g, (B.2.2.getD g g0).2.2.1 = 0 → djG g (yO M)) ∧ ∀ g, g < B.2.2.length → yL M g ≤ szF (csM M) (iZ (B.2.2.getD g g0).1)
theorem szF_app {f : Int32} {c : Int × Int32} : ∀ L : List (Int × Int32), szF (L ++ [c]) f = szF L f + (if bitv c.2 f = iZ 1 then 1 else 0) := by
  intro L
  induction L with
  | nil => show (if bitv c.2 f = iZ 1 then 1 else 0) + 0 = 0 + _; omega
  | cons x L ih =>
    show (if bitv x.2 f = iZ 1 then 1 else 0) + szF (L ++ [c]) f = (if bitv x.2 f = iZ 1 then 1 else 0) + szF L f + _
    rw [ih]; omega
/-- all counts of a goose -/
def totY (M : Ms) (g : Nat) : Nat := cntG g (yO M) + cntG g (yT M)
theorem LI_com {M : Ms} {B : Bk} {x : Ctx} {tk : Int32} (li : LIy M B) (mi : MIy M B) (bg : bkG B) (h0 : 0 ≤ x.1) (h1 : x.1 ≤ 999) : LIy (tlM (cwY B tk M x)) B ∧ ∀ g, g < B.2.2.length → (totY (tlM (cwY B tk M x)) g = totY M g + (if bitv tk (iZ (B.2.2.getD g g0).1) = iZ 1 then nuY (B.2.2.getD g g0) x.1 (yK M) else 0)) ∧ yL (tlM (cwY B tk M x)) g = yL M g + (if bitv tk (iZ (B.2.2.getD g g0).1) = iZ 1 ∧ nuY (B.2.2.getD g g0) x.1 (yK M) = 0 then 1 else 0) := by
  obtain ⟨l1, l2, l3, l4⟩ := li
  obtain ⟨m1, m2, m3, m4, m5⟩ := mi
  obtain ⟨g1, g2, g3⟩ := gsY_w (N := (yC M).length) (hr := x.1) (mk := yK M) (tk := tk) bg h0 h1 B.2.2.length 0 (yO M) (yL M) (by omega) m1 (fun w hw => (m2 w hw).1.2.2.1) (fun w hw => wnB_up (m2 w hw).1 (Nat.le_succ _)) l1 l3
  have lt : ∀ g, g < B.2.2.length → yL (tlM (cwY B tk M x)) g = yL M g + (if bitv tk (iZ (B.2.2.getD g g0).1) = iZ 1 ∧ nuY (B.2.2.getD g g0) x.1 (yK M) = 0 then 1 else 0) := fun g hg => by
    refine (g3 g).2.trans ?_
    congr 1
    by_cases z : bitv tk (iZ (B.2.2.getD g g0).1) = iZ 1 ∧ nuY (B.2.2.getD g g0) x.1 (yK M) = 0
    · rw [if_pos z, if_pos ⟨Nat.zero_le _, hg, z⟩]
    · rw [if_neg z, if_neg (fun q => z q.2.2)]
  have mk1 : yK M ≤ yK (tlM (cwY B tk M x)) := by
    show yK M ≤ max (yK M) _
    omega
  refine ⟨⟨fun w hw => g1 w (List.mem_filter.mp hw).1, fun w hw => ?_, fun g z a ha b hb => g2 g z a (List.mem_filter.mp ha).1 b (List.mem_filter.mp hb).1, fun g hg => ?_⟩, fun g hg => ⟨?_, lt g hg⟩⟩
  · rcases List.mem_append.mp hw with e | e
    · exact ⟨(l2 w e).1, by have := (l2 w e).2; omega⟩
    · obtain ⟨e1, e2⟩ := List.mem_filter.mp e
      exact ⟨g1 w e1, of_decide_eq_true e2⟩
  · rw [lt g hg]
    have e : csM (tlM (cwY B tk M x)) = csM M ++ [(x.1, tk)] := by
      show (yC M ++ [(x, tk)]).map _ = _
      rw [List.map_append]; rfl
    rw [e, szF_app]
    have := l4 g hg
    show _ ≤ szF (csM M) (iZ (B.2.2.getD g g0).1) + (if bitv tk (iZ (B.2.2.getD g g0).1) = iZ 1 then 1 else 0)
    by_cases z : bitv tk (iZ (B.2.2.getD g g0).1) = iZ 1
    · rw [if_pos z]; split <;> omega
    · rw [if_neg z, if_neg (fun q => z q.1)]; omega
  · have kg := cnt_kg (g := g) (m := mkY B (yN M) (yG M) (yK M) x.1) (gsY B tk (yC M).length x.1 (yK M) B.2.2.length 0 (yO M) (yL M)).1
    have j := (g3 g).1
    show cntG g (kpL (gsY B tk (yC M).length x.1 (yK M) B.2.2.length 0 (yO M) (yL M)).1 (mkY B (yN M) (yG M) (yK M) x.1)) + cntG g (yT M ++ gnW (gsY B tk (yC M).length x.1 (yK M) B.2.2.length 0 (yO M) (yL M)).1 (mkY B (yN M) (yG M) (yK M) x.1)) = cntG g (yO M) + cntG g (yT M) + _
    rw [cnt_app]
    by_cases z : bitv tk (iZ (B.2.2.getD g g0).1) = iZ 1
    · rw [if_pos ⟨Nat.zero_le _, hg, z⟩] at j
      rw [if_pos z]; omega
    · rw [if_neg (fun q => z q.2.2)] at j
      rw [if_neg z]; omega
theorem LI_nig {M : Ms} {B : Bk} (li : LIy M B) : LIy (nigY B M) B ∧ ∀ g, totY (nigY B M) g = totY M g := by
  obtain ⟨l1, l2, l3, l4⟩ := li
  have mk1 : yK M ≤ yK (nigY B M) := by
    show yK M ≤ max (yK M) _
    omega
  refine ⟨⟨fun w hw => l1 w (List.mem_filter.mp hw).1, fun w hw => ?_, fun g z a ha b hb => l3 g z a (List.mem_filter.mp ha).1 b (List.mem_filter.mp hb).1, l4⟩, fun g => ?_⟩
  · rcases List.mem_append.mp hw with e | e
    · exact ⟨(l2 w e).1, by have := (l2 w e).2; omega⟩
    · obtain ⟨e1, e2⟩ := List.mem_filter.mp e
      exact ⟨l1 w e1, of_decide_eq_true e2⟩
  · have kg := cnt_kg (g := g) (m := yK (nigY B M)) (yO M)
    show cntG g (kpL (yO M) (yK (nigY B M))) + cntG g (yT M ++ gnW (yO M) (yK (nigY B M))) = cntG g (yO M) + cntG g (yT M)
    rw [cnt_app]; omega
theorem LI_nigN {M : Ms} {B : Bk} (li : LIy M B) : ∀ k, LIy (nigM B M k) B ∧ ∀ g, totY (nigM B M k) g = totY M g := by
  intro k
  induction k with
  | zero => exact ⟨li, fun _ => rfl⟩
  | succ k ih =>
    obtain ⟨a, b⟩ := LI_nig ih.1
    exact ⟨a, fun g => (b g).trans (ih.2 g)⟩
