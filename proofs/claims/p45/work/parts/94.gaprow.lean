/-! A gap-goose's row: in order, apart, no more counted than commas. -/
def cntW : List Win → Int
  | [] => 0
  | w :: W => w.2.2.1 + cntW W
theorem cntW_ins {x : Win} : ∀ W : List Win, cntW (insW W x) = x.2.2.1 + cntW W := by
  intro W
  induction W with
  | nil => rfl
  | cons w W ih =>
    by_cases h : w.1 < x.1
    · rw [insW_l h]
      show w.2.2.1 + cntW (insW W x) = x.2.2.1 + (w.2.2.1 + cntW W)
      rw [ih]; omega
    · rw [insW_r h]; rfl
theorem gpk_cnt {hr wd : Int} {tl : Nat} : ∀ (W : List Win) (a : Win), cntW (gpk hr wd W) + (gpf hr wd tl W a).2.2.1 = cntW W + a.2.2.1 := by
  intro W
  induction W with
  | nil => intro a; rfl
  | cons w W ih =>
    intro a
    by_cases c : w.1 < hr + wd ∧ hr < w.2.1
    · rw [gpk_n c, gpf_y c, ih]
      show cntW W + (a.2.2.1 + w.2.2.1) = w.2.2.1 + cntW W + a.2.2.1
      omega
    · rw [gpk_y c, gpf_n c]
      have := ih a
      show w.2.2.1 + cntW (gpk hr wd W) + (gpf hr wd tl W a).2.2.1 = w.2.2.1 + cntW W + a.2.2.1
      omega
theorem gpf_b {hr wd B : Int} {tl : Nat} : ∀ (W : List Win) (a : Win), (∀ w ∈ W, 0 ≤ w.1 ∧ w.2.1 ≤ B ∧ 1 ≤ w.2.2.1) → 0 ≤ a.1 → a.2.1 ≤ B → 0 ≤ (gpf hr wd tl W a).1 ∧ (gpf hr wd tl W a).1 ≤ a.1 ∧ a.2.1 ≤ (gpf hr wd tl W a).2.1 ∧ (gpf hr wd tl W a).2.1 ≤ B ∧ a.2.2.1 ≤ (gpf hr wd tl W a).2.2.1 := by
  intro W
  induction W with
  | nil => intro a _ h0 hB; exact ⟨h0, Int.le_refl _, Int.le_refl _, hB, Int.le_refl _⟩
  | cons w W ih =>
    intro a hw h0 hB
    obtain ⟨w1, w2, w3⟩ := hw w List.mem_cons_self
    have hw2 : ∀ x ∈ W, 0 ≤ x.1 ∧ x.2.1 ≤ B ∧ 1 ≤ x.2.2.1 := fun x hx => hw x (List.mem_cons_of_mem _ hx)
    by_cases c : w.1 < hr + wd ∧ hr < w.2.1
    · rw [gpf_y c]
      obtain ⟨i1, i2, i3, i4, i5⟩ := ih (min a.1 w.1, max a.2.1 w.2.1, a.2.2.1 + w.2.2.1, jn tl a.2.2.2 w.2.2.2) hw2 (by show 0 ≤ min a.1 w.1; omega) (by show max a.2.1 w.2.1 ≤ B; omega)
      dsimp only at i1 i2 i3 i4 i5
      exact ⟨i1, by omega, by omega, i4, by omega⟩
    · rw [gpf_n c]
      exact ih a hw2 h0 hB
/-- what a gap-goose's row keeps: hi the greatest hour, n the commas -/
def gG (wd hi wm : Int) (n : Int) (W : List Win) : Prop := srt W ∧ (∀ w ∈ W, 0 ≤ w.1 ∧ w.1 ≤ hi ∧ w.1 < w.2.1 ∧ w.2.1 ≤ hi + wd ∧ wm < w.2.1 ∧ 1 ≤ w.2.2.1) ∧ cntW W ≤ n
theorem gG_hi {wd hi wm n hi2 n2 : Int} {W : List Win} (g : gG wd hi wm n W) (h : hi ≤ hi2) (h2 : n ≤ n2) : gG wd hi2 wm n2 W :=
  ⟨g.1, fun w hw => by obtain ⟨a1, a2, a3, a4, a5, a6⟩ := g.2.1 w hw; exact ⟨a1, by omega, a3, by omega, a5, a6⟩, by have := g.2.2; omega⟩
theorem cntW_keep {m : Int} : ∀ W : List Win, (∀ w ∈ W, 1 ≤ w.2.2.1) → cntW (keepE W m) ≤ cntW W := by
  intro W
  induction W with
  | nil => intro _; exact Int.le_refl _
  | cons w W ih =>
    intro h
    have h1 := h w List.mem_cons_self
    have i := ih (fun x hx => h x (List.mem_cons_of_mem _ hx))
    by_cases c : m < w.2.1
    · rw [keepE_y c]
      show w.2.2.1 + cntW (keepE W m) ≤ w.2.2.1 + cntW W
      omega
    · rw [keepE_n c]
      show cntW (keepE W m) ≤ w.2.2.1 + cntW W
      omega
theorem gG_keep {wd hi wm n m : Int} {W : List Win} (g : gG wd hi wm n W) : gG wd hi m n (keepE W m) :=
  ⟨keepE_srt g.1, fun w hw => by
    obtain ⟨h1, h2⟩ := List.mem_filter.mp hw
    obtain ⟨a1, a2, a3, a4, a5, a6⟩ := g.2.1 w h1
    exact ⟨a1, a2, a3, a4, of_decide_eq_true h2, a6⟩, by
    have := cntW_keep (m := m) W (fun w hw => (g.2.1 w hw).2.2.2.2.2)
    have := g.2.2
    omega⟩
theorem gG_un {wd hi wm n : Int} {W : List Win} (g : gG wd hi wm n W) : unW W :=
  srt_un g.1 (fun w hw => (g.2.1 w hw).2.2.1)
theorem cntW_len : ∀ W : List Win, (∀ w ∈ W, 1 ≤ w.2.2.1) → (W.length : Int) ≤ cntW W := by
  intro W
  induction W with
  | nil => intro _; exact Int.le_refl _
  | cons w W ih =>
    intro h
    have h1 := h w List.mem_cons_self
    have i := ih (fun x hx => h x (List.mem_cons_of_mem _ hx))
    show ((W.length + 1 : Nat) : Int) ≤ w.2.2.1 + cntW W
    omega
theorem cntW_mem : ∀ W : List Win, (∀ w ∈ W, 1 ≤ w.2.2.1) → ∀ w ∈ W, w.2.2.1 ≤ cntW W := by
  intro W
  induction W with
  | nil => intro _ w hw; exact absurd hw List.not_mem_nil
  | cons x W ih =>
    intro h w hw
    have h1 := h x List.mem_cons_self
    have hW : ∀ y ∈ W, 1 ≤ y.2.2.1 := fun y hy => h y (List.mem_cons_of_mem _ hy)
    have l := cntW_len W hW
    show w.2.2.1 ≤ x.2.2.1 + cntW W
    rcases List.mem_cons.mp hw with e | e
    · rw [e]; omega
    · have := ih hW w e; omega
theorem gG_len {wd hi wm n : Int} {W : List Win} (g : gG wd hi wm n W) : (W.length : Int) ≤ n := by
  have := cntW_len W (fun w hw => (g.2.1 w hw).2.2.2.2.2)
  have := g.2.2
  omega
theorem gG_wsB {wd hi wm n : Int} {W : List Win} (hi1 : hi ≤ 999) (w2 : wd ≤ 200) (hn : n ≤ 1000) (g : gG wd hi wm n W) : wsB 1000 W := by
  intro j hj
  have hm := getD_mem (d := w0) hj
  obtain ⟨a1, a2, a3, a4, a5, a6⟩ := g.2.1 _ hm
  have c := cntW_mem W (fun w hw => (g.2.1 w hw).2.2.2.2.2) _ hm
  have := g.2.2
  exact ⟨a1, by omega, by omega, by omega, a6, by omega⟩
theorem gpk_srt {hr wd : Int} {W : List Win} (s : srt W) : srt (gpk hr wd W) := s.filter _
theorem gpk_mem {hr wd : Int} {W : List Win} {w : Win} (h : w ∈ gpk hr wd W) : w ∈ W ∧ ¬ (w.1 < hr + wd ∧ hr < w.2.1) := by
  obtain ⟨h1, h2⟩ := List.mem_filter.mp h
  refine ⟨h1, fun z => ?_⟩
  rw [Bool.not_eq_true', Bool.and_eq_false_iff] at h2
  rcases h2 with e | e
  · rw [decide_eq_false_iff_not] at e; exact e z.1
  · rw [decide_eq_false_iff_not] at e; exact e z.2
theorem srt_one {W : List Win} (s : srt W) {x y : Win} (hx : x ∈ W) (hy : y ∈ W) (e : x.1 = y.1) : x = y := by
  induction W with
  | nil => exact absurd hx List.not_mem_nil
  | cons w W ih =>
    obtain ⟨p1, p2⟩ := List.pairwise_cons.mp s
    rcases List.mem_cons.mp hx with a | a
    · rcases List.mem_cons.mp hy with b | b
      · rw [a, b]
      · have := p1 y b; rw [a] at e; omega
    · rcases List.mem_cons.mp hy with b | b
      · have := p1 x a; rw [b] at e; omega
      · exact ih p2 a b
theorem gG_gap {wd hi hr wm n : Int} {tl : Nat} {v : Int32} {W : List Win} (h1 : 1 ≤ wd) (h0 : 0 ≤ hr) (hh : hr ≤ hi) (hm : wm < hr + wd) (g : gG wd hi wm n W) : gG wd hi wm (n + 1) (cgap hr wd tl v W) := by
  obtain ⟨s, b, c⟩ := g
  obtain ⟨f1, f2, f3, f4, f5⟩ := gpf_b (hr := hr) (wd := wd) (B := hi + wd) (tl := tl) W (hr, hr + wd, 1, v) (fun w hw => by obtain ⟨a1, a2, a3, a4, a5, a6⟩ := b w hw; exact ⟨a1, a4, a6⟩) h0 (by show hr + wd ≤ hi + wd; omega)
  dsimp only at f1 f2 f3 f4 f5
  have fs := gpf_1 (hr := hr) (wd := wd) (tl := tl) W (hr, hr + wd, 1, v)
  have ct := gpk_cnt (hr := hr) (wd := wd) (tl := tl) W (hr, hr + wd, 1, v)
  dsimp only at ct fs
  unfold cgap
  refine ⟨insW_srt _ (gpk_srt s) (fun w hw => ?_), fun w hw => ?_, ?_⟩
  · obtain ⟨w1, w2⟩ := gpk_mem hw
    obtain ⟨a1, a2, a3, a4, a5, a6⟩ := b w w1
    rcases fs with e | ⟨x, hx, hc, e⟩
    · rw [e]; intro z; exact w2 ⟨by omega, by omega⟩
    · rw [e]; intro z
      have := srt_one s w1 hx z
      rw [this] at w2
      exact w2 hc
  · rcases (insW_mem _).mp hw with e | e
    · rw [e]; exact ⟨f1, by omega, by omega, f4, by omega, by omega⟩
    · exact b w (gpk_mem e).1
  · rw [cntW_ins]
    omega
