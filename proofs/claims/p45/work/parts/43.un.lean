/-! Rows of windows: their starts differ, and each ends behind its start. -/
def unW (W : List Win) : Prop := (W.map (fun w => w.1)).Nodup ∧ ∀ w ∈ W, w.1 < w.2.1
theorem gpf_1 {hr wd : Int} {tl : Nat} : ∀ (W : List Win) (a : Win), (gpf hr wd tl W a).1 = a.1 ∨ ∃ w ∈ W, (w.1 < hr + wd ∧ hr < w.2.1) ∧ (gpf hr wd tl W a).1 = w.1 := by
  intro W
  induction W with
  | nil => intro a; exact Or.inl rfl
  | cons w W ih =>
    intro a
    by_cases c : w.1 < hr + wd ∧ hr < w.2.1
    · rw [gpf_y c]
      rcases ih (min a.1 w.1, max a.2.1 w.2.1, a.2.2.1 + w.2.2.1, jn tl a.2.2.2 w.2.2.2) with e | ⟨x, hx, hc, e⟩
      · rw [e]
        show min a.1 w.1 = a.1 ∨ _
        by_cases d : a.1 ≤ w.1
        · exact Or.inl (by omega)
        · exact Or.inr ⟨w, List.mem_cons_self .., c, by show min a.1 w.1 = w.1; omega⟩
      · exact Or.inr ⟨x, List.mem_cons_of_mem _ hx, hc, e⟩
    · rw [gpf_n c]
      rcases ih a with e | ⟨x, hx, hc, e⟩
      · exact Or.inl e
      · exact Or.inr ⟨x, List.mem_cons_of_mem _ hx, hc, e⟩
theorem nodup_inj {W : List Win} (h : (W.map (fun w => w.1)).Nodup) {x y : Win} (hx : x ∈ W) (hy : y ∈ W) (e : x.1 = y.1) : x = y := by
  induction W with
  | nil => exact absurd hx (List.not_mem_nil)
  | cons w W ih =>
    rw [List.map_cons, List.nodup_cons] at h
    rcases List.mem_cons.mp hx with hx | hx
    · rcases List.mem_cons.mp hy with hy | hy
      · rw [hx, hy]
      · exact absurd (List.mem_map.mpr ⟨y, hy, by rw [← e, hx]⟩) h.1
    · rcases List.mem_cons.mp hy with hy | hy
      · exact absurd (List.mem_map.mpr ⟨x, hx, by rw [e, hy]⟩) h.1
      · exact ih h.2 hx hy
theorem gap_nf {hr wd : Int} {tl : Nat} {v : Int32} {W : List Win} (u : unW W) (hwd : 1 ≤ wd) : ¬ (pl (gpk hr wd W) (gpf hr wd tl W (hr, hr + wd, 1, v)).1 < (gpk hr wd W).length ∧ ((gpk hr wd W).getD (pl (gpk hr wd W) (gpf hr wd tl W (hr, hr + wd, 1, v)).1) w0).1 = (gpf hr wd tl W (hr, hr + wd, 1, v)).1) := by
  intro z
  obtain ⟨z1, z2⟩ := z
  obtain ⟨y, hy⟩ : ∃ y, y = (gpk hr wd W).getD (pl (gpk hr wd W) (gpf hr wd tl W (hr, hr + wd, 1, v)).1) w0 := ⟨_, rfl⟩
  rw [← hy] at z2
  have hm : y ∈ gpk hr wd W := by
    rw [hy, List.getD_eq_getElem?_getD, List.getElem?_eq_getElem z1]
    exact List.getElem_mem z1
  obtain ⟨m1, m2⟩ := List.mem_filter.mp hm
  have m3 : ¬ (y.1 < hr + wd ∧ hr < y.2.1) := by
    intro c
    rw [decide_eq_true c.1, decide_eq_true c.2] at m2
    cases m2
  rcases gpf_1 W (hr, hr + wd, 1, v) (tl := tl) (hr := hr) (wd := wd) with e | ⟨x, hx, hc, e⟩
  · rw [e] at z2
    replace z2 : y.1 = hr := z2
    have := u.2 y m1
    omega
  · rw [e] at z2
    have := nodup_inj u.1 m1 hx z2
    rw [this] at m3
    exact m3 hc
