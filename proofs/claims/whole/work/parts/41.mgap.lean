/-! The reference: a comma with a gap; one comma for a goose. -/
def gmB (hr wd : Int) (g : Nat) (M : List Tel) : Nat → List Tel → List Tel
  | 0, B => B
  | k + 1, B => if (M.getD k t0).1 = g ∧ (M.getD k t0).2.1 < hr + wd ∧ hr < (M.getD k t0).2.2.1 then gmB hr wd g M k B else gmB hr wd g M k (M.getD k t0 :: B)
def mrg (tl : Nat) (a w : Win) : Win := (min a.1 w.1, max a.2.1 w.2.1, a.2.2.1 + w.2.2.1, jn tl a.2.2.2 w.2.2.2)
def gmA (hr wd : Int) (tl g : Nat) (M : List Tel) : Nat → Win → Win
  | 0, a => a
  | k + 1, a => if (M.getD k t0).1 = g ∧ (M.getD k t0).2.1 < hr + wd ∧ hr < (M.getD k t0).2.2.1 then gmA hr wd tl g M k (mrg tl a (M.getD k t0).2) else gmA hr wd tl g M k a
theorem take_s {α : Type} (d : α) (M B : List α) (k : Nat) (hk : k < M.length) : M.take (k + 1) ++ B = M.take k ++ M.getD k d :: B := by
  rw [List.take_succ_eq_append_getElem hk, List.append_assoc, List.getD_eq_getElem?_getD, List.getElem?_eq_getElem hk]; rfl
theorem gmB_tB {hr wd N : Int} {g : Nat} {M : List Tel} (hn : tsB N M) : ∀ (k : Nat) (B : List Tel), k ≤ M.length → tsB N B → tsB N (gmB hr wd g M k B) := by
  intro k
  induction k with
  | zero => intro B _ hB; exact hB
  | succ k ih =>
    intro B hk hB
    show tsB N (if _ then gmB hr wd g M k B else gmB hr wd g M k (M.getD k t0 :: B))
    split
    · exact ih B (by omega) hB
    · refine ih _ (by omega) (fun j hj => ?_)
      match j with
      | 0 => exact hn k (by omega)
      | j + 1 => exact hB j (Nat.lt_of_succ_lt_succ hj)
theorem gmB_len {hr wd : Int} {g : Nat} {M : List Tel} : ∀ (k : Nat) (B : List Tel), (gmB hr wd g M k B).length ≤ k + B.length := by
  intro k
  induction k with
  | zero => intro B; show B.length ≤ _; omega
  | succ k ih =>
    intro B
    show (if _ then gmB hr wd g M k B else gmB hr wd g M k (M.getD k t0 :: B)).length ≤ _
    split
    · have := ih B; omega
    · have := ih (M.getD k t0 :: B)
      rw [List.length_cons] at this
      omega
theorem gmA_b {hr wd N : Int} {tl g : Nat} {M : List Tel} (hn : tsB N M) : ∀ (k : Nat) (a : Win), k ≤ M.length → 0 ≤ a.1 ∧ a.1 < 1000 ∧ 0 ≤ a.2.1 ∧ a.2.1 < 1300 → 0 ≤ (gmA hr wd tl g M k a).1 ∧ (gmA hr wd tl g M k a).1 < 1000 ∧ 0 ≤ (gmA hr wd tl g M k a).2.1 ∧ (gmA hr wd tl g M k a).2.1 < 1300 := by
  intro k
  induction k with
  | zero => intro a _ h; exact h
  | succ k ih =>
    intro a hk h
    obtain ⟨b0, b1, b2, b3, b4, b5, b6⟩ := hn k (by omega)
    have e : gmA hr wd tl g M (k + 1) a = if (M.getD k t0).1 = g ∧ (M.getD k t0).2.1 < hr + wd ∧ hr < (M.getD k t0).2.2.1 then gmA hr wd tl g M k (mrg tl a (M.getD k t0).2) else gmA hr wd tl g M k a := rfl
    rw [e]
    split
    · refine ih _ (by omega) ⟨?_, ?_, ?_, ?_⟩
      · show 0 ≤ min a.1 _; omega
      · show min a.1 _ < 1000; omega
      · show 0 ≤ max a.2.1 _; omega
      · show max a.2.1 _ < 1300; omega
    · exact ih a (by omega) h
theorem mp_gap_lp {d g tl no c : Nat} {hr wd N : Int} {M : List Tel} {Q : Rs → PH → Prop} (hg : g < 6) (g4 : 1 ≤ wd ∧ wd ≤ 200) (htl : tl < 4) (hr0 : 0 ≤ hr ∧ hr < 1000) (hn : tsB N M) (hM : M.length ≤ 8000) (k : Nat) : ∀ (h : PH) (B : List Tel) (a : Win) (w : Int), Sh h → opM h (M.take k ++ B) no c → w = (k : Int) - 1 → k ≤ M.length → 0 ≤ a.1 → a.1 < 1000 → 0 ≤ a.2.1 → a.2.1 < 1300 → (∀ h1 a9, opM h1 (gmB hr wd g M k B) no c → fm h h1 c c no no → Ev (d + 1) 217 (182, [some (.inr (.inr (.inr (11, 0, 83)))), some (.inl (iZ (g))), some (.inl (iZ (hr))), some (.inl (iZ (tl))), some (.inl (iZ (wd))), some (.inl ((gmA hr wd tl g M k a).2.2.2)), some (.inl (iZ ((gmA hr wd tl g M k a).1))), some (.inl (iZ ((gmA hr wd tl g M k a).2.1))), some (.inl (iZ ((gmA hr wd tl g M k a).2.2.1))), a9], [], h1) Q) → Ev (d + 1) 217 (71, [some (.inr (.inr (.inr (11, 0, 83)))), some (.inl (iZ (g))), some (.inl (iZ (hr))), some (.inl (iZ (tl))), some (.inl (iZ (wd))), some (.inl (a.2.2.2)), some (.inl (iZ (a.1))), some (.inl (iZ (a.2.1))), some (.inl (iZ (a.2.2.1))), some (.inl (iZ (w)))], [], h) Q := by
  induction k with
  | zero =>
    intro h B a w sh op hw hk ha1 ha2 ha3 ha4 q
    rw [List.take_zero, List.nil_append] at op
    refine Ev.sts 1 (c' := (73, [some (.inr (.inr (.inr (11, 0, 83)))), some (.inl (iZ (g))), some (.inl (iZ (hr))), some (.inl (iZ (tl))), some (.inl (iZ (wd))), some (.inl (a.2.2.2)), some (.inl (iZ (a.1))), some (.inl (iZ (a.2.1))), some (.inl (iZ (a.2.2.1))), some (.inl (iZ (w)))], [.inl (iZ (w))], h)) rfl ?_
    refine Ev.brT (p := (iZ (w)) < (iZ (0))) (c1 := (182, [some (.inr (.inr (.inr (11, 0, 83)))), some (.inl (iZ (g))), some (.inl (iZ (hr))), some (.inl (iZ (tl))), some (.inl (iZ (wd))), some (.inl (a.2.2.2)), some (.inl (iZ (a.1))), some (.inl (iZ (a.2.1))), some (.inl (iZ (a.2.2.1))), some (.inl (iZ (w)))], [], h)) (c2 := (76, [some (.inr (.inr (.inr (11, 0, 83)))), some (.inl (iZ (g))), some (.inl (iZ (hr))), some (.inl (iZ (tl))), some (.inl (iZ (wd))), some (.inl (a.2.2.2)), some (.inl (iZ (a.1))), some (.inl (iZ (a.2.1))), some (.inl (iZ (a.2.2.1))), some (.inl (iZ (w)))], [], h)) ((iZ_lt ⟨by omega, by omega⟩ ⟨by omega, by omega⟩).mpr (by omega)) rfl ?_
    exact q h _ op (fm_refl h c no)
  | succ k ih =>
    intro h B a w sh op hw hk ha1 ha2 ha3 ha4 q
    rw [take_s t0 M B k (by omega)] at op
    have hkl : (M.take k).length = k := by rw [List.length_take]; omega
    obtain ⟨b0, b1, b2, b3, b4, b5, b6⟩ := hn k (by omega)
    obtain ⟨y, hy⟩ : ∃ y, y = M.getD k t0 := ⟨_, rfl⟩
    rw [← hy] at op b0 b1 b2 b3 b4 b5 b6
    have ml := mid_len y (M.take k) B
    have ey : (M.take k ++ y :: B).getD k t0 = y := by
      have e := mid_get t0 y (M.take k) B
      rw [hkl] at e; exact e
    have er : (M.take k ++ y :: B).eraseIdx k = M.take k ++ B := by
      have e := mid_era y (M.take k) B
      rw [hkl] at e; exact e
    refine Ev.sts 1 (c' := (73, [some (.inr (.inr (.inr (11, 0, 83)))), some (.inl (iZ (g))), some (.inl (iZ (hr))), some (.inl (iZ (tl))), some (.inl (iZ (wd))), some (.inl (a.2.2.2)), some (.inl (iZ (a.1))), some (.inl (iZ (a.2.1))), some (.inl (iZ (a.2.2.1))), some (.inl (iZ (w)))], [.inl (iZ (w))], h)) rfl ?_
    refine Ev.brF (p := (iZ (w)) < (iZ (0))) (c1 := (182, [some (.inr (.inr (.inr (11, 0, 83)))), some (.inl (iZ (g))), some (.inl (iZ (hr))), some (.inl (iZ (tl))), some (.inl (iZ (wd))), some (.inl (a.2.2.2)), some (.inl (iZ (a.1))), some (.inl (iZ (a.2.1))), some (.inl (iZ (a.2.2.1))), some (.inl (iZ (w)))], [], h)) (c2 := (76, [some (.inr (.inr (.inr (11, 0, 83)))), some (.inl (iZ (g))), some (.inl (iZ (hr))), some (.inl (iZ (tl))), some (.inl (iZ (wd))), some (.inl (a.2.2.2)), some (.inl (iZ (a.1))), some (.inl (iZ (a.2.1))), some (.inl (iZ (a.2.2.1))), some (.inl (iZ (w)))], [], h)) (fun c_ => absurd ((iZ_lt ⟨by omega, by omega⟩ ⟨by omega, by omega⟩).mp c_) (by omega)) rfl ?_
    refine Ev.sts 3 (c' := (80, [some (.inr (.inr (.inr (11, 0, 83)))), some (.inl (iZ (g))), some (.inl (iZ (hr))), some (.inl (iZ (tl))), some (.inl (iZ (wd))), some (.inl (a.2.2.2)), some (.inl (iZ (a.1))), some (.inl (iZ (a.2.1))), some (.inl (iZ (a.2.2.1))), some (.inl (iZ (w)))], [.inl (iZ (0)), .inl (iZ (w)), .inr (.inr (.inr (11, 0, 83)))], h)) rfl ?_
    refine Ev.callv (a := [.inr (.inr (.inr (11, 0, 83))), .inl (iZ (w)), .inl (iZ (0))]) rfl (mp_win0 (w := k) op (by omega) (by rw [mid_len]; omega) ey) ?_
    refine Ev.sts 1 (c' := (84, [some (.inr (.inr (.inr (11, 0, 83)))), some (.inl (iZ (g))), some (.inl (iZ (hr))), some (.inl (iZ (tl))), some (.inl (iZ (wd))), some (.inl (a.2.2.2)), some (.inl (iZ (a.1))), some (.inl (iZ (a.2.1))), some (.inl (iZ (a.2.2.1))), some (.inl (iZ (w)))], [.inl (iZ (g)), .inl (iZ (y.1))], h)) rfl ?_
    refine Ev.brc (p := ¬ (iZ (y.1)) = (iZ (g))) (q := ¬ ((y.1 : Int)) = g) (c1 := (176, [some (.inr (.inr (.inr (11, 0, 83)))), some (.inl (iZ (g))), some (.inl (iZ (hr))), some (.inl (iZ (tl))), some (.inl (iZ (wd))), some (.inl (a.2.2.2)), some (.inl (iZ (a.1))), some (.inl (iZ (a.2.1))), some (.inl (iZ (a.2.2.1))), some (.inl (iZ (w)))], [], h)) (c2 := (87, [some (.inr (.inr (.inr (11, 0, 83)))), some (.inl (iZ (g))), some (.inl (iZ (hr))), some (.inl (iZ (tl))), some (.inl (iZ (wd))), some (.inl (a.2.2.2)), some (.inl (iZ (a.1))), some (.inl (iZ (a.2.1))), some (.inl (iZ (a.2.2.1))), some (.inl (iZ (w)))], [], h)) rfl (not_congr (iZ_eq ⟨by omega, by omega⟩ ⟨by omega, by omega⟩)) (fun c0 => ?_) (fun c0 => ?_)
    · refine Ev.stc (c1 := (179, [some (.inr (.inr (.inr (11, 0, 83)))), some (.inl (iZ (g))), some (.inl (iZ (hr))), some (.inl (iZ (tl))), some (.inl (iZ (wd))), some (.inl (a.2.2.2)), some (.inl (iZ (a.1))), some (.inl (iZ (a.2.1))), some (.inl (iZ (a.2.2.1))), some (.inl ((iZ (w)) + (iZ (-1))))], [], h)) (c2 := (179, [some (.inr (.inr (.inr (11, 0, 83)))), some (.inl (iZ (g))), some (.inl (iZ (hr))), some (.inl (iZ (tl))), some (.inl (iZ (wd))), some (.inl (a.2.2.2)), some (.inl (iZ (a.1))), some (.inl (iZ (a.2.1))), some (.inl (iZ (a.2.2.1))), some (.inl (iZ (w + (-1))))], [], h)) rfl (by rw [iZ_add]) ?_
      refine Ev.sts 1 (c' := (71, [some (.inr (.inr (.inr (11, 0, 83)))), some (.inl (iZ (g))), some (.inl (iZ (hr))), some (.inl (iZ (tl))), some (.inl (iZ (wd))), some (.inl (a.2.2.2)), some (.inl (iZ (a.1))), some (.inl (iZ (a.2.1))), some (.inl (iZ (a.2.2.1))), some (.inl (iZ (w + (-1))))], [], h)) rfl ?_
      have eB : gmB hr wd g M (k + 1) B = gmB hr wd g M k (y :: B) := (if_neg (by rw [← hy]; omega)).trans (by rw [← hy])
      have eA : gmA hr wd tl g M (k + 1) a = gmA hr wd tl g M k a := if_neg (by rw [← hy]; omega)
      rw [eB, eA] at q
      exact ih h (y :: B) a (w + -1) sh op (by omega) (by omega) ha1 ha2 ha3 ha4 q
    · refine Ev.sts 3 (c' := (91, [some (.inr (.inr (.inr (11, 0, 83)))), some (.inl (iZ (g))), some (.inl (iZ (hr))), some (.inl (iZ (tl))), some (.inl (iZ (wd))), some (.inl (a.2.2.2)), some (.inl (iZ (a.1))), some (.inl (iZ (a.2.1))), some (.inl (iZ (a.2.2.1))), some (.inl (iZ (w)))], [.inl (iZ (1)), .inl (iZ (w)), .inr (.inr (.inr (11, 0, 83)))], h)) rfl ?_
      refine Ev.callv (a := [.inr (.inr (.inr (11, 0, 83))), .inl (iZ (w)), .inl (iZ (1))]) rfl (mp_win1 (w := k) op (by omega) (by rw [mid_len]; omega) ey) ?_
      refine Ev.sts 2 (c' := (97, [some (.inr (.inr (.inr (11, 0, 83)))), some (.inl (iZ (g))), some (.inl (iZ (hr))), some (.inl (iZ (tl))), some (.inl (iZ (wd))), some (.inl (a.2.2.2)), some (.inl (iZ (a.1))), some (.inl (iZ (a.2.1))), some (.inl (iZ (a.2.2.1))), some (.inl (iZ (w)))], [.inl (iZ (wd)), .inl (iZ (hr)), .inl (iZ (y.2.1))], h)) rfl ?_
      refine Ev.gv (w := (iZ (hr + wd))) rfl (iZ_add _ _) ?_
      refine Ev.brc (p := (iZ (hr + wd)) ≤ (iZ (y.2.1))) (q := ((hr + wd : Int)) ≤ y.2.1) (c1 := (176, [some (.inr (.inr (.inr (11, 0, 83)))), some (.inl (iZ (g))), some (.inl (iZ (hr))), some (.inl (iZ (tl))), some (.inl (iZ (wd))), some (.inl (a.2.2.2)), some (.inl (iZ (a.1))), some (.inl (iZ (a.2.1))), some (.inl (iZ (a.2.2.1))), some (.inl (iZ (w)))], [], h)) (c2 := (101, [some (.inr (.inr (.inr (11, 0, 83)))), some (.inl (iZ (g))), some (.inl (iZ (hr))), some (.inl (iZ (tl))), some (.inl (iZ (wd))), some (.inl (a.2.2.2)), some (.inl (iZ (a.1))), some (.inl (iZ (a.2.1))), some (.inl (iZ (a.2.2.1))), some (.inl (iZ (w)))], [], h)) rfl (iZ_le ⟨by omega, by omega⟩ ⟨by omega, by omega⟩) (fun c1 => ?_) (fun c1 => ?_)
      · refine Ev.stc (c1 := (179, [some (.inr (.inr (.inr (11, 0, 83)))), some (.inl (iZ (g))), some (.inl (iZ (hr))), some (.inl (iZ (tl))), some (.inl (iZ (wd))), some (.inl (a.2.2.2)), some (.inl (iZ (a.1))), some (.inl (iZ (a.2.1))), some (.inl (iZ (a.2.2.1))), some (.inl ((iZ (w)) + (iZ (-1))))], [], h)) (c2 := (179, [some (.inr (.inr (.inr (11, 0, 83)))), some (.inl (iZ (g))), some (.inl (iZ (hr))), some (.inl (iZ (tl))), some (.inl (iZ (wd))), some (.inl (a.2.2.2)), some (.inl (iZ (a.1))), some (.inl (iZ (a.2.1))), some (.inl (iZ (a.2.2.1))), some (.inl (iZ (w + (-1))))], [], h)) rfl (by rw [iZ_add]) ?_
        refine Ev.sts 1 (c' := (71, [some (.inr (.inr (.inr (11, 0, 83)))), some (.inl (iZ (g))), some (.inl (iZ (hr))), some (.inl (iZ (tl))), some (.inl (iZ (wd))), some (.inl (a.2.2.2)), some (.inl (iZ (a.1))), some (.inl (iZ (a.2.1))), some (.inl (iZ (a.2.2.1))), some (.inl (iZ (w + (-1))))], [], h)) rfl ?_
        have eB : gmB hr wd g M (k + 1) B = gmB hr wd g M k (y :: B) := (if_neg (by rw [← hy]; omega)).trans (by rw [← hy])
        have eA : gmA hr wd tl g M (k + 1) a = gmA hr wd tl g M k a := if_neg (by rw [← hy]; omega)
        rw [eB, eA] at q
        exact ih h (y :: B) a (w + -1) sh op (by omega) (by omega) ha1 ha2 ha3 ha4 q
      · refine Ev.sts 3 (c' := (105, [some (.inr (.inr (.inr (11, 0, 83)))), some (.inl (iZ (g))), some (.inl (iZ (hr))), some (.inl (iZ (tl))), some (.inl (iZ (wd))), some (.inl (a.2.2.2)), some (.inl (iZ (a.1))), some (.inl (iZ (a.2.1))), some (.inl (iZ (a.2.2.1))), some (.inl (iZ (w)))], [.inl (iZ (2)), .inl (iZ (w)), .inr (.inr (.inr (11, 0, 83)))], h)) rfl ?_
        refine Ev.callv (a := [.inr (.inr (.inr (11, 0, 83))), .inl (iZ (w)), .inl (iZ (2))]) rfl (mp_win2 (w := k) op (by omega) (by rw [mid_len]; omega) ey) ?_
        refine Ev.sts 1 (c' := (109, [some (.inr (.inr (.inr (11, 0, 83)))), some (.inl (iZ (g))), some (.inl (iZ (hr))), some (.inl (iZ (tl))), some (.inl (iZ (wd))), some (.inl (a.2.2.2)), some (.inl (iZ (a.1))), some (.inl (iZ (a.2.1))), some (.inl (iZ (a.2.2.1))), some (.inl (iZ (w)))], [.inl (iZ (hr)), .inl (iZ (y.2.2.1))], h)) rfl ?_
        refine Ev.brc (p := (iZ (hr)) < (iZ (y.2.2.1))) (q := ((hr : Int)) < y.2.2.1) (c1 := (115, [some (.inr (.inr (.inr (11, 0, 83)))), some (.inl (iZ (g))), some (.inl (iZ (hr))), some (.inl (iZ (tl))), some (.inl (iZ (wd))), some (.inl (a.2.2.2)), some (.inl (iZ (a.1))), some (.inl (iZ (a.2.1))), some (.inl (iZ (a.2.2.1))), some (.inl (iZ (w)))], [], h)) (c2 := (112, [some (.inr (.inr (.inr (11, 0, 83)))), some (.inl (iZ (g))), some (.inl (iZ (hr))), some (.inl (iZ (tl))), some (.inl (iZ (wd))), some (.inl (a.2.2.2)), some (.inl (iZ (a.1))), some (.inl (iZ (a.2.1))), some (.inl (iZ (a.2.2.1))), some (.inl (iZ (w)))], [], h)) rfl (iZ_lt ⟨by omega, by omega⟩ ⟨by omega, by omega⟩) (fun c2 => ?_) (fun c2 => ?_)
        · refine Ev.sts 4 (c' := (121, [some (.inr (.inr (.inr (11, 0, 83)))), some (.inl (iZ (g))), some (.inl (iZ (hr))), some (.inl (iZ (tl))), some (.inl (iZ (wd))), some (.inl (a.2.2.2)), some (.inl (iZ (a.1))), some (.inl (iZ (a.2.1))), some (.inl (iZ (a.2.2.1))), some (.inl (iZ (w)))], [.inl (iZ (1)), .inl (iZ (w)), .inr (.inr (.inr (11, 0, 83))), .inl (iZ (a.1))], h)) rfl ?_
          refine Ev.callv (a := [.inr (.inr (.inr (11, 0, 83))), .inl (iZ (w)), .inl (iZ (1))]) rfl (mp_win1 (w := k) op (by omega) (by rw [mid_len]; omega) ey) ?_
          refine Ev.gv (w := (iZ (min a.1 y.2.1))) rfl (iZ_min ⟨by omega, by omega⟩ ⟨by omega, by omega⟩) ?_
          refine Ev.sts 5 (c' := (135, [some (.inr (.inr (.inr (11, 0, 83)))), some (.inl (iZ (g))), some (.inl (iZ (hr))), some (.inl (iZ (tl))), some (.inl (iZ (wd))), some (.inl (a.2.2.2)), some (.inl (iZ (min a.1 y.2.1))), some (.inl (iZ (a.2.1))), some (.inl (iZ (a.2.2.1))), some (.inl (iZ (w)))], [.inl (iZ (2)), .inl (iZ (w)), .inr (.inr (.inr (11, 0, 83))), .inl (iZ (a.2.1))], h)) rfl ?_
          refine Ev.callv (a := [.inr (.inr (.inr (11, 0, 83))), .inl (iZ (w)), .inl (iZ (2))]) rfl (mp_win2 (w := k) op (by omega) (by rw [mid_len]; omega) ey) ?_
          refine Ev.gv (w := (iZ (max a.2.1 y.2.2.1))) rfl (iZ_max ⟨by omega, by omega⟩ ⟨by omega, by omega⟩) ?_
          refine Ev.sts 5 (c' := (149, [some (.inr (.inr (.inr (11, 0, 83)))), some (.inl (iZ (g))), some (.inl (iZ (hr))), some (.inl (iZ (tl))), some (.inl (iZ (wd))), some (.inl (a.2.2.2)), some (.inl (iZ (min a.1 y.2.1))), some (.inl (iZ (max a.2.1 y.2.2.1))), some (.inl (iZ (a.2.2.1))), some (.inl (iZ (w)))], [.inl (iZ (3)), .inl (iZ (w)), .inr (.inr (.inr (11, 0, 83))), .inl (iZ (a.2.2.1))], h)) rfl ?_
          refine Ev.callv (a := [.inr (.inr (.inr (11, 0, 83))), .inl (iZ (w)), .inl (iZ (3))]) rfl (mp_win3 (w := k) op (by omega) (by rw [mid_len]; omega) ey) ?_
          refine Ev.gv (w := (iZ (a.2.2.1 + y.2.2.2.1))) rfl (iZ_add _ _) ?_
          refine Ev.sts 6 (c' := (162, [some (.inr (.inr (.inr (11, 0, 83)))), some (.inl (iZ (g))), some (.inl (iZ (hr))), some (.inl (iZ (tl))), some (.inl (iZ (wd))), some (.inl (a.2.2.2)), some (.inl (iZ (min a.1 y.2.1))), some (.inl (iZ (max a.2.1 y.2.2.1))), some (.inl (iZ (a.2.2.1 + y.2.2.2.1))), some (.inl (iZ (w)))], [.inl (iZ (4)), .inl (iZ (w)), .inr (.inr (.inr (11, 0, 83))), .inl (a.2.2.2), .inl (iZ (tl))], h)) rfl ?_
          refine Ev.callv (a := [.inr (.inr (.inr (11, 0, 83))), .inl (iZ (w)), .inl (iZ (4))]) rfl (mp_win4 (w := k) op (by omega) (by rw [mid_len]; omega) ey) ?_
          refine Ev.callv (a := [.inl (iZ (tl)), .inl (a.2.2.2), .inl (y.2.2.2.2)]) rfl (mp_together (tl := tl) (by omega)) ?_
          refine Ev.sts 3 (c' := (173, [some (.inr (.inr (.inr (11, 0, 83)))), some (.inl (iZ (g))), some (.inl (iZ (hr))), some (.inl (iZ (tl))), some (.inl (iZ (wd))), some (.inl ((jn tl a.2.2.2 y.2.2.2.2))), some (.inl (iZ (min a.1 y.2.1))), some (.inl (iZ (max a.2.1 y.2.2.1))), some (.inl (iZ (a.2.2.1 + y.2.2.2.1))), some (.inl (iZ (w)))], [.inl (iZ (w)), .inr (.inr (.inr (11, 0, 83)))], h)) rfl ?_
          refine Ev.callw (a := [.inr (.inr (.inr (11, 0, 83))), .inl (iZ (w))]) rfl (mp_remove (w := k) op (by omega) (by rw [mid_len]; omega) (fun h1 op1 f1 => ?_))
          refine Ev.stc (c1 := (179, [some (.inr (.inr (.inr (11, 0, 83)))), some (.inl (iZ (g))), some (.inl (iZ (hr))), some (.inl (iZ (tl))), some (.inl (iZ (wd))), some (.inl ((jn tl a.2.2.2 y.2.2.2.2))), some (.inl (iZ (min a.1 y.2.1))), some (.inl (iZ (max a.2.1 y.2.2.1))), some (.inl (iZ (a.2.2.1 + y.2.2.2.1))), some (.inl ((iZ (w)) + (iZ (-1))))], [], h1)) (c2 := (179, [some (.inr (.inr (.inr (11, 0, 83)))), some (.inl (iZ (g))), some (.inl (iZ (hr))), some (.inl (iZ (tl))), some (.inl (iZ (wd))), some (.inl ((jn tl a.2.2.2 y.2.2.2.2))), some (.inl (iZ (min a.1 y.2.1))), some (.inl (iZ (max a.2.1 y.2.2.1))), some (.inl (iZ (a.2.2.1 + y.2.2.2.1))), some (.inl (iZ (w + (-1))))], [], h1)) rfl (by rw [iZ_add]) ?_
          refine Ev.sts 1 (c' := (71, [some (.inr (.inr (.inr (11, 0, 83)))), some (.inl (iZ (g))), some (.inl (iZ (hr))), some (.inl (iZ (tl))), some (.inl (iZ (wd))), some (.inl ((jn tl a.2.2.2 y.2.2.2.2))), some (.inl (iZ (min a.1 y.2.1))), some (.inl (iZ (max a.2.1 y.2.2.1))), some (.inl (iZ (a.2.2.1 + y.2.2.2.1))), some (.inl (iZ (w + (-1))))], [], h1)) rfl ?_
          rw [er] at op1
          have eB : gmB hr wd g M (k + 1) B = gmB hr wd g M k B := if_pos (by rw [← hy]; omega)
          have eA : gmA hr wd tl g M (k + 1) a = gmA hr wd tl g M k (mrg tl a y.2) := (if_pos (by rw [← hy]; omega)).trans (by rw [← hy])
          rw [eB, eA] at q
          exact ih h1 B (mrg tl a y.2) (w + -1) (Sh_fm sh f1) op1 (by omega) (by omega) (by show 0 ≤ min a.1 y.2.1; omega) (by show min a.1 y.2.1 < 1000; omega) (by show 0 ≤ max a.2.1 y.2.2.1; omega) (by show max a.2.1 y.2.2.1 < 1300; omega) (fun h2 a9 op2 f2 => q h2 a9 op2 (fm_trans f1 f2))
        · refine Ev.sts 1 (c' := (176, [some (.inr (.inr (.inr (11, 0, 83)))), some (.inl (iZ (g))), some (.inl (iZ (hr))), some (.inl (iZ (tl))), some (.inl (iZ (wd))), some (.inl (a.2.2.2)), some (.inl (iZ (a.1))), some (.inl (iZ (a.2.1))), some (.inl (iZ (a.2.2.1))), some (.inl (iZ (w)))], [], h)) rfl ?_
          refine Ev.stc (c1 := (179, [some (.inr (.inr (.inr (11, 0, 83)))), some (.inl (iZ (g))), some (.inl (iZ (hr))), some (.inl (iZ (tl))), some (.inl (iZ (wd))), some (.inl (a.2.2.2)), some (.inl (iZ (a.1))), some (.inl (iZ (a.2.1))), some (.inl (iZ (a.2.2.1))), some (.inl ((iZ (w)) + (iZ (-1))))], [], h)) (c2 := (179, [some (.inr (.inr (.inr (11, 0, 83)))), some (.inl (iZ (g))), some (.inl (iZ (hr))), some (.inl (iZ (tl))), some (.inl (iZ (wd))), some (.inl (a.2.2.2)), some (.inl (iZ (a.1))), some (.inl (iZ (a.2.1))), some (.inl (iZ (a.2.2.1))), some (.inl (iZ (w + (-1))))], [], h)) rfl (by rw [iZ_add]) ?_
          refine Ev.sts 1 (c' := (71, [some (.inr (.inr (.inr (11, 0, 83)))), some (.inl (iZ (g))), some (.inl (iZ (hr))), some (.inl (iZ (tl))), some (.inl (iZ (wd))), some (.inl (a.2.2.2)), some (.inl (iZ (a.1))), some (.inl (iZ (a.2.1))), some (.inl (iZ (a.2.2.1))), some (.inl (iZ (w + (-1))))], [], h)) rfl ?_
          have eB : gmB hr wd g M (k + 1) B = gmB hr wd g M k (y :: B) := (if_neg (by rw [← hy]; omega)).trans (by rw [← hy])
          have eA : gmA hr wd tl g M (k + 1) a = gmA hr wd tl g M k a := if_neg (by rw [← hy]; omega)
          rw [eB, eA] at q
          exact ih h (y :: B) a (w + -1) sh op (by omega) (by omega) ha1 ha2 ha3 ha4 q

/-- the reference's windows behind a comma of value v for goose g -/
def gapM (hr wd : Int) (tl : Nat) (v : Int32) (g : Nat) (M : List Tel) : List Tel :=
  (gmB hr wd g M M.length []).take (plM (gmB hr wd g M M.length []) g (gmA hr wd tl g M M.length (hr, hr + wd, 1, v)).1) ++ (g, gmA hr wd tl g M M.length (hr, hr + wd, 1, v)) :: (gmB hr wd g M M.length []).drop (plM (gmB hr wd g M M.length []) g (gmA hr wd tl g M M.length (hr, hr + wd, 1, v)).1)
def cntM (G : Gs) (hr wm : Int) (v : Int32) (g : Nat) (M : List Tel) : List Tel := if G.2.2.1 = 0 then gapM hr G.2.1 G.2.2.2.1 v g M else evM G.2.1 G.2.2.1 hr wm G.2.2.2.1 v g 200 M (fsM G hr)
theorem fsM_b {G : Gs} {hr : Int} (hh : 0 ≤ hr ∧ hr < 1000) (g4 : 1 ≤ G.2.1 ∧ G.2.1 ≤ 200) (g5 : 0 ≤ G.2.2.1 ∧ G.2.2.1 ≤ 200) : 0 ≤ fsM G hr ∧ fsM G hr < 1300 ∧ hr - fsM G hr < 200 := by
  unfold fsM
  split
  · omega
  · split
    · omega
    · have e := Int.emod_def (hr - G.2.1 + 1 + G.2.2.1 - 1) G.2.2.1
      have m1 := Int.emod_nonneg (hr - G.2.1 + 1 + G.2.2.1 - 1) (show G.2.2.1 ≠ 0 by omega)
      have m2 := Int.emod_lt_of_pos (hr - G.2.1 + 1 + G.2.2.1 - 1) (show 0 < G.2.2.1 by omega)
      have m3 : 0 ≤ (hr - G.2.1 + 1 + G.2.2.1 - 1) / G.2.2.1 * G.2.2.1 := Int.mul_nonneg (Int.ediv_nonneg (by omega) g5.1) g5.1
      rw [Int.mul_comm] at e
      omega
theorem mp_count {d g no c : Nat} {hr wm N : Int} {x : Ctx} {v : Int32} {G : Gs} {M : List Tel} {h : PH} {Q : Rs → PH → Prop} (sh : Sh h) (op : opM h M no c) (gm : gsM h g G) (gv : givM h x) (hg : g < 6) (hn : tsB N M) (hN0 : 0 ≤ N) (hN2 : N ≤ 1600) (hM : M.length ≤ 8000) (hw : h.1 83 27 = iZ wm) (hm : 0 ≤ wm ∧ wm < 3000) (hh3 : 103 ≤ hN h) (hh : 0 ≤ hr ∧ hr < 1000) (g4 : 1 ≤ G.2.1 ∧ G.2.1 ≤ 200) (g5 : 0 ≤ G.2.2.1 ∧ G.2.2.1 ≤ 200) (htl : G.2.2.2.1 < 4) (ev : (G.2.2.2.1 = 0 ∧ v = iZ 1) ∨ (G.2.2.2.1 ≠ 0 ∧ evs G.2.2.2.2 x (iZ 0) [] [v])) (hnf : G.2.2.1 = 0 → fndM (gmB hr G.2.1 g M M.length []) g (gmA hr G.2.1 G.2.2.2.1 g M M.length (hr, hr + G.2.1, 1, v)).1 = -(plM (gmB hr G.2.1 g M M.length []) g (gmA hr G.2.1 G.2.2.2.1 g M M.length (hr, hr + G.2.1, 1, v)).1 : Int) - 1) (q : ∀ h0 h1 n1 c1, h0.2 = h.2 → (∀ a, a ≠ 95 → h0.1 a = h.1 a) → opM h1 (cntM G hr wm v g M) n1 c1 → fm h0 h1 c c1 no n1 → Q (.inl none) h1) : Rn (d + 2) 217 [.inr (.inr (.inr (11, 0, 83))), .inl (iZ (g)), .inl (iZ (hr))] h Q := by
  have gmh := gm
  obtain ⟨gm1, gm2, gm3, gm4, kk, k1, k2, k3, k4⟩ := gm
  have rest : ∀ h0, h0.2 = h.2 → (∀ a, a ≠ 95 → h0.1 a = h.1 a) → Ev (d + 2) 217 (40, [some (.inr (.inr (.inr (11, 0, 83)))), some (.inl (iZ (g))), some (.inl (iZ (hr))), some (.inl (iZ (G.2.2.2.1))), some (.inl (iZ (G.2.1))), none, none, none, none, none], [.inl (v)], h0) Q := by
    intro h0 e2 e1
    have sh0 := Sh_eq sh e2
    have cO := op.2.2.2.2.2.1
    have op0 : opM h0 M no c := opM_eq op (congrFun (e1 83 (by omega)) 30) (by rw [e2]) (e1 c (by unfold aO at cO; omega)) (by unfold hN; rw [e2]; exact Nat.le_refl _)
    have gm : gsM h0 g G := gsM_eq (e1 93 (by omega)) (e1 94 (by omega)) gmh
    have hh0 : 103 ≤ hN h0 := by unfold hN; rw [e2]; exact hh3
    refine Ev.sts 4 (c' := (45, [some (.inr (.inr (.inr (11, 0, 83)))), some (.inl (iZ (g))), some (.inl (iZ (hr))), some (.inl (iZ (G.2.2.2.1))), some (.inl (iZ (G.2.1))), some (.inl (v)), none, none, none, none], [.inl (iZ (2)), .inl (iZ (g)), .inr (.inr (.inr (11, 0, 83)))], h0)) rfl ?_
    refine Ev.callv (a := [.inr (.inr (.inr (11, 0, 83))), .inl (iZ (g)), .inl (iZ (2))]) rfl (mp_of2 (g := g) (y := G.2.2.1) sh0 (by omega) rfl ((congrFun (e1 93 (by omega)) _).trans gm3)) ?_
    refine Ev.brc (p := ¬ (iZ (G.2.2.1)) = (iZ (0))) (q := ¬ ((G.2.2.1 : Int)) = 0) (c1 := (206, [some (.inr (.inr (.inr (11, 0, 83)))), some (.inl (iZ (g))), some (.inl (iZ (hr))), some (.inl (iZ (G.2.2.2.1))), some (.inl (iZ (G.2.1))), some (.inl (v)), none, none, none, none], [], h0)) (c2 := (51, [some (.inr (.inr (.inr (11, 0, 83)))), some (.inl (iZ (g))), some (.inl (iZ (hr))), some (.inl (iZ (G.2.2.2.1))), some (.inl (iZ (G.2.1))), some (.inl (v)), none, none, none, none], [], h0)) rfl (not_congr (iZ_eq ⟨by omega, by omega⟩ ⟨by omega, by omega⟩)) (fun c0 => ?_) (fun c0 => ?_)
    · refine Ev.sts 3 (c' := (209, [some (.inr (.inr (.inr (11, 0, 83)))), some (.inl (iZ (g))), some (.inl (iZ (hr))), some (.inl (iZ (G.2.2.2.1))), some (.inl (iZ (G.2.1))), some (.inl (v)), none, none, none, none], [.inl (iZ (hr)), .inl (iZ (g)), .inr (.inr (.inr (11, 0, 83)))], h0)) rfl ?_
      refine Ev.callv (a := [.inr (.inr (.inr (11, 0, 83))), .inl (iZ (g)), .inl (iZ (hr))]) rfl (mp_firstStart (G := G) sh0 hg gm hh g4 g5) ?_
      refine Ev.sts 1 (c' := (214, [some (.inr (.inr (.inr (11, 0, 83)))), some (.inl (iZ (g))), some (.inl (iZ (hr))), some (.inl (iZ (G.2.2.2.1))), some (.inl (iZ (G.2.1))), some (.inl (v)), some (.inl (iZ (fsM G hr))), none, none, none], [], h0)) rfl ?_
      have fb := fsM_b hh g4 g5
      have ec : cntM G hr wm v g M = evM G.2.1 G.2.2.1 hr wm G.2.2.2.1 v g 200 M (fsM G hr) := if_neg (by omega)
      rw [ec] at q
      exact mp_ev_lp hg rfl rfl g4 ⟨by omega, by omega⟩ htl hh hm 200 h0 M no c N (fsM G hr) _ _ _ sh0 op0 gm hn hN0 ((congrFun (e1 83 (by omega)) 27).trans hw) (by omega) hh0 (by omega) fb.1 fb.2.1 fb.2.2 (fun h1 n1 c1 op1 f1 => q h0 h1 n1 c1 e2 e1 op1 f1)
    · refine Ev.sts 4 (c' := (57, [some (.inr (.inr (.inr (11, 0, 83)))), some (.inl (iZ (g))), some (.inl (iZ (hr))), some (.inl (iZ (G.2.2.2.1))), some (.inl (iZ (G.2.1))), some (.inl (v)), some (.inl (iZ (hr))), none, none, none], [.inl (iZ (G.2.1)), .inl (iZ (hr))], h0)) rfl ?_
      refine Ev.gv (w := (iZ (hr + G.2.1))) rfl (iZ_add _ _) ?_
      refine Ev.sts 4 (c' := (64, [some (.inr (.inr (.inr (11, 0, 83)))), some (.inl (iZ (g))), some (.inl (iZ (hr))), some (.inl (iZ (G.2.2.2.1))), some (.inl (iZ (G.2.1))), some (.inl (v)), some (.inl (iZ (hr))), some (.inl (iZ (hr + G.2.1))), some (.inl (iZ (1))), none], [.inr (.inr (.inr (11, 0, 83)))], h0)) rfl ?_
      refine Ev.gv (w := (iZ (M.length))) rfl op0.1 ?_
      refine Ev.sts 1 (c' := (68, [some (.inr (.inr (.inr (11, 0, 83)))), some (.inl (iZ (g))), some (.inl (iZ (hr))), some (.inl (iZ (G.2.2.2.1))), some (.inl (iZ (G.2.1))), some (.inl (v)), some (.inl (iZ (hr))), some (.inl (iZ (hr + G.2.1))), some (.inl (iZ (1))), none], [.inl (iZ (1)), .inl (iZ (M.length))], h0)) rfl ?_
      refine Ev.gv (w := (iZ (M.length - 1))) rfl (iZ_sub _ _) ?_
      refine Ev.sts 1 (c' := (71, [some (.inr (.inr (.inr (11, 0, 83)))), some (.inl (iZ (g))), some (.inl (iZ (hr))), some (.inl (iZ (G.2.2.2.1))), some (.inl (iZ (G.2.1))), some (.inl (v)), some (.inl (iZ (hr))), some (.inl (iZ (hr + G.2.1))), some (.inl (iZ (1))), some (.inl (iZ (M.length - 1)))], [], h0)) rfl ?_
      refine mp_gap_lp hg g4 htl hh hn hM M.length h0 [] (hr, hr + G.2.1, 1, v) _ sh0 (by rw [List.take_length, List.append_nil]; exact op0) rfl (Nat.le_refl _) hh.1 hh.2 (by show 0 ≤ hr + G.2.1; omega) (by show hr + G.2.1 < 1300; omega) (fun h1 a9 op1 f1 => ?_)
      have ab := gmA_b (hr := hr) (wd := G.2.1) (tl := G.2.2.2.1) (g := g) hn M.length (hr, hr + G.2.1, 1, v) (Nat.le_refl _) ⟨hh.1, hh.2, by show 0 ≤ hr + G.2.1; omega, by show hr + G.2.1 < 1300; omega⟩
      have bb := gmB_tB (hr := hr) (wd := G.2.1) (g := g) hn M.length [] (Nat.le_refl _) (fun j hj => absurd hj (Nat.not_lt_zero _))
      have bl := gmB_len (hr := hr) (wd := G.2.1) (g := g) (M := M) M.length []
      rw [List.length_nil] at bl
      refine Ev.sts 4 (c' := (187, [some (.inr (.inr (.inr (11, 0, 83)))), some (.inl (iZ (g))), some (.inl (iZ (hr))), some (.inl (iZ (G.2.2.2.1))), some (.inl (iZ (G.2.1))), some (.inl ((gmA hr G.2.1 G.2.2.2.1 g M M.length (hr, hr + G.2.1, 1, v)).2.2.2)), some (.inl (iZ ((gmA hr G.2.1 G.2.2.2.1 g M M.length (hr, hr + G.2.1, 1, v)).1))), some (.inl (iZ ((gmA hr G.2.1 G.2.2.2.1 g M M.length (hr, hr + G.2.1, 1, v)).2.1))), some (.inl (iZ ((gmA hr G.2.1 G.2.2.2.1 g M M.length (hr, hr + G.2.1, 1, v)).2.2.1))), a9], [.inl (iZ ((gmA hr G.2.1 G.2.2.2.1 g M M.length (hr, hr + G.2.1, 1, v)).1)), .inl (iZ (g)), .inr (.inr (.inr (11, 0, 83))), .inr (.inr (.inr (11, 0, 83)))], h1)) rfl ?_
      refine Ev.callv (a := [.inr (.inr (.inr (11, 0, 83))), .inl (iZ (g)), .inl (iZ ((gmA hr G.2.1 G.2.2.2.1 g M M.length (hr, hr + G.2.1, 1, v)).1))]) rfl (mp_find op1 bb ⟨by omega, by omega⟩ hg) ?_
      refine Ev.gv (w := (iZ (-(fndM (gmB hr G.2.1 g M M.length []) g (gmA hr G.2.1 G.2.2.2.1 g M M.length (hr, hr + G.2.1, 1, v)).1)))) rfl (iZ_neg _) ?_
      refine Ev.sts 1 (c' := (192, [some (.inr (.inr (.inr (11, 0, 83)))), some (.inl (iZ (g))), some (.inl (iZ (hr))), some (.inl (iZ (G.2.2.2.1))), some (.inl (iZ (G.2.1))), some (.inl ((gmA hr G.2.1 G.2.2.2.1 g M M.length (hr, hr + G.2.1, 1, v)).2.2.2)), some (.inl (iZ ((gmA hr G.2.1 G.2.2.2.1 g M M.length (hr, hr + G.2.1, 1, v)).1))), some (.inl (iZ ((gmA hr G.2.1 G.2.2.2.1 g M M.length (hr, hr + G.2.1, 1, v)).2.1))), some (.inl (iZ ((gmA hr G.2.1 G.2.2.2.1 g M M.length (hr, hr + G.2.1, 1, v)).2.2.1))), a9], [.inl (iZ (1)), .inl (iZ (-(fndM (gmB hr G.2.1 g M M.length []) g (gmA hr G.2.1 G.2.2.2.1 g M M.length (hr, hr + G.2.1, 1, v)).1))), .inr (.inr (.inr (11, 0, 83)))], h1)) rfl ?_
      refine Ev.gv (w := (iZ ((-(fndM (gmB hr G.2.1 g M M.length []) g (gmA hr G.2.1 G.2.2.2.1 g M M.length (hr, hr + G.2.1, 1, v)).1)) - 1))) rfl (iZ_sub _ _) ?_
      refine Ev.sts 5 (c' := (202, [some (.inr (.inr (.inr (11, 0, 83)))), some (.inl (iZ (g))), some (.inl (iZ (hr))), some (.inl (iZ (G.2.2.2.1))), some (.inl (iZ (G.2.1))), some (.inl ((gmA hr G.2.1 G.2.2.2.1 g M M.length (hr, hr + G.2.1, 1, v)).2.2.2)), some (.inl (iZ ((gmA hr G.2.1 G.2.2.2.1 g M M.length (hr, hr + G.2.1, 1, v)).1))), some (.inl (iZ ((gmA hr G.2.1 G.2.2.2.1 g M M.length (hr, hr + G.2.1, 1, v)).2.1))), some (.inl (iZ ((gmA hr G.2.1 G.2.2.2.1 g M M.length (hr, hr + G.2.1, 1, v)).2.2.1))), a9], [.inl ((gmA hr G.2.1 G.2.2.2.1 g M M.length (hr, hr + G.2.1, 1, v)).2.2.2), .inl (iZ ((gmA hr G.2.1 G.2.2.2.1 g M M.length (hr, hr + G.2.1, 1, v)).2.2.1)), .inl (iZ ((gmA hr G.2.1 G.2.2.2.1 g M M.length (hr, hr + G.2.1, 1, v)).2.1)), .inl (iZ ((gmA hr G.2.1 G.2.2.2.1 g M M.length (hr, hr + G.2.1, 1, v)).1)), .inl (iZ (g)), .inl (iZ ((-(fndM (gmB hr G.2.1 g M M.length []) g (gmA hr G.2.1 G.2.2.2.1 g M M.length (hr, hr + G.2.1, 1, v)).1)) - 1)), .inr (.inr (.inr (11, 0, 83)))], h1)) rfl ?_
      refine Ev.callw (a := [.inr (.inr (.inr (11, 0, 83))), .inl (iZ ((-(fndM (gmB hr G.2.1 g M M.length []) g (gmA hr G.2.1 G.2.2.2.1 g M M.length (hr, hr + G.2.1, 1, v)).1)) - 1)), .inl (iZ (g)), .inl (iZ ((gmA hr G.2.1 G.2.2.2.1 g M M.length (hr, hr + G.2.1, 1, v)).1)), .inl (iZ ((gmA hr G.2.1 G.2.2.2.1 g M M.length (hr, hr + G.2.1, 1, v)).2.1)), .inl (iZ ((gmA hr G.2.1 G.2.2.2.1 g M M.length (hr, hr + G.2.1, 1, v)).2.2.1)), .inl ((gmA hr G.2.1 G.2.2.2.1 g M M.length (hr, hr + G.2.1, 1, v)).2.2.2)]) rfl (mp_insert (w := plM (gmB hr G.2.1 g M M.length []) g (gmA hr G.2.1 G.2.2.2.1 g M M.length (hr, hr + G.2.1, 1, v)).1) op1 (by have := f1.2.2.2.2.1; omega) (by omega) (by rw [hnf (by omega)]; omega) (plM_le _ _ _) (fun h2 n2 c2 op2 f2 => ?_))
      have ec : cntM G hr wm v g M = gapM hr G.2.1 G.2.2.2.1 v g M := if_pos (by omega)
      rw [ec] at q
      exact Ev.ret rfl (q h0 h2 n2 c2 e2 e1 op2 (fm_trans f1 f2))
  refine Ev.sts 3 (c' := (3, [some (.inr (.inr (.inr (11, 0, 83)))), some (.inl (iZ (g))), some (.inl (iZ (hr))), none, none, none, none, none, none, none], [.inl (iZ (3)), .inl (iZ (g)), .inr (.inr (.inr (11, 0, 83)))], h)) rfl ?_
  refine Ev.callv (a := [.inr (.inr (.inr (11, 0, 83))), .inl (iZ (g)), .inl (iZ (3))]) rfl (mp_of3 (g := g) (y := G.2.2.2.1) sh (by omega) rfl gm4) ?_
  refine Ev.sts 4 (c' := (10, [some (.inr (.inr (.inr (11, 0, 83)))), some (.inl (iZ (g))), some (.inl (iZ (hr))), some (.inl (iZ (G.2.2.2.1))), none, none, none, none, none, none], [.inl (iZ (1)), .inl (iZ (g)), .inr (.inr (.inr (11, 0, 83)))], h)) rfl ?_
  refine Ev.callv (a := [.inr (.inr (.inr (11, 0, 83))), .inl (iZ (g)), .inl (iZ (1))]) rfl (mp_of1 (g := g) (y := G.2.1) sh (by omega) rfl gm2) ?_
  refine Ev.sts 2 (c' := (16, [some (.inr (.inr (.inr (11, 0, 83)))), some (.inl (iZ (g))), some (.inl (iZ (hr))), some (.inl (iZ (G.2.2.2.1))), some (.inl (iZ (G.2.1))), none, none, none, none, none], [.inl (iZ (G.2.2.2.1))], h)) rfl ?_
  refine Ev.brc (p := ¬ (iZ (G.2.2.2.1)) = (iZ (0))) (q := ¬ ((G.2.2.2.1 : Int)) = 0) (c1 := (23, [some (.inr (.inr (.inr (11, 0, 83)))), some (.inl (iZ (g))), some (.inl (iZ (hr))), some (.inl (iZ (G.2.2.2.1))), some (.inl (iZ (G.2.1))), none, none, none, none, none], [], h)) (c2 := (19, [some (.inr (.inr (.inr (11, 0, 83)))), some (.inl (iZ (g))), some (.inl (iZ (hr))), some (.inl (iZ (G.2.2.2.1))), some (.inl (iZ (G.2.1))), none, none, none, none, none], [], h)) rfl (not_congr (iZ_eq ⟨by omega, by omega⟩ ⟨by omega, by omega⟩)) (fun c0 => ?_) (fun c0 => ?_)
  · refine Ev.sts 4 (c' := (27, [some (.inr (.inr (.inr (11, 0, 83)))), some (.inl (iZ (g))), some (.inl (iZ (hr))), some (.inl (iZ (G.2.2.2.1))), some (.inl (iZ (G.2.1))), none, none, none, none, none], [.inl (iZ (4)), .inl (iZ (g)), .inr (.inr (.inr (11, 0, 83))), .inr (.inr (.inr (11, 0, 83)))], h)) rfl ?_
    refine Ev.callv (a := [.inr (.inr (.inr (11, 0, 83))), .inl (iZ (g)), .inl (iZ (4))]) rfl (mp_of4 (g := g) (y := kk) sh (by omega) rfl k2) ?_
    refine Ev.sts 3 (c' := (33, [some (.inr (.inr (.inr (11, 0, 83)))), some (.inl (iZ (g))), some (.inl (iZ (hr))), some (.inl (iZ (G.2.2.2.1))), some (.inl (iZ (G.2.1))), none, none, none, none, none], [.inl (iZ (5)), .inl (iZ (g)), .inr (.inr (.inr (11, 0, 83))), .inl (iZ (kk)), .inr (.inr (.inr (11, 0, 83)))], h)) rfl ?_
    refine Ev.callv (a := [.inr (.inr (.inr (11, 0, 83))), .inl (iZ (g)), .inl (iZ (5))]) rfl (mp_of5 (g := g) (y := ((kk + wlen G.2.2.2.2 : Nat) : Int)) sh (by omega) rfl k3) ?_
    refine Ev.sts 1 (c' := (37, [some (.inr (.inr (.inr (11, 0, 83)))), some (.inl (iZ (g))), some (.inl (iZ (hr))), some (.inl (iZ (G.2.2.2.1))), some (.inl (iZ (G.2.1))), none, none, none, none, none], [.inl (iZ (0)), .inl (iZ (((kk + wlen G.2.2.2.2 : Nat) : Int))), .inl (iZ (kk)), .inr (.inr (.inr (11, 0, 83)))], h)) rfl ?_
    refine Ev.callw (a := [.inr (.inr (.inr (11, 0, 83))), .inl (iZ (kk)), .inl (iZ (((kk + wlen G.2.2.2.2 : Nat) : Int))), .inl (iZ (0))]) rfl (mrk_reckon sh gv rfl k1 k4 (ev.elim (fun e => absurd e.1 (by omega)) (fun e => e.2)) (fun h1 e2 e1 => ?_))
    exact rest h1 e2 e1
  · refine Ev.sts 2 (c' := (40, [some (.inr (.inr (.inr (11, 0, 83)))), some (.inl (iZ (g))), some (.inl (iZ (hr))), some (.inl (iZ (G.2.2.2.1))), some (.inl (iZ (G.2.1))), none, none, none, none, none], [.inl (iZ (1))], h)) rfl ?_
    have ev1 : v = iZ 1 := by
      rcases ev with ⟨-, e1⟩ | e1
      · exact e1
      · exact absurd e1.1 (by omega)
    subst ev1
    exact rest h rfl (fun _ _ => rfl)

