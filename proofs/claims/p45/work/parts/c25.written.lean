/-! The book is written. -/
def moK : List Int → List Sg
  | [] => []
  | n :: l => (3, n, 0) :: l.flatMap (fun x => [(31, 0, 0), (3, x, 0)])
theorem mnsK_e : ∀ l : List Int, mnsK l = l.flatMap (fun x => [(31, 0, 0), (3, x, 0)]) ++ [(30, 0, 0)] := by
  intro l
  induction l with
  | nil => rfl
  | cons n l ih => rw [List.flatMap_cons]; show (31, 0, 0) :: (3, n, 0) :: mnsK l = _; rw [ih]; rfl
theorem moK_app (ms : List Int) (n : Int) (h : ms ≠ []) : moK (ms ++ [n]) = moK ms ++ [(31, 0, 0), (3, n, 0)] := by
  cases ms with
  | nil => exact absurd rfl h
  | cons x l => show (3, x, 0) :: (l ++ [n]).flatMap _ = _; rw [List.flatMap_append]; rfl
/-- no flock, no goose yet -/
def H2b (h : PH) : Prop := h.1 83 7 = iZ ((0 : Nat) : Int) ∧ h.1 83 10 = iZ ((0 : Nat) : Int) ∧ h.2.2.1 83 6 = (27, 8, 85) ∧ h.2.2.1 83 8 = (28, 6, 86) ∧ h.2.2.1 83 9 = (27, 6, 87)
theorem H2_F {h h1 : PH} (f : FB h h1) (a : H2b h) : H2b h1 := ⟨(f.2.1 7 (by decide) (by decide)).trans a.1, (f.2.1 10 (by decide) (by decide)).trans a.2.1, (f.2.2 6 (by decide)).trans a.2.2.1, (f.2.2 8 (by decide)).trans a.2.2.2.1, (f.2.2 9 (by decide)).trans a.2.2.2.2⟩
theorem H2_w {h : PH} {ma j : Nat} {v : Int32} (hm : 83 < ma) (a : H2b h) : H2b (setI h ma j v) := ⟨(setI_ne (by omega)).trans a.1, (setI_ne (by omega)).trans a.2.1, a.2.2⟩
theorem H2_HB {h : PH} {M : List Int} (a : H2b h) (m : MOr h M) : HB h (M, [], []) 0 0 := ⟨⟨rfl, by decide, a.1, a.2.2.1, fun f hf => absurd hf (Nat.not_lt_zero _)⟩, ⟨rfl, by decide, a.2.1, a.2.2.2.1, a.2.2.2.2, fun g hg => absurd hg (Nat.not_lt_zero _)⟩, m⟩
/-- the moon's numbers so far -/
def MRw (h : PH) (ma M : Nat) (ms : List Int) : Prop := h.2.2.1 83 5 = (20, M, ma) ∧ 87 < ma ∧ ma < hN h ∧ ∀ j, j < ms.length → h.1 ma j = iZ (ms.getD j 0) ∧ 0 ≤ ms.getD j 0 ∧ ms.getD j 0 ≤ 99
theorem MR_F {h h1 : PH} {ma M : Nat} {ms : List Int} (f : FB h h1) (a : MRw h ma M ms) : MRw h1 ma M ms := ⟨(f.2.2 5 (by decide)).trans a.1, a.2.1, Nat.lt_of_lt_of_le a.2.2.1 (FB_n f), fun j hj => by rw [(f.1.2.1 ma a.2.2.1 (by have := a.2.1; omega)).1]; exact a.2.2.2 j hj⟩
theorem MR_w {h : PH} {ma M : Nat} {ms : List Int} {w : Int} (a : MRw h ma M ms) (hw : 0 ≤ w ∧ w ≤ 99) : MRw (setI h ma ms.length (iZ w)) ma M (ms ++ [w]) := by
  refine ⟨a.1, a.2.1, a.2.2.1, fun j hj => ?_⟩
  rw [List.length_append] at hj
  replace hj : j < ms.length + 1 := hj
  by_cases e : j = ms.length
  · rw [e, getD_app1]; exact ⟨setI_self _ _ _ _, hw⟩
  · rw [getD_app0 _ _ _ _ (by omega)]
    exact ⟨(setI_ne (fun z => e z.2)).trans (a.2.2.2 j (by omega)).1, (a.2.2.2 j (by omega)).2⟩
theorem BL_w {h : PH} {ma L dr tk ln j : Nat} {tp : List Int} {v : Int32} (b : BKl h L dr tk ln tp) (t : ∃ lo N, (N ≤ ma ∨ ma ≤ lo) ∧ 87 ≤ lo ∧ N ≤ hN h ∧ txR h lo N (h.2.2.1 83 4) tp) (hm : 87 < ma ∧ ma < hN h) : BKl (setI h ma j v) L dr tk ln tp ∧ Kp 83 nA h (setI h ma j v) := by
  obtain ⟨b1, b2, b3, b4, b5, b6, b7, b8⟩ := b
  obtain ⟨lo, N, hc, hlo, hN0, t⟩ := t
  have k : Kp (hN h) (fun x => x = ma) h (setI h ma j v) := Kp_I (fun _ => rfl) hm.2
  have k2 : Kp N nA h (setI h ma j v) ∨ ma < N := by
    by_cases c : ma < N
    · exact .inr c
    · exact .inl (Kp_I (fun z => absurd z c) hm.2)
  have t2 : txR (setI h ma j v) lo N (h.2.2.1 83 4) tp := by
    rcases hc with c | c
    · exact txR_Kp t (Kp_I (N := N) (A := nA) (fun z => absurd z (by omega)) hm.2) (Nat.le_refl _) (fun _ _ z => z)
    · exact txR_Kp t k hN0 (fun x hx => by omega)
  exact ⟨⟨b1, (setI_ne (by omega)).trans b2, (setI_ne (by omega)).trans b3, (setI_ne (by omega)).trans b4, txR_up (txR_lo t2 hlo) hN0, b6, Kp_Z k b7, b8⟩, Kp_I (fun z => absurd z (by omega)) hm.2⟩
