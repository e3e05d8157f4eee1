/-! A new book. -/
/-- the book as its constructor leaves it -/
def bkH (h : PH) (L : Nat) : PH := (setR (setR (grow (setR (grow (setR (grow (setR (setI (grow (setR h 83 4 (43, 0, 35)) 1) (hN h) 0 ((iZ (5)))) 83 5 (20, 1, (hN h))) 8) 83 6 (27, 8, (hN h + 1))) 6) 83 8 (28, 6, (hN h + 2))) 6) 83 9 (27, 6, (hN h + 3))) 83 0 (45, L, 0))
theorem bi_go {d L : Nat} {h : PH} : Rv d 160 [.inr (.inr (.inr (11, 0, 83))), .inr (.inr (.inr (45, L, 0)))] h (none) (bkH h L) := Rv.of fun Q q => by
  refine Ev.sts 7 (c' := (12, [some (.inr (.inr (.inr (11, 0, 83)))), some (.inr (.inr (.inr (45, L, 0))))], [.inl (iZ (1)), .inr (.inr (.inr (11, 0, 83)))], (setR h 83 4 (43, 0, 35)))) rfl ?_
  refine Ev.sts 1 (c' := (14, [some (.inr (.inr (.inr (11, 0, 83)))), some (.inr (.inr (.inr (45, L, 0))))], [.inr (.inr (.inr (20, 1, (hN h)))), .inr (.inr (.inr (11, 0, 83)))], (grow (setR h 83 4 (43, 0, 35)) 1))) rfl ?_
  refine Ev.sts 3 (c' := (17, [some (.inr (.inr (.inr (11, 0, 83)))), some (.inr (.inr (.inr (45, L, 0))))], [.inl (iZ (5)), .inl (iZ (0)), .inr (.inr (.inr (20, 1, (hN h)))), .inr (.inr (.inr (20, 1, (hN h)))), .inr (.inr (.inr (11, 0, 83)))], (grow (setR h 83 4 (43, 0, 35)) 1))) rfl ?_
  refine Ev.sto (j := (iZ (0))) (n := 1) (h2 := (setI (grow (setR h 83 4 (43, 0, 35)) 1) (hN h) 0 ((iZ (5))))) (by decide) rfl rfl ?_
  refine Ev.sts 3 (c' := (24, [some (.inr (.inr (.inr (11, 0, 83)))), some (.inr (.inr (.inr (45, L, 0))))], [.inl (iZ (8)), .inr (.inr (.inr (11, 0, 83)))], (setR (setI (grow (setR h 83 4 (43, 0, 35)) 1) (hN h) 0 ((iZ (5)))) 83 5 (20, 1, (hN h))))) rfl ?_
  refine Ev.sts 1 (c' := (27, [some (.inr (.inr (.inr (11, 0, 83)))), some (.inr (.inr (.inr (45, L, 0))))], [.inr (.inr (.inr (27, 8, (hN h + 1)))), .inr (.inr (.inr (11, 0, 83)))], (grow (setR (setI (grow (setR h 83 4 (43, 0, 35)) 1) (hN h) 0 ((iZ (5)))) 83 5 (20, 1, (hN h))) 8))) rfl ?_
  refine Ev.sts 3 (c' := (33, [some (.inr (.inr (.inr (11, 0, 83)))), some (.inr (.inr (.inr (45, L, 0))))], [.inl (iZ (6)), .inr (.inr (.inr (11, 0, 83)))], (setR (grow (setR (setI (grow (setR h 83 4 (43, 0, 35)) 1) (hN h) 0 ((iZ (5)))) 83 5 (20, 1, (hN h))) 8) 83 6 (27, 8, (hN h + 1))))) rfl ?_
  refine Ev.sts 1 (c' := (36, [some (.inr (.inr (.inr (11, 0, 83)))), some (.inr (.inr (.inr (45, L, 0))))], [.inr (.inr (.inr (28, 6, (hN h + 2)))), .inr (.inr (.inr (11, 0, 83)))], (grow (setR (grow (setR (setI (grow (setR h 83 4 (43, 0, 35)) 1) (hN h) 0 ((iZ (5)))) 83 5 (20, 1, (hN h))) 8) 83 6 (27, 8, (hN h + 1))) 6))) rfl ?_
  refine Ev.sts 3 (c' := (42, [some (.inr (.inr (.inr (11, 0, 83)))), some (.inr (.inr (.inr (45, L, 0))))], [.inl (iZ (6)), .inr (.inr (.inr (11, 0, 83)))], (setR (grow (setR (grow (setR (setI (grow (setR h 83 4 (43, 0, 35)) 1) (hN h) 0 ((iZ (5)))) 83 5 (20, 1, (hN h))) 8) 83 6 (27, 8, (hN h + 1))) 6) 83 8 (28, 6, (hN h + 2))))) rfl ?_
  refine Ev.sts 1 (c' := (45, [some (.inr (.inr (.inr (11, 0, 83)))), some (.inr (.inr (.inr (45, L, 0))))], [.inr (.inr (.inr (27, 6, (hN h + 3)))), .inr (.inr (.inr (11, 0, 83)))], (grow (setR (grow (setR (grow (setR (setI (grow (setR h 83 4 (43, 0, 35)) 1) (hN h) 0 ((iZ (5)))) 83 5 (20, 1, (hN h))) 8) 83 6 (27, 8, (hN h + 1))) 6) 83 8 (28, 6, (hN h + 2))) 6))) rfl ?_
  refine Ev.sts 4 (c' := (53, [some (.inr (.inr (.inr (11, 0, 83)))), some (.inr (.inr (.inr (45, L, 0))))], [], (setR (setR (grow (setR (grow (setR (grow (setR (setI (grow (setR h 83 4 (43, 0, 35)) 1) (hN h) 0 ((iZ (5)))) 83 5 (20, 1, (hN h))) 8) 83 6 (27, 8, (hN h + 1))) 6) 83 8 (28, 6, (hN h + 2))) 6) 83 9 (27, 6, (hN h + 3))) 83 0 (45, L, 0)))) rfl ?_
  exact Ev.ret rfl (q)

theorem bi_facts {h : PH} {L : Nat} (z : Zr h) (hn : hN h = 84) (z83 : ∀ k, h.1 83 k = 0) (hL : L ≤ 100000) : BKl (bkH h L) L 0 0 0 [] ∧ H2b (bkH h L) ∧ MOr (bkH h L) [5] ∧ Kp 83 nA h (bkH h L) ∧ hN (bkH h L) = 88 ∧ hS (bkH h L) = hS h + 21 := by
  have n : hN (bkH h L) = hN h + 4 := rfl
  have i : ∀ x j, ¬ (x = hN h ∧ j = 0) → (bkH h L).1 x j = h.1 x j := fun x j c => setI_ne c
  have i5 : (bkH h L).1 84 0 = iZ 5 := by rw [← hn]; exact setI_self _ _ _ _
  have r0 : (bkH h L).2.2.1 83 0 = (45, L, 0) := setR_self _ _ _ _
  have r9 : (bkH h L).2.2.1 83 9 = (27, 6, hN h + 3) := rfl
  have r8 : (bkH h L).2.2.1 83 8 = (28, 6, hN h + 2) := rfl
  have r6 : (bkH h L).2.2.1 83 6 = (27, 8, hN h + 1) := rfl
  have r5 : (bkH h L).2.2.1 83 5 = (20, 1, hN h) := rfl
  have r4 : (bkH h L).2.2.1 83 4 = (43, 0, 35) := rfl
  have ro : ∀ x, x ≠ 83 → (bkH h L).2.2.1 x = h.2.2.1 x := by
    intro x c
    funext j
    show (if x = 83 ∧ j = 0 then _ else if x = 83 ∧ j = 9 then _ else if x = 83 ∧ j = 8 then _ else if x = 83 ∧ j = 6 then _ else if x = 83 ∧ j = 5 then _ else if x = 83 ∧ j = 4 then _ else h.2.2.1 x j) = _
    rw [if_neg (fun z => c z.1), if_neg (fun z => c z.1), if_neg (fun z => c z.1), if_neg (fun z => c z.1), if_neg (fun z => c z.1), if_neg (fun z => c z.1)]
  have zi : ∀ k, (bkH h L).1 83 k = iZ 0 := fun k => (i 83 k (by omega)).trans (z83 k)
  refine ⟨⟨⟨r0, hL⟩, zi 1, zi 2, zi 3, by rw [r4]; exact .inl ⟨35, rfl, txC35.symm⟩, fun t ht => absurd ht List.not_mem_nil, fun a ha k => by rw [n] at ha; rw [i a k (by omega)]; exact z a (by omega) k, by omega⟩, ⟨zi 7, zi 10, by rw [r6, hn], by rw [r8, hn], by rw [r9, hn]⟩, ⟨84, by rw [r5, hn]; rfl, .inl rfl, by omega, ⟨by decide, by decide⟩, fun j hj => ?_⟩, ⟨rfl, fun x hx _ => ⟨funext fun j => i x j (by omega), ro x (by omega)⟩, fun x hx => funext fun j => i x j (by omega), by omega⟩, by omega, ?_⟩
  · obtain rfl : j = 0 := by have : j < 1 := hj; omega
    exact ⟨i5, by decide, by decide⟩
  · show hS h + 1 + 8 + 6 + 6 = _
    omega
