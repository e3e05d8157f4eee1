/-! One act of the law: its pieces; both sides kept; room. -/
theorem ac_0 {d sm : Nat} {xx : Int32} {h : PH} {Q : Rs → PH → Prop} (k1 : ∀ w p : Int, 1 ≤ p → p ≤ 30 → Ev (d + 1) 27 (38, [some (.inr (.inr (.inr (1, 0, 1)))), some (.inr (.inr (.inr (12, 0, sm)))), some (.inl (xx)), some (.inl (iZ (w))), some (.inl (iZ (p))), none], [], h) Q) (k2 : ∀ w : Int, Ev (d + 1) 27 (59, [some (.inr (.inr (.inr (1, 0, 1)))), some (.inr (.inr (.inr (12, 0, sm)))), some (.inl (xx)), some (.inl (iZ (w))), none, none], [], h) Q) : Rn (d + 1) 27 [.inr (.inr (.inr (1, 0, 1))), .inr (.inr (.inr (12, 0, sm))), .inl (xx)] h Q := by
  refine Ev.sts 4 (c' := (6, [some (.inr (.inr (.inr (1, 0, 1)))), some (.inr (.inr (.inr (12, 0, sm)))), some (.inl (xx)), none, none, none], [.inl (iZ (9)), .inl ((xx >>> ((iZ (9)) &&& 31)))], h)) rfl ?_
  refine Ev.callw (a := [.inl ((xx >>> ((iZ (9)) &&& 31))), .inl (iZ (9))]) rfl (w_below ⟨by omega, by omega⟩ (fun w1 v1a v1b => ?_))
  refine Ev.sts 2 (c' := (11, [some (.inr (.inr (.inr (1, 0, 1)))), some (.inr (.inr (.inr (12, 0, sm)))), some (.inl (xx)), some (.inl (iZ (w1))), none, none], [.inl (iZ (w1))], h)) rfl ?_
  refine Ev.brc (p := ¬ (iZ (w1)) = (iZ (0))) (q := ¬ ((w1 : Int)) = 0) (c1 := (59, [some (.inr (.inr (.inr (1, 0, 1)))), some (.inr (.inr (.inr (12, 0, sm)))), some (.inl (xx)), some (.inl (iZ (w1))), none, none], [], h)) (c2 := (14, [some (.inr (.inr (.inr (1, 0, 1)))), some (.inr (.inr (.inr (12, 0, sm)))), some (.inl (xx)), some (.inl (iZ (w1))), none, none], [], h)) rfl (not_congr (iZ_eq ⟨by omega, by omega⟩ ⟨by omega, by omega⟩)) (fun c0 => ?_) (fun c0 => ?_)
  · exact k2 _
  · refine Ev.sts 6 (c' := (20, [some (.inr (.inr (.inr (1, 0, 1)))), some (.inr (.inr (.inr (12, 0, sm)))), some (.inl (xx)), some (.inl (iZ (w1))), none, none], [.inl (iZ (3)), .inl (xx), .inl ((xx >>> ((iZ (2)) &&& 31))), .inl (iZ (1))], h)) rfl ?_
    refine Ev.callw (a := [.inl (xx), .inl (iZ (3))]) rfl (w_below ⟨by omega, by omega⟩ (fun w2 v2a v2b => ?_))
    refine Ev.brc (p := ¬ (iZ (w2)) = (iZ (0))) (q := ¬ ((w2 : Int)) = 0) (c1 := (31, [some (.inr (.inr (.inr (1, 0, 1)))), some (.inr (.inr (.inr (12, 0, sm)))), some (.inl (xx)), some (.inl (iZ (w1))), none, none], [.inl ((xx >>> ((iZ (2)) &&& 31))), .inl (iZ (1))], h)) (c2 := (26, [some (.inr (.inr (.inr (1, 0, 1)))), some (.inr (.inr (.inr (12, 0, sm)))), some (.inl (xx)), some (.inl (iZ (w1))), none, none], [.inl ((xx >>> ((iZ (2)) &&& 31))), .inl (iZ (1))], h)) rfl (not_congr (iZ_eq ⟨by omega, by omega⟩ ⟨by omega, by omega⟩)) (fun c1 => ?_) (fun c1 => ?_)
    · refine Ev.sts 1 (c' := (32, [some (.inr (.inr (.inr (1, 0, 1)))), some (.inr (.inr (.inr (12, 0, sm)))), some (.inl (xx)), some (.inl (iZ (w1))), none, none], [.inl (iZ (3)), .inl ((xx >>> ((iZ (2)) &&& 31))), .inl (iZ (1))], h)) rfl ?_
      refine Ev.callw (a := [.inl ((xx >>> ((iZ (2)) &&& 31))), .inl (iZ (3))]) rfl (w_below ⟨by omega, by omega⟩ (fun w3 v3a v3b => ?_))
      refine Ev.gv (w := (iZ (1 + w3))) rfl (iZ_add _ _) ?_
      refine Ev.sts 1 (c' := (38, [some (.inr (.inr (.inr (1, 0, 1)))), some (.inr (.inr (.inr (12, 0, sm)))), some (.inl (xx)), some (.inl (iZ (w1))), some (.inl (iZ (1 + w3))), none], [], h)) rfl ?_
      exact k1 _ _ (by omega) (by omega)
    · refine Ev.sts 2 (c' := (32, [some (.inr (.inr (.inr (1, 0, 1)))), some (.inr (.inr (.inr (12, 0, sm)))), some (.inl (xx)), some (.inl (iZ (w1))), none, none], [.inl (iZ (30)), .inl ((xx >>> ((iZ (2)) &&& 31))), .inl (iZ (1))], h)) rfl ?_
      refine Ev.callw (a := [.inl ((xx >>> ((iZ (2)) &&& 31))), .inl (iZ (30))]) rfl (w_below ⟨by omega, by omega⟩ (fun w4 v4a v4b => ?_))
      refine Ev.gv (w := (iZ (1 + w4))) rfl (iZ_add _ _) ?_
      refine Ev.sts 1 (c' := (38, [some (.inr (.inr (.inr (1, 0, 1)))), some (.inr (.inr (.inr (12, 0, sm)))), some (.inl (xx)), some (.inl (iZ (w1))), some (.inl (iZ (1 + w4))), none], [], h)) rfl ?_
      exact k1 _ _ (by omega) (by omega)

theorem ac_59 {d sm n ca : Nat} {w gr : Int} {xx : Int32} {h : PH} {Q : Rs → PH → Prop} (hn : n < 120) (hgr : -1 ≤ gr ∧ gr ≤ 999) (e1 : h.2.2.1 sm 1 = (28, n, ca)) (e6 : h.1 sm 6 = iZ gr) (kk : ∀ w f a0 a1 a2 a3 : Int, (0 ≤ a0 ∧ a0 ≤ 999) → (0 ≤ a1 ∧ a1 ≤ 9) → (0 ≤ a2 ∧ a2 ≤ 99) → (0 ≤ a3 ∧ a3 ≤ 9) → Ev (d + 1) 27 (164, [some (.inr (.inr (.inr (1, 0, 1)))), some (.inr (.inr (.inr (12, 0, sm)))), some (.inl (xx)), some (.inl (iZ (w))), some (.inl (iZ (f))), some (.inr (.inr (.inr (20, 4, (hN h)))))], [], (setI (setI (setI (setI (grow h 4) (hN h) 0 (iZ a0)) (hN h) 1 (iZ a1)) (hN h) 2 (iZ a2)) (hN h) 3 (iZ a3))) Q) : Ev (d + 1) 27 (59, [some (.inr (.inr (.inr (1, 0, 1)))), some (.inr (.inr (.inr (12, 0, sm)))), some (.inl (xx)), some (.inl (iZ (w))), none, none], [], h) Q := by
  refine Ev.sts 1 (c' := (60, [some (.inr (.inr (.inr (1, 0, 1)))), some (.inr (.inr (.inr (12, 0, sm)))), some (.inl (xx)), some (.inl (iZ (w))), none, none], [.inr (.inr (.inr (12, 0, sm)))], h)) rfl ?_
  refine Ev.gfr (r := (28, n, ca)) rfl e1 ?_
  refine Ev.gv (w := (iZ (n))) rfl (iZ_nat _) ?_
  refine Ev.sts 1 (c' := (66, [some (.inr (.inr (.inr (1, 0, 1)))), some (.inr (.inr (.inr (12, 0, sm)))), some (.inl (xx)), some (.inl (iZ (w))), none, none], [.inl (iZ (120)), .inl (iZ (n))], h)) rfl ?_
  refine Ev.brT (p := ¬ (iZ (n)) = (iZ (120))) (c1 := (71, [some (.inr (.inr (.inr (1, 0, 1)))), some (.inr (.inr (.inr (12, 0, sm)))), some (.inl (xx)), some (.inl (iZ (w))), none, none], [], h)) (c2 := (69, [some (.inr (.inr (.inr (1, 0, 1)))), some (.inr (.inr (.inr (12, 0, sm)))), some (.inl (xx)), some (.inl (iZ (w))), none, none], [], h)) ((not_congr (iZ_eq ⟨by omega, by omega⟩ ⟨by omega, by omega⟩)).mpr (by omega)) rfl ?_
  refine Ev.sts 2 (c' := (74, [some (.inr (.inr (.inr (1, 0, 1)))), some (.inr (.inr (.inr (12, 0, sm)))), some (.inl (xx)), some (.inl (iZ (w))), none, none], [.inl (iZ (7)), .inl (xx)], h)) rfl ?_
  refine Ev.callw (a := [.inl (xx), .inl (iZ (7))]) rfl (w_below ⟨by omega, by omega⟩ (fun w5 v5a v5b => ?_))
  refine Ev.brc (p := ¬ (iZ (w5)) = (iZ (0))) (q := ¬ ((w5 : Int)) = 0) (c1 := (92, [some (.inr (.inr (.inr (1, 0, 1)))), some (.inr (.inr (.inr (12, 0, sm)))), some (.inl (xx)), some (.inl (iZ (w))), none, none], [], h)) (c2 := (80, [some (.inr (.inr (.inr (1, 0, 1)))), some (.inr (.inr (.inr (12, 0, sm)))), some (.inl (xx)), some (.inl (iZ (w))), none, none], [], h)) rfl (not_congr (iZ_eq ⟨by omega, by omega⟩ ⟨by omega, by omega⟩)) (fun c0 => ?_) (fun c0 => ?_)
  · refine Ev.sts 3 (c' := (97, [some (.inr (.inr (.inr (1, 0, 1)))), some (.inr (.inr (.inr (12, 0, sm)))), some (.inl (xx)), some (.inl (iZ (w))), none, none], [.inr (.inr (.inr (12, 0, sm))), .inl (iZ (999)), .inl (iZ (0))], h)) rfl ?_
    refine Ev.gv (w := (iZ (gr))) rfl e6 ?_
    refine Ev.sts 4 (c' := (105, [some (.inr (.inr (.inr (1, 0, 1)))), some (.inr (.inr (.inr (12, 0, sm)))), some (.inl (xx)), some (.inl (iZ (w))), none, none], [.inl (iZ (24)), .inl ((xx >>> ((iZ (2)) &&& 31))), .inl (iZ (gr)), .inl (iZ (999)), .inl (iZ (0))], h)) rfl ?_
    refine Ev.callw (a := [.inl ((xx >>> ((iZ (2)) &&& 31))), .inl (iZ (24))]) rfl (w_below ⟨by omega, by omega⟩ (fun w6 v6a v6b => ?_))
    refine Ev.gv (w := (iZ (gr + w6))) rfl (iZ_add _ _) ?_
    refine Ev.sts 1 (c' := (111, [some (.inr (.inr (.inr (1, 0, 1)))), some (.inr (.inr (.inr (12, 0, sm)))), some (.inl (xx)), some (.inl (iZ (w))), none, none], [.inl (iZ (9)), .inl (iZ (gr + w6)), .inl (iZ (999)), .inl (iZ (0))], h)) rfl ?_
    refine Ev.gv (w := (iZ ((gr + w6) - 9))) rfl (iZ_sub _ _) ?_
    refine Ev.gv (w := (iZ (min 999 ((gr + w6) - 9)))) rfl (iZ_min ⟨by omega, by omega⟩ ⟨by omega, by omega⟩) ?_
    refine Ev.gv (w := (iZ (max 0 (min 999 ((gr + w6) - 9))))) rfl (iZ_max ⟨by omega, by omega⟩ ⟨by omega, by omega⟩) ?_
    refine Ev.sts 2 (c' := (121, [some (.inr (.inr (.inr (1, 0, 1)))), some (.inr (.inr (.inr (12, 0, sm)))), some (.inl (xx)), some (.inl (iZ (w))), some (.inl (iZ (max 0 (min 999 ((gr + w6) - 9))))), none], [.inl (iZ (4))], h)) rfl ?_
    refine Ev.sts 1 (c' := (123, [some (.inr (.inr (.inr (1, 0, 1)))), some (.inr (.inr (.inr (12, 0, sm)))), some (.inl (xx)), some (.inl (iZ (w))), some (.inl (iZ (max 0 (min 999 ((gr + w6) - 9))))), none], [.inr (.inr (.inr (20, 4, (hN h))))], (grow h 4))) rfl ?_
    refine Ev.sts 3 (c' := (127, [some (.inr (.inr (.inr (1, 0, 1)))), some (.inr (.inr (.inr (12, 0, sm)))), some (.inl (xx)), some (.inl (iZ (w))), some (.inl (iZ (max 0 (min 999 ((gr + w6) - 9))))), none], [.inl (iZ (max 0 (min 999 ((gr + w6) - 9)))), .inl (iZ (0)), .inr (.inr (.inr (20, 4, (hN h)))), .inr (.inr (.inr (20, 4, (hN h))))], (grow h 4))) rfl ?_
    refine Ev.sto (j := (iZ (0))) (n := 4) (h2 := (setI (grow h 4) (hN h) 0 ((iZ (max 0 (min 999 ((gr + w6) - 9))))))) (by decide) rfl rfl ?_
    refine Ev.sts 6 (c' := (135, [some (.inr (.inr (.inr (1, 0, 1)))), some (.inr (.inr (.inr (12, 0, sm)))), some (.inl (xx)), some (.inl (iZ (w))), some (.inl (iZ (max 0 (min 999 ((gr + w6) - 9))))), none], [.inl (iZ (10)), .inl ((xx >>> ((iZ (3)) &&& 31))), .inl (iZ (1)), .inr (.inr (.inr (20, 4, (hN h)))), .inr (.inr (.inr (20, 4, (hN h))))], (setI (grow h 4) (hN h) 0 ((iZ (max 0 (min 999 ((gr + w6) - 9)))))))) rfl ?_
    refine Ev.callw (a := [.inl ((xx >>> ((iZ (3)) &&& 31))), .inl (iZ (10))]) rfl (w_below ⟨by omega, by omega⟩ (fun w7 v7a v7b => ?_))
    refine Ev.sto (j := (iZ (1))) (n := 4) (h2 := (setI (setI (grow h 4) (hN h) 0 ((iZ (max 0 (min 999 ((gr + w6) - 9)))))) (hN h) 1 ((iZ (w7))))) (by decide) rfl rfl ?_
    refine Ev.sts 6 (c' := (146, [some (.inr (.inr (.inr (1, 0, 1)))), some (.inr (.inr (.inr (12, 0, sm)))), some (.inl (xx)), some (.inl (iZ (w))), some (.inl (iZ (max 0 (min 999 ((gr + w6) - 9))))), none], [.inl (iZ (100)), .inl ((xx >>> ((iZ (5)) &&& 31))), .inl (iZ (2)), .inr (.inr (.inr (20, 4, (hN h)))), .inr (.inr (.inr (20, 4, (hN h))))], (setI (setI (grow h 4) (hN h) 0 ((iZ (max 0 (min 999 ((gr + w6) - 9)))))) (hN h) 1 ((iZ (w7)))))) rfl ?_
    refine Ev.callw (a := [.inl ((xx >>> ((iZ (5)) &&& 31))), .inl (iZ (100))]) rfl (w_below ⟨by omega, by omega⟩ (fun w8 v8a v8b => ?_))
    refine Ev.sto (j := (iZ (2))) (n := 4) (h2 := (setI (setI (setI (grow h 4) (hN h) 0 ((iZ (max 0 (min 999 ((gr + w6) - 9)))))) (hN h) 1 ((iZ (w7)))) (hN h) 2 ((iZ (w8))))) (by decide) rfl rfl ?_
    refine Ev.sts 6 (c' := (158, [some (.inr (.inr (.inr (1, 0, 1)))), some (.inr (.inr (.inr (12, 0, sm)))), some (.inl (xx)), some (.inl (iZ (w))), some (.inl (iZ (max 0 (min 999 ((gr + w6) - 9))))), none], [.inl (iZ (10)), .inl ((xx >>> ((iZ (7)) &&& 31))), .inl (iZ (3)), .inr (.inr (.inr (20, 4, (hN h)))), .inr (.inr (.inr (20, 4, (hN h))))], (setI (setI (setI (grow h 4) (hN h) 0 ((iZ (max 0 (min 999 ((gr + w6) - 9)))))) (hN h) 1 ((iZ (w7)))) (hN h) 2 ((iZ (w8)))))) rfl ?_
    refine Ev.callw (a := [.inl ((xx >>> ((iZ (7)) &&& 31))), .inl (iZ (10))]) rfl (w_below ⟨by omega, by omega⟩ (fun w9 v9a v9b => ?_))
    refine Ev.sto (j := (iZ (3))) (n := 4) (h2 := (setI (setI (setI (setI (grow h 4) (hN h) 0 ((iZ (max 0 (min 999 ((gr + w6) - 9)))))) (hN h) 1 ((iZ (w7)))) (hN h) 2 ((iZ (w8)))) (hN h) 3 ((iZ (w9))))) (by decide) rfl rfl ?_
    refine Ev.sts 1 (c' := (164, [some (.inr (.inr (.inr (1, 0, 1)))), some (.inr (.inr (.inr (12, 0, sm)))), some (.inl (xx)), some (.inl (iZ (w))), some (.inl (iZ (max 0 (min 999 ((gr + w6) - 9))))), some (.inr (.inr (.inr (20, 4, (hN h)))))], [], (setI (setI (setI (setI (grow h 4) (hN h) 0 ((iZ (max 0 (min 999 ((gr + w6) - 9)))))) (hN h) 1 ((iZ (w7)))) (hN h) 2 ((iZ (w8)))) (hN h) 3 ((iZ (w9)))))) rfl ?_
    exact kk _ _ (max 0 (min 999 ((gr + w6) - 9))) (w7) (w8) (w9) (by omega) (by omega) (by omega) (by omega)
  · refine Ev.sts 4 (c' := (86, [some (.inr (.inr (.inr (1, 0, 1)))), some (.inr (.inr (.inr (12, 0, sm)))), some (.inl (xx)), some (.inl (iZ (w))), none, none], [.inl (iZ (1000)), .inl ((xx >>> ((iZ (2)) &&& 31)))], h)) rfl ?_
    refine Ev.callw (a := [.inl ((xx >>> ((iZ (2)) &&& 31))), .inl (iZ (1000))]) rfl (w_below ⟨by omega, by omega⟩ (fun w10 v10a v10b => ?_))
    refine Ev.sts 3 (c' := (121, [some (.inr (.inr (.inr (1, 0, 1)))), some (.inr (.inr (.inr (12, 0, sm)))), some (.inl (xx)), some (.inl (iZ (w))), some (.inl (iZ (w10))), none], [.inl (iZ (4))], h)) rfl ?_
    refine Ev.sts 1 (c' := (123, [some (.inr (.inr (.inr (1, 0, 1)))), some (.inr (.inr (.inr (12, 0, sm)))), some (.inl (xx)), some (.inl (iZ (w))), some (.inl (iZ (w10))), none], [.inr (.inr (.inr (20, 4, (hN h))))], (grow h 4))) rfl ?_
    refine Ev.sts 3 (c' := (127, [some (.inr (.inr (.inr (1, 0, 1)))), some (.inr (.inr (.inr (12, 0, sm)))), some (.inl (xx)), some (.inl (iZ (w))), some (.inl (iZ (w10))), none], [.inl (iZ (w10)), .inl (iZ (0)), .inr (.inr (.inr (20, 4, (hN h)))), .inr (.inr (.inr (20, 4, (hN h))))], (grow h 4))) rfl ?_
    refine Ev.sto (j := (iZ (0))) (n := 4) (h2 := (setI (grow h 4) (hN h) 0 ((iZ (w10))))) (by decide) rfl rfl ?_
    refine Ev.sts 6 (c' := (135, [some (.inr (.inr (.inr (1, 0, 1)))), some (.inr (.inr (.inr (12, 0, sm)))), some (.inl (xx)), some (.inl (iZ (w))), some (.inl (iZ (w10))), none], [.inl (iZ (10)), .inl ((xx >>> ((iZ (3)) &&& 31))), .inl (iZ (1)), .inr (.inr (.inr (20, 4, (hN h)))), .inr (.inr (.inr (20, 4, (hN h))))], (setI (grow h 4) (hN h) 0 ((iZ (w10)))))) rfl ?_
    refine Ev.callw (a := [.inl ((xx >>> ((iZ (3)) &&& 31))), .inl (iZ (10))]) rfl (w_below ⟨by omega, by omega⟩ (fun w11 v11a v11b => ?_))
    refine Ev.sto (j := (iZ (1))) (n := 4) (h2 := (setI (setI (grow h 4) (hN h) 0 ((iZ (w10)))) (hN h) 1 ((iZ (w11))))) (by decide) rfl rfl ?_
    refine Ev.sts 6 (c' := (146, [some (.inr (.inr (.inr (1, 0, 1)))), some (.inr (.inr (.inr (12, 0, sm)))), some (.inl (xx)), some (.inl (iZ (w))), some (.inl (iZ (w10))), none], [.inl (iZ (100)), .inl ((xx >>> ((iZ (5)) &&& 31))), .inl (iZ (2)), .inr (.inr (.inr (20, 4, (hN h)))), .inr (.inr (.inr (20, 4, (hN h))))], (setI (setI (grow h 4) (hN h) 0 ((iZ (w10)))) (hN h) 1 ((iZ (w11)))))) rfl ?_
    refine Ev.callw (a := [.inl ((xx >>> ((iZ (5)) &&& 31))), .inl (iZ (100))]) rfl (w_below ⟨by omega, by omega⟩ (fun w12 v12a v12b => ?_))
    refine Ev.sto (j := (iZ (2))) (n := 4) (h2 := (setI (setI (setI (grow h 4) (hN h) 0 ((iZ (w10)))) (hN h) 1 ((iZ (w11)))) (hN h) 2 ((iZ (w12))))) (by decide) rfl rfl ?_
    refine Ev.sts 6 (c' := (158, [some (.inr (.inr (.inr (1, 0, 1)))), some (.inr (.inr (.inr (12, 0, sm)))), some (.inl (xx)), some (.inl (iZ (w))), some (.inl (iZ (w10))), none], [.inl (iZ (10)), .inl ((xx >>> ((iZ (7)) &&& 31))), .inl (iZ (3)), .inr (.inr (.inr (20, 4, (hN h)))), .inr (.inr (.inr (20, 4, (hN h))))], (setI (setI (setI (grow h 4) (hN h) 0 ((iZ (w10)))) (hN h) 1 ((iZ (w11)))) (hN h) 2 ((iZ (w12)))))) rfl ?_
    refine Ev.callw (a := [.inl ((xx >>> ((iZ (7)) &&& 31))), .inl (iZ (10))]) rfl (w_below ⟨by omega, by omega⟩ (fun w13 v13a v13b => ?_))
    refine Ev.sto (j := (iZ (3))) (n := 4) (h2 := (setI (setI (setI (setI (grow h 4) (hN h) 0 ((iZ (w10)))) (hN h) 1 ((iZ (w11)))) (hN h) 2 ((iZ (w12)))) (hN h) 3 ((iZ (w13))))) (by decide) rfl rfl ?_
    refine Ev.sts 1 (c' := (164, [some (.inr (.inr (.inr (1, 0, 1)))), some (.inr (.inr (.inr (12, 0, sm)))), some (.inl (xx)), some (.inl (iZ (w))), some (.inl (iZ (w10))), some (.inr (.inr (.inr (20, 4, (hN h)))))], [], (setI (setI (setI (setI (grow h 4) (hN h) 0 ((iZ (w10)))) (hN h) 1 ((iZ (w11)))) (hN h) 2 ((iZ (w12)))) (hN h) 3 ((iZ (w13)))))) rfl ?_
    exact kk _ _ (w10) (w11) (w12) (w13) (by omega) (by omega) (by omega) (by omega)

theorem ac_38 {d sm : Nat} {w p : Int} {xx : Int32} {P1 : PH → Int32 → Prop} {P2 : PH → Prop} {h : PH} {Q : Rs → PH → Prop} (hc : ∀ Q1 : Rs → PH → Prop, (∀ h1 t, P1 h1 t → Q1 (.inl (some (.inl t))) h1) → Rn d 70 [.inr (.inr (.inr (1, 0, 1))), .inl (iZ p)] h Q1) (hs : ∀ h1 t, P1 h1 t → ∀ Q1 : Rs → PH → Prop, (∀ h2, P2 h2 → Q1 (.inl (some (.inl t))) h2) → Rn d 175 [.inr (.inr (.inr (12, 0, sm))), .inl (iZ p)] h1 Q1) (q : ∀ h2, P2 h2 → Q (.inl (some (.inl (iZ 1)))) h2) : Ev (d + 1) 27 (38, [some (.inr (.inr (.inr (1, 0, 1)))), some (.inr (.inr (.inr (12, 0, sm)))), some (.inl (xx)), some (.inl (iZ (w))), some (.inl (iZ (p))), none], [], h) Q := by
  refine Ev.sts 2 (c' := (41, [some (.inr (.inr (.inr (1, 0, 1)))), some (.inr (.inr (.inr (12, 0, sm)))), some (.inl (xx)), some (.inl (iZ (w))), some (.inl (iZ (p))), none], [.inl (iZ (p)), .inr (.inr (.inr (1, 0, 1)))], h)) rfl ?_
  refine Ev.callw (a := [.inr (.inr (.inr (1, 0, 1))), .inl (iZ (p))]) rfl (hc _ (fun h1 t p1 => ?_))
  refine Ev.sts 2 (c' := (47, [some (.inr (.inr (.inr (1, 0, 1)))), some (.inr (.inr (.inr (12, 0, sm)))), some (.inl (xx)), some (.inl (iZ (w))), some (.inl (iZ (p))), none], [.inl (iZ (p)), .inr (.inr (.inr (12, 0, sm))), .inl (t)], h1)) rfl ?_
  refine Ev.callw (a := [.inr (.inr (.inr (12, 0, sm))), .inl (iZ (p))]) rfl (hs h1 t p1 _ (fun h2 p2 => ?_))
  refine Ev.brF (p := ¬ t = t) (c1 := (57, [some (.inr (.inr (.inr (1, 0, 1)))), some (.inr (.inr (.inr (12, 0, sm)))), some (.inl (xx)), some (.inl (iZ (w))), some (.inl (iZ (p))), none], [], h2)) (c2 := (53, [some (.inr (.inr (.inr (1, 0, 1)))), some (.inr (.inr (.inr (12, 0, sm)))), some (.inl (xx)), some (.inl (iZ (w))), some (.inl (iZ (p))), none], [], h2)) (fun c_ => c_ rfl) rfl ?_
  refine Ev.sts 2 (c' := (58, [some (.inr (.inr (.inr (1, 0, 1)))), some (.inr (.inr (.inr (12, 0, sm)))), some (.inl (xx)), some (.inl (iZ (w))), some (.inl (iZ (p))), none], [.inl (iZ (1))], h2)) rfl ?_
  exact Ev.ret rfl (q h2 p2)

theorem ac_164 {d sm rw : Nat} {w f : Int} {x : Ctx} {xx : Int32} {P1 : PH → Int32 → Prop} {P2 : PH → Prop} {h : PH} {Q : Rs → PH → Prop} (co : coR h rw x) (hc : ∀ Q1 : Rs → PH → Prop, (∀ h1 t, P1 h1 t → Q1 (.inl (some (.inl t))) h1) → Rn d 73 [.inr (.inr (.inr (1, 0, 1))), .inl (iZ x.1), .inl (iZ x.2.1), .inl (iZ x.2.2.1), .inl (iZ x.2.2.2)] h Q1) (hs : ∀ h1 t, P1 h1 t → ∀ Q1 : Rs → PH → Prop, (∀ h2, P2 h2 → Q1 (.inl (some (.inl t))) h2) → Rn d 179 [.inr (.inr (.inr (12, 0, sm))), .inr (.inr (.inr (20, 4, rw)))] h1 Q1) (q : ∀ h2, P2 h2 → Q (.inl (some (.inl (iZ 1)))) h2) : Ev (d + 1) 27 (164, [some (.inr (.inr (.inr (1, 0, 1)))), some (.inr (.inr (.inr (12, 0, sm)))), some (.inl (xx)), some (.inl (iZ (w))), some (.inl (iZ (f))), some (.inr (.inr (.inr (20, 4, rw))))], [], h) Q := by
  refine Ev.sts 3 (c' := (168, [some (.inr (.inr (.inr (1, 0, 1)))), some (.inr (.inr (.inr (12, 0, sm)))), some (.inl (xx)), some (.inl (iZ (w))), some (.inl (iZ (f))), some (.inr (.inr (.inr (20, 4, rw))))], [.inl (iZ (0)), .inr (.inr (.inr (20, 4, rw))), .inr (.inr (.inr (1, 0, 1)))], h)) rfl ?_
  refine Ev.ldv (j := (iZ (0))) (n := 4) (w := .inl (iZ (x.1))) (by decide) rfl (congrArg vI co.1) ?_
  refine Ev.sts 2 (c' := (172, [some (.inr (.inr (.inr (1, 0, 1)))), some (.inr (.inr (.inr (12, 0, sm)))), some (.inl (xx)), some (.inl (iZ (w))), some (.inl (iZ (f))), some (.inr (.inr (.inr (20, 4, rw))))], [.inl (iZ (1)), .inr (.inr (.inr (20, 4, rw))), .inl (iZ (x.1)), .inr (.inr (.inr (1, 0, 1)))], h)) rfl ?_
  refine Ev.ldv (j := (iZ (1))) (n := 4) (w := .inl (iZ (x.2.1))) (by decide) rfl (congrArg vI co.2.1) ?_
  refine Ev.sts 2 (c' := (176, [some (.inr (.inr (.inr (1, 0, 1)))), some (.inr (.inr (.inr (12, 0, sm)))), some (.inl (xx)), some (.inl (iZ (w))), some (.inl (iZ (f))), some (.inr (.inr (.inr (20, 4, rw))))], [.inl (iZ (2)), .inr (.inr (.inr (20, 4, rw))), .inl (iZ (x.2.1)), .inl (iZ (x.1)), .inr (.inr (.inr (1, 0, 1)))], h)) rfl ?_
  refine Ev.ldv (j := (iZ (2))) (n := 4) (w := .inl (iZ (x.2.2.1))) (by decide) rfl (congrArg vI co.2.2.1) ?_
  refine Ev.sts 2 (c' := (180, [some (.inr (.inr (.inr (1, 0, 1)))), some (.inr (.inr (.inr (12, 0, sm)))), some (.inl (xx)), some (.inl (iZ (w))), some (.inl (iZ (f))), some (.inr (.inr (.inr (20, 4, rw))))], [.inl (iZ (3)), .inr (.inr (.inr (20, 4, rw))), .inl (iZ (x.2.2.1)), .inl (iZ (x.2.1)), .inl (iZ (x.1)), .inr (.inr (.inr (1, 0, 1)))], h)) rfl ?_
  refine Ev.ldv (j := (iZ (3))) (n := 4) (w := .inl (iZ (x.2.2.2))) (by decide) rfl (congrArg vI co.2.2.2) ?_
  refine Ev.callw (a := [.inr (.inr (.inr (1, 0, 1))), .inl (iZ (x.1)), .inl (iZ (x.2.1)), .inl (iZ (x.2.2.1)), .inl (iZ (x.2.2.2))]) rfl (hc _ (fun h1 t p1 => ?_))
  refine Ev.sts 2 (c' := (187, [some (.inr (.inr (.inr (1, 0, 1)))), some (.inr (.inr (.inr (12, 0, sm)))), some (.inl (xx)), some (.inl (iZ (w))), some (.inl (iZ (f))), some (.inr (.inr (.inr (20, 4, rw))))], [.inr (.inr (.inr (20, 4, rw))), .inr (.inr (.inr (12, 0, sm))), .inl (t)], h1)) rfl ?_
  refine Ev.callw (a := [.inr (.inr (.inr (12, 0, sm))), .inr (.inr (.inr (20, 4, rw)))]) rfl (hs h1 t p1 _ (fun h2 p2 => ?_))
  refine Ev.brF (p := ¬ t = t) (c1 := (197, [some (.inr (.inr (.inr (1, 0, 1)))), some (.inr (.inr (.inr (12, 0, sm)))), some (.inl (xx)), some (.inl (iZ (w))), some (.inl (iZ (f))), some (.inr (.inr (.inr (20, 4, rw))))], [], h2)) (c2 := (193, [some (.inr (.inr (.inr (1, 0, 1)))), some (.inr (.inr (.inr (12, 0, sm)))), some (.inl (xx)), some (.inl (iZ (w))), some (.inl (iZ (f))), some (.inr (.inr (.inr (20, 4, rw))))], [], h2)) (fun c_ => c_ rfl) rfl ?_
  refine Ev.sts 2 (c' := (198, [some (.inr (.inr (.inr (1, 0, 1)))), some (.inr (.inr (.inr (12, 0, sm)))), some (.inl (xx)), some (.inl (iZ (w))), some (.inl (iZ (f))), some (.inr (.inr (.inr (20, 4, rw))))], [.inl (iZ (1))], h2)) rfl ?_
  exact Ev.ret rfl (q h2 p2)

/-- the class's rows lie where they did at first, or behind the hand's -/
def uB (u : Q5) (sm : Nat) : Prop := (u.1 ≤ 67 ∨ sm + 5 < u.1) ∧ (u.2.1 ≤ 67 ∨ sm + 5 < u.2.1) ∧ (u.2.2.1 ≤ 67 ∨ sm + 5 < u.2.2.1) ∧ (u.2.2.2.1 ≤ 67 ∨ sm + 5 < u.2.2.2.1) ∧ (u.2.2.2.2 ≤ 67 ∨ sm + 5 < u.2.2.2.2)
theorem uB_n {u : Q5} {sm a : Nat} (b : uB u sm) (h1 : 68 ≤ a) (h2 : a ≤ sm + 5) : qN u a := by
  obtain ⟨b1, b2, b3, b4, b5⟩ := b
  exact ⟨by omega, by omega, by omega, by omega, by omega⟩
theorem uB_U {u u1 : Q5} {sm N : Nat} (b : uB u sm) (q : qU u u1 N) (h : sm + 5 < N) : uB u1 sm := by
  obtain ⟨b1, b2, b3, b4, b5⟩ := b
  obtain ⟨q1, q2, q3, q4, q5⟩ := q
  exact ⟨by omega, by omega, by omega, by omega, by omega⟩
theorem qN_U {u u1 : Q5} {N a : Nat} (q : qU u u1 N) (h : qN u a) (l : a < N) : qN u1 a := by
  obtain ⟨q1, q2, q3, q4, q5⟩ := q
  obtain ⟨n1, n2, n3, n4, n5⟩ := h
  exact ⟨by omega, by omega, by omega, by omega, by omega⟩
theorem pI_FX {h h1 : PH} {u u1 : Q5} {n n1 sm a : Nat} (f : FX pCl h h1 u u1 n n1) (p : pI sm u (hN h) a) (hs : 88 ≤ sm) : pI sm u1 (hN h1) a ∧ h1.1 a = h.1 a := by
  obtain ⟨p1, p2, p3⟩ := p
  exact ⟨⟨p1, Nat.lt_of_lt_of_le p2 f.2.2.2.1, qN_U f.2.2.2.2.2.2.2 p3 p2⟩, f.2.2.1 a (fun z => by have : 1 ≤ a ∧ a ≤ 82 := z; omega) (by omega) p3 p2⟩
/-- the class's step leaves the hand's stream -/
theorem SM_FX {h h1 : PH} {u u1 : Q5} {n n1 sm ca ka oa ta : Nat} {M : Ms} (x : SMh h sm u ca ka oa ta M) (f : FX pCl h h1 u u1 n n1) (b : uB u sm) : SMh h1 sm u1 ca ka oa ta M := by
  obtain ⟨x0, ⟨c1, c2, cr, c3⟩, ⟨k1, k2, kr, k3⟩, ⟨o1, o2, fl, fr, o3⟩, ⟨t1, t2, tf, tr, t3⟩, x5, x6, x7, x8⟩ := x
  have hs := x8.1
  have N := f.2.2.2.1
  have R : ∀ a, a ≠ 62 → h1.2.2.1 a = h.2.2.1 a := fun a ha => funext fun k => f.2.1 a k ha
  have I : ∀ a, a = sm ∨ a = sm + 5 → h1.1 a = h.1 a := fun a ha => f.2.2.1 a (fun z => by have : 1 ≤ a ∧ a ≤ 82 := z; omega) (by omega) (uB_n b (by omega) (by omega)) (by omega)
  refine ⟨by rw [R sm (by omega)]; exact x0, ⟨by rw [R sm (by omega)]; exact c1, ⟨c2.1, by omega⟩, cr, fun j hj => ?_⟩, ⟨by rw [R sm (by omega)]; exact k1, ⟨k2.1, by omega⟩, kr, fun j hj => ?_⟩, ⟨by rw [R sm (by omega)]; exact o1, ⟨o2.1, by omega⟩, fl, fr, fun j hj => ?_⟩, ⟨by rw [R sm (by omega)]; exact t1, ⟨t2.1, by omega⟩, tf, tr, fun j hj => ?_⟩, sNm_e (I sm (.inl rfl)) x5, sLt_e (I _ (.inr rfl)) (by rw [R sm (by omega)]) x6, x7, ⟨hs, by omega⟩⟩
  · obtain ⟨y1, y2, y3⟩ := c3 j hj
    obtain ⟨p, e⟩ := pI_FX f y2 hs
    exact ⟨by rw [R ca (by omega)]; exact y1, p, by unfold coR; rw [e]; exact y3⟩
  · obtain ⟨y1, y2, y3⟩ := k3 j hj
    obtain ⟨p, e⟩ := pI_FX f y2 hs
    exact ⟨by rw [R ka (by omega)]; exact y1, p, by unfold tkR; rw [e]; exact y3⟩
  · obtain ⟨y1, y2, y3⟩ := o3 j hj
    obtain ⟨p, e⟩ := pI_FX f y2 hs
    exact ⟨by rw [R oa (by omega)]; exact y1, p, wRw_e e y3⟩
  · obtain ⟨y1, y2, y3⟩ := t3 j hj
    obtain ⟨p, e⟩ := pI_FX f y2 hs
    exact ⟨by rw [R ta (by omega)]; exact y1, p, wRw_e e y3⟩
theorem BH_FX {h0 h h1 : PH} {u u1 : Q5} {n n1 sm mn al : Nat} {B : Bk} (x : BH h0 h sm B mn al) (f : FX pCl h h1 u u1 n n1) (b : uB u sm) (hn : sm + 5 < hN h) : BH h0 h1 sm B mn al := by
  have hs := x.2.2.1
  refine BH_k x (Kp_m (Kp_FX (by omega) f) (by omega) (fun a ha c => ?_))
  rcases c with c | c
  · exact c.2
  · apply Classical.byContradiction
    intro k
    exact c (uB_n b (by omega) (by omega))
/-- the hand's step leaves the class -/
theorem CI_SI {h h1 : PH} {S : Sta} {b n sm oa : Nat} {u : Q5} (I : CI h S b n u) (w5 : (bkS S).2.2.length ≤ 6) (s : SI sm oa h h1) (ub : uB u sm) (hs : 88 ≤ sm) (ho : sm ≤ oa) : CI h1 S b n u := by
  have hn := ci_hN I
  have R : ∀ a, a ≤ 82 → h1.2.2.1 a = h.2.2.1 a := fun a ha => s.2.1 a (by omega) (by omega) (by omega)
  refine CI_keep I w5 (fun a a1 a2 => s.1 a (by omega) (by omega) (by omega)) (fun a q1 q2 => s.1 a q1.2 (fun z => q2 (uB_n ub (by omega) (by omega))) (fun z => q2 (uB_n ub (by omega) (by omega)))) (fun a k ha => by rw [R a ha]) (fun t ht => by rw [R t.1 (by have := shL_83 t ht; omega)]; exact ci_sh I t ht) s.2.2.2
/-- how many windows of a goose are open at once -/
def oyG (G : Gs) : Nat := if G.2.2.1 = 0 then 70 else if G.2.2.1 = 1 then 105 else 56
def oyB (B : Bk) : Nat → Nat → Nat
  | 0, _ => 0
  | m + 1, g => oyG (B.2.2.getD g g0) + oyB B m (g + 1)
theorem cy_oy {B : Bk} : ∀ m g, 49 * cyB B m g + oyB B m g ≤ 399 * m := by
  intro m
  induction m with
  | zero => intro g; exact Nat.le_refl _
  | succ m ih =>
    intro g
    have i := ih (g + 1)
    have e : 49 * cyG (B.2.2.getD g g0) + oyG (B.2.2.getD g g0) ≤ 399 := by
      unfold cyG oyG
      by_cases c : (B.2.2.getD g g0).2.2.1 = 0
      · rw [if_pos c, if_pos c]; decide
      · rw [if_neg c, if_neg c]
        by_cases c1 : (B.2.2.getD g g0).2.2.1 = 1
        · rw [if_pos c1, if_pos c1]; decide
        · rw [if_neg c1, if_neg c1]; decide
    show 49 * (cyG (B.2.2.getD g g0) + cyB B m (g + 1)) + (oyG (B.2.2.getD g g0) + oyB B m (g + 1)) ≤ 399 * (m + 1)
    omega
theorem cyB_7 {B : Bk} : ∀ m g, cyB B m g ≤ 7 * m := by
  intro m
  induction m with
  | zero => intro g; exact Nat.le_refl _
  | succ m ih =>
    intro g
    have i := ih (g + 1)
    have e : cyG (B.2.2.getD g g0) ≤ 7 := by
      unfold cyG
      split
      · decide
      · split <;> decide
    show cyG (B.2.2.getD g g0) + cyB B m (g + 1) ≤ 7 * (m + 1)
    omega
theorem lnL_L {tl : Nat → Nat} {f : Nat → Nat → Int32} : ∀ (n g : Nat) (L : List Wn), sL L → (∀ x ∈ L, g ≤ x.1 ∧ x.1 < g + n) → L.length = lnL (rwL tl f L) n g := by
  intro n
  induction n with
  | zero =>
    intro g L _ h
    cases L with
    | nil => rfl
    | cons x L => have := h x List.mem_cons_self; omega
  | succ n ih =>
    intro g L s h
    have e := spl (g := g) L s (fun x hx => (h x hx).1)
    have i := ih (g + 1) (L.filter (fun w => decide (¬ w.1 = g))) (sL_flt s) (fun x hx => by
      obtain ⟨h1, h2⟩ := List.mem_filter.mp hx
      have := h x h1
      have h2 := of_decide_eq_true h2
      omega)
    have lc : ∀ m k (ws ws2 : Nat → List Win), (∀ g2, k ≤ g2 → ws g2 = ws2 g2) → lnL ws m k = lnL ws2 m k := by
      intro m
      induction m with
      | zero => intro k ws ws2 _; rfl
      | succ m ihm =>
        intro k ws ws2 hw
        show (ws k).length + lnL ws m (k + 1) = (ws2 k).length + lnL ws2 m (k + 1)
        rw [hw k (Nat.le_refl _), ihm (k + 1) ws ws2 (fun g2 hg => hw g2 (by omega))]
    rw [lc n (g + 1) _ (rwL tl f L) (fun g2 hg => flt_o (by omega) L)] at i
    have l1 : (rwL tl f L g).length = (L.filter (fun w => decide (w.1 = g))).length := List.length_map _
    have l2 : L.length = (L.filter (fun w => decide (w.1 = g)) ++ L.filter (fun w => decide (¬ w.1 = g))).length := congrArg List.length e
    rw [List.length_append] at l2
    show L.length = (rwL tl f L g).length + lnL (rwL tl f L) n (g + 1)
    omega
theorem row_56 {st wd gr wm : Int} (hs : 2 ≤ st) (h7 : wd < 7 * st) (h1 : 1 ≤ wd) (hw : gr - 99 ≤ wm) {W : List Win} (hp : W.Pairwise (fun x y => x.1 < y.1)) (h : ∀ w ∈ W, w.1 ≤ gr ∧ w.1 % st = 0 ∧ w.2.1 = w.1 + wd ∧ wm < w.2.1) : W.length ≤ 56 := by
  by_cases z : W = []
  · subst z; exact Nat.zero_le _
  · obtain ⟨w, hm⟩ := List.exists_mem_of_ne_nil W z
    obtain ⟨x1, x2, x3, x4⟩ := h w hm
    have r := row_len (st := st) (by omega) W (gr - 98 - wd) (hi := gr) (by omega) (fun v hv => by
      obtain ⟨v1, v2, v3, v4⟩ := h v hv
      exact ⟨by omega, v1, v2⟩) hp
    apply Classical.byContradiction
    intro c
    have m : st * 57 ≤ st * (W.length : Int) := Int.mul_le_mul_of_nonneg_left (by omega) (by omega)
    omega
theorem oy_ok {S : Sta} {M : Ms} {B : Bk} {gv : Nat → Ctx → Int32 → Int32} {N : Nat} (ms : MSy S M B gv) (mi : MIy M B) (w : WSr S N (wmS S)) (bg : bkG B) (hn : (yC M).length ≤ 70) : (yO M).length ≤ oyB B B.2.2.length 0 := by
  obtain ⟨e1, e2, e3, e4, e5, e6, e7, e8⟩ := ms
  obtain ⟨m1, m2, m3, m4, m5⟩ := mi
  obtain ⟨w1, w2, w3, w4, w5, w6, w7, w8⟩ := w
  rw [lnL_L (tl := tlY B) (f := fY B gv (yC M)) B.2.2.length 0 (yO M) m1 (fun x hx => ⟨Nat.zero_le _, by have := (m2 x hx).2; omega⟩)]
  have len : (csS S).length = (yC M).length := by rw [e2]; exact List.length_map _
  have b1 : ∀ g, g < B.2.2.length → (rwL (tlY B) (fY B gv (yC M)) (yO M) g).length ≤ oyG (B.2.2.getD g g0) := fun g hg => by
    have r := (w6 g).1 (by rw [e1]; exact hg)
    rw [e1, e6] at r
    obtain ⟨b1, b2, b3, b4, b5⟩ := bg.2 g hg
    unfold oyG
    by_cases c : (B.2.2.getD g g0).2.2.1 = 0
    · rw [if_pos c]
      have := gG_len (r.1 c)
      omega
    · rw [if_neg c]
      have q := r.2 c
      have q2 : ∀ v ∈ rwL (tlY B) (fY B gv (yC M)) (yO M) g, v.1 ≤ grS S ∧ v.1 % (B.2.2.getD g g0).2.2.1 = 0 ∧ v.2.1 = v.1 + (B.2.2.getD g g0).2.1 ∧ wmS S < v.2.1 := fun v hv => by
        obtain ⟨a1, a2, a3, a4, a5, _⟩ := q.2 v hv
        exact ⟨a2, a3, a4, a5⟩
      by_cases c1 : (B.2.2.getD g g0).2.2.1 = 1
      · rw [if_pos c1]
        exact row_105 (by omega) (b5 c) b1 (by omega) q.1 q2
      · rw [if_neg c1]
        exact row_56 (by omega) (b5 c) b1 (by omega) q.1 q2
  have : ∀ m g, g + m = B.2.2.length → lnL (rwL (tlY B) (fY B gv (yC M)) (yO M)) m g ≤ oyB B m g := by
    intro m
    induction m with
    | zero => intro g _; exact Nat.le_refl _
    | succ m ih =>
      intro g hg
      have i := ih (g + 1) (by omega)
      have j := b1 g (by omega)
      show (rwL (tlY B) (fY B gv (yC M)) (yO M) g).length + lnL (rwL (tlY B) (fY B gv (yC M)) (yO M)) m (g + 1) ≤ oyG (B.2.2.getD g g0) + oyB B m (g + 1)
      omega
  exact this B.2.2.length 0 (by omega)
