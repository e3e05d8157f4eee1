/-! The book's moon, its first walk. -/
theorem md_0 {d L dr tk ln : Nat} {x1 x2 x3 : Option VV} {tp : List Int} {h : PH} {Q : Rs → PH → Prop} (b : BKl h L dr tk ln tp) (hd : dr < 100000) (k0 : ∀ h1, BKl h1 L (dr + 1) tk ln tp → FB h h1 → hN h1 = hN h → hS h1 = hS h → Ev (d + 2) 161 (163, [some (.inr (.inr (.inr (11, 0, 83)))), x1, x2, x3], [], h1) Q) (k1 : ∀ (h1 : PH) (M : Nat), BKl h1 L (dr + 1 + 1) tk ln tp → FB h h1 → (1 ≤ M ∧ M ≤ 4) → hN h1 = hN h → hS h1 = hS h → Ev (d + 2) 161 (21, [some (.inr (.inr (.inr (11, 0, 83)))), x1, x2, x3], [], (setR (grow h1 M) 83 5 (20, M, hN h1))) Q) : Ev (d + 2) 161 (0, [some (.inr (.inr (.inr (11, 0, 83)))), x1, x2, x3], [], h) Q := by
  refine Ev.sts 2 (c' := (2, [some (.inr (.inr (.inr (11, 0, 83)))), x1, x2, x3], [.inl (iZ (2)), .inr (.inr (.inr (11, 0, 83)))], h)) rfl ?_
  refine Ev.callw (a := [.inr (.inr (.inr (11, 0, 83))), .inl (iZ (2))]) rfl (bl_draw b (by omega) ⟨by omega, by omega⟩ (fun w1 h1 v1a v1b b1 f1 n1 m1 => ?_))
  refine Ev.brc (p := ¬ (iZ (w1)) = (iZ (0))) (q := ¬ ((w1 : Int)) = 0) (c1 := (163, [some (.inr (.inr (.inr (11, 0, 83)))), x1, x2, x3], [], h1)) (c2 := (8, [some (.inr (.inr (.inr (11, 0, 83)))), x1, x2, x3], [], h1)) rfl (not_congr (iZ_eq ⟨by omega, by omega⟩ ⟨by omega, by omega⟩)) (fun c0 => ?_) (fun c0 => ?_)
  · exact k0 h1 b1 f1 (by omega) (by omega)
  · refine Ev.sts 4 (c' := (12, [some (.inr (.inr (.inr (11, 0, 83)))), x1, x2, x3], [.inl (iZ (4)), .inr (.inr (.inr (11, 0, 83))), .inl (iZ (1)), .inr (.inr (.inr (11, 0, 83)))], h1)) rfl ?_
    refine Ev.callw (a := [.inr (.inr (.inr (11, 0, 83))), .inl (iZ (4))]) rfl (bl_draw b1 (by omega) ⟨by omega, by omega⟩ (fun w2 h2 v2a v2b b2 f2 n2 m2 => ?_))
    refine Ev.gv (w := (iZ (1 + w2))) rfl (iZ_add _ _) ?_
    refine Ev.pc (p := (iZ (1 + w2)) < 0 ∨ 100000 < ((iZ (1 + w2))).toNatClampNeg) (c1 := (18, [some (.inr (.inr (.inr (11, 0, 83)))), x1, x2, x3], [.inr (.inr (.inr (20, ((iZ (1 + w2))).toNatClampNeg, (hN h2)))), .inr (.inr (.inr (11, 0, 83)))], (grow h2 (((iZ (1 + w2))).toNatClampNeg)))) (c2 := (18, [some (.inr (.inr (.inr (11, 0, 83)))), x1, x2, x3], [.inr (.inr (.inr (20, ((1 + w2).toNat), (hN h2)))), .inr (.inr (.inr (11, 0, 83)))], (grow h2 ((1 + w2).toNat)))) (nwa_in (by omega) (by omega)) rfl (by rw [iZ_ix (n := (1 + w2).toNat) (by omega) (by omega)]) ?_
    refine Ev.sts 1 (c' := (21, [some (.inr (.inr (.inr (11, 0, 83)))), x1, x2, x3], [], (setR (grow h2 ((1 + w2).toNat)) 83 5 (20, ((1 + w2).toNat), (hN h2))))) rfl ?_
    exact k1 h2 _ b2 (FB_t f1 f2) ⟨by omega, by omega⟩ (by omega) (by omega)

theorem md_49 {d L dr tk ln k M ma : Nat} {x2 x3 : Option VV} {tp : List Int} {h : PH} {Q : Rs → PH → Prop} (g : GWb h ma L dr tk ln tp) (hd : dr < 100000) (hmo : h.2.2.1 83 5 = (20, M, ma)) (hM : M ≤ 4) (hk : k ≤ M) (kd : k = M → Ev (d + 2) 161 (137, [some (.inr (.inr (.inr (11, 0, 83)))), some (.inl (iZ ((k : Int)))), x2, x3], [], h) Q) (kn : k < M → ∀ (h1 : PH) (w : Int) (dr1 : Nat), GWb h1 ma L dr1 tk ln tp → KGa ma h h1 → (∀ j, h1.1 ma j = h.1 ma j) → (0 ≤ w ∧ w ≤ 99) → hN h1 = hN h → hS h1 = hS h → dr1 ≤ dr + 2 → Ev (d + 2) 161 (87, [some (.inr (.inr (.inr (11, 0, 83)))), some (.inl (iZ ((k : Int)))), x2, x3], [], (setI h1 ma k (iZ (w)))) Q) : Ev (d + 2) 161 (49, [some (.inr (.inr (.inr (11, 0, 83)))), some (.inl (iZ ((k : Int)))), x2, x3], [], h) Q := by
  refine Ev.sts 2 (c' := (51, [some (.inr (.inr (.inr (11, 0, 83)))), some (.inl (iZ ((k : Int)))), x2, x3], [.inr (.inr (.inr (11, 0, 83))), .inl (iZ ((k : Int)))], h)) rfl ?_
  refine Ev.gfr (r := (20, M, ma)) rfl hmo ?_
  refine Ev.gv (w := (iZ (M))) rfl (iZ_nat _) ?_
  refine Ev.brc (p := (iZ (M)) ≤ (iZ ((k : Int)))) (q := ((M : Int)) ≤ (k : Int)) (c1 := (137, [some (.inr (.inr (.inr (11, 0, 83)))), some (.inl (iZ ((k : Int)))), x2, x3], [], h)) (c2 := (58, [some (.inr (.inr (.inr (11, 0, 83)))), some (.inl (iZ ((k : Int)))), x2, x3], [], h)) rfl (iZ_le ⟨by omega, by omega⟩ ⟨by omega, by omega⟩) (fun c0 => ?_) (fun c0 => ?_)
  · exact kd (by omega)
  · refine Ev.sts 1 (c' := (59, [some (.inr (.inr (.inr (11, 0, 83)))), some (.inl (iZ ((k : Int)))), x2, x3], [.inr (.inr (.inr (11, 0, 83)))], h)) rfl ?_
    refine Ev.gfr (r := (20, M, ma)) rfl hmo ?_
    refine Ev.sts 3 (c' := (65, [some (.inr (.inr (.inr (11, 0, 83)))), some (.inl (iZ ((k : Int)))), x2, x3], [.inl (iZ (3)), .inr (.inr (.inr (11, 0, 83))), .inl (iZ ((k : Int))), .inr (.inr (.inr (20, M, ma)))], h)) rfl ?_
    refine Ev.callw (a := [.inr (.inr (.inr (11, 0, 83))), .inl (iZ (3))]) rfl (gw_draw g (by omega) ⟨by omega, by omega⟩ (fun w1 h1 v1a v1b g1 f1 r1 n1 m1 => ?_))
    refine Ev.brc (p := ¬ (iZ (w1)) = (iZ (0))) (q := ¬ ((w1 : Int)) = 0) (c1 := (80, [some (.inr (.inr (.inr (11, 0, 83)))), some (.inl (iZ ((k : Int)))), x2, x3], [.inl (iZ ((k : Int))), .inr (.inr (.inr (20, M, ma)))], h1)) (c2 := (71, [some (.inr (.inr (.inr (11, 0, 83)))), some (.inl (iZ ((k : Int)))), x2, x3], [.inl (iZ ((k : Int))), .inr (.inr (.inr (20, M, ma)))], h1)) rfl (not_congr (iZ_eq ⟨by omega, by omega⟩ ⟨by omega, by omega⟩)) (fun c1 => ?_) (fun c1 => ?_)
    · refine Ev.sts 2 (c' := (83, [some (.inr (.inr (.inr (11, 0, 83)))), some (.inl (iZ ((k : Int)))), x2, x3], [.inl (iZ (12)), .inr (.inr (.inr (11, 0, 83))), .inl (iZ ((k : Int))), .inr (.inr (.inr (20, M, ma)))], h1)) rfl ?_
      refine Ev.callw (a := [.inr (.inr (.inr (11, 0, 83))), .inl (iZ (12))]) rfl (gw_draw g1 (by omega) ⟨by omega, by omega⟩ (fun w2 h2 v2a v2b g2 f2 r2 n2 m2 => ?_))
      refine Ev.sto (j := (iZ ((k : Int)))) (n := M) (h2 := (setI h2 ma k ((iZ (w2))))) (iZ_in (by omega) (by omega) (by omega)) rfl (by rw [iZ_ix (n := k) (by omega) (by omega)]) ?_
      exact kn (by omega) h2 w2 _ g2 (KG_t f1 f2) (fun j => (r2 j).trans ((r1 j).trans rfl)) ⟨by omega, by omega⟩ (by omega) (by omega) (by omega)
    · refine Ev.sts 2 (c' := (74, [some (.inr (.inr (.inr (11, 0, 83)))), some (.inl (iZ ((k : Int)))), x2, x3], [.inl (iZ (100)), .inr (.inr (.inr (11, 0, 83))), .inl (iZ ((k : Int))), .inr (.inr (.inr (20, M, ma)))], h1)) rfl ?_
      refine Ev.callw (a := [.inr (.inr (.inr (11, 0, 83))), .inl (iZ (100))]) rfl (gw_draw g1 (by omega) ⟨by omega, by omega⟩ (fun w3 h3 v3a v3b g3 f3 r3 n3 m3 => ?_))
      refine Ev.sts 1 (c' := (86, [some (.inr (.inr (.inr (11, 0, 83)))), some (.inl (iZ ((k : Int)))), x2, x3], [.inl (iZ (w3)), .inl (iZ ((k : Int))), .inr (.inr (.inr (20, M, ma)))], h3)) rfl ?_
      refine Ev.sto (j := (iZ ((k : Int)))) (n := M) (h2 := (setI h3 ma k ((iZ (w3))))) (iZ_in (by omega) (by omega) (by omega)) rfl (by rw [iZ_ix (n := k) (by omega) (by omega)]) ?_
      exact kn (by omega) h3 w3 _ g3 (KG_t f1 f3) (fun j => (r3 j).trans ((r1 j).trans rfl)) ⟨by omega, by omega⟩ (by omega) (by omega) (by omega)

theorem md_131 {d k : Nat} {x2 x3 : Option VV} {h : PH} {Q : Rs → PH → Prop} (k1 : Ev d 161 (49, [some (.inr (.inr (.inr (11, 0, 83)))), some (.inl (iZ (((k + 1 : Nat) : Int)))), x2, x3], [], h) Q) : Ev d 161 (131, [some (.inr (.inr (.inr (11, 0, 83)))), some (.inl (iZ ((k : Int)))), x2, x3], [], h) Q := by
  refine Ev.stc (c1 := (134, [some (.inr (.inr (.inr (11, 0, 83)))), some (.inl ((iZ ((k : Int))) + (iZ (1)))), x2, x3], [], h)) (c2 := (134, [some (.inr (.inr (.inr (11, 0, 83)))), some (.inl (iZ (((k : Int)) + 1))), x2, x3], [], h)) rfl (by rw [iZ_add]) ?_
  refine Ev.sts 1 (c' := (49, [some (.inr (.inr (.inr (11, 0, 83)))), some (.inl (iZ (((k : Int)) + 1))), x2, x3], [], h)) rfl ?_
  rw [show ((k : Int) + 1) = ((k + 1 : Nat) : Int) by omega]
  exact k1

theorem md_47 {d : Nat} {x1 x2 x3 : Option VV} {h : PH} {Q : Rs → PH → Prop} (k1 : Ev d 161 (49, [some (.inr (.inr (.inr (11, 0, 83)))), some (.inl (iZ (((0 : Nat) : Int)))), x2, x3], [], h) Q) : Ev d 161 (47, [some (.inr (.inr (.inr (11, 0, 83)))), x1, x2, x3], [], h) Q := by
  refine Ev.sts 2 (c' := (49, [some (.inr (.inr (.inr (11, 0, 83)))), some (.inl (iZ (0))), x2, x3], [], h)) rfl ?_
  exact k1

theorem md_163 {d L dr tk ln : Nat} {x1 x2 x3 : Option VV} {tp : List Int} {h : PH} {Q : Rs → PH → Prop} (b : BKl h L dr tk ln tp) (hd : dr < 100000) (k1 : ∀ (h1 : PH) (N : Int), BKl h1 L (dr + 1) tk ln tp → FB h h1 → (1 ≤ N ∧ N ≤ 9) → hN h1 = hN h → hS h1 = hS h → Ev (d + 2) 161 (174, [some (.inr (.inr (.inr (11, 0, 83)))), some (.inl (iZ (N))), some (.inl (iZ (0))), x3], [], h1) Q) : Ev (d + 2) 161 (163, [some (.inr (.inr (.inr (11, 0, 83)))), x1, x2, x3], [], h) Q := by
  refine Ev.sts 3 (c' := (167, [some (.inr (.inr (.inr (11, 0, 83)))), x1, x2, x3], [.inl (iZ (9)), .inr (.inr (.inr (11, 0, 83))), .inl (iZ (1))], h)) rfl ?_
  refine Ev.callw (a := [.inr (.inr (.inr (11, 0, 83))), .inl (iZ (9))]) rfl (bl_draw b (by omega) ⟨by omega, by omega⟩ (fun w1 h1 v1a v1b b1 f1 n1 m1 => ?_))
  refine Ev.gv (w := (iZ (1 + w1))) rfl (iZ_add _ _) ?_
  refine Ev.sts 3 (c' := (174, [some (.inr (.inr (.inr (11, 0, 83)))), some (.inl (iZ (1 + w1))), some (.inl (iZ (0))), x3], [], h1)) rfl ?_
  exact k1 h1 (1 + w1) b1 f1 ⟨by omega, by omega⟩ n1 m1

