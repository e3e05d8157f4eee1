/-! The reference's calls that only look: the rest. -/
theorem mx_ful_lp {d : Nat} {y : Y4} {S : Sta} {h : PH} {Q : Rs → PH → Prop} (I : MI h S y) (W : WN S) (m : Nat) : ∀ (k : Nat) (f x : Int), k ≤ (tlS S).length → (tlS S).length < k + m → (f = -1 ∧ x = 0 ∨ ∃ j : Nat, f = (j : Int) ∧ j < k ∧ x = ((tlS S).getD j t0).2.2.2.1) → Q (.inl (some (.inl (iZ (fulR ((tlS S).drop k) k f x))))) h → Ev d 268 (4, [some (.inr (.inr (.inr (11, 0, 83)))), some (.inl (iZ (f))), some (.inl (iZ (k)))], [], h) Q := by
  have W0 := W
  obtain ⟨⟨w1, w2, w3, w4, w5, w6⟩, w7, w8, w9, w10, w11, w12, w13, w14, w15, w16, w17, w18⟩ := W0
  have wB : bkN (bkS S) := ⟨w1, w2, w3, w4, w5, w6⟩
  have sh0 := mi_sh I
  have al := alW_len (wdS S) 6 0
  have tl5 := lnL_le (ws := wdS S) (K := 128) (fun g => (w14 g).2) 6 0
  have alB_ := alW_B (ws := wdS S) (N := 1000) (fun g _ => (w14 g).1)
  have on1 := (mi_op I).2.1
  have on2 := (mi_op I).2.2.2.1
  have tn1 := (mi_tm I).2.1
  have tn2 := (mi_tm I).2.2.2.1
  induction m with
  | zero => intro k f x h1 h2 hx q; omega
  | succ m ih =>
    intro k f x h1 h2 hx q
    rcases hx with ⟨e1, e2⟩ | ⟨j, e1, e2, e3⟩
    · refine Ev.sts 2 (c' := (6, [some (.inr (.inr (.inr (11, 0, 83)))), some (.inl (iZ (f))), some (.inl (iZ (k)))], [.inr (.inr (.inr (11, 0, 83))), .inl (iZ (k))], h)) rfl ?_
      refine Ev.gv (w := (iZ ((tlS S).length))) rfl (mi_tm I).1 ?_
      refine Ev.brc (p := (iZ ((tlS S).length)) ≤ (iZ (k))) (q := (((tlS S).length : Int)) ≤ k) (c1 := (48, [some (.inr (.inr (.inr (11, 0, 83)))), some (.inl (iZ (f))), some (.inl (iZ (k)))], [], h)) (c2 := (12, [some (.inr (.inr (.inr (11, 0, 83)))), some (.inl (iZ (f))), some (.inl (iZ (k)))], [], h)) rfl (iZ_le ⟨by omega, by omega⟩ ⟨by omega, by omega⟩) (fun c0 => ?_) (fun c0 => ?_)
      · refine Ev.sts 1 (c' := (49, [some (.inr (.inr (.inr (11, 0, 83)))), some (.inl (iZ (f))), some (.inl (iZ (k)))], [.inl (iZ (f))], h)) rfl ?_
        rw [List.drop_eq_nil_of_le (show (tlS S).length ≤ k by omega)] at q
        exact Ev.ret rfl q
      · obtain ⟨b1, b2, b3, b4, b5, b6⟩ := w17 k (by omega)
        have e0 := drop_getD t0 (tlS S) k (by omega)
        refine Ev.sts 2 (c' := (14, [some (.inr (.inr (.inr (11, 0, 83)))), some (.inl (iZ (f))), some (.inl (iZ (k)))], [.inl (iZ (-1)), .inl (iZ (f))], h)) rfl ?_
        refine Ev.brT (p := (iZ (f)) = (iZ (-1))) (c1 := (40, [some (.inr (.inr (.inr (11, 0, 83)))), some (.inl (iZ (f))), some (.inl (iZ (k)))], [], h)) (c2 := (17, [some (.inr (.inr (.inr (11, 0, 83)))), some (.inl (iZ (f))), some (.inl (iZ (k)))], [], h)) ((iZ_eq ⟨by omega, by omega⟩ ⟨by omega, by omega⟩).mpr (by omega)) rfl ?_
        refine Ev.sts 2 (c' := (42, [some (.inr (.inr (.inr (11, 0, 83)))), some (.inl (iZ (k))), some (.inl (iZ (k)))], [], h)) rfl ?_
        refine Ev.stc (c1 := (45, [some (.inr (.inr (.inr (11, 0, 83)))), some (.inl (iZ (k))), some (.inl ((iZ (k)) + (iZ (1))))], [], h)) (c2 := (45, [some (.inr (.inr (.inr (11, 0, 83)))), some (.inl (iZ (k))), some (.inl (iZ (k + 1)))], [], h)) rfl (by rw [iZ_add]) ?_
        refine Ev.sts 1 (c' := (4, [some (.inr (.inr (.inr (11, 0, 83)))), some (.inl (iZ (k))), some (.inl (iZ (k + 1)))], [], h)) rfl ?_
        refine ih (k + 1) (k : Int) ((tlS S).getD k t0).2.2.2.1 (by omega) (by omega) (.inr ⟨k, rfl, by omega, rfl⟩) ?_
        rw [e0] at q
        rw [show fulR ((tlS S).getD k t0 :: (tlS S).drop (k + 1)) k f x = fulR ((tlS S).drop (k + 1)) (k + 1) k ((tlS S).getD k t0).2.2.2.1 from if_pos (by omega)] at q
        exact q
    · subst e1
      refine Ev.sts 2 (c' := (6, [some (.inr (.inr (.inr (11, 0, 83)))), some (.inl (iZ (j))), some (.inl (iZ (k)))], [.inr (.inr (.inr (11, 0, 83))), .inl (iZ (k))], h)) rfl ?_
      refine Ev.gv (w := (iZ ((tlS S).length))) rfl (mi_tm I).1 ?_
      refine Ev.brc (p := (iZ ((tlS S).length)) ≤ (iZ (k))) (q := (((tlS S).length : Int)) ≤ k) (c1 := (48, [some (.inr (.inr (.inr (11, 0, 83)))), some (.inl (iZ (j))), some (.inl (iZ (k)))], [], h)) (c2 := (12, [some (.inr (.inr (.inr (11, 0, 83)))), some (.inl (iZ (j))), some (.inl (iZ (k)))], [], h)) rfl (iZ_le ⟨by omega, by omega⟩ ⟨by omega, by omega⟩) (fun c0 => ?_) (fun c0 => ?_)
      · refine Ev.sts 1 (c' := (49, [some (.inr (.inr (.inr (11, 0, 83)))), some (.inl (iZ (j))), some (.inl (iZ (k)))], [.inl (iZ (j))], h)) rfl ?_
        rw [List.drop_eq_nil_of_le (show (tlS S).length ≤ k by omega)] at q
        exact Ev.ret rfl q
      · obtain ⟨b1, b2, b3, b4, b5, b6⟩ := w17 k (by omega)
        have e0 := drop_getD t0 (tlS S) k (by omega)
        obtain ⟨v1, v2, v3, v4, v5, v6⟩ := w17 j (by omega)
        refine Ev.sts 2 (c' := (14, [some (.inr (.inr (.inr (11, 0, 83)))), some (.inl (iZ (j))), some (.inl (iZ (k)))], [.inl (iZ (-1)), .inl (iZ (j))], h)) rfl ?_
        refine Ev.brF (p := (iZ (j)) = (iZ (-1))) (c1 := (40, [some (.inr (.inr (.inr (11, 0, 83)))), some (.inl (iZ (j))), some (.inl (iZ (k)))], [], h)) (c2 := (17, [some (.inr (.inr (.inr (11, 0, 83)))), some (.inl (iZ (j))), some (.inl (iZ (k)))], [], h)) (fun c_ => absurd ((iZ_eq ⟨by omega, by omega⟩ ⟨by omega, by omega⟩).mp c_) (by omega)) rfl ?_
        refine Ev.sts 1 (c' := (18, [some (.inr (.inr (.inr (11, 0, 83)))), some (.inl (iZ (j))), some (.inl (iZ (k)))], [.inr (.inr (.inr (11, 0, 83)))], h)) rfl ?_
        refine Ev.gfr (r := (20, y.2.2.1, y.2.2.2)) rfl (mi_tm I).2.2.2.2.1 ?_
        refine Ev.sts 2 (c' := (23, [some (.inr (.inr (.inr (11, 0, 83)))), some (.inl (iZ (j))), some (.inl (iZ (k)))], [.inl (iZ (k)), .inl (iZ (5)), .inr (.inr (.inr (20, y.2.2.1, y.2.2.2)))], h)) rfl ?_
        refine Ev.gv (w := (iZ (5 * k))) rfl (iZ_mul _ _) ?_
        refine Ev.sts 1 (c' := (25, [some (.inr (.inr (.inr (11, 0, 83)))), some (.inl (iZ (j))), some (.inl (iZ (k)))], [.inl (iZ (3)), .inl (iZ (5 * k)), .inr (.inr (.inr (20, y.2.2.1, y.2.2.2)))], h)) rfl ?_
        refine Ev.gv (w := (iZ ((5 * k) + 3))) rfl (iZ_add _ _) ?_
        refine Ev.ldv (j := (iZ ((5 * k) + 3))) (n := y.2.2.1) (w := .inl (iZ (((tlS S).getD k t0).2.2.2.1))) (iZ_in (by omega) (by omega) (by omega)) rfl (by rw [iZ_ix (n := (5 * k) + 3) (by omega) (by omega)]; exact congrArg vI ((mi_tm I).2.2.2.2.2.2 k (by omega)).2.2.2.1) ?_
        refine Ev.sts 1 (c' := (28, [some (.inr (.inr (.inr (11, 0, 83)))), some (.inl (iZ (j))), some (.inl (iZ (k)))], [.inr (.inr (.inr (11, 0, 83))), .inl (iZ (((tlS S).getD k t0).2.2.2.1))], h)) rfl ?_
        refine Ev.gfr (r := (20, y.2.2.1, y.2.2.2)) rfl (mi_tm I).2.2.2.2.1 ?_
        refine Ev.sts 2 (c' := (33, [some (.inr (.inr (.inr (11, 0, 83)))), some (.inl (iZ (j))), some (.inl (iZ (k)))], [.inl (iZ (j)), .inl (iZ (5)), .inr (.inr (.inr (20, y.2.2.1, y.2.2.2))), .inl (iZ (((tlS S).getD k t0).2.2.2.1))], h)) rfl ?_
        refine Ev.gv (w := (iZ (5 * j))) rfl (iZ_mul _ _) ?_
        refine Ev.sts 1 (c' := (35, [some (.inr (.inr (.inr (11, 0, 83)))), some (.inl (iZ (j))), some (.inl (iZ (k)))], [.inl (iZ (3)), .inl (iZ (5 * j)), .inr (.inr (.inr (20, y.2.2.1, y.2.2.2))), .inl (iZ (((tlS S).getD k t0).2.2.2.1))], h)) rfl ?_
        refine Ev.gv (w := (iZ ((5 * j) + 3))) rfl (iZ_add _ _) ?_
        refine Ev.ldv (j := (iZ ((5 * j) + 3))) (n := y.2.2.1) (w := .inl (iZ (((tlS S).getD j t0).2.2.2.1))) (iZ_in (by omega) (by omega) (by omega)) rfl (by rw [iZ_ix (n := (5 * j) + 3) (by omega) (by omega)]; exact congrArg vI ((mi_tm I).2.2.2.2.2.2 j (by omega)).2.2.2.1) ?_
        refine Ev.brc (p := (iZ (((tlS S).getD k t0).2.2.2.1)) ≤ (iZ (((tlS S).getD j t0).2.2.2.1))) (q := ((((tlS S).getD k t0).2.2.2.1 : Int)) ≤ (((tlS S).getD j t0).2.2.2.1)) (c1 := (42, [some (.inr (.inr (.inr (11, 0, 83)))), some (.inl (iZ (j))), some (.inl (iZ (k)))], [], h)) (c2 := (40, [some (.inr (.inr (.inr (11, 0, 83)))), some (.inl (iZ (j))), some (.inl (iZ (k)))], [], h)) rfl (iZ_le ⟨by omega, by omega⟩ ⟨by omega, by omega⟩) (fun c1 => ?_) (fun c1 => ?_)
        · refine Ev.stc (c1 := (45, [some (.inr (.inr (.inr (11, 0, 83)))), some (.inl (iZ (j))), some (.inl ((iZ (k)) + (iZ (1))))], [], h)) (c2 := (45, [some (.inr (.inr (.inr (11, 0, 83)))), some (.inl (iZ (j))), some (.inl (iZ (k + 1)))], [], h)) rfl (by rw [iZ_add]) ?_
          refine Ev.sts 1 (c' := (4, [some (.inr (.inr (.inr (11, 0, 83)))), some (.inl (iZ (j))), some (.inl (iZ (k + 1)))], [], h)) rfl ?_
          refine ih (k + 1) j x (by omega) (by omega) (.inr ⟨j, rfl, by omega, e3⟩) ?_
          rw [e0] at q
          rw [show fulR ((tlS S).getD k t0 :: (tlS S).drop (k + 1)) k j x = fulR ((tlS S).drop (k + 1)) (k + 1) j x from if_neg (by omega)] at q
          exact q
        · refine Ev.sts 2 (c' := (42, [some (.inr (.inr (.inr (11, 0, 83)))), some (.inl (iZ (k))), some (.inl (iZ (k)))], [], h)) rfl ?_
          refine Ev.stc (c1 := (45, [some (.inr (.inr (.inr (11, 0, 83)))), some (.inl (iZ (k))), some (.inl ((iZ (k)) + (iZ (1))))], [], h)) (c2 := (45, [some (.inr (.inr (.inr (11, 0, 83)))), some (.inl (iZ (k))), some (.inl (iZ (k + 1)))], [], h)) rfl (by rw [iZ_add]) ?_
          refine Ev.sts 1 (c' := (4, [some (.inr (.inr (.inr (11, 0, 83)))), some (.inl (iZ (k))), some (.inl (iZ (k + 1)))], [], h)) rfl ?_
          refine ih (k + 1) (k : Int) ((tlS S).getD k t0).2.2.2.1 (by omega) (by omega) (.inr ⟨k, rfl, by omega, rfl⟩) ?_
          rw [e0] at q
          rw [show fulR ((tlS S).getD k t0 :: (tlS S).drop (k + 1)) k j x = fulR ((tlS S).drop (k + 1)) (k + 1) k ((tlS S).getD k t0).2.2.2.1 from if_pos (by omega)] at q
          exact q

theorem mx_fullest {d : Nat} {y : Y4} {S : Sta} {h : PH} (I : MI h S y) (W : WN S) : Rv d 268 [.inr (.inr (.inr (11, 0, 83)))] h (some (.inl (iZ (fulR (tlS S) 0 (-1) 0)))) h := Rv.of fun Q q => by
  have W0 := W
  obtain ⟨⟨w1, w2, w3, w4, w5, w6⟩, w7, w8, w9, w10, w11, w12, w13, w14, w15, w16, w17, w18⟩ := W0
  have wB : bkN (bkS S) := ⟨w1, w2, w3, w4, w5, w6⟩
  have sh0 := mi_sh I
  have al := alW_len (wdS S) 6 0
  have tl5 := lnL_le (ws := wdS S) (K := 128) (fun g => (w14 g).2) 6 0
  have alB_ := alW_B (ws := wdS S) (N := 1000) (fun g _ => (w14 g).1)
  have on1 := (mi_op I).2.1
  have on2 := (mi_op I).2.2.2.1
  have tn1 := (mi_tm I).2.1
  have tn2 := (mi_tm I).2.2.2.1
  refine Ev.sts 4 (c' := (4, [some (.inr (.inr (.inr (11, 0, 83)))), some (.inl (iZ (-1))), some (.inl (iZ (0)))], [], h)) rfl ?_
  exact mx_ful_lp I W ((tlS S).length + 1) 0 (-1) 0 (by omega) (by omega) (.inl ⟨rfl, rfl⟩) q

theorem nut_c (ws : Nat → List Win) {wm a x : Int} (h1 : wm ≤ a) (h2 : a = wm ∨ ovA ws a = 0) : (0 < ovA ws (max a x) ↔ 0 < ovA ws (max wm x)) := by
  rcases h2 with e | e
  · rw [e]
  · by_cases c : x ≤ a
    · have m1 := ovA_mono ws (show max wm x ≤ a by omega)
      rw [show max a x = a by omega]
      omega
    · rw [show max a x = max wm x by omega]
theorem mx_nut_lp {d : Nat} {y : Y4} {S : Sta} {h : PH} {Q : Rs → PH → Prop} (I : MI h S y) (W : WN S) (m : Nat) : ∀ (k : Nat) (a : Int), k + m = 31 → wmS S ≤ a → a ≤ 2000 → (a = wmS S ∨ ovA (wdS S) a = 0) → Q (.inl (some (.inl (iZ (nutC (bkS S) (wdS S) (grS S) (wmS S) (ntS S) m k))))) h → Ev (d + 2) 276 (7, [some (.inr (.inr (.inr (11, 0, 83)))), some (.inl (iZ (a))), some (.inl (iZ (k)))], [], h) Q := by
  have W0 := W
  obtain ⟨⟨w1, w2, w3, w4, w5, w6⟩, w7, w8, w9, w10, w11, w12, w13, w14, w15, w16, w17, w18⟩ := W0
  have wB : bkN (bkS S) := ⟨w1, w2, w3, w4, w5, w6⟩
  have sh0 := mi_sh I
  have al := alW_len (wdS S) 6 0
  have tl5 := lnL_le (ws := wdS S) (K := 128) (fun g => (w14 g).2) 6 0
  have alB_ := alW_B (ws := wdS S) (N := 1000) (fun g _ => (w14 g).1)
  have on1 := (mi_op I).2.1
  have on2 := (mi_op I).2.2.2.1
  have tn1 := (mi_tm I).2.1
  have tn2 := (mi_tm I).2.2.2.1
  induction m with
  | zero =>
    intro k a h1 ha1 ha3 ha2 q
    refine Ev.sts 2 (c' := (10, [some (.inr (.inr (.inr (11, 0, 83)))), some (.inl (iZ (a))), some (.inl (iZ (k)))], [.inl (iZ (30)), .inl (iZ (k))], h)) rfl ?_
    refine Ev.brT (p := (iZ (30)) < (iZ (k))) (c1 := (49, [some (.inr (.inr (.inr (11, 0, 83)))), some (.inl (iZ (a))), some (.inl (iZ (k)))], [], h)) (c2 := (13, [some (.inr (.inr (.inr (11, 0, 83)))), some (.inl (iZ (a))), some (.inl (iZ (k)))], [], h)) ((iZ_lt ⟨by omega, by omega⟩ ⟨by omega, by omega⟩).mpr (by omega)) rfl ?_
    refine Ev.sts 1 (c' := (50, [some (.inr (.inr (.inr (11, 0, 83)))), some (.inl (iZ (a))), some (.inl (iZ (k)))], [.inl (iZ (-1))], h)) rfl ?_
    exact Ev.ret rfl (q)
  | succ m ih =>
    intro k a h1 ha1 ha3 ha2 q
    refine Ev.sts 2 (c' := (10, [some (.inr (.inr (.inr (11, 0, 83)))), some (.inl (iZ (a))), some (.inl (iZ (k)))], [.inl (iZ (30)), .inl (iZ (k))], h)) rfl ?_
    refine Ev.brF (p := (iZ (30)) < (iZ (k))) (c1 := (49, [some (.inr (.inr (.inr (11, 0, 83)))), some (.inl (iZ (a))), some (.inl (iZ (k)))], [], h)) (c2 := (13, [some (.inr (.inr (.inr (11, 0, 83)))), some (.inl (iZ (a))), some (.inl (iZ (k)))], [], h)) (fun c_ => absurd ((iZ_lt ⟨by omega, by omega⟩ ⟨by omega, by omega⟩).mp c_) (by omega)) rfl ?_
    have ab := alB_b wB ((ntS S : Int) + k)
    have nc := nut_c (wdS S) (x := grS S - alB (bkS S) ((ntS S : Int) + k)) ha1 ha2
    have ol := Nat.le_trans (Nat.le_of_eq (cE_all (wdS S) (max a (grS S - alB (bkS S) ((ntS S : Int) + k)))).symm) (cE_le _ (allW (wdS S)))
    refine Ev.sts 2 (c' := (15, [some (.inr (.inr (.inr (11, 0, 83)))), some (.inl (iZ (a))), some (.inl (iZ (k)))], [.inr (.inr (.inr (11, 0, 83))), .inl (iZ (a))], h)) rfl ?_
    refine Ev.gv (w := (iZ (grS S))) rfl (mi_gr I) ?_
    refine Ev.sts 2 (c' := (20, [some (.inr (.inr (.inr (11, 0, 83)))), some (.inl (iZ (a))), some (.inl (iZ (k)))], [.inr (.inr (.inr (11, 0, 83))), .inr (.inr (.inr (11, 0, 83))), .inl (iZ (grS S)), .inl (iZ (a))], h)) rfl ?_
    refine Ev.gv (w := (iZ (ntS S))) rfl (mi_nt I) ?_
    refine Ev.sts 1 (c' := (24, [some (.inr (.inr (.inr (11, 0, 83)))), some (.inl (iZ (a))), some (.inl (iZ (k)))], [.inl (iZ (k)), .inl (iZ (ntS S)), .inr (.inr (.inr (11, 0, 83))), .inl (iZ (grS S)), .inl (iZ (a))], h)) rfl ?_
    refine Ev.gv (w := (iZ ((ntS S) + k))) rfl (iZ_add _ _) ?_
    refine Ev.callv (a := [.inr (.inr (.inr (11, 0, 83))), .inl (iZ ((ntS S) + k))]) rfl (mp_allowed (mi_sh I) (mi_bk I) wB ⟨by omega, by omega⟩) ?_
    refine Ev.gv (w := (iZ ((grS S) - (alB (bkS S) ((ntS S) + k))))) rfl (iZ_sub _ _) ?_
    refine Ev.gv (w := (iZ (max a ((grS S) - (alB (bkS S) ((ntS S) + k)))))) rfl (iZ_max ⟨by omega, by omega⟩ ⟨by omega, by omega⟩) ?_
    refine Ev.sts 3 (c' := (35, [some (.inr (.inr (.inr (11, 0, 83)))), some (.inl (iZ (max a ((grS S) - (alB (bkS S) ((ntS S) + k)))))), some (.inl (iZ (k)))], [.inl (iZ (max a ((grS S) - (alB (bkS S) ((ntS S) + k))))), .inr (.inr (.inr (11, 0, 83)))], h)) rfl ?_
    refine Ev.callv (a := [.inr (.inr (.inr (11, 0, 83))), .inl (iZ (max a ((grS S) - (alB (bkS S) ((ntS S) + k)))))]) rfl (mx_overBy I W ⟨by omega, by omega⟩) ?_
    refine Ev.brc (p := (iZ (ovA (wdS S) (max a ((grS S) - (alB (bkS S) ((ntS S) + k)))))) ≤ (iZ (0))) (q := ((ovA (wdS S) (max a ((grS S) - (alB (bkS S) ((ntS S) + k)))) : Int)) ≤ 0) (c1 := (43, [some (.inr (.inr (.inr (11, 0, 83)))), some (.inl (iZ (max a ((grS S) - (alB (bkS S) ((ntS S) + k)))))), some (.inl (iZ (k)))], [], h)) (c2 := (41, [some (.inr (.inr (.inr (11, 0, 83)))), some (.inl (iZ (max a ((grS S) - (alB (bkS S) ((ntS S) + k)))))), some (.inl (iZ (k)))], [], h)) rfl (iZ_le ⟨by omega, by omega⟩ ⟨by omega, by omega⟩) (fun c0 => ?_) (fun c0 => ?_)
    · refine Ev.stc (c1 := (46, [some (.inr (.inr (.inr (11, 0, 83)))), some (.inl (iZ (max a ((grS S) - (alB (bkS S) ((ntS S) + k)))))), some (.inl ((iZ (k)) + (iZ (1))))], [], h)) (c2 := (46, [some (.inr (.inr (.inr (11, 0, 83)))), some (.inl (iZ (max a ((grS S) - (alB (bkS S) ((ntS S) + k)))))), some (.inl (iZ (k + 1)))], [], h)) rfl (by rw [iZ_add]) ?_
      refine Ev.sts 1 (c' := (7, [some (.inr (.inr (.inr (11, 0, 83)))), some (.inl (iZ (max a ((grS S) - (alB (bkS S) ((ntS S) + k)))))), some (.inl (iZ (k + 1)))], [], h)) rfl ?_
      refine ih (k + 1) (max a (grS S - alB (bkS S) ((ntS S : Int) + k))) (by omega) (by omega) (by omega) (.inr (by omega)) ?_
      rw [show nutC (bkS S) (wdS S) (grS S) (wmS S) (ntS S) (m + 1) k = nutC (bkS S) (wdS S) (grS S) (wmS S) (ntS S) m (k + 1) from if_neg (fun z => by have z2 := nc.mpr z; omega)] at q
      exact q
    · refine Ev.sts 1 (c' := (42, [some (.inr (.inr (.inr (11, 0, 83)))), some (.inl (iZ (max a ((grS S) - (alB (bkS S) ((ntS S) + k)))))), some (.inl (iZ (k)))], [.inl (iZ (k))], h)) rfl ?_
      rw [show nutC (bkS S) (wdS S) (grS S) (wmS S) (ntS S) (m + 1) k = (k : Int) from if_pos (nc.mp (by omega))] at q
      exact Ev.ret rfl q

theorem mx_nut {d : Nat} {y : Y4} {S : Sta} {h : PH} (I : MI h S y) (W : WN S) : Rv (d + 2) 276 [.inr (.inr (.inr (11, 0, 83)))] h (some (.inl (iZ (nutC (bkS S) (wdS S) (grS S) (wmS S) (ntS S) 30 1)))) h := Rv.of fun Q q => by
  have W0 := W
  obtain ⟨⟨w1, w2, w3, w4, w5, w6⟩, w7, w8, w9, w10, w11, w12, w13, w14, w15, w16, w17, w18⟩ := W0
  have wB : bkN (bkS S) := ⟨w1, w2, w3, w4, w5, w6⟩
  have sh0 := mi_sh I
  have al := alW_len (wdS S) 6 0
  have tl5 := lnL_le (ws := wdS S) (K := 128) (fun g => (w14 g).2) 6 0
  have alB_ := alW_B (ws := wdS S) (N := 1000) (fun g _ => (w14 g).1)
  have on1 := (mi_op I).2.1
  have on2 := (mi_op I).2.2.2.1
  have tn1 := (mi_tm I).2.1
  have tn2 := (mi_tm I).2.2.2.1
  refine Ev.sts 1 (c' := (1, [some (.inr (.inr (.inr (11, 0, 83)))), none, none], [.inr (.inr (.inr (11, 0, 83)))], h)) rfl ?_
  refine Ev.gv (w := (iZ (wmS S))) rfl (mi_wm I) ?_
  refine Ev.sts 3 (c' := (7, [some (.inr (.inr (.inr (11, 0, 83)))), some (.inl (iZ (wmS S))), some (.inl (iZ (1)))], [], h)) rfl ?_
  exact mx_nut_lp I W 30 1 (wmS S) (by omega) (by omega) (by omega) (.inl rfl) q

theorem mx_fullestTelling {d : Nat} {y : Y4} {S : Sta} {h : PH} (I : MI h S y) (W : WN S) : Rv (d + 1) 267 [.inr (.inr (.inr (11, 0, 83)))] h (some (.inl (iZ (fulR (tlS S) 0 (-1) 0)))) (setI h 83 0 (iZ 0)) := Rv.of fun Q q => by
  have W0 := W
  obtain ⟨⟨w1, w2, w3, w4, w5, w6⟩, w7, w8, w9, w10, w11, w12, w13, w14, w15, w16, w17, w18⟩ := W0
  have wB : bkN (bkS S) := ⟨w1, w2, w3, w4, w5, w6⟩
  have sh0 := mi_sh I
  have al := alW_len (wdS S) 6 0
  have tl5 := lnL_le (ws := wdS S) (K := 128) (fun g => (w14 g).2) 6 0
  have alB_ := alW_B (ws := wdS S) (N := 1000) (fun g _ => (w14 g).1)
  have on1 := (mi_op I).2.1
  have on2 := (mi_op I).2.2.2.1
  have tn1 := (mi_tm I).2.1
  have tn2 := (mi_tm I).2.2.2.1
  refine Ev.sts 2 (c' := (2, [some (.inr (.inr (.inr (11, 0, 83))))], [.inr (.inr (.inr (11, 0, 83))), .inr (.inr (.inr (11, 0, 83)))], h)) rfl ?_
  refine Ev.callv (a := [.inr (.inr (.inr (11, 0, 83)))]) rfl (mx_fullest I W) ?_
  refine Ev.callv (a := [.inr (.inr (.inr (11, 0, 83))), .inl (iZ (fulR (tlS S) 0 (-1) 0))]) rfl mp_told ?_
  exact Ev.ret rfl (q)

theorem mx_nightsUntilTelling {d : Nat} {y : Y4} {S : Sta} {h : PH} (I : MI h S y) (W : WN S) : Rv (d + 3) 275 [.inr (.inr (.inr (11, 0, 83)))] h (some (.inl (iZ (nutC (bkS S) (wdS S) (grS S) (wmS S) (ntS S) 30 1)))) (setI h 83 0 (iZ 0)) := Rv.of fun Q q => by
  have W0 := W
  obtain ⟨⟨w1, w2, w3, w4, w5, w6⟩, w7, w8, w9, w10, w11, w12, w13, w14, w15, w16, w17, w18⟩ := W0
  have wB : bkN (bkS S) := ⟨w1, w2, w3, w4, w5, w6⟩
  have sh0 := mi_sh I
  have al := alW_len (wdS S) 6 0
  have tl5 := lnL_le (ws := wdS S) (K := 128) (fun g => (w14 g).2) 6 0
  have alB_ := alW_B (ws := wdS S) (N := 1000) (fun g _ => (w14 g).1)
  have on1 := (mi_op I).2.1
  have on2 := (mi_op I).2.2.2.1
  have tn1 := (mi_tm I).2.1
  have tn2 := (mi_tm I).2.2.2.1
  refine Ev.sts 2 (c' := (2, [some (.inr (.inr (.inr (11, 0, 83))))], [.inr (.inr (.inr (11, 0, 83))), .inr (.inr (.inr (11, 0, 83)))], h)) rfl ?_
  refine Ev.callv (a := [.inr (.inr (.inr (11, 0, 83)))]) rfl (mx_nut I W) ?_
  refine Ev.callv (a := [.inr (.inr (.inr (11, 0, 83))), .inl (iZ (nutC (bkS S) (wdS S) (grS S) (wmS S) (ntS S) 30 1))]) rfl mp_told ?_
  exact Ev.ret rfl (q)

theorem mx_wbl_lp {d : Nat} {y : Y4} {S : Sta} {h : PH} {Q : Rs → PH → Prop} (I : MI h S y) (W : WN S) {hr : Int} (hh : 0 ≤ hr ∧ hr ≤ 999) (m : Nat) : ∀ (g c : Nat), g ≤ (bkS S).2.2.length → (bkS S).2.2.length < g + m → c ≤ g → Q (.inl (some (.inl (iZ ((c : Int) + (wblF ((bkS S).2.2.drop g) hr (wmS S) : Int)))))) h → Ev (d + 3) 270 (26, [some (.inr (.inr (.inr (11, 0, 83)))), some (.inl (iZ (hr))), some (.inl (iZ (c))), some (.inl (iZ (g)))], [], h) Q := by
  have W0 := W
  obtain ⟨⟨w1, w2, w3, w4, w5, w6⟩, w7, w8, w9, w10, w11, w12, w13, w14, w15, w16, w17, w18⟩ := W0
  have wB : bkN (bkS S) := ⟨w1, w2, w3, w4, w5, w6⟩
  have sh0 := mi_sh I
  have al := alW_len (wdS S) 6 0
  have tl5 := lnL_le (ws := wdS S) (K := 128) (fun g => (w14 g).2) 6 0
  have alB_ := alW_B (ws := wdS S) (N := 1000) (fun g _ => (w14 g).1)
  have on1 := (mi_op I).2.1
  have on2 := (mi_op I).2.2.2.1
  have tn1 := (mi_tm I).2.1
  have tn2 := (mi_tm I).2.2.2.1
  induction m with
  | zero => intro g c h1 h2 h3 q; omega
  | succ m ih =>
    intro g c h1 h2 h3 q
    refine Ev.sts 2 (c' := (28, [some (.inr (.inr (.inr (11, 0, 83)))), some (.inl (iZ (hr))), some (.inl (iZ (c))), some (.inl (iZ (g)))], [.inr (.inr (.inr (11, 0, 83))), .inl (iZ (g))], h)) rfl ?_
    refine Ev.gfr (r := (20, 64, 93)) rfl (sh_83_18 sh0) ?_
    refine Ev.sts 1 (c' := (32, [some (.inr (.inr (.inr (11, 0, 83)))), some (.inl (iZ (hr))), some (.inl (iZ (c))), some (.inl (iZ (g)))], [.inl (iZ (1)), .inr (.inr (.inr (20, 64, 93))), .inl (iZ (g))], h)) rfl ?_
    refine Ev.ldv (j := (iZ (1))) (n := 64) (w := .inl (iZ ((bkS S).2.2.length))) (by decide) rfl (congrArg vI (mi_bk I).2.1) ?_
    refine Ev.brc (p := (iZ ((bkS S).2.2.length)) ≤ (iZ (g))) (q := (((bkS S).2.2.length : Int)) ≤ g) (c1 := (59, [some (.inr (.inr (.inr (11, 0, 83)))), some (.inl (iZ (hr))), some (.inl (iZ (c))), some (.inl (iZ (g)))], [], h)) (c2 := (36, [some (.inr (.inr (.inr (11, 0, 83)))), some (.inl (iZ (hr))), some (.inl (iZ (c))), some (.inl (iZ (g)))], [], h)) rfl (iZ_le ⟨by omega, by omega⟩ ⟨by omega, by omega⟩) (fun c0 => ?_) (fun c0 => ?_)
    · refine Ev.sts 1 (c' := (60, [some (.inr (.inr (.inr (11, 0, 83)))), some (.inl (iZ (hr))), some (.inl (iZ (c))), some (.inl (iZ (g)))], [.inl (iZ (c))], h)) rfl ?_
      rw [List.drop_eq_nil_of_le (show (bkS S).2.2.length ≤ g by omega)] at q
      rw [show (c : Int) + ((wblF [] hr (wmS S) : Nat) : Int) = (c : Int) from Int.add_zero _] at q
      exact Ev.ret rfl q
    · have hg : g < 6 := by omega
      have e0 := drop_getD g0 (bkS S).2.2 g (by omega)
      obtain ⟨gg1, gg2, gg3, gg4, gg5, gg6⟩ := w6 g (by omega)
      refine Ev.sts 4 (c' := (40, [some (.inr (.inr (.inr (11, 0, 83)))), some (.inl (iZ (hr))), some (.inl (iZ (c))), some (.inl (iZ (g)))], [.inl (iZ (hr)), .inl (iZ (g)), .inr (.inr (.inr (11, 0, 83))), .inl (iZ (c))], h)) rfl ?_
      refine Ev.callw (a := [.inr (.inr (.inr (11, 0, 83))), .inl (iZ (g)), .inl (iZ (hr))]) rfl (mp_isLate (mi_sh I) hg ((mi_bk I).2.2.2.2.2 g (by omega)) ⟨by omega, by omega⟩ ⟨by omega, by omega⟩ ⟨by omega, by omega⟩ (mi_wm I) ⟨by omega, by omega⟩ (fun c1 => ?_) (fun c1 => ?_))
      · refine Ev.brF (p := (iZ (1)) = (iZ (0))) (c1 := (50, [some (.inr (.inr (.inr (11, 0, 83)))), some (.inl (iZ (hr))), some (.inl (iZ (c))), some (.inl (iZ (g)))], [.inl (iZ (c))], h)) (c2 := (46, [some (.inr (.inr (.inr (11, 0, 83)))), some (.inl (iZ (hr))), some (.inl (iZ (c))), some (.inl (iZ (g)))], [.inl (iZ (c))], h)) (by decide) rfl ?_
        refine Ev.sts 2 (c' := (51, [some (.inr (.inr (.inr (11, 0, 83)))), some (.inl (iZ (hr))), some (.inl (iZ (c))), some (.inl (iZ (g)))], [.inl (iZ (1)), .inl (iZ (c))], h)) rfl ?_
        refine Ev.gv (w := (iZ (c + 1))) rfl (iZ_add _ _) ?_
        refine Ev.sts 1 (c' := (53, [some (.inr (.inr (.inr (11, 0, 83)))), some (.inl (iZ (hr))), some (.inl (iZ (c + 1))), some (.inl (iZ (g)))], [], h)) rfl ?_
        refine Ev.stc (c1 := (56, [some (.inr (.inr (.inr (11, 0, 83)))), some (.inl (iZ (hr))), some (.inl (iZ (c + 1))), some (.inl ((iZ (g)) + (iZ (1))))], [], h)) (c2 := (56, [some (.inr (.inr (.inr (11, 0, 83)))), some (.inl (iZ (hr))), some (.inl (iZ (c + 1))), some (.inl (iZ (g + 1)))], [], h)) rfl (by rw [iZ_add]) ?_
        refine Ev.sts 1 (c' := (26, [some (.inr (.inr (.inr (11, 0, 83)))), some (.inl (iZ (hr))), some (.inl (iZ (c + 1))), some (.inl (iZ (g + 1)))], [], h)) rfl ?_
        refine ih (g + 1) (c + 1) (by omega) (by omega) (by omega) ?_
        rw [e0] at q
        replace q : Q (.inl (some (.inl (iZ ((c : Int) + (((if hr - hr % (if ((bkS S).2.2.getD g g0).2.2.1 = 0 then 1 else ((bkS S).2.2.getD g g0).2.2.1) + ((bkS S).2.2.getD g g0).2.1 ≤ wmS S then 1 else 0) + wblF ((bkS S).2.2.drop (g + 1)) hr (wmS S) : Nat) : Int)))))) h := q
        rw [if_pos c1] at q
        rw [show (c : Int) + ((1 + wblF ((bkS S).2.2.drop (g + 1)) hr (wmS S) : Nat) : Int) = ((c + 1 : Nat) : Int) + (wblF ((bkS S).2.2.drop (g + 1)) hr (wmS S) : Int) by omega] at q
        exact q
      · refine Ev.brT (p := (iZ (0)) = (iZ (0))) (c1 := (50, [some (.inr (.inr (.inr (11, 0, 83)))), some (.inl (iZ (hr))), some (.inl (iZ (c))), some (.inl (iZ (g)))], [.inl (iZ (c))], h)) (c2 := (46, [some (.inr (.inr (.inr (11, 0, 83)))), some (.inl (iZ (hr))), some (.inl (iZ (c))), some (.inl (iZ (g)))], [.inl (iZ (c))], h)) (by decide) rfl ?_
        refine Ev.sts 1 (c' := (51, [some (.inr (.inr (.inr (11, 0, 83)))), some (.inl (iZ (hr))), some (.inl (iZ (c))), some (.inl (iZ (g)))], [.inl (iZ (0)), .inl (iZ (c))], h)) rfl ?_
        refine Ev.gv (w := (iZ (c + 0))) rfl (iZ_add _ _) ?_
        refine Ev.sts 1 (c' := (53, [some (.inr (.inr (.inr (11, 0, 83)))), some (.inl (iZ (hr))), some (.inl (iZ (c + 0))), some (.inl (iZ (g)))], [], h)) rfl ?_
        refine Ev.stc (c1 := (56, [some (.inr (.inr (.inr (11, 0, 83)))), some (.inl (iZ (hr))), some (.inl (iZ (c + 0))), some (.inl ((iZ (g)) + (iZ (1))))], [], h)) (c2 := (56, [some (.inr (.inr (.inr (11, 0, 83)))), some (.inl (iZ (hr))), some (.inl (iZ (c + 0))), some (.inl (iZ (g + 1)))], [], h)) rfl (by rw [iZ_add]) ?_
        refine Ev.sts 1 (c' := (26, [some (.inr (.inr (.inr (11, 0, 83)))), some (.inl (iZ (hr))), some (.inl (iZ (c + 0))), some (.inl (iZ (g + 1)))], [], h)) rfl ?_
        refine ih (g + 1) (c) (by omega) (by omega) (by omega) ?_
        rw [e0] at q
        replace q : Q (.inl (some (.inl (iZ ((c : Int) + (((if hr - hr % (if ((bkS S).2.2.getD g g0).2.2.1 = 0 then 1 else ((bkS S).2.2.getD g g0).2.2.1) + ((bkS S).2.2.getD g g0).2.1 ≤ wmS S then 1 else 0) + wblF ((bkS S).2.2.drop (g + 1)) hr (wmS S) : Nat) : Int)))))) h := q
        rw [if_neg c1] at q
        rw [show (c : Int) + ((0 + wblF ((bkS S).2.2.drop (g + 1)) hr (wmS S) : Nat) : Int) = ((c : Nat) : Int) + (wblF ((bkS S).2.2.drop (g + 1)) hr (wmS S) : Int) by omega] at q
        exact q

theorem mq_wouldBeLate {d : Nat} {y : Y4} {S : Sta} {h : PH} (I : MI h S y) (W : WN S) {p : Int} (hc : 0 ≤ p ∧ p ≤ 999) : Rv (d + 3) 270 [.inr (.inr (.inr (11, 0, 83))), .inl (iZ (p))] h (some (.inl (iZ (wblF (bkS S).2.2 p (wmS S))))) (setI h 83 0 (iZ 0)) := Rv.of fun Q q => by
  have W0 := W
  obtain ⟨⟨w1, w2, w3, w4, w5, w6⟩, w7, w8, w9, w10, w11, w12, w13, w14, w15, w16, w17, w18⟩ := W0
  have wB : bkN (bkS S) := ⟨w1, w2, w3, w4, w5, w6⟩
  have sh0 := mi_sh I
  have al := alW_len (wdS S) 6 0
  have tl5 := lnL_le (ws := wdS S) (K := 128) (fun g => (w14 g).2) 6 0
  have alB_ := alW_B (ws := wdS S) (N := 1000) (fun g _ => (w14 g).1)
  have on1 := (mi_op I).2.1
  have on2 := (mi_op I).2.2.2.1
  have tn1 := (mi_tm I).2.1
  have tn2 := (mi_tm I).2.2.2.1
  refine Ev.sts 6 (c' := (10, [some (.inr (.inr (.inr (11, 0, 83)))), some (.inl (iZ (p))), none, none], [.inl (iZ (999)), .inl (iZ (0)), .inl (iZ (p))], (setI h 83 0 ((iZ (0)))))) rfl ?_
  refine Ev.callw (a := [.inl (iZ (p)), .inl (iZ (0)), .inl (iZ (999))]) rfl (mp_isIn ⟨by omega, by omega⟩ ⟨by omega, by omega⟩ ⟨by omega, by omega⟩ (fun _ => ?_) (fun z => absurd hc z))
  refine Ev.brT (p := ¬ (iZ (1)) = (iZ (0))) (c1 := (22, [some (.inr (.inr (.inr (11, 0, 83)))), some (.inl (iZ (p))), none, none], [], (setI h 83 0 ((iZ (0)))))) (c2 := (16, [some (.inr (.inr (.inr (11, 0, 83)))), some (.inl (iZ (p))), none, none], [], (setI h 83 0 ((iZ (0)))))) (by decide) rfl ?_
  refine Ev.sts 4 (c' := (26, [some (.inr (.inr (.inr (11, 0, 83)))), some (.inl (iZ (p))), some (.inl (iZ (0))), some (.inl (iZ (0)))], [], (setI h 83 0 ((iZ (0)))))) rfl ?_
  refine mx_wbl_lp (MI_th (v := iZ 0) I) W ⟨hc.1, hc.2⟩ ((bkS S).2.2.length + 1) 0 0 (by omega) (by omega) (by omega) ?_
  rw [List.drop_zero, show ((0 : Nat) : Int) + (wblF (bkS S).2.2 p (wmS S) : Int) = (wblF (bkS S).2.2 p (wmS S) : Int) by omega]
  exact q

theorem allW_at (ws : Nat → List Win) {g k : Nat} (hg : g < 6) (hk : k < (ws g).length) : ∃ n, n + k < (allW ws).length ∧ (∀ j, j < n → ((allW ws).getD j t0).1 < g) ∧ ∀ j, j < (ws g).length → n + j < (allW ws).length ∧ (allW ws).getD (n + j) t0 = (g, (ws g).getD j w0) := by
  obtain ⟨pre, post, h1, h2, h3⟩ := allW_d ws hg
  have hl : (allW ws).length = pre.length + ((ws g).length + post.length) := by
    rw [h3, List.length_append, List.length_append, List.length_map]
  have hj : ∀ j, j < (ws g).length → pre.length + j < (allW ws).length ∧ (allW ws).getD (pre.length + j) t0 = (g, (ws g).getD j w0) := by
    intro j j1
    refine ⟨by omega, ?_⟩
    rw [h3, app_getR, app_getL t0 _ _ j (by rw [List.length_map]; exact j1), map_getD g _ j j1]
  refine ⟨pre.length, (hj k hk).1, fun j j1 => ?_, hj⟩
  rw [h3, app_getL t0 _ _ j j1]
  have e : pre.getD j t0 = pre[j] := by
    rw [List.getD_eq_getElem?_getD, List.getElem?_eq_getElem j1]; rfl
  rw [e]
  exact h1 _ (List.getElem_mem j1)
