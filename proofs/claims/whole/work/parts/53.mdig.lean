/-! The reference's digest: its rows. -/
theorem fT_at : ∀ (L : List Tel) (k c : Nat), k < L.length → c < 5 → (L.flatMap dT).getD (5 * k + c) 0 = (dT (L.getD k t0)).getD c 0 := by
  intro L
  induction L with
  | nil => intro k c h1 _; exact absurd h1 (Nat.not_lt_zero _)
  | cons t L ih =>
    intro k c h1 h2
    rw [List.flatMap_cons]
    cases k with
    | zero =>
      rw [Nat.mul_zero, Nat.zero_add]
      exact app_getL 0 (dT t) _ c h2
    | succ k =>
      rw [show 5 * (k + 1) + c = (dT t).length + (5 * k + c) by show _ = 5 + (5 * k + c); omega, app_getR]
      exact ih k c (Nat.lt_of_succ_lt_succ h1) h2
theorem fT_len (L : List Tel) : (L.flatMap dT).length = 5 * L.length := by
  induction L with
  | nil => rfl
  | cons t L ih =>
    rw [List.flatMap_cons, List.length_append, ih]
    show 5 + 5 * L.length = 5 * (L.length + 1)
    omega
theorem raw_at {h : PH} {t : Nat} {T : List Tel} (hr : ∀ j, j < T.length → rT h t j (T.getD j t0)) (j : Nat) (hj : j < 5 * T.length) : h.1 t j = (T.flatMap dT).getD j 0 := by
  obtain ⟨k, c, e, hc⟩ : ∃ k c, j = 5 * k + c ∧ c < 5 := ⟨j / 5, j % 5, by omega, by omega⟩
  subst e
  have hk : k < T.length := by omega
  rw [fT_at T k c hk hc]
  obtain ⟨r0, r1, r2, r3, r4⟩ := hr k hk
  match c, hc with
  | 0, _ => exact r0
  | 1, _ => exact r1
  | 2, _ => exact r2
  | 3, _ => exact r3
  | 4, _ => exact r4
theorem alW_split (ws : Nat → List Win) (m : Nat) : ∀ k f, alW ws (k + m) f = alW ws k f ++ alW ws m (f + k) := by
  intro k
  induction k with
  | zero => intro f; rw [Nat.zero_add]; rfl
  | succ k ih =>
    intro f
    rw [show k + 1 + m = (k + m) + 1 by omega]
    show (ws f).map (Prod.mk f) ++ alW ws (k + m) (f + 1) = ((ws f).map (Prod.mk f) ++ alW ws k (f + 1)) ++ alW ws m (f + (k + 1))
    rw [ih (f + 1), List.append_assoc, show f + 1 + k = f + (k + 1) by omega]
theorem alW_pos (ws : Nat → List Win) {g : Nat} (hg : g < 6) : (∀ j, j < (ws g).length → lnL ws g 0 + j < (allW ws).length ∧ (allW ws).getD (lnL ws g 0 + j) t0 = (g, (ws g).getD j w0)) ∧ (lnL ws g 0 + (ws g).length < (allW ws).length → ((allW ws).getD (lnL ws g 0 + (ws g).length) t0).1 ≠ g) ∧ lnL ws g 0 + (ws g).length ≤ (allW ws).length := by
  obtain ⟨m, hm⟩ : ∃ m, 6 = g + (m + 1) := ⟨5 - g, by omega⟩
  have e : allW ws = alW ws g 0 ++ ((ws g).map (Prod.mk g) ++ alW ws m (g + 1)) := by
    unfold allW
    rw [hm, alW_split, Nat.zero_add]; rfl
  have e2 : lnL ws g 0 = (alW ws g 0).length := (alW_len ws g 0).symm
  have hl : (allW ws).length = lnL ws g 0 + ((ws g).length + (alW ws m (g + 1)).length) := by
    rw [e, List.length_append, List.length_append, List.length_map, e2]
  refine ⟨fun j hj => ⟨by omega, ?_⟩, fun h1 => ?_, by omega⟩
  · rw [e, e2, app_getR, app_getL t0 _ _ j (by rw [List.length_map]; exact hj), map_getD g _ j hj]
  · have h2 : 0 < (alW ws m (g + 1)).length := by omega
    have e3 : (allW ws).getD (lnL ws g 0 + (ws g).length) t0 = (alW ws m (g + 1)).getD 0 t0 := by
      rw [e, e2, app_getR, show (ws g).length = ((ws g).map (Prod.mk g)).length + 0 by rw [List.length_map]; rfl, app_getR]
    have e4 : (alW ws m (g + 1)).getD 0 t0 = (alW ws m (g + 1))[0] := by
      rw [List.getD_eq_getElem?_getD, List.getElem?_eq_getElem h2]; rfl
    rw [e3, e4]
    have h3 := (alW_mem m (g + 1) _ (List.getElem_mem h2)).1
    omega
theorem lnL_s (ws : Nat → List Win) : ∀ g f, lnL ws (g + 1) f = lnL ws g f + (ws (f + g)).length := by
  intro g
  induction g with
  | zero => intro f; show (ws f).length + 0 = 0 + (ws (f + 0)).length; rw [Nat.add_zero, Nat.zero_add]; rfl
  | succ g ih =>
    intro f
    show (ws f).length + lnL ws (g + 1) (f + 1) = ((ws f).length + lnL ws g (f + 1)) + (ws (f + (g + 1))).length
    rw [ih (f + 1), show f + 1 + g = f + (g + 1) by omega, Nat.add_assoc]
theorem mx_dt_lp {d : Nat} {y : Y4} {S : Sta} {h : PH} {Q : Rs → PH → Prop} (I : MI h S y) (W : WN S) {a1 : Nat} {a4 : Int32} {a6 a7 a8 a9 a10 : Option VV} (m : Nat) : ∀ (j : Nat) (x : Int64), j ≤ 5 * (tlS S).length → 5 * (tlS S).length < j + m → Q (.inl (some (.inr (.inl (dgl x (((tlS S).flatMap dT).drop j)))))) h → Ev d 278 (373, [some (.inr (.inr (.inr (11, 0, 83)))), some (.inr (.inr (.inr (20, 12, a1)))), some (.inr (.inl (x))), none, some (.inl (a4)), some (.inl (iZ (j))), a6, a7, a8, a9, a10], [], h) Q := by
  have W0 := W
  obtain ⟨⟨w1, w2, w3, w4, w5, w6⟩, w7, w8, w9, w10, w11, w12, w13, w14, w15, w16, w17, w18⟩ := W0
  have wB : bkN (bkS S) := ⟨w1, w2, w3, w4, w5, w6⟩
  have sh0 := mi_sh I
  have al := alW_len (wdS S) 6 0
  have tl5 := lnL_le (ws := wdS S) (K := 128) (fun g => (w14 g).2) 6 0
  have alB_ := alW_B (ws := wdS S) (N := 1000) (fun g _ => (w14 g).1)
  have on1 := (mi_op I).2.1
  have on2 := (mi_op I).2.2.2.1
  have tn1 := (mi_tm I).2.1
  have tn2 := (mi_tm I).2.2.2.1
  have fl := fT_len (tlS S)
  induction m with
  | zero => intro j x h1 h2 q; omega
  | succ m ih =>
    intro j x h1 h2 q
    refine Ev.sts 3 (c' := (377, [some (.inr (.inr (.inr (11, 0, 83)))), some (.inr (.inr (.inr (20, 12, a1)))), some (.inr (.inl (x))), none, some (.inl (a4)), some (.inl (iZ (j))), a6, a7, a8, a9, a10], [.inr (.inr (.inr (11, 0, 83))), .inl (iZ (5)), .inl (iZ (j))], h)) rfl ?_
    refine Ev.gv (w := (iZ ((tlS S).length))) rfl (mi_tm I).1 ?_
    refine Ev.gv (w := (iZ (5 * ((tlS S).length)))) rfl (iZ_mul _ _) ?_
    refine Ev.brc (p := (iZ (5 * ((tlS S).length))) ≤ (iZ (j))) (q := ((5 * ((tlS S).length) : Int)) ≤ j) (c1 := (405, [some (.inr (.inr (.inr (11, 0, 83)))), some (.inr (.inr (.inr (20, 12, a1)))), some (.inr (.inl (x))), none, some (.inl (a4)), some (.inl (iZ (j))), a6, a7, a8, a9, a10], [], h)) (c2 := (384, [some (.inr (.inr (.inr (11, 0, 83)))), some (.inr (.inr (.inr (20, 12, a1)))), some (.inr (.inl (x))), none, some (.inl (a4)), some (.inl (iZ (j))), a6, a7, a8, a9, a10], [], h)) rfl (iZ_le ⟨by omega, by omega⟩ ⟨by omega, by omega⟩) (fun c0 => ?_) (fun c0 => ?_)
    · refine Ev.sts 1 (c' := (406, [some (.inr (.inr (.inr (11, 0, 83)))), some (.inr (.inr (.inr (20, 12, a1)))), some (.inr (.inl (x))), none, some (.inl (a4)), some (.inl (iZ (j))), a6, a7, a8, a9, a10], [.inr (.inl (x))], h)) rfl ?_
      rw [List.drop_eq_nil_of_le (show ((tlS S).flatMap dT).length ≤ j by omega)] at q
      exact Ev.ret rfl q
    · have e0 := drop_getD 0 ((tlS S).flatMap dT) j (by omega)
      refine Ev.sts 4 (c' := (390, [some (.inr (.inr (.inr (11, 0, 83)))), some (.inr (.inr (.inr (20, 12, a1)))), some (.inr (.inl (x))), none, some (.inl (a4)), some (.inl (iZ (j))), a6, a7, a8, a9, a10], [.inr (.inr (.inr (11, 0, 83))), .inr (.inl ((x * (31 : Int64))))], h)) rfl ?_
      refine Ev.gfr (r := (20, y.2.2.1, y.2.2.2)) rfl (mi_tm I).2.2.2.2.1 ?_
      refine Ev.sts 1 (c' := (395, [some (.inr (.inr (.inr (11, 0, 83)))), some (.inr (.inr (.inr (20, 12, a1)))), some (.inr (.inl (x))), none, some (.inl (a4)), some (.inl (iZ (j))), a6, a7, a8, a9, a10], [.inl (iZ (j)), .inr (.inr (.inr (20, y.2.2.1, y.2.2.2))), .inr (.inl ((x * (31 : Int64))))], h)) rfl ?_
      refine Ev.ldv (j := (iZ (j))) (n := y.2.2.1) (w := .inl (((tlS S).flatMap dT).getD j 0)) (iZ_in (by omega) (by omega) (by omega)) rfl (by rw [iZ_ix (n := j) (by omega) (by omega)]; exact congrArg vI (raw_at (mi_tm I).2.2.2.2.2.2 j (by omega))) ?_
      refine Ev.sts 3 (c' := (399, [some (.inr (.inr (.inr (11, 0, 83)))), some (.inr (.inr (.inr (20, 12, a1)))), some (.inr (.inl (((x * (31 : Int64)) + (((tlS S).flatMap dT).getD j 0).toInt64)))), none, some (.inl (a4)), some (.inl (iZ (j))), a6, a7, a8, a9, a10], [], h)) rfl ?_
      refine Ev.stc (c1 := (402, [some (.inr (.inr (.inr (11, 0, 83)))), some (.inr (.inr (.inr (20, 12, a1)))), some (.inr (.inl (((x * (31 : Int64)) + (((tlS S).flatMap dT).getD j 0).toInt64)))), none, some (.inl (a4)), some (.inl ((iZ (j)) + (iZ (1)))), a6, a7, a8, a9, a10], [], h)) (c2 := (402, [some (.inr (.inr (.inr (11, 0, 83)))), some (.inr (.inr (.inr (20, 12, a1)))), some (.inr (.inl (((x * (31 : Int64)) + (((tlS S).flatMap dT).getD j 0).toInt64)))), none, some (.inl (a4)), some (.inl (iZ (j + 1))), a6, a7, a8, a9, a10], [], h)) rfl (by rw [iZ_add]) ?_
      refine Ev.sts 1 (c' := (373, [some (.inr (.inr (.inr (11, 0, 83)))), some (.inr (.inr (.inr (20, 12, a1)))), some (.inr (.inl (((x * (31 : Int64)) + (((tlS S).flatMap dT).getD j 0).toInt64)))), none, some (.inl (a4)), some (.inl (iZ (j + 1))), a6, a7, a8, a9, a10], [], h)) rfl ?_
      refine ih (j + 1) _ (by omega) (by omega) ?_
      rw [e0] at q
      exact q

theorem mx_dw_lp {d : Nat} {y : Y4} {S : Sta} {h : PH} {Q : Rs → PH → Prop} (I : MI h S y) (W : WN S) {a1 a6 g : Nat} (hg : g < 6) {a8 a9 a10 : Option VV} (m : Nat) : ∀ (j : Nat) (x : Int64) (a7 : Option VV), j + m = (wdS S g).length → (∀ b7 : Option VV, Ev (d + 1) 278 (364, [some (.inr (.inr (.inr (11, 0, 83)))), some (.inr (.inr (.inr (20, 12, a1)))), some (.inr (.inl (dgl x (((wdS S g).drop j).flatMap dW)))), none, some (.inl (iZ (lnL (wdS S) g 0 + (wdS S g).length))), some (.inl (iZ (g))), some (.inr (.inr (.inr (20, 4, a6)))), b7, a8, a9, a10], [], h) Q) → Ev (d + 1) 278 (306, [some (.inr (.inr (.inr (11, 0, 83)))), some (.inr (.inr (.inr (20, 12, a1)))), some (.inr (.inl (x))), none, some (.inl (iZ (lnL (wdS S) g 0 + j))), some (.inl (iZ (g))), some (.inr (.inr (.inr (20, 4, a6)))), a7, a8, a9, a10], [], h) Q := by
  have W0 := W
  obtain ⟨⟨w1, w2, w3, w4, w5, w6⟩, w7, w8, w9, w10, w11, w12, w13, w14, w15, w16, w17, w18⟩ := W0
  have wB : bkN (bkS S) := ⟨w1, w2, w3, w4, w5, w6⟩
  have sh0 := mi_sh I
  have al := alW_len (wdS S) 6 0
  have tl5 := lnL_le (ws := wdS S) (K := 128) (fun g => (w14 g).2) 6 0
  have alB_ := alW_B (ws := wdS S) (N := 1000) (fun g _ => (w14 g).1)
  have on1 := (mi_op I).2.1
  have on2 := (mi_op I).2.2.2.1
  have tn1 := (mi_tm I).2.1
  have tn2 := (mi_tm I).2.2.2.1
  obtain ⟨ap1, ap2, ap3⟩ := alW_pos (wdS S) hg
  have wl1 := (w14 g).2
  induction m with
  | zero =>
    intro j x a7 h1 q
    obtain rfl : j = (wdS S g).length := by omega
    rw [List.drop_eq_nil_of_le (Nat.le_refl _)] at q
    refine Ev.sts 2 (c' := (309, [some (.inr (.inr (.inr (11, 0, 83)))), some (.inr (.inr (.inr (20, 12, a1)))), some (.inr (.inl (x))), none, some (.inl (iZ (lnL (wdS S) g 0 + (wdS S g).length))), some (.inl (iZ (g))), some (.inr (.inr (.inr (20, 4, a6)))), a7, a8, a9, a10], [.inr (.inr (.inr (11, 0, 83))), .inl (iZ (lnL (wdS S) g 0 + (wdS S g).length))], h)) rfl ?_
    refine Ev.gv (w := (iZ ((allW (wdS S)).length))) rfl (mi_op I).1 ?_
    refine Ev.brc (p := (iZ ((allW (wdS S)).length)) ≤ (iZ (lnL (wdS S) g 0 + (wdS S g).length))) (q := (((allW (wdS S)).length : Int)) ≤ (lnL (wdS S) g 0 + (wdS S g).length)) (c1 := (364, [some (.inr (.inr (.inr (11, 0, 83)))), some (.inr (.inr (.inr (20, 12, a1)))), some (.inr (.inl (x))), none, some (.inl (iZ (lnL (wdS S) g 0 + (wdS S g).length))), some (.inl (iZ (g))), some (.inr (.inr (.inr (20, 4, a6)))), a7, a8, a9, a10], [], h)) (c2 := (315, [some (.inr (.inr (.inr (11, 0, 83)))), some (.inr (.inr (.inr (20, 12, a1)))), some (.inr (.inl (x))), none, some (.inl (iZ (lnL (wdS S) g 0 + (wdS S g).length))), some (.inl (iZ (g))), some (.inr (.inr (.inr (20, 4, a6)))), a7, a8, a9, a10], [], h)) rfl (iZ_le ⟨by omega, by omega⟩ ⟨by omega, by omega⟩) (fun c0 => ?_) (fun c0 => ?_)
    · exact q a7
    · have ap4 := ap2 (by omega)
      obtain ⟨z0, -⟩ := alB_ (lnL (wdS S) g 0 + (wdS S g).length) (by omega)
      refine Ev.sts 3 (c' := (319, [some (.inr (.inr (.inr (11, 0, 83)))), some (.inr (.inr (.inr (20, 12, a1)))), some (.inr (.inl (x))), none, some (.inl (iZ (lnL (wdS S) g 0 + (wdS S g).length))), some (.inl (iZ (g))), some (.inr (.inr (.inr (20, 4, a6)))), a7, a8, a9, a10], [.inl (iZ (0)), .inl (iZ (lnL (wdS S) g 0 + (wdS S g).length)), .inr (.inr (.inr (11, 0, 83)))], h)) rfl ?_
      refine Ev.callv (a := [.inr (.inr (.inr (11, 0, 83))), .inl (iZ (lnL (wdS S) g 0 + (wdS S g).length)), .inl (iZ (0))]) rfl (mp_win0 (w := lnL (wdS S) g 0 + (wdS S g).length) (mi_op I) (by omega) (by omega) rfl) ?_
      refine Ev.sts 1 (c' := (324, [some (.inr (.inr (.inr (11, 0, 83)))), some (.inr (.inr (.inr (20, 12, a1)))), some (.inr (.inl (x))), none, some (.inl (iZ (lnL (wdS S) g 0 + (wdS S g).length))), some (.inl (iZ (g))), some (.inr (.inr (.inr (20, 4, a6)))), a7, a8, a9, a10], [.inl (iZ (g)), .inl (iZ (((allW (wdS S)).getD (lnL (wdS S) g 0 + (wdS S g).length) t0).1))], h)) rfl ?_
      refine Ev.brT (p := ¬ (iZ (((allW (wdS S)).getD (lnL (wdS S) g 0 + (wdS S g).length) t0).1)) = (iZ (g))) (c1 := (364, [some (.inr (.inr (.inr (11, 0, 83)))), some (.inr (.inr (.inr (20, 12, a1)))), some (.inr (.inl (x))), none, some (.inl (iZ (lnL (wdS S) g 0 + (wdS S g).length))), some (.inl (iZ (g))), some (.inr (.inr (.inr (20, 4, a6)))), a7, a8, a9, a10], [], h)) (c2 := (327, [some (.inr (.inr (.inr (11, 0, 83)))), some (.inr (.inr (.inr (20, 12, a1)))), some (.inr (.inl (x))), none, some (.inl (iZ (lnL (wdS S) g 0 + (wdS S g).length))), some (.inl (iZ (g))), some (.inr (.inr (.inr (20, 4, a6)))), a7, a8, a9, a10], [], h)) ((not_congr (iZ_eq ⟨by omega, by omega⟩ ⟨by omega, by omega⟩)).mpr (by omega)) rfl ?_
      exact q a7
  | succ m ih =>
    intro j x a7 h1 q
    obtain ⟨e2, e1⟩ := ap1 j (by omega)
    have e0 := drop_getD w0 (wdS S g) j (by omega)
    obtain ⟨b1, b2, b3, b4, b5, b6⟩ := (w14 g).1 j (by omega)
    refine Ev.sts 2 (c' := (309, [some (.inr (.inr (.inr (11, 0, 83)))), some (.inr (.inr (.inr (20, 12, a1)))), some (.inr (.inl (x))), none, some (.inl (iZ (lnL (wdS S) g 0 + j))), some (.inl (iZ (g))), some (.inr (.inr (.inr (20, 4, a6)))), a7, a8, a9, a10], [.inr (.inr (.inr (11, 0, 83))), .inl (iZ (lnL (wdS S) g 0 + j))], h)) rfl ?_
    refine Ev.gv (w := (iZ ((allW (wdS S)).length))) rfl (mi_op I).1 ?_
    refine Ev.brF (p := (iZ ((allW (wdS S)).length)) ≤ (iZ (lnL (wdS S) g 0 + j))) (c1 := (364, [some (.inr (.inr (.inr (11, 0, 83)))), some (.inr (.inr (.inr (20, 12, a1)))), some (.inr (.inl (x))), none, some (.inl (iZ (lnL (wdS S) g 0 + j))), some (.inl (iZ (g))), some (.inr (.inr (.inr (20, 4, a6)))), a7, a8, a9, a10], [], h)) (c2 := (315, [some (.inr (.inr (.inr (11, 0, 83)))), some (.inr (.inr (.inr (20, 12, a1)))), some (.inr (.inl (x))), none, some (.inl (iZ (lnL (wdS S) g 0 + j))), some (.inl (iZ (g))), some (.inr (.inr (.inr (20, 4, a6)))), a7, a8, a9, a10], [], h)) (fun c_ => absurd ((iZ_le ⟨by omega, by omega⟩ ⟨by omega, by omega⟩).mp c_) (by omega)) rfl ?_
    refine Ev.sts 3 (c' := (319, [some (.inr (.inr (.inr (11, 0, 83)))), some (.inr (.inr (.inr (20, 12, a1)))), some (.inr (.inl (x))), none, some (.inl (iZ (lnL (wdS S) g 0 + j))), some (.inl (iZ (g))), some (.inr (.inr (.inr (20, 4, a6)))), a7, a8, a9, a10], [.inl (iZ (0)), .inl (iZ (lnL (wdS S) g 0 + j)), .inr (.inr (.inr (11, 0, 83)))], h)) rfl ?_
    refine Ev.callv (a := [.inr (.inr (.inr (11, 0, 83))), .inl (iZ (lnL (wdS S) g 0 + j)), .inl (iZ (0))]) rfl (mp_win0 (w := lnL (wdS S) g 0 + j) (mi_op I) (by omega) e2 e1) ?_
    refine Ev.sts 1 (c' := (324, [some (.inr (.inr (.inr (11, 0, 83)))), some (.inr (.inr (.inr (20, 12, a1)))), some (.inr (.inl (x))), none, some (.inl (iZ (lnL (wdS S) g 0 + j))), some (.inl (iZ (g))), some (.inr (.inr (.inr (20, 4, a6)))), a7, a8, a9, a10], [.inl (iZ (g)), .inl (iZ (g))], h)) rfl ?_
    refine Ev.brF (p := ¬ (iZ (g)) = (iZ (g))) (c1 := (364, [some (.inr (.inr (.inr (11, 0, 83)))), some (.inr (.inr (.inr (20, 12, a1)))), some (.inr (.inl (x))), none, some (.inl (iZ (lnL (wdS S) g 0 + j))), some (.inl (iZ (g))), some (.inr (.inr (.inr (20, 4, a6)))), a7, a8, a9, a10], [], h)) (c2 := (327, [some (.inr (.inr (.inr (11, 0, 83)))), some (.inr (.inr (.inr (20, 12, a1)))), some (.inr (.inl (x))), none, some (.inl (iZ (lnL (wdS S) g 0 + j))), some (.inl (iZ (g))), some (.inr (.inr (.inr (20, 4, a6)))), a7, a8, a9, a10], [], h)) (fun c_ => absurd ((not_congr (iZ_eq ⟨by omega, by omega⟩ ⟨by omega, by omega⟩)).mp c_) (by omega)) rfl ?_
    refine Ev.sts 4 (c' := (333, [some (.inr (.inr (.inr (11, 0, 83)))), some (.inr (.inr (.inr (20, 12, a1)))), some (.inr (.inl (x))), none, some (.inl (iZ (lnL (wdS S) g 0 + j))), some (.inl (iZ (g))), some (.inr (.inr (.inr (20, 4, a6)))), some (.inl (iZ (1))), a8, a9, a10], [.inl (iZ (5)), .inl (iZ (1))], h)) rfl ?_
    refine Ev.brF (p := (iZ (5)) ≤ (iZ (1))) (c1 := (358, [some (.inr (.inr (.inr (11, 0, 83)))), some (.inr (.inr (.inr (20, 12, a1)))), some (.inr (.inl (x))), none, some (.inl (iZ (lnL (wdS S) g 0 + j))), some (.inl (iZ (g))), some (.inr (.inr (.inr (20, 4, a6)))), some (.inl (iZ (1))), a8, a9, a10], [], h)) (c2 := (336, [some (.inr (.inr (.inr (11, 0, 83)))), some (.inr (.inr (.inr (20, 12, a1)))), some (.inr (.inl (x))), none, some (.inl (iZ (lnL (wdS S) g 0 + j))), some (.inl (iZ (g))), some (.inr (.inr (.inr (20, 4, a6)))), some (.inl (iZ (1))), a8, a9, a10], [], h)) (by decide) rfl ?_
    refine Ev.sts 6 (c' := (346, [some (.inr (.inr (.inr (11, 0, 83)))), some (.inr (.inr (.inr (20, 12, a1)))), some (.inr (.inl (x))), none, some (.inl (iZ (lnL (wdS S) g 0 + j))), some (.inl (iZ (g))), some (.inr (.inr (.inr (20, 4, a6)))), some (.inl (iZ (1))), a8, a9, a10], [.inl (iZ (1)), .inl (iZ (lnL (wdS S) g 0 + j)), .inr (.inr (.inr (11, 0, 83))), .inr (.inl ((x * (31 : Int64))))], h)) rfl ?_
    refine Ev.callv (a := [.inr (.inr (.inr (11, 0, 83))), .inl (iZ (lnL (wdS S) g 0 + j)), .inl (iZ (1))]) rfl (mp_win1 (w := lnL (wdS S) g 0 + j) (mi_op I) (by omega) e2 e1) ?_
    refine Ev.sts 3 (c' := (352, [some (.inr (.inr (.inr (11, 0, 83)))), some (.inr (.inr (.inr (20, 12, a1)))), some (.inr (.inl (((x * (31 : Int64)) + ((iZ (((wdS S g).getD j w0).1))).toInt64)))), none, some (.inl (iZ (lnL (wdS S) g 0 + j))), some (.inl (iZ (g))), some (.inr (.inr (.inr (20, 4, a6)))), some (.inl (iZ (1))), a8, a9, a10], [], h)) rfl ?_
    refine Ev.stc (c1 := (355, [some (.inr (.inr (.inr (11, 0, 83)))), some (.inr (.inr (.inr (20, 12, a1)))), some (.inr (.inl (((x * (31 : Int64)) + ((iZ (((wdS S g).getD j w0).1))).toInt64)))), none, some (.inl (iZ (lnL (wdS S) g 0 + j))), some (.inl (iZ (g))), some (.inr (.inr (.inr (20, 4, a6)))), some (.inl ((iZ (1)) + (iZ (1)))), a8, a9, a10], [], h)) (c2 := (355, [some (.inr (.inr (.inr (11, 0, 83)))), some (.inr (.inr (.inr (20, 12, a1)))), some (.inr (.inl (((x * (31 : Int64)) + ((iZ (((wdS S g).getD j w0).1))).toInt64)))), none, some (.inl (iZ (lnL (wdS S) g 0 + j))), some (.inl (iZ (g))), some (.inr (.inr (.inr (20, 4, a6)))), some (.inl (iZ (2))), a8, a9, a10], [], h)) rfl (by rw [iZ_add]; rfl) ?_
    refine Ev.sts 3 (c' := (333, [some (.inr (.inr (.inr (11, 0, 83)))), some (.inr (.inr (.inr (20, 12, a1)))), some (.inr (.inl (((x * (31 : Int64)) + ((iZ (((wdS S g).getD j w0).1))).toInt64)))), none, some (.inl (iZ (lnL (wdS S) g 0 + j))), some (.inl (iZ (g))), some (.inr (.inr (.inr (20, 4, a6)))), some (.inl (iZ (2))), a8, a9, a10], [.inl (iZ (5)), .inl (iZ (2))], h)) rfl ?_
    refine Ev.brF (p := (iZ (5)) ≤ (iZ (2))) (c1 := (358, [some (.inr (.inr (.inr (11, 0, 83)))), some (.inr (.inr (.inr (20, 12, a1)))), some (.inr (.inl (((x * (31 : Int64)) + ((iZ (((wdS S g).getD j w0).1))).toInt64)))), none, some (.inl (iZ (lnL (wdS S) g 0 + j))), some (.inl (iZ (g))), some (.inr (.inr (.inr (20, 4, a6)))), some (.inl (iZ (2))), a8, a9, a10], [], h)) (c2 := (336, [some (.inr (.inr (.inr (11, 0, 83)))), some (.inr (.inr (.inr (20, 12, a1)))), some (.inr (.inl (((x * (31 : Int64)) + ((iZ (((wdS S g).getD j w0).1))).toInt64)))), none, some (.inl (iZ (lnL (wdS S) g 0 + j))), some (.inl (iZ (g))), some (.inr (.inr (.inr (20, 4, a6)))), some (.inl (iZ (2))), a8, a9, a10], [], h)) (by decide) rfl ?_
    refine Ev.sts 6 (c' := (346, [some (.inr (.inr (.inr (11, 0, 83)))), some (.inr (.inr (.inr (20, 12, a1)))), some (.inr (.inl (((x * (31 : Int64)) + ((iZ (((wdS S g).getD j w0).1))).toInt64)))), none, some (.inl (iZ (lnL (wdS S) g 0 + j))), some (.inl (iZ (g))), some (.inr (.inr (.inr (20, 4, a6)))), some (.inl (iZ (2))), a8, a9, a10], [.inl (iZ (2)), .inl (iZ (lnL (wdS S) g 0 + j)), .inr (.inr (.inr (11, 0, 83))), .inr (.inl ((((x * (31 : Int64)) + ((iZ (((wdS S g).getD j w0).1))).toInt64) * (31 : Int64))))], h)) rfl ?_
    refine Ev.callv (a := [.inr (.inr (.inr (11, 0, 83))), .inl (iZ (lnL (wdS S) g 0 + j)), .inl (iZ (2))]) rfl (mp_win2 (w := lnL (wdS S) g 0 + j) (mi_op I) (by omega) e2 e1) ?_
    refine Ev.sts 3 (c' := (352, [some (.inr (.inr (.inr (11, 0, 83)))), some (.inr (.inr (.inr (20, 12, a1)))), some (.inr (.inl (((((x * (31 : Int64)) + ((iZ (((wdS S g).getD j w0).1))).toInt64) * (31 : Int64)) + ((iZ (((wdS S g).getD j w0).2.1))).toInt64)))), none, some (.inl (iZ (lnL (wdS S) g 0 + j))), some (.inl (iZ (g))), some (.inr (.inr (.inr (20, 4, a6)))), some (.inl (iZ (2))), a8, a9, a10], [], h)) rfl ?_
    refine Ev.stc (c1 := (355, [some (.inr (.inr (.inr (11, 0, 83)))), some (.inr (.inr (.inr (20, 12, a1)))), some (.inr (.inl (((((x * (31 : Int64)) + ((iZ (((wdS S g).getD j w0).1))).toInt64) * (31 : Int64)) + ((iZ (((wdS S g).getD j w0).2.1))).toInt64)))), none, some (.inl (iZ (lnL (wdS S) g 0 + j))), some (.inl (iZ (g))), some (.inr (.inr (.inr (20, 4, a6)))), some (.inl ((iZ (2)) + (iZ (1)))), a8, a9, a10], [], h)) (c2 := (355, [some (.inr (.inr (.inr (11, 0, 83)))), some (.inr (.inr (.inr (20, 12, a1)))), some (.inr (.inl (((((x * (31 : Int64)) + ((iZ (((wdS S g).getD j w0).1))).toInt64) * (31 : Int64)) + ((iZ (((wdS S g).getD j w0).2.1))).toInt64)))), none, some (.inl (iZ (lnL (wdS S) g 0 + j))), some (.inl (iZ (g))), some (.inr (.inr (.inr (20, 4, a6)))), some (.inl (iZ (3))), a8, a9, a10], [], h)) rfl (by rw [iZ_add]; rfl) ?_
    refine Ev.sts 3 (c' := (333, [some (.inr (.inr (.inr (11, 0, 83)))), some (.inr (.inr (.inr (20, 12, a1)))), some (.inr (.inl (((((x * (31 : Int64)) + ((iZ (((wdS S g).getD j w0).1))).toInt64) * (31 : Int64)) + ((iZ (((wdS S g).getD j w0).2.1))).toInt64)))), none, some (.inl (iZ (lnL (wdS S) g 0 + j))), some (.inl (iZ (g))), some (.inr (.inr (.inr (20, 4, a6)))), some (.inl (iZ (3))), a8, a9, a10], [.inl (iZ (5)), .inl (iZ (3))], h)) rfl ?_
    refine Ev.brF (p := (iZ (5)) ≤ (iZ (3))) (c1 := (358, [some (.inr (.inr (.inr (11, 0, 83)))), some (.inr (.inr (.inr (20, 12, a1)))), some (.inr (.inl (((((x * (31 : Int64)) + ((iZ (((wdS S g).getD j w0).1))).toInt64) * (31 : Int64)) + ((iZ (((wdS S g).getD j w0).2.1))).toInt64)))), none, some (.inl (iZ (lnL (wdS S) g 0 + j))), some (.inl (iZ (g))), some (.inr (.inr (.inr (20, 4, a6)))), some (.inl (iZ (3))), a8, a9, a10], [], h)) (c2 := (336, [some (.inr (.inr (.inr (11, 0, 83)))), some (.inr (.inr (.inr (20, 12, a1)))), some (.inr (.inl (((((x * (31 : Int64)) + ((iZ (((wdS S g).getD j w0).1))).toInt64) * (31 : Int64)) + ((iZ (((wdS S g).getD j w0).2.1))).toInt64)))), none, some (.inl (iZ (lnL (wdS S) g 0 + j))), some (.inl (iZ (g))), some (.inr (.inr (.inr (20, 4, a6)))), some (.inl (iZ (3))), a8, a9, a10], [], h)) (by decide) rfl ?_
    refine Ev.sts 6 (c' := (346, [some (.inr (.inr (.inr (11, 0, 83)))), some (.inr (.inr (.inr (20, 12, a1)))), some (.inr (.inl (((((x * (31 : Int64)) + ((iZ (((wdS S g).getD j w0).1))).toInt64) * (31 : Int64)) + ((iZ (((wdS S g).getD j w0).2.1))).toInt64)))), none, some (.inl (iZ (lnL (wdS S) g 0 + j))), some (.inl (iZ (g))), some (.inr (.inr (.inr (20, 4, a6)))), some (.inl (iZ (3))), a8, a9, a10], [.inl (iZ (3)), .inl (iZ (lnL (wdS S) g 0 + j)), .inr (.inr (.inr (11, 0, 83))), .inr (.inl ((((((x * (31 : Int64)) + ((iZ (((wdS S g).getD j w0).1))).toInt64) * (31 : Int64)) + ((iZ (((wdS S g).getD j w0).2.1))).toInt64) * (31 : Int64))))], h)) rfl ?_
    refine Ev.callv (a := [.inr (.inr (.inr (11, 0, 83))), .inl (iZ (lnL (wdS S) g 0 + j)), .inl (iZ (3))]) rfl (mp_win3 (w := lnL (wdS S) g 0 + j) (mi_op I) (by omega) e2 e1) ?_
    refine Ev.sts 3 (c' := (352, [some (.inr (.inr (.inr (11, 0, 83)))), some (.inr (.inr (.inr (20, 12, a1)))), some (.inr (.inl (((((((x * (31 : Int64)) + ((iZ (((wdS S g).getD j w0).1))).toInt64) * (31 : Int64)) + ((iZ (((wdS S g).getD j w0).2.1))).toInt64) * (31 : Int64)) + ((iZ (((wdS S g).getD j w0).2.2.1))).toInt64)))), none, some (.inl (iZ (lnL (wdS S) g 0 + j))), some (.inl (iZ (g))), some (.inr (.inr (.inr (20, 4, a6)))), some (.inl (iZ (3))), a8, a9, a10], [], h)) rfl ?_
    refine Ev.stc (c1 := (355, [some (.inr (.inr (.inr (11, 0, 83)))), some (.inr (.inr (.inr (20, 12, a1)))), some (.inr (.inl (((((((x * (31 : Int64)) + ((iZ (((wdS S g).getD j w0).1))).toInt64) * (31 : Int64)) + ((iZ (((wdS S g).getD j w0).2.1))).toInt64) * (31 : Int64)) + ((iZ (((wdS S g).getD j w0).2.2.1))).toInt64)))), none, some (.inl (iZ (lnL (wdS S) g 0 + j))), some (.inl (iZ (g))), some (.inr (.inr (.inr (20, 4, a6)))), some (.inl ((iZ (3)) + (iZ (1)))), a8, a9, a10], [], h)) (c2 := (355, [some (.inr (.inr (.inr (11, 0, 83)))), some (.inr (.inr (.inr (20, 12, a1)))), some (.inr (.inl (((((((x * (31 : Int64)) + ((iZ (((wdS S g).getD j w0).1))).toInt64) * (31 : Int64)) + ((iZ (((wdS S g).getD j w0).2.1))).toInt64) * (31 : Int64)) + ((iZ (((wdS S g).getD j w0).2.2.1))).toInt64)))), none, some (.inl (iZ (lnL (wdS S) g 0 + j))), some (.inl (iZ (g))), some (.inr (.inr (.inr (20, 4, a6)))), some (.inl (iZ (4))), a8, a9, a10], [], h)) rfl (by rw [iZ_add]; rfl) ?_
    refine Ev.sts 3 (c' := (333, [some (.inr (.inr (.inr (11, 0, 83)))), some (.inr (.inr (.inr (20, 12, a1)))), some (.inr (.inl (((((((x * (31 : Int64)) + ((iZ (((wdS S g).getD j w0).1))).toInt64) * (31 : Int64)) + ((iZ (((wdS S g).getD j w0).2.1))).toInt64) * (31 : Int64)) + ((iZ (((wdS S g).getD j w0).2.2.1))).toInt64)))), none, some (.inl (iZ (lnL (wdS S) g 0 + j))), some (.inl (iZ (g))), some (.inr (.inr (.inr (20, 4, a6)))), some (.inl (iZ (4))), a8, a9, a10], [.inl (iZ (5)), .inl (iZ (4))], h)) rfl ?_
    refine Ev.brF (p := (iZ (5)) ≤ (iZ (4))) (c1 := (358, [some (.inr (.inr (.inr (11, 0, 83)))), some (.inr (.inr (.inr (20, 12, a1)))), some (.inr (.inl (((((((x * (31 : Int64)) + ((iZ (((wdS S g).getD j w0).1))).toInt64) * (31 : Int64)) + ((iZ (((wdS S g).getD j w0).2.1))).toInt64) * (31 : Int64)) + ((iZ (((wdS S g).getD j w0).2.2.1))).toInt64)))), none, some (.inl (iZ (lnL (wdS S) g 0 + j))), some (.inl (iZ (g))), some (.inr (.inr (.inr (20, 4, a6)))), some (.inl (iZ (4))), a8, a9, a10], [], h)) (c2 := (336, [some (.inr (.inr (.inr (11, 0, 83)))), some (.inr (.inr (.inr (20, 12, a1)))), some (.inr (.inl (((((((x * (31 : Int64)) + ((iZ (((wdS S g).getD j w0).1))).toInt64) * (31 : Int64)) + ((iZ (((wdS S g).getD j w0).2.1))).toInt64) * (31 : Int64)) + ((iZ (((wdS S g).getD j w0).2.2.1))).toInt64)))), none, some (.inl (iZ (lnL (wdS S) g 0 + j))), some (.inl (iZ (g))), some (.inr (.inr (.inr (20, 4, a6)))), some (.inl (iZ (4))), a8, a9, a10], [], h)) (by decide) rfl ?_
    refine Ev.sts 6 (c' := (346, [some (.inr (.inr (.inr (11, 0, 83)))), some (.inr (.inr (.inr (20, 12, a1)))), some (.inr (.inl (((((((x * (31 : Int64)) + ((iZ (((wdS S g).getD j w0).1))).toInt64) * (31 : Int64)) + ((iZ (((wdS S g).getD j w0).2.1))).toInt64) * (31 : Int64)) + ((iZ (((wdS S g).getD j w0).2.2.1))).toInt64)))), none, some (.inl (iZ (lnL (wdS S) g 0 + j))), some (.inl (iZ (g))), some (.inr (.inr (.inr (20, 4, a6)))), some (.inl (iZ (4))), a8, a9, a10], [.inl (iZ (4)), .inl (iZ (lnL (wdS S) g 0 + j)), .inr (.inr (.inr (11, 0, 83))), .inr (.inl ((((((((x * (31 : Int64)) + ((iZ (((wdS S g).getD j w0).1))).toInt64) * (31 : Int64)) + ((iZ (((wdS S g).getD j w0).2.1))).toInt64) * (31 : Int64)) + ((iZ (((wdS S g).getD j w0).2.2.1))).toInt64) * (31 : Int64))))], h)) rfl ?_
    refine Ev.callv (a := [.inr (.inr (.inr (11, 0, 83))), .inl (iZ (lnL (wdS S) g 0 + j)), .inl (iZ (4))]) rfl (mp_win4 (w := lnL (wdS S) g 0 + j) (mi_op I) (by omega) e2 e1) ?_
    refine Ev.sts 3 (c' := (352, [some (.inr (.inr (.inr (11, 0, 83)))), some (.inr (.inr (.inr (20, 12, a1)))), some (.inr (.inl (((((((((x * (31 : Int64)) + ((iZ (((wdS S g).getD j w0).1))).toInt64) * (31 : Int64)) + ((iZ (((wdS S g).getD j w0).2.1))).toInt64) * (31 : Int64)) + ((iZ (((wdS S g).getD j w0).2.2.1))).toInt64) * (31 : Int64)) + (((wdS S g).getD j w0).2.2.2).toInt64)))), none, some (.inl (iZ (lnL (wdS S) g 0 + j))), some (.inl (iZ (g))), some (.inr (.inr (.inr (20, 4, a6)))), some (.inl (iZ (4))), a8, a9, a10], [], h)) rfl ?_
    refine Ev.stc (c1 := (355, [some (.inr (.inr (.inr (11, 0, 83)))), some (.inr (.inr (.inr (20, 12, a1)))), some (.inr (.inl (((((((((x * (31 : Int64)) + ((iZ (((wdS S g).getD j w0).1))).toInt64) * (31 : Int64)) + ((iZ (((wdS S g).getD j w0).2.1))).toInt64) * (31 : Int64)) + ((iZ (((wdS S g).getD j w0).2.2.1))).toInt64) * (31 : Int64)) + (((wdS S g).getD j w0).2.2.2).toInt64)))), none, some (.inl (iZ (lnL (wdS S) g 0 + j))), some (.inl (iZ (g))), some (.inr (.inr (.inr (20, 4, a6)))), some (.inl ((iZ (4)) + (iZ (1)))), a8, a9, a10], [], h)) (c2 := (355, [some (.inr (.inr (.inr (11, 0, 83)))), some (.inr (.inr (.inr (20, 12, a1)))), some (.inr (.inl (((((((((x * (31 : Int64)) + ((iZ (((wdS S g).getD j w0).1))).toInt64) * (31 : Int64)) + ((iZ (((wdS S g).getD j w0).2.1))).toInt64) * (31 : Int64)) + ((iZ (((wdS S g).getD j w0).2.2.1))).toInt64) * (31 : Int64)) + (((wdS S g).getD j w0).2.2.2).toInt64)))), none, some (.inl (iZ (lnL (wdS S) g 0 + j))), some (.inl (iZ (g))), some (.inr (.inr (.inr (20, 4, a6)))), some (.inl (iZ (5))), a8, a9, a10], [], h)) rfl (by rw [iZ_add]; rfl) ?_
    refine Ev.sts 3 (c' := (333, [some (.inr (.inr (.inr (11, 0, 83)))), some (.inr (.inr (.inr (20, 12, a1)))), some (.inr (.inl (((((((((x * (31 : Int64)) + ((iZ (((wdS S g).getD j w0).1))).toInt64) * (31 : Int64)) + ((iZ (((wdS S g).getD j w0).2.1))).toInt64) * (31 : Int64)) + ((iZ (((wdS S g).getD j w0).2.2.1))).toInt64) * (31 : Int64)) + (((wdS S g).getD j w0).2.2.2).toInt64)))), none, some (.inl (iZ (lnL (wdS S) g 0 + j))), some (.inl (iZ (g))), some (.inr (.inr (.inr (20, 4, a6)))), some (.inl (iZ (5))), a8, a9, a10], [.inl (iZ (5)), .inl (iZ (5))], h)) rfl ?_
    refine Ev.brT (p := (iZ (5)) ≤ (iZ (5))) (c1 := (358, [some (.inr (.inr (.inr (11, 0, 83)))), some (.inr (.inr (.inr (20, 12, a1)))), some (.inr (.inl (((((((((x * (31 : Int64)) + ((iZ (((wdS S g).getD j w0).1))).toInt64) * (31 : Int64)) + ((iZ (((wdS S g).getD j w0).2.1))).toInt64) * (31 : Int64)) + ((iZ (((wdS S g).getD j w0).2.2.1))).toInt64) * (31 : Int64)) + (((wdS S g).getD j w0).2.2.2).toInt64)))), none, some (.inl (iZ (lnL (wdS S) g 0 + j))), some (.inl (iZ (g))), some (.inr (.inr (.inr (20, 4, a6)))), some (.inl (iZ (5))), a8, a9, a10], [], h)) (c2 := (336, [some (.inr (.inr (.inr (11, 0, 83)))), some (.inr (.inr (.inr (20, 12, a1)))), some (.inr (.inl (((((((((x * (31 : Int64)) + ((iZ (((wdS S g).getD j w0).1))).toInt64) * (31 : Int64)) + ((iZ (((wdS S g).getD j w0).2.1))).toInt64) * (31 : Int64)) + ((iZ (((wdS S g).getD j w0).2.2.1))).toInt64) * (31 : Int64)) + (((wdS S g).getD j w0).2.2.2).toInt64)))), none, some (.inl (iZ (lnL (wdS S) g 0 + j))), some (.inl (iZ (g))), some (.inr (.inr (.inr (20, 4, a6)))), some (.inl (iZ (5))), a8, a9, a10], [], h)) (by decide) rfl ?_
    refine Ev.stc (c1 := (361, [some (.inr (.inr (.inr (11, 0, 83)))), some (.inr (.inr (.inr (20, 12, a1)))), some (.inr (.inl (((((((((x * (31 : Int64)) + ((iZ (((wdS S g).getD j w0).1))).toInt64) * (31 : Int64)) + ((iZ (((wdS S g).getD j w0).2.1))).toInt64) * (31 : Int64)) + ((iZ (((wdS S g).getD j w0).2.2.1))).toInt64) * (31 : Int64)) + (((wdS S g).getD j w0).2.2.2).toInt64)))), none, some (.inl ((iZ (lnL (wdS S) g 0 + j)) + (iZ (1)))), some (.inl (iZ (g))), some (.inr (.inr (.inr (20, 4, a6)))), some (.inl (iZ (5))), a8, a9, a10], [], h)) (c2 := (361, [some (.inr (.inr (.inr (11, 0, 83)))), some (.inr (.inr (.inr (20, 12, a1)))), some (.inr (.inl (((((((((x * (31 : Int64)) + ((iZ (((wdS S g).getD j w0).1))).toInt64) * (31 : Int64)) + ((iZ (((wdS S g).getD j w0).2.1))).toInt64) * (31 : Int64)) + ((iZ (((wdS S g).getD j w0).2.2.1))).toInt64) * (31 : Int64)) + (((wdS S g).getD j w0).2.2.2).toInt64)))), none, some (.inl (iZ ((lnL (wdS S) g 0 + j) + 1))), some (.inl (iZ (g))), some (.inr (.inr (.inr (20, 4, a6)))), some (.inl (iZ (5))), a8, a9, a10], [], h)) rfl (by rw [iZ_add]) ?_
    refine Ev.sts 1 (c' := (306, [some (.inr (.inr (.inr (11, 0, 83)))), some (.inr (.inr (.inr (20, 12, a1)))), some (.inr (.inl (((((((((x * (31 : Int64)) + ((iZ (((wdS S g).getD j w0).1))).toInt64) * (31 : Int64)) + ((iZ (((wdS S g).getD j w0).2.1))).toInt64) * (31 : Int64)) + ((iZ (((wdS S g).getD j w0).2.2.1))).toInt64) * (31 : Int64)) + (((wdS S g).getD j w0).2.2.2).toInt64)))), none, some (.inl (iZ ((lnL (wdS S) g 0 + j) + 1))), some (.inl (iZ (g))), some (.inr (.inr (.inr (20, 4, a6)))), some (.inl (iZ (5))), a8, a9, a10], [], h)) rfl ?_
    refine ih (j + 1) _ _ (by omega) ?_
    intro b7
    have q7 := q b7
    rw [e0, dgl_W] at q7
    exact q7

