/-! The reference's digest. -/
theorem mx_da_lp {d : Nat} {h : PH} {Q : Rs → PH → Prop} {a a1 : Nat} {e4 e5 : Int32} {e6 e8 e9 e10 : Option VV} {L : List Int32} (hL : L.length = 12) (hc : ∀ j, j < 12 → h.1 a j = L.getD j 0) (m : Nat) : ∀ (j : Nat) (x : Int64) (a7 : Option VV), j + m = 12 → (∀ b7 : Option VV, Ev d 278 (156, [some (.inr (.inr (.inr (11, 0, 83)))), some (.inr (.inr (.inr (20, 12, a1)))), some (.inr (.inl (dgl x (L.drop j)))), none, some (.inr (.inr (.inr (20, 12, a)))), some (.inl (iZ (12))), some (.inl (iZ (12))), b7, e8, e9, e10], [], h) Q) → Ev d 278 (126, [some (.inr (.inr (.inr (11, 0, 83)))), some (.inr (.inr (.inr (20, 12, a1)))), some (.inr (.inl (x))), none, some (.inr (.inr (.inr (20, 12, a)))), some (.inl (iZ (12))), some (.inl (iZ (j))), a7, e8, e9, e10], [], h) Q := by
  induction m with
  | zero =>
    intro j x a7 h1 q
    obtain rfl : j = 12 := by omega
    rw [List.drop_eq_nil_of_le (show L.length ≤ 12 by omega)] at q
    refine Ev.sts 2 (c' := (130, [some (.inr (.inr (.inr (11, 0, 83)))), some (.inr (.inr (.inr (20, 12, a1)))), some (.inr (.inl (x))), none, some (.inr (.inr (.inr (20, 12, a)))), some (.inl (iZ (12))), some (.inl (iZ (12))), a7, e8, e9, e10], [.inl (iZ (12)), .inl (iZ (12))], h)) rfl ?_
    refine Ev.brT (p := (iZ (12)) ≤ (iZ (12))) (c1 := (156, [some (.inr (.inr (.inr (11, 0, 83)))), some (.inr (.inr (.inr (20, 12, a1)))), some (.inr (.inl (x))), none, some (.inr (.inr (.inr (20, 12, a)))), some (.inl (iZ (12))), some (.inl (iZ (12))), a7, e8, e9, e10], [], h)) (c2 := (133, [some (.inr (.inr (.inr (11, 0, 83)))), some (.inr (.inr (.inr (20, 12, a1)))), some (.inr (.inl (x))), none, some (.inr (.inr (.inr (20, 12, a)))), some (.inl (iZ (12))), some (.inl (iZ (12))), a7, e8, e9, e10], [], h)) (by decide) rfl ?_
    exact q a7
  | succ m ih =>
    intro j x a7 h1 q
    refine Ev.sts 2 (c' := (130, [some (.inr (.inr (.inr (11, 0, 83)))), some (.inr (.inr (.inr (20, 12, a1)))), some (.inr (.inl (x))), none, some (.inr (.inr (.inr (20, 12, a)))), some (.inl (iZ (12))), some (.inl (iZ (j))), a7, e8, e9, e10], [.inl (iZ (12)), .inl (iZ (j))], h)) rfl ?_
    refine Ev.brF (p := (iZ (12)) ≤ (iZ (j))) (c1 := (156, [some (.inr (.inr (.inr (11, 0, 83)))), some (.inr (.inr (.inr (20, 12, a1)))), some (.inr (.inl (x))), none, some (.inr (.inr (.inr (20, 12, a)))), some (.inl (iZ (12))), some (.inl (iZ (j))), a7, e8, e9, e10], [], h)) (c2 := (133, [some (.inr (.inr (.inr (11, 0, 83)))), some (.inr (.inr (.inr (20, 12, a1)))), some (.inr (.inl (x))), none, some (.inr (.inr (.inr (20, 12, a)))), some (.inl (iZ (12))), some (.inl (iZ (j))), a7, e8, e9, e10], [], h)) (fun c_ => absurd ((iZ_le ⟨by omega, by omega⟩ ⟨by omega, by omega⟩).mp c_) (by omega)) rfl ?_
    refine Ev.sts 2 (c' := (137, [some (.inr (.inr (.inr (11, 0, 83)))), some (.inr (.inr (.inr (20, 12, a1)))), some (.inr (.inl (x))), none, some (.inr (.inr (.inr (20, 12, a)))), some (.inl (iZ (12))), some (.inl (iZ (j))), a7, e8, e9, e10], [.inl (iZ (j)), .inr (.inr (.inr (20, 12, a)))], h)) rfl ?_
    refine Ev.ldv (j := (iZ (j))) (n := 12) (w := .inl (L.getD j 0)) (iZ_in (by omega) (by omega) (by omega)) rfl (by rw [iZ_ix (n := j) (by omega) (by omega)]; exact congrArg vI (hc j (by omega))) ?_
    refine Ev.sts 8 (c' := (150, [some (.inr (.inr (.inr (11, 0, 83)))), some (.inr (.inr (.inr (20, 12, a1)))), some (.inr (.inl (((x * (31 : Int64)) + (L.getD j 0).toInt64)))), none, some (.inr (.inr (.inr (20, 12, a)))), some (.inl (iZ (12))), some (.inl (iZ (j))), some (.inl (L.getD j 0)), e8, e9, e10], [], h)) rfl ?_
    refine Ev.stc (c1 := (153, [some (.inr (.inr (.inr (11, 0, 83)))), some (.inr (.inr (.inr (20, 12, a1)))), some (.inr (.inl (((x * (31 : Int64)) + (L.getD j 0).toInt64)))), none, some (.inr (.inr (.inr (20, 12, a)))), some (.inl (iZ (12))), some (.inl ((iZ (j)) + (iZ (1)))), some (.inl (L.getD j 0)), e8, e9, e10], [], h)) (c2 := (153, [some (.inr (.inr (.inr (11, 0, 83)))), some (.inr (.inr (.inr (20, 12, a1)))), some (.inr (.inl (((x * (31 : Int64)) + (L.getD j 0).toInt64)))), none, some (.inr (.inr (.inr (20, 12, a)))), some (.inl (iZ (12))), some (.inl (iZ (j + 1))), some (.inl (L.getD j 0)), e8, e9, e10], [], h)) rfl (by rw [iZ_add]) ?_
    refine Ev.sts 1 (c' := (126, [some (.inr (.inr (.inr (11, 0, 83)))), some (.inr (.inr (.inr (20, 12, a1)))), some (.inr (.inl (((x * (31 : Int64)) + (L.getD j 0).toInt64)))), none, some (.inr (.inr (.inr (20, 12, a)))), some (.inl (iZ (12))), some (.inl (iZ (j + 1))), some (.inl (L.getD j 0)), e8, e9, e10], [], h)) rfl ?_
    refine ih (j + 1) _ _ (by omega) ?_
    intro b7
    have q7 := q b7
    rw [drop_getD 0 L j (by omega)] at q7
    exact q7

theorem mx_db_lp {d : Nat} {h : PH} {Q : Rs → PH → Prop} {a a1 : Nat} {e4 e5 : Int32} {e6 e8 e9 e10 : Option VV} {L : List Int32} (hL : L.length = 4) (hc : ∀ j, j < 4 → h.1 a j = L.getD j 0) (m : Nat) : ∀ (j : Nat) (x : Int64) (a7 : Option VV), j + m = 4 → (∀ b7 : Option VV, Ev d 278 (306, [some (.inr (.inr (.inr (11, 0, 83)))), some (.inr (.inr (.inr (20, 12, a1)))), some (.inr (.inl (dgl x (L.drop j)))), none, some (.inl (e4)), some (.inl (e5)), e6, some (.inr (.inr (.inr (20, 4, a)))), some (.inl (iZ (4))), some (.inl (iZ (4))), b7], [], h) Q) → Ev d 278 (276, [some (.inr (.inr (.inr (11, 0, 83)))), some (.inr (.inr (.inr (20, 12, a1)))), some (.inr (.inl (x))), none, some (.inl (e4)), some (.inl (e5)), e6, some (.inr (.inr (.inr (20, 4, a)))), some (.inl (iZ (4))), some (.inl (iZ (j))), a7], [], h) Q := by
  induction m with
  | zero =>
    intro j x a7 h1 q
    obtain rfl : j = 4 := by omega
    rw [List.drop_eq_nil_of_le (show L.length ≤ 4 by omega)] at q
    refine Ev.sts 2 (c' := (280, [some (.inr (.inr (.inr (11, 0, 83)))), some (.inr (.inr (.inr (20, 12, a1)))), some (.inr (.inl (x))), none, some (.inl (e4)), some (.inl (e5)), e6, some (.inr (.inr (.inr (20, 4, a)))), some (.inl (iZ (4))), some (.inl (iZ (4))), a7], [.inl (iZ (4)), .inl (iZ (4))], h)) rfl ?_
    refine Ev.brT (p := (iZ (4)) ≤ (iZ (4))) (c1 := (306, [some (.inr (.inr (.inr (11, 0, 83)))), some (.inr (.inr (.inr (20, 12, a1)))), some (.inr (.inl (x))), none, some (.inl (e4)), some (.inl (e5)), e6, some (.inr (.inr (.inr (20, 4, a)))), some (.inl (iZ (4))), some (.inl (iZ (4))), a7], [], h)) (c2 := (283, [some (.inr (.inr (.inr (11, 0, 83)))), some (.inr (.inr (.inr (20, 12, a1)))), some (.inr (.inl (x))), none, some (.inl (e4)), some (.inl (e5)), e6, some (.inr (.inr (.inr (20, 4, a)))), some (.inl (iZ (4))), some (.inl (iZ (4))), a7], [], h)) (by decide) rfl ?_
    exact q a7
  | succ m ih =>
    intro j x a7 h1 q
    refine Ev.sts 2 (c' := (280, [some (.inr (.inr (.inr (11, 0, 83)))), some (.inr (.inr (.inr (20, 12, a1)))), some (.inr (.inl (x))), none, some (.inl (e4)), some (.inl (e5)), e6, some (.inr (.inr (.inr (20, 4, a)))), some (.inl (iZ (4))), some (.inl (iZ (j))), a7], [.inl (iZ (4)), .inl (iZ (j))], h)) rfl ?_
    refine Ev.brF (p := (iZ (4)) ≤ (iZ (j))) (c1 := (306, [some (.inr (.inr (.inr (11, 0, 83)))), some (.inr (.inr (.inr (20, 12, a1)))), some (.inr (.inl (x))), none, some (.inl (e4)), some (.inl (e5)), e6, some (.inr (.inr (.inr (20, 4, a)))), some (.inl (iZ (4))), some (.inl (iZ (j))), a7], [], h)) (c2 := (283, [some (.inr (.inr (.inr (11, 0, 83)))), some (.inr (.inr (.inr (20, 12, a1)))), some (.inr (.inl (x))), none, some (.inl (e4)), some (.inl (e5)), e6, some (.inr (.inr (.inr (20, 4, a)))), some (.inl (iZ (4))), some (.inl (iZ (j))), a7], [], h)) (fun c_ => absurd ((iZ_le ⟨by omega, by omega⟩ ⟨by omega, by omega⟩).mp c_) (by omega)) rfl ?_
    refine Ev.sts 2 (c' := (287, [some (.inr (.inr (.inr (11, 0, 83)))), some (.inr (.inr (.inr (20, 12, a1)))), some (.inr (.inl (x))), none, some (.inl (e4)), some (.inl (e5)), e6, some (.inr (.inr (.inr (20, 4, a)))), some (.inl (iZ (4))), some (.inl (iZ (j))), a7], [.inl (iZ (j)), .inr (.inr (.inr (20, 4, a)))], h)) rfl ?_
    refine Ev.ldv (j := (iZ (j))) (n := 4) (w := .inl (L.getD j 0)) (iZ_in (by omega) (by omega) (by omega)) rfl (by rw [iZ_ix (n := j) (by omega) (by omega)]; exact congrArg vI (hc j (by omega))) ?_
    refine Ev.sts 8 (c' := (300, [some (.inr (.inr (.inr (11, 0, 83)))), some (.inr (.inr (.inr (20, 12, a1)))), some (.inr (.inl (((x * (31 : Int64)) + (L.getD j 0).toInt64)))), none, some (.inl (e4)), some (.inl (e5)), e6, some (.inr (.inr (.inr (20, 4, a)))), some (.inl (iZ (4))), some (.inl (iZ (j))), some (.inl (L.getD j 0))], [], h)) rfl ?_
    refine Ev.stc (c1 := (303, [some (.inr (.inr (.inr (11, 0, 83)))), some (.inr (.inr (.inr (20, 12, a1)))), some (.inr (.inl (((x * (31 : Int64)) + (L.getD j 0).toInt64)))), none, some (.inl (e4)), some (.inl (e5)), e6, some (.inr (.inr (.inr (20, 4, a)))), some (.inl (iZ (4))), some (.inl ((iZ (j)) + (iZ (1)))), some (.inl (L.getD j 0))], [], h)) (c2 := (303, [some (.inr (.inr (.inr (11, 0, 83)))), some (.inr (.inr (.inr (20, 12, a1)))), some (.inr (.inl (((x * (31 : Int64)) + (L.getD j 0).toInt64)))), none, some (.inl (e4)), some (.inl (e5)), e6, some (.inr (.inr (.inr (20, 4, a)))), some (.inl (iZ (4))), some (.inl (iZ (j + 1))), some (.inl (L.getD j 0))], [], h)) rfl (by rw [iZ_add]) ?_
    refine Ev.sts 1 (c' := (276, [some (.inr (.inr (.inr (11, 0, 83)))), some (.inr (.inr (.inr (20, 12, a1)))), some (.inr (.inl (((x * (31 : Int64)) + (L.getD j 0).toInt64)))), none, some (.inl (e4)), some (.inl (e5)), e6, some (.inr (.inr (.inr (20, 4, a)))), some (.inl (iZ (4))), some (.inl (iZ (j + 1))), some (.inl (L.getD j 0))], [], h)) rfl ?_
    refine ih (j + 1) _ _ (by omega) ?_
    intro b7
    have q7 := q b7
    rw [drop_getD 0 L j (by omega)] at q7
    exact q7

theorem mx_df_lp {d : Nat} {y : Y4} {S : Sta} {h : PH} {Q : Rs → PH → Prop} (I : MI h S y) (W : WN S) {a1 : Nat} {e5 : Int32} {e6 e7 e8 e9 e10 : Option VV} (m : Nat) : ∀ (g : Nat) (x : Int64), g + m = (bkS S).2.1.length → (Ev (d + 1) 278 (204, [some (.inr (.inr (.inr (11, 0, 83)))), some (.inr (.inr (.inr (20, 12, a1)))), some (.inr (.inl (dgl x (dF S m g)))), none, some (.inl (iZ (g + m))), some (.inl (e5)), e6, e7, e8, e9, e10], [], h) Q) → Ev (d + 1) 278 (159, [some (.inr (.inr (.inr (11, 0, 83)))), some (.inr (.inr (.inr (20, 12, a1)))), some (.inr (.inl (x))), none, some (.inl (iZ (g))), some (.inl (e5)), e6, e7, e8, e9, e10], [], h) Q := by
  have W0 := W
  obtain ⟨⟨w1, w2, w3, w4, w5, w6⟩, w7, w8, w9, w10, w11, w12, w13, w14, w15, w16, w17, w18⟩ := W0
  have wB : bkN (bkS S) := ⟨w1, w2, w3, w4, w5, w6⟩
  have sh0 := mi_sh I
  have al := alW_len (wdS S) 6 0
  have tl5 := lnL_le (ws := wdS S) (K := 128) (fun g => (w14 g).2) 6 0
  have alB_ := alW_B (ws := wdS S) (N := 1000) (fun g _ => (w14 g).1)
  have on1 := (mi_op I).2.1
  have on2 := (mi_op I).2.2.2.1
  have tn1 := (mi_tm I).2.1
  have tn2 := (mi_tm I).2.2.2.1
  induction m with
  | zero =>
    intro g x h1 k0
    replace k0 : Ev (d + 1) 278 (204, [some (.inr (.inr (.inr (11, 0, 83)))), some (.inr (.inr (.inr (20, 12, a1)))), some (.inr (.inl (x))), none, some (.inl (iZ ((g + 0 : Nat)))), some (.inl (e5)), e6, e7, e8, e9, e10], [], h) Q := k0
    refine Ev.sts 2 (c' := (162, [some (.inr (.inr (.inr (11, 0, 83)))), some (.inr (.inr (.inr (20, 12, a1)))), some (.inr (.inl (x))), none, some (.inl (iZ (g))), some (.inl (e5)), e6, e7, e8, e9, e10], [.inr (.inr (.inr (11, 0, 83))), .inl (iZ (g))], h)) rfl ?_
    refine Ev.gfr (r := (20, 64, 93)) rfl (sh_83_18 sh0) ?_
    refine Ev.sts 1 (c' := (166, [some (.inr (.inr (.inr (11, 0, 83)))), some (.inr (.inr (.inr (20, 12, a1)))), some (.inr (.inl (x))), none, some (.inl (iZ (g))), some (.inl (e5)), e6, e7, e8, e9, e10], [.inl (iZ (0)), .inr (.inr (.inr (20, 64, 93))), .inl (iZ (g))], h)) rfl ?_
    refine Ev.ldv (j := (iZ (0))) (n := 64) (w := .inl (iZ ((bkS S).2.1.length))) (by decide) rfl (congrArg vI (mi_bk I).1) ?_
    refine Ev.brT (p := (iZ ((bkS S).2.1.length)) ≤ (iZ (g))) (c1 := (204, [some (.inr (.inr (.inr (11, 0, 83)))), some (.inr (.inr (.inr (20, 12, a1)))), some (.inr (.inl (x))), none, some (.inl (iZ (g))), some (.inl (e5)), e6, e7, e8, e9, e10], [], h)) (c2 := (170, [some (.inr (.inr (.inr (11, 0, 83)))), some (.inr (.inr (.inr (20, 12, a1)))), some (.inr (.inl (x))), none, some (.inl (iZ (g))), some (.inl (e5)), e6, e7, e8, e9, e10], [], h)) ((iZ_le ⟨by omega, by omega⟩ ⟨by omega, by omega⟩).mpr (by omega)) rfl ?_
    exact k0
  | succ m ih =>
    intro g x h1 k0
    refine Ev.sts 2 (c' := (162, [some (.inr (.inr (.inr (11, 0, 83)))), some (.inr (.inr (.inr (20, 12, a1)))), some (.inr (.inl (x))), none, some (.inl (iZ (g))), some (.inl (e5)), e6, e7, e8, e9, e10], [.inr (.inr (.inr (11, 0, 83))), .inl (iZ (g))], h)) rfl ?_
    refine Ev.gfr (r := (20, 64, 93)) rfl (sh_83_18 sh0) ?_
    refine Ev.sts 1 (c' := (166, [some (.inr (.inr (.inr (11, 0, 83)))), some (.inr (.inr (.inr (20, 12, a1)))), some (.inr (.inl (x))), none, some (.inl (iZ (g))), some (.inl (e5)), e6, e7, e8, e9, e10], [.inl (iZ (0)), .inr (.inr (.inr (20, 64, 93))), .inl (iZ (g))], h)) rfl ?_
    refine Ev.ldv (j := (iZ (0))) (n := 64) (w := .inl (iZ ((bkS S).2.1.length))) (by decide) rfl (congrArg vI (mi_bk I).1) ?_
    refine Ev.brF (p := (iZ ((bkS S).2.1.length)) ≤ (iZ (g))) (c1 := (204, [some (.inr (.inr (.inr (11, 0, 83)))), some (.inr (.inr (.inr (20, 12, a1)))), some (.inr (.inl (x))), none, some (.inl (iZ (g))), some (.inl (e5)), e6, e7, e8, e9, e10], [], h)) (c2 := (170, [some (.inr (.inr (.inr (11, 0, 83)))), some (.inr (.inr (.inr (20, 12, a1)))), some (.inr (.inl (x))), none, some (.inl (iZ (g))), some (.inl (e5)), e6, e7, e8, e9, e10], [], h)) (fun c_ => absurd ((iZ_le ⟨by omega, by omega⟩ ⟨by omega, by omega⟩).mp c_) (by omega)) rfl ?_
    refine Ev.sts 5 (c' := (178, [some (.inr (.inr (.inr (11, 0, 83)))), some (.inr (.inr (.inr (20, 12, a1)))), some (.inr (.inl (x))), none, some (.inl (iZ (g))), some (.inl (e5)), e6, e7, e8, e9, e10], [.inl (iZ (g)), .inr (.inr (.inr (11, 0, 83))), .inr (.inl ((x * (31 : Int64))))], h)) rfl ?_
    refine Ev.callv (a := [.inr (.inr (.inr (11, 0, 83))), .inl (iZ (g))]) rfl (mx_size I W) ?_
    refine Ev.sts 8 (c' := (192, [some (.inr (.inr (.inr (11, 0, 83)))), some (.inr (.inr (.inr (20, 12, a1)))), some (.inr (.inl (((x * (31 : Int64)) + ((iZ (szF (csS S) (iZ g)))).toInt64)))), none, some (.inl (iZ (g))), some (.inl (e5)), e6, e7, e8, e9, e10], [.inl (iZ (g)), .inr (.inr (.inr (11, 0, 83))), .inr (.inl ((((x * (31 : Int64)) + ((iZ (szF (csS S) (iZ g)))).toInt64) * (31 : Int64))))], h)) rfl ?_
    refine Ev.callv (a := [.inr (.inr (.inr (11, 0, 83))), .inl (iZ (g))]) rfl (mx_latest I W) ?_
    refine Ev.sts 3 (c' := (198, [some (.inr (.inr (.inr (11, 0, 83)))), some (.inr (.inr (.inr (20, 12, a1)))), some (.inr (.inl (((((x * (31 : Int64)) + ((iZ (szF (csS S) (iZ g)))).toInt64) * (31 : Int64)) + ((iZ (ltF (csS S) (iZ g) (csS S).length))).toInt64)))), none, some (.inl (iZ (g))), some (.inl (e5)), e6, e7, e8, e9, e10], [], h)) rfl ?_
    refine Ev.stc (c1 := (201, [some (.inr (.inr (.inr (11, 0, 83)))), some (.inr (.inr (.inr (20, 12, a1)))), some (.inr (.inl (((((x * (31 : Int64)) + ((iZ (szF (csS S) (iZ g)))).toInt64) * (31 : Int64)) + ((iZ (ltF (csS S) (iZ g) (csS S).length))).toInt64)))), none, some (.inl ((iZ (g)) + (iZ (1)))), some (.inl (e5)), e6, e7, e8, e9, e10], [], h)) (c2 := (201, [some (.inr (.inr (.inr (11, 0, 83)))), some (.inr (.inr (.inr (20, 12, a1)))), some (.inr (.inl (((((x * (31 : Int64)) + ((iZ (szF (csS S) (iZ g)))).toInt64) * (31 : Int64)) + ((iZ (ltF (csS S) (iZ g) (csS S).length))).toInt64)))), none, some (.inl (iZ (g + 1))), some (.inl (e5)), e6, e7, e8, e9, e10], [], h)) rfl (by rw [iZ_add]) ?_
    refine Ev.sts 1 (c' := (159, [some (.inr (.inr (.inr (11, 0, 83)))), some (.inr (.inr (.inr (20, 12, a1)))), some (.inr (.inl (((((x * (31 : Int64)) + ((iZ (szF (csS S) (iZ g)))).toInt64) * (31 : Int64)) + ((iZ (ltF (csS S) (iZ g) (csS S).length))).toInt64)))), none, some (.inl (iZ (g + 1))), some (.inl (e5)), e6, e7, e8, e9, e10], [], h)) rfl ?_
    refine ih (g + 1) _ (by omega) ?_
    rw [show dF S (m + 1) g = [iZ (szF (csS S) (iZ g)), iZ (ltF (csS S) (iZ g) (csS S).length)] ++ dF S m (g + 1) from rfl, dgl_app, show ((g : Int) + ((m + 1 : Nat) : Int)) = (((g + 1 : Nat) : Int) + (m : Int)) by omega] at k0
    exact k0

