/-! A line with a goose: its window. -/
theorem lx_58 {tp : List Int} {ks : List Sg} (l : LXs tp ks) : LXs (tp ++ txC 58) (ks ++ [(19, 0, 0)]) ∧ enN (tp ++ txC 58) = false := by
  rw [show txC 58 = [32] ++ ([103, 97, 112] ++ [32]) by decide +kernel]
  have r := LX_w (pre := [32]) (w := [103, 97, 112]) (post := [32]) l (tk1_wd (by decide +kernel) : tk1 _ (19, 0, 0)) (.inr ⟨32, rfl, rfl⟩) (.inr ⟨32, rfl, rfl⟩) (fun z => absurd z (List.cons_ne_nil _ _))
  exact ⟨r.1, (r.2.2 (List.cons_ne_nil _ _))⟩
theorem ll_58 : (txC 58).length ≤ 5 := by decide +kernel
theorem lx_59 {tp : List Int} {ks : List Sg} (l : LXs tp ks) : LXs (tp ++ txC 59) (ks ++ [(17, 0, 0)]) ∧ enN (tp ++ txC 59) = false := by
  rw [show txC 59 = [32] ++ ([101, 118, 101, 114, 121] ++ [32]) by decide +kernel]
  have r := LX_w (pre := [32]) (w := [101, 118, 101, 114, 121]) (post := [32]) l (tk1_wd (by decide +kernel) : tk1 _ (17, 0, 0)) (.inr ⟨32, rfl, rfl⟩) (.inr ⟨32, rfl, rfl⟩) (fun z => absurd z (List.cons_ne_nil _ _))
  exact ⟨r.1, (r.2.2 (List.cons_ne_nil _ _))⟩
theorem ll_59 : (txC 59).length ≤ 7 := by decide +kernel
theorem lx_60 {tp : List Int} {ks : List Sg} (l : LXs tp ks) : LXs (tp ++ txC 60) (ks ++ [(18, 0, 0)]) ∧ enN (tp ++ txC 60) = false := by
  rw [show txC 60 = [32] ++ ([115, 116, 101, 112] ++ [32]) by decide +kernel]
  have r := LX_w (pre := [32]) (w := [115, 116, 101, 112]) (post := [32]) l (tk1_wd (by decide +kernel) : tk1 _ (18, 0, 0)) (.inr ⟨32, rfl, rfl⟩) (.inr ⟨32, rfl, rfl⟩) (fun z => absurd z (List.cons_ne_nil _ _))
  exact ⟨r.1, (r.2.2 (List.cons_ne_nil _ _))⟩
theorem ll_60 : (txC 60).length ≤ 6 := by decide +kernel
theorem lx_61 {tp : List Int} {ks : List Sg} (l : LXs tp ks) : LXs (tp ++ txC 61) (ks ++ [(20, 0, 0)]) ∧ enN (tp ++ txC 61) = false := by
  rw [show txC 61 = [32] ++ ([116, 101, 108, 108, 115] ++ [32]) by decide +kernel]
  have r := LX_w (pre := [32]) (w := [116, 101, 108, 108, 115]) (post := [32]) l (tk1_wd (by decide +kernel) : tk1 _ (20, 0, 0)) (.inr ⟨32, rfl, rfl⟩) (.inr ⟨32, rfl, rfl⟩) (fun z => absurd z (List.cons_ne_nil _ _))
  exact ⟨r.1, (r.2.2 (List.cons_ne_nil _ _))⟩
theorem ll_61 : (txC 61).length ≤ 7 := by decide +kernel
/-- the book while a row ga, older than its text, is being changed -/
def GWb (h : PH) (ga L dr tk ln : Nat) (tp : List Int) : Prop := BKl h L dr tk ln tp ∧ txR h ga (hN h) (h.2.2.1 83 4) tp ∧ 88 ≤ ga ∧ ga < hN h
/-- a step keeps all but the book's draws, its text and the row ga -/
def KGa (ga : Nat) (h h1 : PH) : Prop := Kp (hN h) (fun a => a = 83 ∨ a = ga) h h1 ∧ (∀ k, k ≠ 1 → h1.1 83 k = h.1 83 k) ∧ ∀ k, k ≠ 4 → h1.2.2.1 83 k = h.2.2.1 83 k
theorem KG_t {ga : Nat} {h h1 h2 : PH} (a : KGa ga h h1) (b : KGa ga h1 h2) : KGa ga h h2 := ⟨Kp_t a.1 (Kp_m b.1 a.1.2.2.2 (fun _ _ z => z)), fun k k1 => (b.2.1 k k1).trans (a.2.1 k k1), fun k k4 => (b.2.2 k k4).trans (a.2.2 k k4)⟩
theorem KG_r (ga : Nat) (h : PH) : KGa ga h h := ⟨Kp_r _ _ _, fun _ _ => rfl, fun _ _ => rfl⟩
theorem KG_T {ga : Nat} {h h1 : PH} (a : KTx h h1) : KGa ga h h1 := ⟨Kp_m a.1.1 (Nat.le_refl _) (fun _ _ z => .inl z), fun k _ => a.2 k, a.1.2.2⟩
theorem GW_T {h h1 : PH} {ga L dr tk ln : Nat} {tp tp1 : List Int} (g : GWb h ga L dr tk ln tp) (b : BKl h1 L dr tk ln tp1) (t : txR h1 (hN h - 1) (hN h1) (h1.2.2.1 83 4) tp1) (f : KTx h h1) : GWb h1 ga L dr tk ln tp1 := ⟨b, txR_lo t (by have := g.2.2.2; omega), g.2.2.1, Nat.lt_of_lt_of_le g.2.2.2 f.1.1.2.2.2⟩
theorem GW_w {h : PH} {ga L dr tk ln j : Nat} {tp : List Int} {v : Int32} (g : GWb h ga L dr tk ln tp) : GWb (setI h ga j v) ga L dr tk ln tp ∧ KGa ga h (setI h ga j v) := by
  obtain ⟨⟨b1, b2, b3, b4, b5, b6, b7, b8⟩, t, g8, gl⟩ := g
  have k : Kp (hN h) (fun a => a = ga) h (setI h ga j v) := Kp_I (fun _ => rfl) gl
  have o : ∀ x, x ≠ ga → (setI h ga j v).1 x = h.1 x := fun x hx => setI_oth hx
  have t2 : txR (setI h ga j v) ga (hN h) (h.2.2.1 83 4) tp := txR_Kp t k (Nat.le_refl _) (fun a ha => by omega)
  exact ⟨⟨⟨b1, by rw [o 83 (by omega)]; exact b2, by rw [o 83 (by omega)]; exact b3, by rw [o 83 (by omega)]; exact b4, txR_lo t2 (by omega), b6, Kp_Z k b7, b8⟩, t2, g8, gl⟩, ⟨Kp_m k (Nat.le_refl _) (fun _ _ z => .inr z), fun x _ => by rw [o 83 (by omega)], fun _ _ => rfl⟩⟩
theorem gw_draw {d L dr tk ln ga : Nat} {n : Int} {tp : List Int} {h : PH} {Q : Rs → PH → Prop} (g : GWb h ga L dr tk ln tp) (hd : dr < 1000000) (hn : 0 < n ∧ n ≤ 100000) (q : ∀ (w : Int) h1, 0 ≤ w → w < n → GWb h1 ga L (dr + 1) tk ln tp → KGa ga h h1 → (∀ j, h1.1 ga j = h.1 ga j) → hN h1 = hN h → hS h1 = hS h → Q (.inl (some (.inl (iZ w)))) h1) : Rn (d + 1) 162 [.inr (.inr (.inr (11, 0, 83))), .inl (iZ (n))] h Q := by
  obtain ⟨⟨b1, b2, b3, b4, b5, b6, b7, b8⟩, t, g8, gl⟩ := g
  refine bk_draw0 b1.1 b2 hd b1.2 hn (fun w w0 w1 => q w _ w0 w1 ?_ ?_ (fun j => setI_ne (by omega)) rfl rfl)
  · have k : Kp (hN h) (fun a => a = 83) h (setI h 83 1 (iZ ((dr : Int) + 1))) := Kp_I (fun _ => rfl) (by omega)
    have t2 : txR (setI h 83 1 (iZ ((dr : Int) + 1))) ga (hN h) (h.2.2.1 83 4) tp := txR_Kp t k (Nat.le_refl _) (fun a ha => by omega)
    exact ⟨⟨b1, setI_self _ _ _ _, (setI_ne (by decide)).trans b3, (setI_ne (by decide)).trans b4, txR_lo t2 (by omega), b6, Kp_Z k b7, b8⟩, t2, g8, gl⟩
  · exact ⟨Kp_I (fun _ => .inl rfl) (by omega), fun j j1 => setI_ne (fun z => j1 z.2), fun _ _ => rfl⟩
theorem setI_2 (h : PH) (a k : Nat) (x y : Int32) : setI (setI h a k x) a k y = setI h a k y := by
  unfold setI up2
  refine Prod.ext (funext fun b => funext fun j => ?_) rfl
  dsimp only
  by_cases p : b = a ∧ j = k
  · rw [if_pos p, if_pos p]
  · rw [if_neg p, if_neg p, if_neg p]
theorem gs_517 {d ga : Nat} {n : Int} {x1 x2 : Option VV} {h : PH} {Q : Rs → PH → Prop} (hn : 1 ≤ n ∧ n ≤ 200) (hr1 : h.1 ga 1 = iZ n) (m : Nat) : ∀ (st : Int), 1 ≤ st → st + (m : Int) = n → (∀ s2 : Int, st ≤ s2 → s2 ≤ n → n / s2 ≤ 6 → Ev d 161 (539, [some (.inr (.inr (.inr (11, 0, 83)))), x1, x2, some (.inr (.inr (.inr (20, 4, ga))))], [], (setI h ga 2 (iZ (s2)))) Q) → Ev d 161 (517, [some (.inr (.inr (.inr (11, 0, 83)))), x1, x2, some (.inr (.inr (.inr (20, 4, ga))))], [], (setI h ga 2 (iZ (st)))) Q := by
  induction m with
  | zero =>
    intro st h1 h2 k
    have e1 : n / st = 1 := by rw [show st = n by omega]; exact Int.ediv_self (by omega)
    refine Ev.sts 2 (c' := (519, [some (.inr (.inr (.inr (11, 0, 83)))), x1, x2, some (.inr (.inr (.inr (20, 4, ga))))], [.inl (iZ (1)), .inr (.inr (.inr (20, 4, ga)))], (setI h ga 2 (iZ (st))))) rfl ?_
    refine Ev.ldv (j := (iZ (1))) (n := 4) (w := .inl (iZ (n))) (by decide) rfl (congrArg vI ((setI_ne (fun z => absurd z.2 (by decide))).trans hr1)) ?_
    refine Ev.sts 2 (c' := (522, [some (.inr (.inr (.inr (11, 0, 83)))), x1, x2, some (.inr (.inr (.inr (20, 4, ga))))], [.inl (iZ (2)), .inr (.inr (.inr (20, 4, ga))), .inl (iZ (n))], (setI h ga 2 (iZ (st))))) rfl ?_
    refine Ev.ldv (j := (iZ (2))) (n := 4) (w := .inl (iZ (st))) (by decide) rfl (congrArg vI (setI_self _ _ _ _)) ?_
    refine Ev.pv (p := (iZ (st)) = 0) (v := .inl ((iZ (n)) / (iZ (st)))) (w := .inl (iZ (n / st))) (iZ_n0 (by omega) (by omega)) rfl (congrArg vI (iZ_div (by omega) (by omega) (by omega) (by omega))) ?_
    refine Ev.sts 1 (c' := (526, [some (.inr (.inr (.inr (11, 0, 83)))), x1, x2, some (.inr (.inr (.inr (20, 4, ga))))], [.inl (iZ (6)), .inl (iZ (n / st))], (setI h ga 2 (iZ (st))))) rfl ?_
    refine Ev.brT (p := (iZ (n / st)) ≤ (iZ (6))) (c1 := (539, [some (.inr (.inr (.inr (11, 0, 83)))), x1, x2, some (.inr (.inr (.inr (20, 4, ga))))], [], (setI h ga 2 (iZ (st))))) (c2 := (529, [some (.inr (.inr (.inr (11, 0, 83)))), x1, x2, some (.inr (.inr (.inr (20, 4, ga))))], [], (setI h ga 2 (iZ (st))))) ((iZ_le ⟨by omega, by omega⟩ ⟨by omega, by omega⟩).mpr (by omega)) rfl ?_
    exact k st (by omega) (by omega) (by omega)
  | succ m ih =>
    intro st h1 h2 k
    have q0 : 0 ≤ n / st := Int.ediv_nonneg (by omega) (by omega)
    have q1 : n / st ≤ n := Int.ediv_le_self st (by omega)
    refine Ev.sts 2 (c' := (519, [some (.inr (.inr (.inr (11, 0, 83)))), x1, x2, some (.inr (.inr (.inr (20, 4, ga))))], [.inl (iZ (1)), .inr (.inr (.inr (20, 4, ga)))], (setI h ga 2 (iZ (st))))) rfl ?_
    refine Ev.ldv (j := (iZ (1))) (n := 4) (w := .inl (iZ (n))) (by decide) rfl (congrArg vI ((setI_ne (fun z => absurd z.2 (by decide))).trans hr1)) ?_
    refine Ev.sts 2 (c' := (522, [some (.inr (.inr (.inr (11, 0, 83)))), x1, x2, some (.inr (.inr (.inr (20, 4, ga))))], [.inl (iZ (2)), .inr (.inr (.inr (20, 4, ga))), .inl (iZ (n))], (setI h ga 2 (iZ (st))))) rfl ?_
    refine Ev.ldv (j := (iZ (2))) (n := 4) (w := .inl (iZ (st))) (by decide) rfl (congrArg vI (setI_self _ _ _ _)) ?_
    refine Ev.pv (p := (iZ (st)) = 0) (v := .inl ((iZ (n)) / (iZ (st)))) (w := .inl (iZ (n / st))) (iZ_n0 (by omega) (by omega)) rfl (congrArg vI (iZ_div (by omega) (by omega) (by omega) (by omega))) ?_
    refine Ev.sts 1 (c' := (526, [some (.inr (.inr (.inr (11, 0, 83)))), x1, x2, some (.inr (.inr (.inr (20, 4, ga))))], [.inl (iZ (6)), .inl (iZ (n / st))], (setI h ga 2 (iZ (st))))) rfl ?_
    refine Ev.brc (p := (iZ (n / st)) ≤ (iZ (6))) (q := ((n / st : Int)) ≤ 6) (c1 := (539, [some (.inr (.inr (.inr (11, 0, 83)))), x1, x2, some (.inr (.inr (.inr (20, 4, ga))))], [], (setI h ga 2 (iZ (st))))) (c2 := (529, [some (.inr (.inr (.inr (11, 0, 83)))), x1, x2, some (.inr (.inr (.inr (20, 4, ga))))], [], (setI h ga 2 (iZ (st))))) rfl (iZ_le ⟨by omega, by omega⟩ ⟨by omega, by omega⟩) (fun c0 => ?_) (fun c0 => ?_)
    · exact k st (by omega) (by omega) (by omega)
    · refine Ev.sts 3 (c' := (532, [some (.inr (.inr (.inr (11, 0, 83)))), x1, x2, some (.inr (.inr (.inr (20, 4, ga))))], [.inl (iZ (2)), .inr (.inr (.inr (20, 4, ga))), .inl (iZ (2)), .inr (.inr (.inr (20, 4, ga)))], (setI h ga 2 (iZ (st))))) rfl ?_
      refine Ev.ldv (j := (iZ (2))) (n := 4) (w := .inl (iZ (st))) (by decide) rfl (congrArg vI (setI_self _ _ _ _)) ?_
      refine Ev.sts 1 (c' := (534, [some (.inr (.inr (.inr (11, 0, 83)))), x1, x2, some (.inr (.inr (.inr (20, 4, ga))))], [.inl (iZ (1)), .inl (iZ (st)), .inl (iZ (2)), .inr (.inr (.inr (20, 4, ga)))], (setI h ga 2 (iZ (st))))) rfl ?_
      refine Ev.gv (w := (iZ (st + 1))) rfl (iZ_add _ _) ?_
      refine Ev.sto (j := (iZ (2))) (n := 4) (h2 := (setI (setI h ga 2 (iZ (st))) ga 2 ((iZ (st + 1))))) (by decide) rfl rfl ?_
      refine Ev.sts 1 (c' := (517, [some (.inr (.inr (.inr (11, 0, 83)))), x1, x2, some (.inr (.inr (.inr (20, 4, ga))))], [], (setI (setI h ga 2 (iZ (st))) ga 2 ((iZ (st + 1)))))) rfl ?_
      rw [setI_2]
      exact ih (st + 1) (by omega) (by omega) (fun s2 s3 s4 s5 => k s2 (by omega) s4 s5)

