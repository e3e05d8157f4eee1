/-! The reference's digest, whole. -/
theorem mx_dg_lp {d : Nat} {y : Y4} {S : Sta} {Q : Rs → PH → Prop} (W : WN S) {a1 : Nat} (m : Nat) : ∀ (g : Nat) (h : PH) (x : Int64) (a6 a7 a8 a9 a10 : Option VV), MI h S y → g + m = (bkS S).2.2.length → (∀ (h1 : PH) (b4 b5 : Int32) (b6 b7 b8 b9 b10 : Option VV), MI h1 S y → hiN m (4 * m) h h1 → Ev (d + 3) 278 (370, [some (.inr (.inr (.inr (11, 0, 83)))), some (.inr (.inr (.inr (20, 12, a1)))), some (.inr (.inl (dgl x (dG S m g)))), none, some (.inl (b4)), some (.inl (b5)), b6, b7, b8, b9, b10], [], h1) Q) → Ev (d + 3) 278 (210, [some (.inr (.inr (.inr (11, 0, 83)))), some (.inr (.inr (.inr (20, 12, a1)))), some (.inr (.inl (x))), none, some (.inl (iZ (lnL (wdS S) g 0))), some (.inl (iZ (g))), a6, a7, a8, a9, a10], [], h) Q := by
  induction m with
  | zero =>
    intro g h x a6 a7 a8 a9 a10 I h1 k0
    have W0 := W
    obtain ⟨⟨w1, w2, w3, w4, w5, w6⟩, w7, w8, w9, w10, w11, w12, w13, w14, w15, w16, w17, w18⟩ := W0
    have wB : bkN (bkS S) := ⟨w1, w2, w3, w4, w5, w6⟩
    have sh0 := mi_sh I
    have al := alW_len (wdS S) 6 0
    have tl5 := lnL_le (ws := wdS S) (K := 128) (fun g => (w14 g).2) 6 0
    have alB_ := alW_B (ws := wdS S) (N := 1000) (fun g _ => (w14 g).1)
    have on1 := (mi_op I).2.1
    have on2 := (mi_op I).2.2.2.1
    have tn1 := (mi_tm I).2.1
    have tn2 := (mi_tm I).2.2.2.1
    refine Ev.sts 2 (c' := (213, [some (.inr (.inr (.inr (11, 0, 83)))), some (.inr (.inr (.inr (20, 12, a1)))), some (.inr (.inl (x))), none, some (.inl (iZ (lnL (wdS S) g 0))), some (.inl (iZ (g))), a6, a7, a8, a9, a10], [.inr (.inr (.inr (11, 0, 83))), .inl (iZ (g))], h)) rfl ?_
    refine Ev.gfr (r := (20, 64, 93)) rfl (sh_83_18 sh0) ?_
    refine Ev.sts 1 (c' := (217, [some (.inr (.inr (.inr (11, 0, 83)))), some (.inr (.inr (.inr (20, 12, a1)))), some (.inr (.inl (x))), none, some (.inl (iZ (lnL (wdS S) g 0))), some (.inl (iZ (g))), a6, a7, a8, a9, a10], [.inl (iZ (1)), .inr (.inr (.inr (20, 64, 93))), .inl (iZ (g))], h)) rfl ?_
    refine Ev.ldv (j := (iZ (1))) (n := 64) (w := .inl (iZ ((bkS S).2.2.length))) (by decide) rfl (congrArg vI (mi_bk I).2.1) ?_
    refine Ev.brT (p := (iZ ((bkS S).2.2.length)) ≤ (iZ (g))) (c1 := (370, [some (.inr (.inr (.inr (11, 0, 83)))), some (.inr (.inr (.inr (20, 12, a1)))), some (.inr (.inl (x))), none, some (.inl (iZ (lnL (wdS S) g 0))), some (.inl (iZ (g))), a6, a7, a8, a9, a10], [], h)) (c2 := (221, [some (.inr (.inr (.inr (11, 0, 83)))), some (.inr (.inr (.inr (20, 12, a1)))), some (.inr (.inl (x))), none, some (.inl (iZ (lnL (wdS S) g 0))), some (.inl (iZ (g))), a6, a7, a8, a9, a10], [], h)) ((iZ_le ⟨by omega, by omega⟩ ⟨by omega, by omega⟩).mpr (by omega)) rfl ?_
    exact k0 h _ _ _ _ _ _ _ I (hi_r h)
  | succ m ih =>
    intro g h x a6 a7 a8 a9 a10 I h1 k0
    have W0 := W
    obtain ⟨⟨w1, w2, w3, w4, w5, w6⟩, w7, w8, w9, w10, w11, w12, w13, w14, w15, w16, w17, w18⟩ := W0
    have wB : bkN (bkS S) := ⟨w1, w2, w3, w4, w5, w6⟩
    have sh0 := mi_sh I
    have al := alW_len (wdS S) 6 0
    have tl5 := lnL_le (ws := wdS S) (K := 128) (fun g => (w14 g).2) 6 0
    have alB_ := alW_B (ws := wdS S) (N := 1000) (fun g _ => (w14 g).1)
    have on1 := (mi_op I).2.1
    have on2 := (mi_op I).2.2.2.1
    have tn1 := (mi_tm I).2.1
    have tn2 := (mi_tm I).2.2.2.1
    have hg : g < 6 := by omega
    have hc : g < (bkS S).2.2.length := by omega
    have wl1 := (w14 g).2
    have ab := alB_b wB (ntS S)
    have fb := fstE_b (w14 g).1 2000 (by omega) (by omega)
    refine Ev.sts 2 (c' := (213, [some (.inr (.inr (.inr (11, 0, 83)))), some (.inr (.inr (.inr (20, 12, a1)))), some (.inr (.inl (x))), none, some (.inl (iZ (lnL (wdS S) g 0))), some (.inl (iZ (g))), a6, a7, a8, a9, a10], [.inr (.inr (.inr (11, 0, 83))), .inl (iZ (g))], h)) rfl ?_
    refine Ev.gfr (r := (20, 64, 93)) rfl (sh_83_18 sh0) ?_
    refine Ev.sts 1 (c' := (217, [some (.inr (.inr (.inr (11, 0, 83)))), some (.inr (.inr (.inr (20, 12, a1)))), some (.inr (.inl (x))), none, some (.inl (iZ (lnL (wdS S) g 0))), some (.inl (iZ (g))), a6, a7, a8, a9, a10], [.inl (iZ (1)), .inr (.inr (.inr (20, 64, 93))), .inl (iZ (g))], h)) rfl ?_
    refine Ev.ldv (j := (iZ (1))) (n := 64) (w := .inl (iZ ((bkS S).2.2.length))) (by decide) rfl (congrArg vI (mi_bk I).2.1) ?_
    refine Ev.brF (p := (iZ ((bkS S).2.2.length)) ≤ (iZ (g))) (c1 := (370, [some (.inr (.inr (.inr (11, 0, 83)))), some (.inr (.inr (.inr (20, 12, a1)))), some (.inr (.inl (x))), none, some (.inl (iZ (lnL (wdS S) g 0))), some (.inl (iZ (g))), a6, a7, a8, a9, a10], [], h)) (c2 := (221, [some (.inr (.inr (.inr (11, 0, 83)))), some (.inr (.inr (.inr (20, 12, a1)))), some (.inr (.inl (x))), none, some (.inl (iZ (lnL (wdS S) g 0))), some (.inl (iZ (g))), a6, a7, a8, a9, a10], [], h)) (fun c_ => absurd ((iZ_le ⟨by omega, by omega⟩ ⟨by omega, by omega⟩).mp c_) (by omega)) rfl ?_
    refine Ev.sts 1 (c' := (222, [some (.inr (.inr (.inr (11, 0, 83)))), some (.inr (.inr (.inr (20, 12, a1)))), some (.inr (.inl (x))), none, some (.inl (iZ (lnL (wdS S) g 0))), some (.inl (iZ (g))), a6, a7, a8, a9, a10], [.inl (iZ (4))], h)) rfl ?_
    refine Ev.sts 1 (c' := (224, [some (.inr (.inr (.inr (11, 0, 83)))), some (.inr (.inr (.inr (20, 12, a1)))), some (.inr (.inl (x))), none, some (.inl (iZ (lnL (wdS S) g 0))), some (.inl (iZ (g))), a6, a7, a8, a9, a10], [.inr (.inr (.inr (20, 4, (hN h))))], (grow h 4))) rfl ?_
    refine Ev.sts 5 (c' := (230, [some (.inr (.inr (.inr (11, 0, 83)))), some (.inr (.inr (.inr (20, 12, a1)))), some (.inr (.inl (x))), none, some (.inl (iZ (lnL (wdS S) g 0))), some (.inl (iZ (g))), a6, a7, a8, a9, a10], [.inl (iZ (0)), .inl (iZ (g)), .inr (.inr (.inr (11, 0, 83))), .inl (iZ (0)), .inr (.inr (.inr (20, 4, (hN h)))), .inr (.inr (.inr (20, 4, (hN h))))], (grow h 4))) rfl ?_
    refine Ev.callv (a := [.inr (.inr (.inr (11, 0, 83))), .inl (iZ (g)), .inl (iZ (0))]) rfl (mp_of0 (g := g) (y := ((bkS S).2.2.getD g g0).1) (mi_sh (MI_hi I (hi_g _ _))) hg (by omega) ((mi_bk (MI_hi I (hi_g _ _))).2.2.2.2.2 g hc).1) ?_
    refine Ev.sto (j := (iZ (0))) (n := 4) (h2 := (setI (grow h 4) (hN h) 0 ((iZ (((bkS S).2.2.getD g g0).1))))) (by decide) rfl rfl ?_
    refine Ev.sts 3 (c' := (237, [some (.inr (.inr (.inr (11, 0, 83)))), some (.inr (.inr (.inr (20, 12, a1)))), some (.inr (.inl (x))), none, some (.inl (iZ (lnL (wdS S) g 0))), some (.inl (iZ (g))), a6, a7, a8, a9, a10], [.inr (.inr (.inr (11, 0, 83))), .inl (iZ (1)), .inr (.inr (.inr (20, 4, (hN h)))), .inr (.inr (.inr (20, 4, (hN h))))], (setI (grow h 4) (hN h) 0 ((iZ (((bkS S).2.2.getD g g0).1)))))) rfl ?_
    refine Ev.gfr (r := (20, 6, 99)) rfl (sh_83_28 sh0) ?_
    refine Ev.sts 1 (c' := (242, [some (.inr (.inr (.inr (11, 0, 83)))), some (.inr (.inr (.inr (20, 12, a1)))), some (.inr (.inl (x))), none, some (.inl (iZ (lnL (wdS S) g 0))), some (.inl (iZ (g))), a6, a7, a8, a9, a10], [.inl (iZ (g)), .inr (.inr (.inr (20, 6, 99))), .inl (iZ (1)), .inr (.inr (.inr (20, 4, (hN h)))), .inr (.inr (.inr (20, 4, (hN h))))], (setI (grow h 4) (hN h) 0 ((iZ (((bkS S).2.2.getD g g0).1)))))) rfl ?_
    refine Ev.ldv (j := (iZ (g))) (n := 6) (w := .inl (iZ ((ltS S g)))) (iZ_in (by omega) (by omega) (by omega)) rfl (by rw [iZ_ix (n := g) (by omega) (by omega)]; exact congrArg vI (mi_lt (MI_hi I (hi_w (hi_g _ _) (Nat.le_refl _))) g hg)) ?_
    refine Ev.sto (j := (iZ (1))) (n := 4) (h2 := (setI (setI (grow h 4) (hN h) 0 ((iZ (((bkS S).2.2.getD g g0).1)))) (hN h) 1 ((iZ ((ltS S g)))))) (by decide) rfl rfl ?_
    refine Ev.sts 4 (c' := (249, [some (.inr (.inr (.inr (11, 0, 83)))), some (.inr (.inr (.inr (20, 12, a1)))), some (.inr (.inl (x))), none, some (.inl (iZ (lnL (wdS S) g 0))), some (.inl (iZ (g))), a6, a7, a8, a9, a10], [.inl (iZ (g)), .inr (.inr (.inr (11, 0, 83))), .inl (iZ (2)), .inr (.inr (.inr (20, 4, (hN h)))), .inr (.inr (.inr (20, 4, (hN h))))], (setI (setI (grow h 4) (hN h) 0 ((iZ (((bkS S).2.2.getD g g0).1)))) (hN h) 1 ((iZ ((ltS S g))))))) rfl ?_
    refine Ev.callv (a := [.inr (.inr (.inr (11, 0, 83))), .inl (iZ (g))]) rfl (mx_openOf (MI_hi I (hi_w (hi_w (hi_g _ _) (Nat.le_refl _)) (Nat.le_refl _))) W rfl hg) ?_
    refine Ev.sto (j := (iZ (2))) (n := 4) (h2 := (setI (setI (setI (grow h 4) (hN h) 0 ((iZ (((bkS S).2.2.getD g g0).1)))) (hN h) 1 ((iZ ((ltS S g))))) (hN h) 2 ((iZ ((wdS S g).length))))) (by decide) rfl rfl ?_
    refine Ev.sts 4 (c' := (258, [some (.inr (.inr (.inr (11, 0, 83)))), some (.inr (.inr (.inr (20, 12, a1)))), some (.inr (.inl (x))), none, some (.inl (iZ (lnL (wdS S) g 0))), some (.inl (iZ (g))), a6, a7, a8, a9, a10], [.inl (iZ (g)), .inr (.inr (.inr (11, 0, 83))), .inl (iZ (3)), .inr (.inr (.inr (20, 4, (hN h)))), .inr (.inr (.inr (20, 4, (hN h))))], (setI (setI (setI (grow h 4) (hN h) 0 ((iZ (((bkS S).2.2.getD g g0).1)))) (hN h) 1 ((iZ ((ltS S g))))) (hN h) 2 ((iZ ((wdS S g).length)))))) rfl ?_
    refine Ev.callv (a := [.inr (.inr (.inr (11, 0, 83))), .inl (iZ (g))]) rfl (mx_toTell (MI_hi I (hi_w (hi_w (hi_w (hi_g _ _) (Nat.le_refl _)) (Nat.le_refl _)) (Nat.le_refl _))) W rfl hg) ?_
    refine Ev.sto (j := (iZ (3))) (n := 4) (h2 := (setI (setI (setI (setI (grow h 4) (hN h) 0 ((iZ (((bkS S).2.2.getD g g0).1)))) (hN h) 1 ((iZ ((ltS S g))))) (hN h) 2 ((iZ ((wdS S g).length)))) (hN h) 3 ((iZ (httC (wdS S g) (alB (bkS S) (ntS S))))))) (by decide) rfl rfl ?_
    refine Ev.sts 8 (c' := (276, [some (.inr (.inr (.inr (11, 0, 83)))), some (.inr (.inr (.inr (20, 12, a1)))), some (.inr (.inl (x))), none, some (.inl (iZ (lnL (wdS S) g 0))), some (.inl (iZ (g))), some (.inr (.inr (.inr (20, 4, (hN h))))), some (.inr (.inr (.inr (20, 4, (hN h))))), some (.inl (iZ (4))), some (.inl (iZ (0))), a10], [], (setI (setI (setI (setI (grow h 4) (hN h) 0 ((iZ (((bkS S).2.2.getD g g0).1)))) (hN h) 1 ((iZ ((ltS S g))))) (hN h) 2 ((iZ ((wdS S g).length)))) (hN h) 3 ((iZ (httC (wdS S g) (alB (bkS S) (ntS S)))))))) rfl ?_
    have cl : ∀ j, j < 4 → (setI (setI (setI (setI (grow h 4) (hN h) 0 ((iZ (((bkS S).2.2.getD g g0).1)))) (hN h) 1 ((iZ ((ltS S g))))) (hN h) 2 ((iZ ((wdS S g).length)))) (hN h) 3 ((iZ (httC (wdS S g) (alB (bkS S) (ntS S)))))).1 (hN h) j = (dGh S g).getD j 0 := by
      intro j hj
      match j, hj with
      | 0, _ => exact ((setI_ne (by omega)).trans ((setI_ne (by omega)).trans ((setI_ne (by omega)).trans (setI_self _ _ _ _))))
      | 1, _ => exact ((setI_ne (by omega)).trans ((setI_ne (by omega)).trans (setI_self _ _ _ _)))
      | 2, _ => exact ((setI_ne (by omega)).trans (setI_self _ _ _ _))
      | 3, _ => exact (setI_self _ _ _ _)
    refine mx_db_lp (e8 := none) (e9 := none) (e10 := none) (L := dGh S g) rfl cl 4 0 _ _ (by omega) (fun b10 => ?_)
    refine mx_dw_lp (MI_hi I (hi_w (hi_w (hi_w (hi_w (hi_g _ _) (Nat.le_refl _)) (Nat.le_refl _)) (Nat.le_refl _)) (Nat.le_refl _))) W hg (wdS S g).length 0 _ _ (by omega) (fun b7 => ?_)
    refine Ev.stc (c1 := (367, [some (.inr (.inr (.inr (11, 0, 83)))), some (.inr (.inr (.inr (20, 12, a1)))), some (.inr (.inl ((dgl (dgl x (dGh S g)) ((wdS S g).flatMap dW))))), none, some (.inl (iZ (lnL (wdS S) g 0 + (wdS S g).length))), some (.inl ((iZ (g)) + (iZ (1)))), some (.inr (.inr (.inr (20, 4, (hN h))))), b7, some (.inl (iZ (4))), some (.inl (iZ (4))), b10], [], (setI (setI (setI (setI (grow h 4) (hN h) 0 ((iZ (((bkS S).2.2.getD g g0).1)))) (hN h) 1 ((iZ ((ltS S g))))) (hN h) 2 ((iZ ((wdS S g).length)))) (hN h) 3 ((iZ (httC (wdS S g) (alB (bkS S) (ntS S)))))))) (c2 := (367, [some (.inr (.inr (.inr (11, 0, 83)))), some (.inr (.inr (.inr (20, 12, a1)))), some (.inr (.inl ((dgl (dgl x (dGh S g)) ((wdS S g).flatMap dW))))), none, some (.inl (iZ (lnL (wdS S) g 0 + (wdS S g).length))), some (.inl (iZ (g + 1))), some (.inr (.inr (.inr (20, 4, (hN h))))), b7, some (.inl (iZ (4))), some (.inl (iZ (4))), b10], [], (setI (setI (setI (setI (grow h 4) (hN h) 0 ((iZ (((bkS S).2.2.getD g g0).1)))) (hN h) 1 ((iZ ((ltS S g))))) (hN h) 2 ((iZ ((wdS S g).length)))) (hN h) 3 ((iZ (httC (wdS S g) (alB (bkS S) (ntS S)))))))) rfl (by rw [iZ_add]) ?_
    refine Ev.sts 1 (c' := (210, [some (.inr (.inr (.inr (11, 0, 83)))), some (.inr (.inr (.inr (20, 12, a1)))), some (.inr (.inl ((dgl (dgl x (dGh S g)) ((wdS S g).flatMap dW))))), none, some (.inl (iZ (lnL (wdS S) g 0 + (wdS S g).length))), some (.inl (iZ (g + 1))), some (.inr (.inr (.inr (20, 4, (hN h))))), b7, some (.inl (iZ (4))), some (.inl (iZ (4))), b10], [], (setI (setI (setI (setI (grow h 4) (hN h) 0 ((iZ (((bkS S).2.2.getD g g0).1)))) (hN h) 1 ((iZ ((ltS S g))))) (hN h) 2 ((iZ ((wdS S g).length)))) (hN h) 3 ((iZ (httC (wdS S g) (alB (bkS S) (ntS S)))))))) rfl ?_
    rw [show ((lnL (wdS S) g 0 : Int) + ((wdS S g).length : Int)) = ((lnL (wdS S) (g + 1) 0 : Nat) : Int) by rw [lnL_s, Nat.zero_add]; omega]
    refine ih (g + 1) _ _ _ _ _ _ _ (MI_hi I (hi_w (hi_w (hi_w (hi_w (hi_g _ _) (Nat.le_refl _)) (Nat.le_refl _)) (Nat.le_refl _)) (Nat.le_refl _))) (by omega) (fun h1 b4 b5 b6 b7 b8 b9 b10 i1 f1 => ?_)
    have e1 := hi_t (hi_w (hi_w (hi_w (hi_w (hi_g _ _) (Nat.le_refl _)) (Nat.le_refl _)) (Nat.le_refl _)) (Nat.le_refl _)) f1
    rw [show 1 + m = m + 1 by omega, show 4 + 4 * m = 4 * (m + 1) by omega] at e1
    have k1 := k0 h1 b4 b5 b6 b7 b8 b9 b10 i1 e1
    rw [show dG S (m + 1) g = (dGh S g ++ (wdS S g).flatMap dW) ++ dG S m (g + 1) from rfl, dgl_app, dgl_app] at k1
    exact k1

theorem mx_dg_tl {d : Nat} {y : Y4} {S : Sta} {h : PH} {Q : Rs → PH → Prop} (I : MI h S y) (W : WN S) {a a1 : Nat} {x : Int64} {e5 e6 : Int32} {e7 e8 e9 e10 : Option VV} (q : ∀ h1, MI h1 S y → hiN (bkS S).2.2.length (4 * (bkS S).2.2.length) h h1 → Q (.inl (some (.inr (.inl (dgl (dgl (dgl x (dF S (bkS S).2.1.length 0)) (dG S (bkS S).2.2.length 0)) ((tlS S).flatMap dT)))))) h1) : Ev (d + 3) 278 (156, [some (.inr (.inr (.inr (11, 0, 83)))), some (.inr (.inr (.inr (20, 12, a1)))), some (.inr (.inl (x))), none, some (.inr (.inr (.inr (20, 12, a)))), some (.inl (e5)), some (.inl (e6)), e7, e8, e9, e10], [], h) Q := by
  have W0 := W
  obtain ⟨⟨w1, w2, w3, w4, w5, w6⟩, w7, w8, w9, w10, w11, w12, w13, w14, w15, w16, w17, w18⟩ := W0
  have wB : bkN (bkS S) := ⟨w1, w2, w3, w4, w5, w6⟩
  have sh0 := mi_sh I
  have al := alW_len (wdS S) 6 0
  have tl5 := lnL_le (ws := wdS S) (K := 128) (fun g => (w14 g).2) 6 0
  have alB_ := alW_B (ws := wdS S) (N := 1000) (fun g _ => (w14 g).1)
  have on1 := (mi_op I).2.1
  have on2 := (mi_op I).2.2.2.1
  have tn1 := (mi_tm I).2.1
  have tn2 := (mi_tm I).2.2.2.1
  refine Ev.sts 2 (c' := (159, [some (.inr (.inr (.inr (11, 0, 83)))), some (.inr (.inr (.inr (20, 12, a1)))), some (.inr (.inl (x))), none, some (.inl (iZ (0))), some (.inl (e5)), some (.inl (e6)), e7, e8, e9, e10], [], h)) rfl ?_
  refine mx_df_lp I W (bkS S).2.1.length 0 _ (by omega) ?_
  refine Ev.sts 4 (c' := (210, [some (.inr (.inr (.inr (11, 0, 83)))), some (.inr (.inr (.inr (20, 12, a1)))), some (.inr (.inl ((dgl x (dF S (bkS S).2.1.length 0))))), none, some (.inl (iZ (0))), some (.inl (iZ (0))), some (.inl (e6)), e7, e8, e9, e10], [], h)) rfl ?_
  refine mx_dg_lp W (bkS S).2.2.length 0 h _ _ _ _ _ _ I (by omega) (fun h1 b4 b5 b6 b7 b8 b9 b10 i1 f1 => ?_)
  refine Ev.sts 2 (c' := (373, [some (.inr (.inr (.inr (11, 0, 83)))), some (.inr (.inr (.inr (20, 12, a1)))), some (.inr (.inl ((dgl (dgl x (dF S (bkS S).2.1.length 0)) (dG S (bkS S).2.2.length 0))))), none, some (.inl (b4)), some (.inl (iZ (0))), b6, b7, b8, b9, b10], [], h1)) rfl ?_
  refine mx_dt_lp i1 W (5 * (tlS S).length + 1) 0 _ (by omega) (by omega) ?_
  rw [List.drop_zero]
  exact q h1 i1 f1

theorem mx_digest {d : Nat} {y : Y4} {S : Sta} {h : PH} {Q : Rs → PH → Prop} (I : MI h S y) (W : WN S) (q : ∀ h1, MI h1 S y → hiN (1 + (bkS S).2.2.length) (12 + 4 * (bkS S).2.2.length) (setI h 83 0 (iZ 0)) h1 → Q (.inl (some (.inr (.inl (digS S))))) h1) : Rn (d + 3) 278 [.inr (.inr (.inr (11, 0, 83)))] h Q := by
  refine mx_dg_hd I W (fun h1 a i1 f1 c1 => ?_)
  refine mx_da_lp (e4 := 0) (e5 := 0) (e6 := none) (L := dH S) rfl c1 12 0 _ _ (by omega) (fun b7 => ?_)
  refine mx_dg_tl i1 W (fun h2 i2 f2 => ?_)
  have q2 := q h2 i2 (hi_t f1 f2)
  unfold digS at q2
  rw [dgl_app, dgl_app, dgl_app] at q2
  exact q2

