/-! A line with a goose: from its name to what it tells. -/
def lWin (wk : Nat) (st : Int) : Int := if wk = 0 then 0 else st
/-- what a goose's window leaves behind -/
def GWk (h h1 : PH) (ga L dr tk ln : Nat) (tp : List Int) (ks : List Sg) (n : Int) (wk : Nat) (st : Int) (dr1 : Nat) (tp1 : List Int) : Prop := GWb h1 ga L dr1 tk ln tp1 ∧ KGa ga h h1 ∧ LXs tp1 (ks ++ wiK n st wk) ∧ (h1.1 ga 0 = h.1 ga 0 ∧ h1.1 ga 1 = h.1 ga 1 ∧ h1.1 ga 3 = h.1 ga 3 ∧ h1.1 ga 2 = iZ (lWin wk st)) ∧ ((2 ≤ wk → 1 ≤ st ∧ st ≤ n ∧ n / st ≤ 6) ∧ (wk = 1 → st = n) ∧ (wk = 0 → st = 1) ∧ wk ≤ 2) ∧ tp1.length ≤ tp.length + 19 ∧ dr1 ≤ dr + 3 ∧ hN h1 ≤ hN h + 20 ∧ hS h1 ≤ hS h + 14 * (tp.length + 30) + 100
theorem KG_row {ga : Nat} {h h1 : PH} (f : KTx h h1) (hg : ga < hN h) (h83 : 88 ≤ ga) (j : Nat) : h1.1 ga j = h.1 ga j := by rw [(f.1.1.2.1 ga hg (by omega)).1]
theorem KT_n {h h1 : PH} (f : KTx h h1) : hN h ≤ hN h1 := f.1.1.2.2.2
theorem gs_gap {d L dr tk ln ga : Nat} {n : Int} {x1 x2 : Option VV} {tp : List Int} {ks : List Sg} {h : PH} {Q : Rs → PH → Prop} (g : GWb h ga L dr tk ln tp) (lx : LXs tp ks) (hn : 1 ≤ n ∧ n ≤ 200) (hr1 : h.1 ga 1 = iZ n) (hl : tp.length ≤ 1690) (hd : dr < 200000) (hr2 : h.1 ga 2 = iZ 0) (k : ∀ h1 wk st tp1, GWk h h1 ga L dr tk ln tp ks n wk st dr tp1 → Ev (d + 6) 161 (571, [some (.inr (.inr (.inr (11, 0, 83)))), x1, x2, some (.inr (.inr (.inr (20, 4, ga))))], [], h1) Q) : Ev (d + 6) 161 (422, [some (.inr (.inr (.inr (11, 0, 83)))), x1, x2, some (.inr (.inr (.inr (20, 4, ga))))], [], h) Q := by
  have h8 := g.2.2.1
  have hg := g.2.2.2
  refine tw_gap (w1 := n) g.1 (by omega) hg hr1 (by omega) (fun ha ba fa na ma xa => ?_)
  have dl := digs_len (n := n)
  have e : (txC 58 ++ digs n).length = 5 + (digs n).length := by rw [List.length_append, show (txC 58).length = 5 by decide +kernel]
  have l1 := lx_58 lx
  have l2 := (lx_num (n := n) (by omega) l1.1 l1.2).1
  refine k ha 0 1 _ ⟨GW_T g ba xa fa, KG_T fa, by simp only [List.append_assoc, List.cons_append, List.nil_append] at l2; exact l2, ⟨KG_row fa hg h8 0, KG_row fa hg h8 1, KG_row fa hg h8 3, (KG_row fa hg h8 2).trans hr2⟩, ⟨fun z => absurd z (by decide), fun z => absurd z (by decide), fun _ => rfl, by decide⟩, by rw [List.length_append]; omega, by omega, by omega, by omega⟩
theorem gs_step {d L dr tk ln ga : Nat} {n : Int} {x1 x2 : Option VV} {tp : List Int} {ks : List Sg} {h : PH} {Q : Rs → PH → Prop} (g : GWb h ga L dr tk ln tp) (lx : LXs tp ks) (hn : 1 ≤ n ∧ n ≤ 200) (hr1 : h.1 ga 1 = iZ n) (hl : tp.length ≤ 1690) (hd : dr < 200000) {st : Int} (hst : 1 ≤ st ∧ st ≤ n ∧ n / st ≤ 6) (hr2 : h.1 ga 2 = iZ st) (k : ∀ h1 dr1 tp1, GWb h1 ga L dr1 tk ln tp1 → KTx h h1 → LXs tp1 (ks ++ [(18, 0, 0), (3, st, 0)]) → dr1 = dr → tp1.length ≤ tp.length + 9 → hN h1 ≤ hN h + 7 → hS h1 ≤ hS h + 7 * (tp.length + 9) + 32 → Ev (d + 6) 161 (571, [some (.inr (.inr (.inr (11, 0, 83)))), x1, x2, some (.inr (.inr (.inr (20, 4, ga))))], [], h1) Q) : Ev (d + 6) 161 (539, [some (.inr (.inr (.inr (11, 0, 83)))), x1, x2, some (.inr (.inr (.inr (20, 4, ga))))], [], h) Q := by
  have hg := g.2.2.2
  refine tw_step (w2 := st) g.1 (by omega) hg hr2 (by omega) (fun ha ba fa na ma xa => ?_)
  have dl := digs_len (n := st)
  have e : (txC 60 ++ digs st).length = 6 + (digs st).length := by rw [List.length_append, show (txC 60).length = 6 by decide +kernel]
  have l1 := lx_60 lx
  have l2 := (lx_num (n := st) (by omega) l1.1 l1.2).1
  exact k ha dr _ (GW_T g ba xa fa) fa (by simpa only [List.append_assoc, List.cons_append, List.nil_append] using l2) rfl (by rw [List.length_append]; omega) na (by omega)
theorem gs_503 {d L dr tk ln ga : Nat} {n : Int} {x1 x2 : Option VV} {tp : List Int} {ks : List Sg} {h : PH} {Q : Rs → PH → Prop} (g : GWb h ga L dr tk ln tp) (lx : LXs tp ks) (hn : 1 ≤ n ∧ n ≤ 200) (hr1 : h.1 ga 1 = iZ n) (hl : tp.length ≤ 1690) (hd : dr < 200000) (k : ∀ (h1 : PH) (s2 : Int), GWb h1 ga L (dr + 1) tk ln tp → KGa ga h h1 → (∀ j, h1.1 ga j = h.1 ga j) → hN h1 = hN h → hS h1 = hS h → (1 ≤ s2 ∧ s2 ≤ n ∧ n / s2 ≤ 6) → Ev (d + 2) 161 (539, [some (.inr (.inr (.inr (11, 0, 83)))), x1, x2, some (.inr (.inr (.inr (20, 4, ga))))], [], (setI h1 ga 2 (iZ (s2)))) Q) : Ev (d + 2) 161 (503, [some (.inr (.inr (.inr (11, 0, 83)))), x1, x2, some (.inr (.inr (.inr (20, 4, ga))))], [], h) Q := by
  refine Ev.sts 4 (c' := (507, [some (.inr (.inr (.inr (11, 0, 83)))), x1, x2, some (.inr (.inr (.inr (20, 4, ga))))], [.inl (iZ (1)), .inr (.inr (.inr (20, 4, ga))), .inl (iZ (2)), .inr (.inr (.inr (20, 4, ga)))], h)) rfl ?_
  refine Ev.ldv (j := (iZ (1))) (n := 4) (w := .inl (iZ (n))) (by decide) rfl (congrArg vI hr1) ?_
  refine Ev.sts 3 (c' := (511, [some (.inr (.inr (.inr (11, 0, 83)))), x1, x2, some (.inr (.inr (.inr (20, 4, ga))))], [.inl (iZ (1)), .inr (.inr (.inr (20, 4, ga))), .inr (.inr (.inr (11, 0, 83))), .inl (iZ (n)), .inl (iZ (2)), .inr (.inr (.inr (20, 4, ga)))], h)) rfl ?_
  refine Ev.ldv (j := (iZ (1))) (n := 4) (w := .inl (iZ (n))) (by decide) rfl (congrArg vI hr1) ?_
  refine Ev.callw (a := [.inr (.inr (.inr (11, 0, 83))), .inl (iZ (n))]) rfl (gw_draw g (by omega) ⟨by omega, by omega⟩ (fun w h1 v0 v1 g1 f1 r1 n1 m1 => ?_))
  refine Ev.gv (w := (iZ (n - w))) rfl (iZ_sub _ _) ?_
  refine Ev.sto (j := (iZ (2))) (n := 4) (h2 := (setI h1 ga 2 ((iZ (n - w))))) (by decide) rfl rfl ?_
  exact gs_517 hn ((r1 1).trans hr1) w.toNat (n - w) (by omega) (by omega) (fun s2 a b c => k h1 s2 g1 f1 r1 n1 m1 ⟨by omega, b, c⟩)

theorem gs_495 {d L dr tk ln ga : Nat} {n : Int} {x1 x2 : Option VV} {tp : List Int} {ks : List Sg} {h : PH} {Q : Rs → PH → Prop} (g : GWb h ga L dr tk ln tp) (lx : LXs tp ks) (hn : 1 ≤ n ∧ n ≤ 200) (hr1 : h.1 ga 1 = iZ n) (hl : tp.length ≤ 1690) (hd : dr < 200000) (k1 : ∀ h1 : PH, GWb h1 ga L (dr + 1) tk ln tp → KGa ga h h1 → (∀ j, h1.1 ga j = h.1 ga j) → hN h1 = hN h → hS h1 = hS h → Ev (d + 2) 161 (571, [some (.inr (.inr (.inr (11, 0, 83)))), x1, x2, some (.inr (.inr (.inr (20, 4, ga))))], [], h1) Q) (k0 : ∀ h1 : PH, GWb h1 ga L (dr + 1) tk ln tp → KGa ga h h1 → (∀ j, h1.1 ga j = h.1 ga j) → hN h1 = hN h → hS h1 = hS h → Ev (d + 2) 161 (503, [some (.inr (.inr (.inr (11, 0, 83)))), x1, x2, some (.inr (.inr (.inr (20, 4, ga))))], [], h1) Q) : Ev (d + 2) 161 (495, [some (.inr (.inr (.inr (11, 0, 83)))), x1, x2, some (.inr (.inr (.inr (20, 4, ga))))], [], h) Q := by
  refine Ev.sts 2 (c' := (497, [some (.inr (.inr (.inr (11, 0, 83)))), x1, x2, some (.inr (.inr (.inr (20, 4, ga))))], [.inl (iZ (2)), .inr (.inr (.inr (11, 0, 83)))], h)) rfl ?_
  refine Ev.callw (a := [.inr (.inr (.inr (11, 0, 83))), .inl (iZ (2))]) rfl (gw_draw g (by omega) ⟨by omega, by omega⟩ (fun w h1 v0 v1 g1 f1 r1 n1 m1 => ?_))
  refine Ev.brc (p := ¬ (iZ (w)) = (iZ (0))) (q := ¬ ((w : Int)) = 0) (c1 := (571, [some (.inr (.inr (.inr (11, 0, 83)))), x1, x2, some (.inr (.inr (.inr (20, 4, ga))))], [], h1)) (c2 := (503, [some (.inr (.inr (.inr (11, 0, 83)))), x1, x2, some (.inr (.inr (.inr (20, 4, ga))))], [], h1)) rfl (not_congr (iZ_eq ⟨by omega, by omega⟩ ⟨by omega, by omega⟩)) (fun c0 => ?_) (fun c0 => ?_)
  · exact k1 h1 g1 f1 r1 n1 m1
  · exact k0 h1 g1 f1 r1 n1 m1

theorem gs_414 {d L dr tk ln ga : Nat} {n : Int} {x1 x2 : Option VV} {tp : List Int} {ks : List Sg} {h : PH} {Q : Rs → PH → Prop} (g : GWb h ga L dr tk ln tp) (lx : LXs tp ks) (hn : 1 ≤ n ∧ n ≤ 200) (hr1 : h.1 ga 1 = iZ n) (hl : tp.length ≤ 1690) (hd : dr < 200000) (k1 : ∀ h1 : PH, GWb h1 ga L (dr + 1) tk ln tp → KGa ga h h1 → (∀ j, h1.1 ga j = h.1 ga j) → hN h1 = hN h → hS h1 = hS h → Ev (d + 2) 161 (457, [some (.inr (.inr (.inr (11, 0, 83)))), x1, x2, some (.inr (.inr (.inr (20, 4, ga))))], [], h1) Q) (k0 : ∀ h1 : PH, GWb h1 ga L (dr + 1) tk ln tp → KGa ga h h1 → (∀ j, h1.1 ga j = h.1 ga j) → hN h1 = hN h → hS h1 = hS h → Ev (d + 2) 161 (422, [some (.inr (.inr (.inr (11, 0, 83)))), x1, x2, some (.inr (.inr (.inr (20, 4, ga))))], [], h1) Q) : Ev (d + 2) 161 (414, [some (.inr (.inr (.inr (11, 0, 83)))), x1, x2, some (.inr (.inr (.inr (20, 4, ga))))], [], h) Q := by
  refine Ev.sts 2 (c' := (416, [some (.inr (.inr (.inr (11, 0, 83)))), x1, x2, some (.inr (.inr (.inr (20, 4, ga))))], [.inl (iZ (3)), .inr (.inr (.inr (11, 0, 83)))], h)) rfl ?_
  refine Ev.callw (a := [.inr (.inr (.inr (11, 0, 83))), .inl (iZ (3))]) rfl (gw_draw g (by omega) ⟨by omega, by omega⟩ (fun w h1 v0 v1 g1 f1 r1 n1 m1 => ?_))
  refine Ev.brc (p := ¬ (iZ (w)) = (iZ (0))) (q := ¬ ((w : Int)) = 0) (c1 := (457, [some (.inr (.inr (.inr (11, 0, 83)))), x1, x2, some (.inr (.inr (.inr (20, 4, ga))))], [], h1)) (c2 := (422, [some (.inr (.inr (.inr (11, 0, 83)))), x1, x2, some (.inr (.inr (.inr (20, 4, ga))))], [], h1)) rfl (not_congr (iZ_eq ⟨by omega, by omega⟩ ⟨by omega, by omega⟩)) (fun c0 => ?_) (fun c0 => ?_)
  · exact k1 h1 g1 f1 r1 n1 m1
  · exact k0 h1 g1 f1 r1 n1 m1

theorem gs_457 {d ga : Nat} {n : Int} {x1 x2 : Option VV} {h : PH} {Q : Rs → PH → Prop} (hr1 : h.1 ga 1 = iZ n) (k : Ev d 161 (463, [some (.inr (.inr (.inr (11, 0, 83)))), x1, x2, some (.inr (.inr (.inr (20, 4, ga))))], [], (setI h ga 2 (iZ (n)))) Q) : Ev d 161 (457, [some (.inr (.inr (.inr (11, 0, 83)))), x1, x2, some (.inr (.inr (.inr (20, 4, ga))))], [], h) Q := by
  refine Ev.sts 4 (c' := (461, [some (.inr (.inr (.inr (11, 0, 83)))), x1, x2, some (.inr (.inr (.inr (20, 4, ga))))], [.inl (iZ (1)), .inr (.inr (.inr (20, 4, ga))), .inl (iZ (2)), .inr (.inr (.inr (20, 4, ga)))], h)) rfl ?_
  refine Ev.ldv (j := (iZ (1))) (n := 4) (w := .inl (iZ (n))) (by decide) rfl (congrArg vI hr1) ?_
  refine Ev.sto (j := (iZ (2))) (n := 4) (h2 := (setI h ga 2 ((iZ (n))))) (by decide) rfl rfl ?_
  exact k

theorem gs_win {d L dr tk ln ga : Nat} {n : Int} {x1 x2 : Option VV} {tp : List Int} {ks : List Sg} {h : PH} {Q : Rs → PH → Prop} (g : GWb h ga L dr tk ln tp) (lx : LXs tp ks) (hn : 1 ≤ n ∧ n ≤ 200) (hr1 : h.1 ga 1 = iZ n) (hl : tp.length ≤ 1600) (hd : dr < 100000) (hr2 : h.1 ga 2 = iZ 0) (k : ∀ h1 wk st dr1 tp1, GWk h h1 ga L dr tk ln tp ks n wk st dr1 tp1 → Ev (d + 6) 161 (571, [some (.inr (.inr (.inr (11, 0, 83)))), x1, x2, some (.inr (.inr (.inr (20, 4, ga))))], [], h1) Q) : Ev (d + 6) 161 (414, [some (.inr (.inr (.inr (11, 0, 83)))), x1, x2, some (.inr (.inr (.inr (20, 4, ga))))], [], h) Q := by
  have h8 := g.2.2.1
  have hg := g.2.2.2
  have dl := digs_len (n := n)
  refine gs_414 (d := d + 4) g lx hn hr1 (by omega) (by omega) (fun h1 g1 f1 r1 n1 m1 => ?_) (fun h1 g1 f1 r1 n1 m1 => ?_)
  · refine gs_457 (d := d + 6) ((r1 1).trans hr1) ?_
    obtain ⟨g2, f2⟩ := GW_w (j := 2) (v := iZ n) g1
    have a1 : (setI h1 ga 2 (iZ n)).1 ga 1 = iZ n := (setI_ne (by omega)).trans ((r1 1).trans hr1)
    refine tw_every (w1 := n) g2.1 (by omega) g2.2.2.2 a1 (by omega) (fun ha ba fa na ma xa => ?_)
    have e : (txC 59 ++ digs n).length = 7 + (digs n).length := by rw [List.length_append, show (txC 59).length = 7 by decide +kernel]
    have le : (tp ++ (txC 59 ++ digs n)).length = tp.length + (7 + (digs n).length) := by rw [List.length_append, e]
    have l1 := lx_59 lx
    have l2 := (lx_num (n := n) (by omega) l1.1 l1.2).1
    have l3 : LXs (tp ++ (txC 59 ++ digs n)) (ks ++ [(17, 0, 0), (3, n, 0)]) := by simpa only [List.append_assoc, List.cons_append, List.nil_append] using l2
    have ga' := GW_T g2 ba xa fa
    have n2 : hN (setI h1 ga 2 (iZ n)) = hN h1 := rfl
    have m2 : hS (setI h1 ga 2 (iZ n)) = hS h1 := rfl
    have row : ∀ j, j ≠ 2 → ha.1 ga j = h.1 ga j := fun j hj => (KG_row fa g2.2.2.2 h8 j).trans ((setI_ne (fun z => hj z.2)).trans (r1 j))
    have row2 : ha.1 ga 2 = iZ n := (KG_row fa g2.2.2.2 h8 2).trans (setI_self _ _ _ _)
    refine gs_495 (d := d + 4) ga' l3 hn ((row 1 (by decide)).trans hr1) (by omega) (by omega) (fun h2 g3 f3 r3 n3 m3 => ?_) (fun h2 g3 f3 r3 n3 m3 => ?_)
    · exact k h2 1 n _ _ ⟨g3, KG_t (KG_t f1 f2) (KG_t (KG_T fa) f3), l3, ⟨(r3 0).trans (row 0 (by decide)), (r3 1).trans (row 1 (by decide)), (r3 3).trans (row 3 (by decide)), (r3 2).trans row2⟩, ⟨fun z => absurd z (by decide), fun _ => rfl, fun z => absurd z (by decide), by decide⟩, by omega, by omega, by omega, by omega⟩
    · refine gs_503 (d := d + 4) g3 l3 hn ((r3 1).trans ((row 1 (by decide)).trans hr1)) (by omega) (by omega) (fun h3 s2 g4 f4 r4 n4 m4 hs => ?_)
      obtain ⟨g5, f5⟩ := GW_w (j := 2) (v := iZ s2) g4
      have n5 : hN (setI h3 ga 2 (iZ s2)) = hN h3 := rfl
      have m5 : hS (setI h3 ga 2 (iZ s2)) = hS h3 := rfl
      have row5 : ∀ j, j ≠ 2 → (setI h3 ga 2 (iZ s2)).1 ga j = h.1 ga j := fun j hj => (setI_ne (fun z => hj z.2)).trans ((r4 j).trans ((r3 j).trans (row j hj)))
      refine gs_step g5 l3 hn ((row5 1 (by decide)).trans hr1) (by omega) (by omega) hs (setI_self _ _ _ _) (fun h4 dr4 tp4 g6 f6 l6 e6 u6 n6 m6 => ?_)
      have row6 : ∀ j, h4.1 ga j = (setI h3 ga 2 (iZ s2)).1 ga j := fun j => KG_row f6 g5.2.2.2 h8 j
      refine k h4 2 s2 dr4 tp4 ⟨g6, KG_t (KG_t (KG_t f1 f2) (KG_t (KG_T fa) f3)) (KG_t (KG_t f4 f5) (KG_T f6)), by simp only [List.append_assoc, List.cons_append, List.nil_append] at l6; exact l6, ⟨(row6 0).trans (row5 0 (by decide)), (row6 1).trans (row5 1 (by decide)), (row6 3).trans (row5 3 (by decide)), (row6 2).trans (setI_self _ _ _ _)⟩, ⟨fun _ => hs, fun z => absurd z (by decide), fun z => absurd z (by decide), by decide⟩, by omega, by omega, by omega, by omega⟩
  · refine gs_gap g1 lx hn ((r1 1).trans hr1) (by omega) (by omega) ((r1 2).trans hr2) (fun h2 wk st tp1 w => k h2 wk st (dr + 1) tp1 ?_)
    obtain ⟨w1, w2, w3, ⟨w4, w5, w6, w7⟩, w8, w9, w10, w11, w12⟩ := w
    exact ⟨w1, KG_t f1 w2, w3, ⟨w4.trans (r1 0), w5.trans (r1 1), w6.trans (r1 3), w7⟩, w8, w9, by omega, by rw [← n1]; exact w11, by rw [← m1]; exact w12⟩
