/-! A line with a goose: its row of numbers. -/
/-- a new row ga, being filled: the book as it was but for draws -/
def RWb (h0 h : PH) (ga L dr tk ln : Nat) (tp : List Int) : Prop := BKl h L dr tk ln tp ∧ FB h0 h ∧ hN h0 = ga ∧ hN h = ga + 1 ∧ hS h = hS h0 + 4 ∧ txR h 87 ga (h.2.2.1 83 4) tp ∧ 88 ≤ ga
theorem RW_new {h : PH} {L dr tk ln : Nat} {tp : List Int} (b : BKl h L dr tk ln tp) : RWb h (grow h 4) (hN h) L dr tk ln tp := by
  obtain ⟨b1, b2, b3, b4, b5, b6, b7, b8⟩ := b
  have k : Kp (hN h) nA h (grow h 4) := Kp_g
  have t : txR (grow h 4) 87 (hN h) (h.2.2.1 83 4) tp := txR_Kp b5 k (Nat.le_refl _) (fun _ _ z => z)
  exact ⟨⟨b1, b2, b3, b4, txR_up t (Nat.le_succ _), b6, Kp_Z k b7, by show 88 ≤ hN h + 1; omega⟩, ⟨Kp_g, fun _ _ _ => rfl, fun _ _ => rfl⟩, rfl, rfl, rfl, t, b8⟩
theorem RW_w {h0 h : PH} {ga L dr tk ln j : Nat} {tp : List Int} {v : Int32} (r : RWb h0 h ga L dr tk ln tp) : RWb h0 (setI h ga j v) ga L dr tk ln tp := by
  obtain ⟨⟨b1, b2, b3, b4, b5, b6, b7, b8⟩, f, n0, n1, n2, t, g8⟩ := r
  have k : Kp ga nA h (setI h ga j v) := Kp_I (fun z => absurd z (Nat.lt_irrefl _)) (by omega)
  have t2 : txR (setI h ga j v) 87 ga (h.2.2.1 83 4) tp := txR_Kp t k (Nat.le_refl _) (fun _ _ z => z)
  have o : ∀ x, x ≠ ga → (setI h ga j v).1 x = h.1 x := fun x hx => setI_oth hx
  refine ⟨⟨b1, by rw [o 83 (by omega)]; exact b2, by rw [o 83 (by omega)]; exact b3, by rw [o 83 (by omega)]; exact b4, txR_up t2 (by show ga ≤ hN h; omega), b6, Kp_Z k b7, b8⟩, ⟨Kp_t f.1 (Kp_I (fun z => absurd z (by omega)) (by omega)), fun x x1 x2 => by rw [o 83 (by omega)]; exact f.2.1 x x1 x2, f.2.2⟩, n0, n1, n2, t2, g8⟩
theorem rw_draw {d L dr tk ln ga : Nat} {n : Int} {tp : List Int} {h0 h : PH} {Q : Rs → PH → Prop} (r : RWb h0 h ga L dr tk ln tp) (hd : dr < 1000000) (hn : 0 < n ∧ n ≤ 100000) (q : ∀ (w : Int) h1, 0 ≤ w → w < n → RWb h0 h1 ga L (dr + 1) tk ln tp → (∀ j, h1.1 ga j = h.1 ga j) → Q (.inl (some (.inl (iZ w)))) h1) : Rn (d + 1) 162 [.inr (.inr (.inr (11, 0, 83))), .inl (iZ (n))] h Q := by
  obtain ⟨⟨b1, b2, b3, b4, b5, b6, b7, b8⟩, f, n0, n1, n2, t, g8⟩ := r
  refine bk_draw0 b1.1 b2 hd b1.2 hn (fun w w0 w1 => q w _ w0 w1 ?_ (fun j => setI_ne (by omega)))
  have k : Kp (hN h) (fun a => a = 83) h (setI h 83 1 (iZ ((dr : Int) + 1))) := Kp_I (fun _ => rfl) (by omega)
  have t2 : txR (setI h 83 1 (iZ ((dr : Int) + 1))) 87 ga (h.2.2.1 83 4) tp := txR_Kp t k (by omega) (fun a ha => by omega)
  exact ⟨⟨b1, setI_self _ _ _ _, (setI_ne (by decide)).trans b3, (setI_ne (by decide)).trans b4, txR_up t2 (by show ga ≤ hN h; omega), b6, Kp_Z k b7, b8⟩, FB_t f ⟨k, fun j j1 _ => setI_ne (fun z => j1 z.2), fun _ _ => rfl⟩, n0, n1, n2, t2, g8⟩
theorem rw_go {d L dr tk ln mn : Nat} {x1 x3 : Option VV} {y2 : Int} {tp : List Int} {h : PH} {Q : Rs → PH → Prop} (b : BKl h L dr tk ln tp) (hm : h.1 83 7 = iZ (mn : Int)) (hm8 : 0 < mn ∧ mn ≤ 8) (hd : dr < 100000) (k : ∀ (h1 : PH) (w0 w1 w3 : Int) (dr1 : Nat), RWb h h1 (hN h) L dr1 tk ln tp → (h1.1 (hN h) 0 = iZ w0 ∧ h1.1 (hN h) 1 = iZ w1 ∧ h1.1 (hN h) 2 = iZ 0 ∧ h1.1 (hN h) 3 = iZ w3) → (0 ≤ w0 ∧ w0 < mn) → (1 ≤ w1 ∧ w1 ≤ 200) → (0 ≤ w3 ∧ w3 < 4) → dr1 ≤ dr + 4 → Ev (d + 2) 161 (362, [some (.inr (.inr (.inr (11, 0, 83)))), x1, some (.inl (iZ (y2))), some (.inr (.inr (.inr (20, 4, (hN h)))))], [], h1) Q) : Ev (d + 2) 161 (310, [some (.inr (.inr (.inr (11, 0, 83)))), x1, some (.inl (iZ (y2))), x3], [], h) Q := by
  have h88 := b.2.2.2.2.2.2.2
  refine Ev.sts 1 (c' := (311, [some (.inr (.inr (.inr (11, 0, 83)))), x1, some (.inl (iZ (y2))), x3], [.inl (iZ (4))], h)) rfl ?_
  refine Ev.sts 1 (c' := (313, [some (.inr (.inr (.inr (11, 0, 83)))), x1, some (.inl (iZ (y2))), x3], [.inr (.inr (.inr (20, 4, (hN h))))], (grow h 4))) rfl ?_
  refine Ev.sts 4 (c' := (317, [some (.inr (.inr (.inr (11, 0, 83)))), x1, some (.inl (iZ (y2))), x3], [.inr (.inr (.inr (11, 0, 83))), .inr (.inr (.inr (11, 0, 83))), .inl (iZ (0)), .inr (.inr (.inr (20, 4, (hN h)))), .inr (.inr (.inr (20, 4, (hN h))))], (grow h 4))) rfl ?_
  refine Ev.gv (w := (iZ ((mn : Int)))) rfl (((RW_new b).2.1.2.1 7 (by decide) (by decide)).trans hm) ?_
  refine Ev.callw (a := [.inr (.inr (.inr (11, 0, 83))), .inl (iZ ((mn : Int)))]) rfl (rw_draw (RW_new b) (by omega) ⟨by omega, by omega⟩ (fun w1 h1 v1a v1b R1 r1 => ?_))
  refine Ev.sto (j := (iZ (0))) (n := 4) (h2 := (setI h1 (hN h) 0 ((iZ (w1))))) (by decide) rfl rfl ?_
  refine Ev.sts 6 (c' := (330, [some (.inr (.inr (.inr (11, 0, 83)))), x1, some (.inl (iZ (y2))), x3], [.inl (iZ (2)), .inr (.inr (.inr (11, 0, 83))), .inr (.inr (.inr (11, 0, 83))), .inl (iZ (1)), .inl (iZ (1)), .inr (.inr (.inr (20, 4, (hN h)))), .inr (.inr (.inr (20, 4, (hN h))))], (setI h1 (hN h) 0 ((iZ (w1)))))) rfl ?_
  refine Ev.callw (a := [.inr (.inr (.inr (11, 0, 83))), .inl (iZ (2))]) rfl (rw_draw (RW_w R1) (by omega) ⟨by omega, by omega⟩ (fun w2 h2 v2a v2b R2 r2 => ?_))
  refine Ev.brc (p := ¬ (iZ (w2)) = (iZ (0))) (q := ¬ ((w2 : Int)) = 0) (c1 := (342, [some (.inr (.inr (.inr (11, 0, 83)))), x1, some (.inl (iZ (y2))), x3], [.inr (.inr (.inr (11, 0, 83))), .inl (iZ (1)), .inl (iZ (1)), .inr (.inr (.inr (20, 4, (hN h)))), .inr (.inr (.inr (20, 4, (hN h))))], h2)) (c2 := (336, [some (.inr (.inr (.inr (11, 0, 83)))), x1, some (.inl (iZ (y2))), x3], [.inr (.inr (.inr (11, 0, 83))), .inl (iZ (1)), .inl (iZ (1)), .inr (.inr (.inr (20, 4, (hN h)))), .inr (.inr (.inr (20, 4, (hN h))))], h2)) rfl (not_congr (iZ_eq ⟨by omega, by omega⟩ ⟨by omega, by omega⟩)) (fun c0 => ?_) (fun c0 => ?_)
  · refine Ev.sts 1 (c' := (344, [some (.inr (.inr (.inr (11, 0, 83)))), x1, some (.inl (iZ (y2))), x3], [.inl (iZ (20)), .inr (.inr (.inr (11, 0, 83))), .inl (iZ (1)), .inl (iZ (1)), .inr (.inr (.inr (20, 4, (hN h)))), .inr (.inr (.inr (20, 4, (hN h))))], h2)) rfl ?_
    refine Ev.callw (a := [.inr (.inr (.inr (11, 0, 83))), .inl (iZ (20))]) rfl (rw_draw R2 (by omega) ⟨by omega, by omega⟩ (fun w3 h3 v3a v3b R3 r3 => ?_))
    refine Ev.gv (w := (iZ (1 + w3))) rfl (iZ_add _ _) ?_
    refine Ev.sto (j := (iZ (1))) (n := 4) (h2 := (setI h3 (hN h) 1 ((iZ (1 + w3))))) (by decide) rfl rfl ?_
    refine Ev.sts 3 (c' := (352, [some (.inr (.inr (.inr (11, 0, 83)))), x1, some (.inl (iZ (y2))), x3], [.inl (iZ (0)), .inl (iZ (2)), .inr (.inr (.inr (20, 4, (hN h)))), .inr (.inr (.inr (20, 4, (hN h))))], (setI h3 (hN h) 1 ((iZ (1 + w3)))))) rfl ?_
    refine Ev.sto (j := (iZ (2))) (n := 4) (h2 := (setI (setI h3 (hN h) 1 ((iZ (1 + w3)))) (hN h) 2 ((iZ (0))))) (by decide) rfl rfl ?_
    refine Ev.sts 4 (c' := (357, [some (.inr (.inr (.inr (11, 0, 83)))), x1, some (.inl (iZ (y2))), x3], [.inl (iZ (4)), .inr (.inr (.inr (11, 0, 83))), .inl (iZ (3)), .inr (.inr (.inr (20, 4, (hN h)))), .inr (.inr (.inr (20, 4, (hN h))))], (setI (setI h3 (hN h) 1 ((iZ (1 + w3)))) (hN h) 2 ((iZ (0)))))) rfl ?_
    refine Ev.callw (a := [.inr (.inr (.inr (11, 0, 83))), .inl (iZ (4))]) rfl (rw_draw (RW_w (RW_w R3)) (by omega) ⟨by omega, by omega⟩ (fun w4 h4 v4a v4b R4 r4 => ?_))
    refine Ev.sto (j := (iZ (3))) (n := 4) (h2 := (setI h4 (hN h) 3 ((iZ (w4))))) (by decide) rfl rfl ?_
    refine Ev.sts 1 (c' := (362, [some (.inr (.inr (.inr (11, 0, 83)))), x1, some (.inl (iZ (y2))), some (.inr (.inr (.inr (20, 4, (hN h)))))], [], (setI h4 (hN h) 3 ((iZ (w4)))))) rfl ?_
    exact k _ _ _ _ _ (RW_w R4) ⟨((setI_ne (by omega)).trans ((r4 0).trans ((setI_ne (by omega)).trans ((setI_ne (by omega)).trans ((r3 0).trans ((r2 0).trans (setI_self _ _ _ _))))))), ((setI_ne (by omega)).trans ((r4 1).trans ((setI_ne (by omega)).trans (setI_self _ _ _ _)))), ((setI_ne (by omega)).trans ((r4 2).trans (setI_self _ _ _ _))), (setI_self _ _ _ _)⟩ ⟨by omega, by omega⟩ ⟨by omega, by omega⟩ ⟨by omega, by omega⟩ (by omega)
  · refine Ev.sts 2 (c' := (344, [some (.inr (.inr (.inr (11, 0, 83)))), x1, some (.inl (iZ (y2))), x3], [.inl (iZ (200)), .inr (.inr (.inr (11, 0, 83))), .inl (iZ (1)), .inl (iZ (1)), .inr (.inr (.inr (20, 4, (hN h)))), .inr (.inr (.inr (20, 4, (hN h))))], h2)) rfl ?_
    refine Ev.callw (a := [.inr (.inr (.inr (11, 0, 83))), .inl (iZ (200))]) rfl (rw_draw R2 (by omega) ⟨by omega, by omega⟩ (fun w5 h5 v5a v5b R5 r5 => ?_))
    refine Ev.gv (w := (iZ (1 + w5))) rfl (iZ_add _ _) ?_
    refine Ev.sto (j := (iZ (1))) (n := 4) (h2 := (setI h5 (hN h) 1 ((iZ (1 + w5))))) (by decide) rfl rfl ?_
    refine Ev.sts 3 (c' := (352, [some (.inr (.inr (.inr (11, 0, 83)))), x1, some (.inl (iZ (y2))), x3], [.inl (iZ (0)), .inl (iZ (2)), .inr (.inr (.inr (20, 4, (hN h)))), .inr (.inr (.inr (20, 4, (hN h))))], (setI h5 (hN h) 1 ((iZ (1 + w5)))))) rfl ?_
    refine Ev.sto (j := (iZ (2))) (n := 4) (h2 := (setI (setI h5 (hN h) 1 ((iZ (1 + w5)))) (hN h) 2 ((iZ (0))))) (by decide) rfl rfl ?_
    refine Ev.sts 4 (c' := (357, [some (.inr (.inr (.inr (11, 0, 83)))), x1, some (.inl (iZ (y2))), x3], [.inl (iZ (4)), .inr (.inr (.inr (11, 0, 83))), .inl (iZ (3)), .inr (.inr (.inr (20, 4, (hN h)))), .inr (.inr (.inr (20, 4, (hN h))))], (setI (setI h5 (hN h) 1 ((iZ (1 + w5)))) (hN h) 2 ((iZ (0)))))) rfl ?_
    refine Ev.callw (a := [.inr (.inr (.inr (11, 0, 83))), .inl (iZ (4))]) rfl (rw_draw (RW_w (RW_w R5)) (by omega) ⟨by omega, by omega⟩ (fun w6 h6 v6a v6b R6 r6 => ?_))
    refine Ev.sto (j := (iZ (3))) (n := 4) (h2 := (setI h6 (hN h) 3 ((iZ (w6))))) (by decide) rfl rfl ?_
    refine Ev.sts 1 (c' := (362, [some (.inr (.inr (.inr (11, 0, 83)))), x1, some (.inl (iZ (y2))), some (.inr (.inr (.inr (20, 4, (hN h)))))], [], (setI h6 (hN h) 3 ((iZ (w6)))))) rfl ?_
    exact k _ _ _ _ _ (RW_w R6) ⟨((setI_ne (by omega)).trans ((r6 0).trans ((setI_ne (by omega)).trans ((setI_ne (by omega)).trans ((r5 0).trans ((r2 0).trans (setI_self _ _ _ _))))))), ((setI_ne (by omega)).trans ((r6 1).trans ((setI_ne (by omega)).trans (setI_self _ _ _ _)))), ((setI_ne (by omega)).trans ((r6 2).trans (setI_self _ _ _ _))), (setI_self _ _ _ _)⟩ ⟨by omega, by omega⟩ ⟨by omega, by omega⟩ ⟨by omega, by omega⟩ (by omega)

