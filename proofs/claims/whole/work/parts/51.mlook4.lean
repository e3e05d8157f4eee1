/-! The reference's calls that only look: a window of a goose, membership, the mean. -/
theorem mx_oo_lp {d : Nat} {y : Y4} {S : Sta} {h : PH} {Q : Rs → PH → Prop} (I : MI h S y) (W : WN S) {p w : Int} {x : Int32} {g n : Nat} (hp : p = (g : Int)) (hg : g < 6) (n1 : n < (allW (wdS S)).length) (n2 : ∀ j, j < n → ((allW (wdS S)).getD j t0).1 < g) (n3 : ((allW (wdS S)).getD n t0).1 = g) (q : Ev (d + 1) 257 (54, [some (.inr (.inr (.inr (11, 0, 83)))), some (.inl (iZ (p))), some (.inl (iZ (w))), some (.inl (x)), some (.inl (iZ (n)))], [], h) Q) (m : Nat) : ∀ k1 : Nat, k1 + m = n → Ev (d + 1) 257 (37, [some (.inr (.inr (.inr (11, 0, 83)))), some (.inl (iZ (p))), some (.inl (iZ (w))), some (.inl (x)), some (.inl (iZ (k1)))], [], h) Q := by
  have W0 := W
  obtain ⟨⟨w1, w2, w3, w4, w5, w6⟩, w7, w8, w9, w10, w11, w12, w13, w14, w15, w16, w17, w18⟩ := W0
  have wB : bkN (bkS S) := ⟨w1, w2, w3, w4, w5, w6⟩
  have sh0 := mi_sh I
  have al := alW_len (wdS S) 6 0
  have tl5 := lnL_le (ws := wdS S) (K := 128) (fun g => (w14 g).2) 6 0
  have alB_ := alW_B (ws := wdS S) (N := 1000) (fun g _ => (w14 g).1)
  have on1 := (mi_op I).2.1
  have on2 := (mi_op I).2.2.2.1
  have tn1 := (mi_tm I).2.1
  have tn2 := (mi_tm I).2.2.2.1
  induction m with
  | zero =>
    intro k1 h1
    obtain rfl : k1 = n := by omega
    refine Ev.sts 3 (c' := (41, [some (.inr (.inr (.inr (11, 0, 83)))), some (.inl (iZ (p))), some (.inl (iZ (w))), some (.inl (x)), some (.inl (iZ (k1)))], [.inl (iZ (0)), .inl (iZ (k1)), .inr (.inr (.inr (11, 0, 83)))], h)) rfl ?_
    refine Ev.callv (a := [.inr (.inr (.inr (11, 0, 83))), .inl (iZ (k1)), .inl (iZ (0))]) rfl (mp_win0 (w := k1) (mi_op I) (by omega) (by omega) rfl) ?_
    refine Ev.sts 1 (c' := (45, [some (.inr (.inr (.inr (11, 0, 83)))), some (.inl (iZ (p))), some (.inl (iZ (w))), some (.inl (x)), some (.inl (iZ (k1)))], [.inl (iZ (p)), .inl (iZ (((allW (wdS S)).getD k1 t0).1))], h)) rfl ?_
    refine Ev.brT (p := (iZ (p)) ≤ (iZ (((allW (wdS S)).getD k1 t0).1))) (c1 := (54, [some (.inr (.inr (.inr (11, 0, 83)))), some (.inl (iZ (p))), some (.inl (iZ (w))), some (.inl (x)), some (.inl (iZ (k1)))], [], h)) (c2 := (48, [some (.inr (.inr (.inr (11, 0, 83)))), some (.inl (iZ (p))), some (.inl (iZ (w))), some (.inl (x)), some (.inl (iZ (k1)))], [], h)) ((iZ_le ⟨by omega, by omega⟩ ⟨by omega, by omega⟩).mpr (by omega)) rfl ?_
    exact q
  | succ m ih =>
    intro k1 h1
    have n4 := n2 k1 (by omega)
    refine Ev.sts 3 (c' := (41, [some (.inr (.inr (.inr (11, 0, 83)))), some (.inl (iZ (p))), some (.inl (iZ (w))), some (.inl (x)), some (.inl (iZ (k1)))], [.inl (iZ (0)), .inl (iZ (k1)), .inr (.inr (.inr (11, 0, 83)))], h)) rfl ?_
    refine Ev.callv (a := [.inr (.inr (.inr (11, 0, 83))), .inl (iZ (k1)), .inl (iZ (0))]) rfl (mp_win0 (w := k1) (mi_op I) (by omega) (by omega) rfl) ?_
    refine Ev.sts 1 (c' := (45, [some (.inr (.inr (.inr (11, 0, 83)))), some (.inl (iZ (p))), some (.inl (iZ (w))), some (.inl (x)), some (.inl (iZ (k1)))], [.inl (iZ (p)), .inl (iZ (((allW (wdS S)).getD k1 t0).1))], h)) rfl ?_
    refine Ev.brF (p := (iZ (p)) ≤ (iZ (((allW (wdS S)).getD k1 t0).1))) (c1 := (54, [some (.inr (.inr (.inr (11, 0, 83)))), some (.inl (iZ (p))), some (.inl (iZ (w))), some (.inl (x)), some (.inl (iZ (k1)))], [], h)) (c2 := (48, [some (.inr (.inr (.inr (11, 0, 83)))), some (.inl (iZ (p))), some (.inl (iZ (w))), some (.inl (x)), some (.inl (iZ (k1)))], [], h)) (fun c_ => absurd ((iZ_le ⟨by omega, by omega⟩ ⟨by omega, by omega⟩).mp c_) (by omega)) rfl ?_
    refine Ev.stc (c1 := (51, [some (.inr (.inr (.inr (11, 0, 83)))), some (.inl (iZ (p))), some (.inl (iZ (w))), some (.inl (x)), some (.inl ((iZ (k1)) + (iZ (1))))], [], h)) (c2 := (51, [some (.inr (.inr (.inr (11, 0, 83)))), some (.inl (iZ (p))), some (.inl (iZ (w))), some (.inl (x)), some (.inl (iZ (k1 + 1)))], [], h)) rfl (by rw [iZ_add]) ?_
    refine Ev.sts 1 (c' := (37, [some (.inr (.inr (.inr (11, 0, 83)))), some (.inl (iZ (p))), some (.inl (iZ (w))), some (.inl (x)), some (.inl (iZ (k1 + 1)))], [], h)) rfl ?_
    exact ih (k1 + 1) (by omega)

theorem mq_oo1 {d : Nat} {y : Y4} {S : Sta} {h : PH} (I : MI h S y) (W : WN S) {p w : Int} {g k : Nat} (hp : p = (g : Int)) (hc : g < (bkS S).2.2.length) (hw : w = (k : Int)) (hk : k < (wdS S g).length) : Rv (d + 2) 257 [.inr (.inr (.inr (11, 0, 83))), .inl (iZ (p)), .inl (iZ (w)), .inl (iZ (1))] h (some (.inl (iZ ((wdS S g).getD k w0).1))) (setI h 83 0 (iZ 0)) := Rv.of fun Q q => by
  have W0 := W
  obtain ⟨⟨w1, w2, w3, w4, w5, w6⟩, w7, w8, w9, w10, w11, w12, w13, w14, w15, w16, w17, w18⟩ := W0
  have wB : bkN (bkS S) := ⟨w1, w2, w3, w4, w5, w6⟩
  have sh0 := mi_sh I
  have al := alW_len (wdS S) 6 0
  have tl5 := lnL_le (ws := wdS S) (K := 128) (fun g => (w14 g).2) 6 0
  have alB_ := alW_B (ws := wdS S) (N := 1000) (fun g _ => (w14 g).1)
  have on1 := (mi_op I).2.1
  have on2 := (mi_op I).2.2.2.1
  have tn1 := (mi_tm I).2.1
  have tn2 := (mi_tm I).2.2.2.1
  have hg : g < 6 := by omega
  have wl1 := (w14 g).2
  refine Ev.sts 5 (c' := (7, [some (.inr (.inr (.inr (11, 0, 83)))), some (.inl (iZ (p))), some (.inl (iZ (w))), some (.inl (iZ (1))), none], [.inl (iZ (p)), .inr (.inr (.inr (11, 0, 83)))], (setI h 83 0 ((iZ (0)))))) rfl ?_
  refine Ev.callw (a := [.inr (.inr (.inr (11, 0, 83))), .inl (iZ (p))]) rfl (mx_isGoose (MI_th I) W ⟨by omega, by omega⟩ (fun _ => ?_) (fun z => absurd (show _ from ⟨by omega, by omega⟩) z))
  refine Ev.brF (p := (iZ (1)) = (iZ (0))) (c1 := (28, [some (.inr (.inr (.inr (11, 0, 83)))), some (.inl (iZ (p))), some (.inl (iZ (w))), some (.inl (iZ (1))), none], [], (setI h 83 0 ((iZ (0)))))) (c2 := (13, [some (.inr (.inr (.inr (11, 0, 83)))), some (.inl (iZ (p))), some (.inl (iZ (w))), some (.inl (iZ (1))), none], [], (setI h 83 0 ((iZ (0)))))) (by decide) rfl ?_
  refine Ev.sts 4 (c' := (17, [some (.inr (.inr (.inr (11, 0, 83)))), some (.inl (iZ (p))), some (.inl (iZ (w))), some (.inl (iZ (1))), none], [.inl (iZ (p)), .inr (.inr (.inr (11, 0, 83))), .inl (iZ (0)), .inl (iZ (w))], (setI h 83 0 ((iZ (0)))))) rfl ?_
  refine Ev.callv (a := [.inr (.inr (.inr (11, 0, 83))), .inl (iZ (p))]) rfl (mx_openOf (MI_th I) W hp hg) ?_
  refine Ev.sts 1 (c' := (21, [some (.inr (.inr (.inr (11, 0, 83)))), some (.inl (iZ (p))), some (.inl (iZ (w))), some (.inl (iZ (1))), none], [.inl (iZ (1)), .inl (iZ ((wdS S g).length)), .inl (iZ (0)), .inl (iZ (w))], (setI h 83 0 ((iZ (0)))))) rfl ?_
  refine Ev.gv (w := (iZ (((wdS S g).length) - 1))) rfl (iZ_sub _ _) ?_
  refine Ev.callw (a := [.inl (iZ (w)), .inl (iZ (0)), .inl (iZ (((wdS S g).length) - 1))]) rfl (mp_isIn ⟨by omega, by omega⟩ ⟨by omega, by omega⟩ ⟨by omega, by omega⟩ (fun _ => ?_) (fun z => absurd (show _ from ⟨by omega, by omega⟩) z))
  refine Ev.brT (p := ¬ (iZ (1)) = (iZ (0))) (c1 := (34, [some (.inr (.inr (.inr (11, 0, 83)))), some (.inl (iZ (p))), some (.inl (iZ (w))), some (.inl (iZ (1))), none], [], (setI h 83 0 ((iZ (0)))))) (c2 := (28, [some (.inr (.inr (.inr (11, 0, 83)))), some (.inl (iZ (p))), some (.inl (iZ (w))), some (.inl (iZ (1))), none], [], (setI h 83 0 ((iZ (0)))))) (by decide) rfl ?_
  refine Ev.sts 2 (c' := (37, [some (.inr (.inr (.inr (11, 0, 83)))), some (.inl (iZ (p))), some (.inl (iZ (w))), some (.inl (iZ (1))), some (.inl (iZ (0)))], [], (setI h 83 0 ((iZ (0)))))) rfl ?_
  obtain ⟨n, n1, n2, n3⟩ := allW_at (wdS S) hg hk
  refine mx_oo_lp (MI_th (v := iZ 0) I) W hp hg (by omega) n2 (congrArg (fun t => t.1) (n3 0 (by omega)).2) ?_ n 0 (Nat.zero_add _)
  refine Ev.sts 3 (c' := (58, [some (.inr (.inr (.inr (11, 0, 83)))), some (.inl (iZ (p))), some (.inl (iZ (w))), some (.inl (iZ (1))), some (.inl (iZ (n)))], [.inl (iZ (w)), .inl (iZ (n)), .inr (.inr (.inr (11, 0, 83)))], (setI h 83 0 (iZ 0)))) rfl ?_
  refine Ev.gv (w := (iZ (n + w))) rfl (iZ_add _ _) ?_
  refine Ev.sts 1 (c' := (60, [some (.inr (.inr (.inr (11, 0, 83)))), some (.inl (iZ (p))), some (.inl (iZ (w))), some (.inl (iZ (1))), some (.inl (iZ (n)))], [.inl (iZ (1)), .inl (iZ (n + w)), .inr (.inr (.inr (11, 0, 83)))], (setI h 83 0 (iZ 0)))) rfl ?_
  refine Ev.callv (a := [.inr (.inr (.inr (11, 0, 83))), .inl (iZ (n + w)), .inl (iZ (1))]) rfl (mp_win1 (w := n + k) (mi_op (MI_th I)) (by omega) (by omega) rfl) ?_
  rw [(n3 k hk).2]
  exact Ev.ret rfl q

theorem mq_oo2 {d : Nat} {y : Y4} {S : Sta} {h : PH} (I : MI h S y) (W : WN S) {p w : Int} {g k : Nat} (hp : p = (g : Int)) (hc : g < (bkS S).2.2.length) (hw : w = (k : Int)) (hk : k < (wdS S g).length) : Rv (d + 2) 257 [.inr (.inr (.inr (11, 0, 83))), .inl (iZ (p)), .inl (iZ (w)), .inl (iZ (2))] h (some (.inl (iZ ((wdS S g).getD k w0).2.1))) (setI h 83 0 (iZ 0)) := Rv.of fun Q q => by
  have W0 := W
  obtain ⟨⟨w1, w2, w3, w4, w5, w6⟩, w7, w8, w9, w10, w11, w12, w13, w14, w15, w16, w17, w18⟩ := W0
  have wB : bkN (bkS S) := ⟨w1, w2, w3, w4, w5, w6⟩
  have sh0 := mi_sh I
  have al := alW_len (wdS S) 6 0
  have tl5 := lnL_le (ws := wdS S) (K := 128) (fun g => (w14 g).2) 6 0
  have alB_ := alW_B (ws := wdS S) (N := 1000) (fun g _ => (w14 g).1)
  have on1 := (mi_op I).2.1
  have on2 := (mi_op I).2.2.2.1
  have tn1 := (mi_tm I).2.1
  have tn2 := (mi_tm I).2.2.2.1
  have hg : g < 6 := by omega
  have wl1 := (w14 g).2
  refine Ev.sts 5 (c' := (7, [some (.inr (.inr (.inr (11, 0, 83)))), some (.inl (iZ (p))), some (.inl (iZ (w))), some (.inl (iZ (2))), none], [.inl (iZ (p)), .inr (.inr (.inr (11, 0, 83)))], (setI h 83 0 ((iZ (0)))))) rfl ?_
  refine Ev.callw (a := [.inr (.inr (.inr (11, 0, 83))), .inl (iZ (p))]) rfl (mx_isGoose (MI_th I) W ⟨by omega, by omega⟩ (fun _ => ?_) (fun z => absurd (show _ from ⟨by omega, by omega⟩) z))
  refine Ev.brF (p := (iZ (1)) = (iZ (0))) (c1 := (28, [some (.inr (.inr (.inr (11, 0, 83)))), some (.inl (iZ (p))), some (.inl (iZ (w))), some (.inl (iZ (2))), none], [], (setI h 83 0 ((iZ (0)))))) (c2 := (13, [some (.inr (.inr (.inr (11, 0, 83)))), some (.inl (iZ (p))), some (.inl (iZ (w))), some (.inl (iZ (2))), none], [], (setI h 83 0 ((iZ (0)))))) (by decide) rfl ?_
  refine Ev.sts 4 (c' := (17, [some (.inr (.inr (.inr (11, 0, 83)))), some (.inl (iZ (p))), some (.inl (iZ (w))), some (.inl (iZ (2))), none], [.inl (iZ (p)), .inr (.inr (.inr (11, 0, 83))), .inl (iZ (0)), .inl (iZ (w))], (setI h 83 0 ((iZ (0)))))) rfl ?_
  refine Ev.callv (a := [.inr (.inr (.inr (11, 0, 83))), .inl (iZ (p))]) rfl (mx_openOf (MI_th I) W hp hg) ?_
  refine Ev.sts 1 (c' := (21, [some (.inr (.inr (.inr (11, 0, 83)))), some (.inl (iZ (p))), some (.inl (iZ (w))), some (.inl (iZ (2))), none], [.inl (iZ (1)), .inl (iZ ((wdS S g).length)), .inl (iZ (0)), .inl (iZ (w))], (setI h 83 0 ((iZ (0)))))) rfl ?_
  refine Ev.gv (w := (iZ (((wdS S g).length) - 1))) rfl (iZ_sub _ _) ?_
  refine Ev.callw (a := [.inl (iZ (w)), .inl (iZ (0)), .inl (iZ (((wdS S g).length) - 1))]) rfl (mp_isIn ⟨by omega, by omega⟩ ⟨by omega, by omega⟩ ⟨by omega, by omega⟩ (fun _ => ?_) (fun z => absurd (show _ from ⟨by omega, by omega⟩) z))
  refine Ev.brT (p := ¬ (iZ (1)) = (iZ (0))) (c1 := (34, [some (.inr (.inr (.inr (11, 0, 83)))), some (.inl (iZ (p))), some (.inl (iZ (w))), some (.inl (iZ (2))), none], [], (setI h 83 0 ((iZ (0)))))) (c2 := (28, [some (.inr (.inr (.inr (11, 0, 83)))), some (.inl (iZ (p))), some (.inl (iZ (w))), some (.inl (iZ (2))), none], [], (setI h 83 0 ((iZ (0)))))) (by decide) rfl ?_
  refine Ev.sts 2 (c' := (37, [some (.inr (.inr (.inr (11, 0, 83)))), some (.inl (iZ (p))), some (.inl (iZ (w))), some (.inl (iZ (2))), some (.inl (iZ (0)))], [], (setI h 83 0 ((iZ (0)))))) rfl ?_
  obtain ⟨n, n1, n2, n3⟩ := allW_at (wdS S) hg hk
  refine mx_oo_lp (MI_th (v := iZ 0) I) W hp hg (by omega) n2 (congrArg (fun t => t.1) (n3 0 (by omega)).2) ?_ n 0 (Nat.zero_add _)
  refine Ev.sts 3 (c' := (58, [some (.inr (.inr (.inr (11, 0, 83)))), some (.inl (iZ (p))), some (.inl (iZ (w))), some (.inl (iZ (2))), some (.inl (iZ (n)))], [.inl (iZ (w)), .inl (iZ (n)), .inr (.inr (.inr (11, 0, 83)))], (setI h 83 0 (iZ 0)))) rfl ?_
  refine Ev.gv (w := (iZ (n + w))) rfl (iZ_add _ _) ?_
  refine Ev.sts 1 (c' := (60, [some (.inr (.inr (.inr (11, 0, 83)))), some (.inl (iZ (p))), some (.inl (iZ (w))), some (.inl (iZ (2))), some (.inl (iZ (n)))], [.inl (iZ (2)), .inl (iZ (n + w)), .inr (.inr (.inr (11, 0, 83)))], (setI h 83 0 (iZ 0)))) rfl ?_
  refine Ev.callv (a := [.inr (.inr (.inr (11, 0, 83))), .inl (iZ (n + w)), .inl (iZ (2))]) rfl (mp_win2 (w := n + k) (mi_op (MI_th I)) (by omega) (by omega) rfl) ?_
  rw [(n3 k hk).2]
  exact Ev.ret rfl q

theorem mq_oo3 {d : Nat} {y : Y4} {S : Sta} {h : PH} (I : MI h S y) (W : WN S) {p w : Int} {g k : Nat} (hp : p = (g : Int)) (hc : g < (bkS S).2.2.length) (hw : w = (k : Int)) (hk : k < (wdS S g).length) : Rv (d + 2) 257 [.inr (.inr (.inr (11, 0, 83))), .inl (iZ (p)), .inl (iZ (w)), .inl (iZ (3))] h (some (.inl (iZ ((wdS S g).getD k w0).2.2.1))) (setI h 83 0 (iZ 0)) := Rv.of fun Q q => by
  have W0 := W
  obtain ⟨⟨w1, w2, w3, w4, w5, w6⟩, w7, w8, w9, w10, w11, w12, w13, w14, w15, w16, w17, w18⟩ := W0
  have wB : bkN (bkS S) := ⟨w1, w2, w3, w4, w5, w6⟩
  have sh0 := mi_sh I
  have al := alW_len (wdS S) 6 0
  have tl5 := lnL_le (ws := wdS S) (K := 128) (fun g => (w14 g).2) 6 0
  have alB_ := alW_B (ws := wdS S) (N := 1000) (fun g _ => (w14 g).1)
  have on1 := (mi_op I).2.1
  have on2 := (mi_op I).2.2.2.1
  have tn1 := (mi_tm I).2.1
  have tn2 := (mi_tm I).2.2.2.1
  have hg : g < 6 := by omega
  have wl1 := (w14 g).2
  refine Ev.sts 5 (c' := (7, [some (.inr (.inr (.inr (11, 0, 83)))), some (.inl (iZ (p))), some (.inl (iZ (w))), some (.inl (iZ (3))), none], [.inl (iZ (p)), .inr (.inr (.inr (11, 0, 83)))], (setI h 83 0 ((iZ (0)))))) rfl ?_
  refine Ev.callw (a := [.inr (.inr (.inr (11, 0, 83))), .inl (iZ (p))]) rfl (mx_isGoose (MI_th I) W ⟨by omega, by omega⟩ (fun _ => ?_) (fun z => absurd (show _ from ⟨by omega, by omega⟩) z))
  refine Ev.brF (p := (iZ (1)) = (iZ (0))) (c1 := (28, [some (.inr (.inr (.inr (11, 0, 83)))), some (.inl (iZ (p))), some (.inl (iZ (w))), some (.inl (iZ (3))), none], [], (setI h 83 0 ((iZ (0)))))) (c2 := (13, [some (.inr (.inr (.inr (11, 0, 83)))), some (.inl (iZ (p))), some (.inl (iZ (w))), some (.inl (iZ (3))), none], [], (setI h 83 0 ((iZ (0)))))) (by decide) rfl ?_
  refine Ev.sts 4 (c' := (17, [some (.inr (.inr (.inr (11, 0, 83)))), some (.inl (iZ (p))), some (.inl (iZ (w))), some (.inl (iZ (3))), none], [.inl (iZ (p)), .inr (.inr (.inr (11, 0, 83))), .inl (iZ (0)), .inl (iZ (w))], (setI h 83 0 ((iZ (0)))))) rfl ?_
  refine Ev.callv (a := [.inr (.inr (.inr (11, 0, 83))), .inl (iZ (p))]) rfl (mx_openOf (MI_th I) W hp hg) ?_
  refine Ev.sts 1 (c' := (21, [some (.inr (.inr (.inr (11, 0, 83)))), some (.inl (iZ (p))), some (.inl (iZ (w))), some (.inl (iZ (3))), none], [.inl (iZ (1)), .inl (iZ ((wdS S g).length)), .inl (iZ (0)), .inl (iZ (w))], (setI h 83 0 ((iZ (0)))))) rfl ?_
  refine Ev.gv (w := (iZ (((wdS S g).length) - 1))) rfl (iZ_sub _ _) ?_
  refine Ev.callw (a := [.inl (iZ (w)), .inl (iZ (0)), .inl (iZ (((wdS S g).length) - 1))]) rfl (mp_isIn ⟨by omega, by omega⟩ ⟨by omega, by omega⟩ ⟨by omega, by omega⟩ (fun _ => ?_) (fun z => absurd (show _ from ⟨by omega, by omega⟩) z))
  refine Ev.brT (p := ¬ (iZ (1)) = (iZ (0))) (c1 := (34, [some (.inr (.inr (.inr (11, 0, 83)))), some (.inl (iZ (p))), some (.inl (iZ (w))), some (.inl (iZ (3))), none], [], (setI h 83 0 ((iZ (0)))))) (c2 := (28, [some (.inr (.inr (.inr (11, 0, 83)))), some (.inl (iZ (p))), some (.inl (iZ (w))), some (.inl (iZ (3))), none], [], (setI h 83 0 ((iZ (0)))))) (by decide) rfl ?_
  refine Ev.sts 2 (c' := (37, [some (.inr (.inr (.inr (11, 0, 83)))), some (.inl (iZ (p))), some (.inl (iZ (w))), some (.inl (iZ (3))), some (.inl (iZ (0)))], [], (setI h 83 0 ((iZ (0)))))) rfl ?_
  obtain ⟨n, n1, n2, n3⟩ := allW_at (wdS S) hg hk
  refine mx_oo_lp (MI_th (v := iZ 0) I) W hp hg (by omega) n2 (congrArg (fun t => t.1) (n3 0 (by omega)).2) ?_ n 0 (Nat.zero_add _)
  refine Ev.sts 3 (c' := (58, [some (.inr (.inr (.inr (11, 0, 83)))), some (.inl (iZ (p))), some (.inl (iZ (w))), some (.inl (iZ (3))), some (.inl (iZ (n)))], [.inl (iZ (w)), .inl (iZ (n)), .inr (.inr (.inr (11, 0, 83)))], (setI h 83 0 (iZ 0)))) rfl ?_
  refine Ev.gv (w := (iZ (n + w))) rfl (iZ_add _ _) ?_
  refine Ev.sts 1 (c' := (60, [some (.inr (.inr (.inr (11, 0, 83)))), some (.inl (iZ (p))), some (.inl (iZ (w))), some (.inl (iZ (3))), some (.inl (iZ (n)))], [.inl (iZ (3)), .inl (iZ (n + w)), .inr (.inr (.inr (11, 0, 83)))], (setI h 83 0 (iZ 0)))) rfl ?_
  refine Ev.callv (a := [.inr (.inr (.inr (11, 0, 83))), .inl (iZ (n + w)), .inl (iZ (3))]) rfl (mp_win3 (w := n + k) (mi_op (MI_th I)) (by omega) (by omega) rfl) ?_
  rw [(n3 k hk).2]
  exact Ev.ret rfl q

theorem mq_oo4 {d : Nat} {y : Y4} {S : Sta} {h : PH} (I : MI h S y) (W : WN S) {p w : Int} {g k : Nat} (hp : p = (g : Int)) (hc : g < (bkS S).2.2.length) (hw : w = (k : Int)) (hk : k < (wdS S g).length) : Rv (d + 2) 257 [.inr (.inr (.inr (11, 0, 83))), .inl (iZ (p)), .inl (iZ (w)), .inl (iZ (4))] h (some (.inl (((wdS S g).getD k w0).2.2.2))) (setI h 83 0 (iZ 0)) := Rv.of fun Q q => by
  have W0 := W
  obtain ⟨⟨w1, w2, w3, w4, w5, w6⟩, w7, w8, w9, w10, w11, w12, w13, w14, w15, w16, w17, w18⟩ := W0
  have wB : bkN (bkS S) := ⟨w1, w2, w3, w4, w5, w6⟩
  have sh0 := mi_sh I
  have al := alW_len (wdS S) 6 0
  have tl5 := lnL_le (ws := wdS S) (K := 128) (fun g => (w14 g).2) 6 0
  have alB_ := alW_B (ws := wdS S) (N := 1000) (fun g _ => (w14 g).1)
  have on1 := (mi_op I).2.1
  have on2 := (mi_op I).2.2.2.1
  have tn1 := (mi_tm I).2.1
  have tn2 := (mi_tm I).2.2.2.1
  have hg : g < 6 := by omega
  have wl1 := (w14 g).2
  refine Ev.sts 5 (c' := (7, [some (.inr (.inr (.inr (11, 0, 83)))), some (.inl (iZ (p))), some (.inl (iZ (w))), some (.inl (iZ (4))), none], [.inl (iZ (p)), .inr (.inr (.inr (11, 0, 83)))], (setI h 83 0 ((iZ (0)))))) rfl ?_
  refine Ev.callw (a := [.inr (.inr (.inr (11, 0, 83))), .inl (iZ (p))]) rfl (mx_isGoose (MI_th I) W ⟨by omega, by omega⟩ (fun _ => ?_) (fun z => absurd (show _ from ⟨by omega, by omega⟩) z))
  refine Ev.brF (p := (iZ (1)) = (iZ (0))) (c1 := (28, [some (.inr (.inr (.inr (11, 0, 83)))), some (.inl (iZ (p))), some (.inl (iZ (w))), some (.inl (iZ (4))), none], [], (setI h 83 0 ((iZ (0)))))) (c2 := (13, [some (.inr (.inr (.inr (11, 0, 83)))), some (.inl (iZ (p))), some (.inl (iZ (w))), some (.inl (iZ (4))), none], [], (setI h 83 0 ((iZ (0)))))) (by decide) rfl ?_
  refine Ev.sts 4 (c' := (17, [some (.inr (.inr (.inr (11, 0, 83)))), some (.inl (iZ (p))), some (.inl (iZ (w))), some (.inl (iZ (4))), none], [.inl (iZ (p)), .inr (.inr (.inr (11, 0, 83))), .inl (iZ (0)), .inl (iZ (w))], (setI h 83 0 ((iZ (0)))))) rfl ?_
  refine Ev.callv (a := [.inr (.inr (.inr (11, 0, 83))), .inl (iZ (p))]) rfl (mx_openOf (MI_th I) W hp hg) ?_
  refine Ev.sts 1 (c' := (21, [some (.inr (.inr (.inr (11, 0, 83)))), some (.inl (iZ (p))), some (.inl (iZ (w))), some (.inl (iZ (4))), none], [.inl (iZ (1)), .inl (iZ ((wdS S g).length)), .inl (iZ (0)), .inl (iZ (w))], (setI h 83 0 ((iZ (0)))))) rfl ?_
  refine Ev.gv (w := (iZ (((wdS S g).length) - 1))) rfl (iZ_sub _ _) ?_
  refine Ev.callw (a := [.inl (iZ (w)), .inl (iZ (0)), .inl (iZ (((wdS S g).length) - 1))]) rfl (mp_isIn ⟨by omega, by omega⟩ ⟨by omega, by omega⟩ ⟨by omega, by omega⟩ (fun _ => ?_) (fun z => absurd (show _ from ⟨by omega, by omega⟩) z))
  refine Ev.brT (p := ¬ (iZ (1)) = (iZ (0))) (c1 := (34, [some (.inr (.inr (.inr (11, 0, 83)))), some (.inl (iZ (p))), some (.inl (iZ (w))), some (.inl (iZ (4))), none], [], (setI h 83 0 ((iZ (0)))))) (c2 := (28, [some (.inr (.inr (.inr (11, 0, 83)))), some (.inl (iZ (p))), some (.inl (iZ (w))), some (.inl (iZ (4))), none], [], (setI h 83 0 ((iZ (0)))))) (by decide) rfl ?_
  refine Ev.sts 2 (c' := (37, [some (.inr (.inr (.inr (11, 0, 83)))), some (.inl (iZ (p))), some (.inl (iZ (w))), some (.inl (iZ (4))), some (.inl (iZ (0)))], [], (setI h 83 0 ((iZ (0)))))) rfl ?_
  obtain ⟨n, n1, n2, n3⟩ := allW_at (wdS S) hg hk
  refine mx_oo_lp (MI_th (v := iZ 0) I) W hp hg (by omega) n2 (congrArg (fun t => t.1) (n3 0 (by omega)).2) ?_ n 0 (Nat.zero_add _)
  refine Ev.sts 3 (c' := (58, [some (.inr (.inr (.inr (11, 0, 83)))), some (.inl (iZ (p))), some (.inl (iZ (w))), some (.inl (iZ (4))), some (.inl (iZ (n)))], [.inl (iZ (w)), .inl (iZ (n)), .inr (.inr (.inr (11, 0, 83)))], (setI h 83 0 (iZ 0)))) rfl ?_
  refine Ev.gv (w := (iZ (n + w))) rfl (iZ_add _ _) ?_
  refine Ev.sts 1 (c' := (60, [some (.inr (.inr (.inr (11, 0, 83)))), some (.inl (iZ (p))), some (.inl (iZ (w))), some (.inl (iZ (4))), some (.inl (iZ (n)))], [.inl (iZ (4)), .inl (iZ (n + w)), .inr (.inr (.inr (11, 0, 83)))], (setI h 83 0 (iZ 0)))) rfl ?_
  refine Ev.callv (a := [.inr (.inr (.inr (11, 0, 83))), .inl (iZ (n + w)), .inl (iZ (4))]) rfl (mp_win4 (w := n + k) (mi_op (MI_th I)) (by omega) (by omega) rfl) ?_
  rw [(n3 k hk).2]
  exact Ev.ret rfl q

theorem mq_openStart {d : Nat} {y : Y4} {S : Sta} {h : PH} (I : MI h S y) (W : WN S) {p w : Int} {g k : Nat} (hp : p = (g : Int)) (hc : g < (bkS S).2.2.length) (hw : w = (k : Int)) (hk : k < (wdS S g).length) : Rv (d + 3) 256 [.inr (.inr (.inr (11, 0, 83))), .inl (iZ (p)), .inl (iZ (w))] h (some (.inl (iZ ((wdS S g).getD k w0).1))) (setI h 83 0 (iZ 0)) := Rv.of fun Q q => by
  have W0 := W
  obtain ⟨⟨w1, w2, w3, w4, w5, w6⟩, w7, w8, w9, w10, w11, w12, w13, w14, w15, w16, w17, w18⟩ := W0
  have wB : bkN (bkS S) := ⟨w1, w2, w3, w4, w5, w6⟩
  have sh0 := mi_sh I
  have al := alW_len (wdS S) 6 0
  have tl5 := lnL_le (ws := wdS S) (K := 128) (fun g => (w14 g).2) 6 0
  have alB_ := alW_B (ws := wdS S) (N := 1000) (fun g _ => (w14 g).1)
  have on1 := (mi_op I).2.1
  have on2 := (mi_op I).2.2.2.1
  have tn1 := (mi_tm I).2.1
  have tn2 := (mi_tm I).2.2.2.1
  refine Ev.sts 4 (c' := (4, [some (.inr (.inr (.inr (11, 0, 83)))), some (.inl (iZ (p))), some (.inl (iZ (w)))], [.inl (iZ (1)), .inl (iZ (w)), .inl (iZ (p)), .inr (.inr (.inr (11, 0, 83)))], h)) rfl ?_
  refine Ev.callv (a := [.inr (.inr (.inr (11, 0, 83))), .inl (iZ (p)), .inl (iZ (w)), .inl (iZ (1))]) rfl (mq_oo1 I W hp hc hw hk) ?_
  exact Ev.ret rfl (q)

theorem mq_openEnd {d : Nat} {y : Y4} {S : Sta} {h : PH} (I : MI h S y) (W : WN S) {p w : Int} {g k : Nat} (hp : p = (g : Int)) (hc : g < (bkS S).2.2.length) (hw : w = (k : Int)) (hk : k < (wdS S g).length) : Rv (d + 3) 258 [.inr (.inr (.inr (11, 0, 83))), .inl (iZ (p)), .inl (iZ (w))] h (some (.inl (iZ ((wdS S g).getD k w0).2.1))) (setI h 83 0 (iZ 0)) := Rv.of fun Q q => by
  have W0 := W
  obtain ⟨⟨w1, w2, w3, w4, w5, w6⟩, w7, w8, w9, w10, w11, w12, w13, w14, w15, w16, w17, w18⟩ := W0
  have wB : bkN (bkS S) := ⟨w1, w2, w3, w4, w5, w6⟩
  have sh0 := mi_sh I
  have al := alW_len (wdS S) 6 0
  have tl5 := lnL_le (ws := wdS S) (K := 128) (fun g => (w14 g).2) 6 0
  have alB_ := alW_B (ws := wdS S) (N := 1000) (fun g _ => (w14 g).1)
  have on1 := (mi_op I).2.1
  have on2 := (mi_op I).2.2.2.1
  have tn1 := (mi_tm I).2.1
  have tn2 := (mi_tm I).2.2.2.1
  refine Ev.sts 4 (c' := (4, [some (.inr (.inr (.inr (11, 0, 83)))), some (.inl (iZ (p))), some (.inl (iZ (w)))], [.inl (iZ (2)), .inl (iZ (w)), .inl (iZ (p)), .inr (.inr (.inr (11, 0, 83)))], h)) rfl ?_
  refine Ev.callv (a := [.inr (.inr (.inr (11, 0, 83))), .inl (iZ (p)), .inl (iZ (w)), .inl (iZ (2))]) rfl (mq_oo2 I W hp hc hw hk) ?_
  exact Ev.ret rfl (q)

theorem mq_openCount {d : Nat} {y : Y4} {S : Sta} {h : PH} (I : MI h S y) (W : WN S) {p w : Int} {g k : Nat} (hp : p = (g : Int)) (hc : g < (bkS S).2.2.length) (hw : w = (k : Int)) (hk : k < (wdS S g).length) : Rv (d + 3) 259 [.inr (.inr (.inr (11, 0, 83))), .inl (iZ (p)), .inl (iZ (w))] h (some (.inl (iZ ((wdS S g).getD k w0).2.2.1))) (setI h 83 0 (iZ 0)) := Rv.of fun Q q => by
  have W0 := W
  obtain ⟨⟨w1, w2, w3, w4, w5, w6⟩, w7, w8, w9, w10, w11, w12, w13, w14, w15, w16, w17, w18⟩ := W0
  have wB : bkN (bkS S) := ⟨w1, w2, w3, w4, w5, w6⟩
  have sh0 := mi_sh I
  have al := alW_len (wdS S) 6 0
  have tl5 := lnL_le (ws := wdS S) (K := 128) (fun g => (w14 g).2) 6 0
  have alB_ := alW_B (ws := wdS S) (N := 1000) (fun g _ => (w14 g).1)
  have on1 := (mi_op I).2.1
  have on2 := (mi_op I).2.2.2.1
  have tn1 := (mi_tm I).2.1
  have tn2 := (mi_tm I).2.2.2.1
  refine Ev.sts 4 (c' := (4, [some (.inr (.inr (.inr (11, 0, 83)))), some (.inl (iZ (p))), some (.inl (iZ (w)))], [.inl (iZ (3)), .inl (iZ (w)), .inl (iZ (p)), .inr (.inr (.inr (11, 0, 83)))], h)) rfl ?_
  refine Ev.callv (a := [.inr (.inr (.inr (11, 0, 83))), .inl (iZ (p)), .inl (iZ (w)), .inl (iZ (3))]) rfl (mq_oo3 I W hp hc hw hk) ?_
  exact Ev.ret rfl (q)

theorem mq_openValue {d : Nat} {y : Y4} {S : Sta} {h : PH} (I : MI h S y) (W : WN S) {p w : Int} {g k : Nat} (hp : p = (g : Int)) (hc : g < (bkS S).2.2.length) (hw : w = (k : Int)) (hk : k < (wdS S g).length) : Rv (d + 3) 260 [.inr (.inr (.inr (11, 0, 83))), .inl (iZ (p)), .inl (iZ (w))] h (some (.inl (((wdS S g).getD k w0).2.2.2))) (setI h 83 0 (iZ 0)) := Rv.of fun Q q => by
  have W0 := W
  obtain ⟨⟨w1, w2, w3, w4, w5, w6⟩, w7, w8, w9, w10, w11, w12, w13, w14, w15, w16, w17, w18⟩ := W0
  have wB : bkN (bkS S) := ⟨w1, w2, w3, w4, w5, w6⟩
  have sh0 := mi_sh I
  have al := alW_len (wdS S) 6 0
  have tl5 := lnL_le (ws := wdS S) (K := 128) (fun g => (w14 g).2) 6 0
  have alB_ := alW_B (ws := wdS S) (N := 1000) (fun g _ => (w14 g).1)
  have on1 := (mi_op I).2.1
  have on2 := (mi_op I).2.2.2.1
  have tn1 := (mi_tm I).2.1
  have tn2 := (mi_tm I).2.2.2.1
  refine Ev.sts 4 (c' := (4, [some (.inr (.inr (.inr (11, 0, 83)))), some (.inl (iZ (p))), some (.inl (iZ (w)))], [.inl (iZ (4)), .inl (iZ (w)), .inl (iZ (p)), .inr (.inr (.inr (11, 0, 83)))], h)) rfl ?_
  refine Ev.callv (a := [.inr (.inr (.inr (11, 0, 83))), .inl (iZ (p)), .inl (iZ (w)), .inl (iZ (4))]) rfl (mq_oo4 I W hp hc hw hk) ?_
  exact Ev.ret rfl (q)

theorem my_oo {d : Nat} {y : Y4} {S : Sta} {h : PH} (I : MI h S y) (W : WN S) {p w : Int} {x : Int32} {g : Nat} (hp : p = (g : Int)) (hc : g < (bkS S).2.2.length) (hwb : -2147483648 ≤ w ∧ w < 2147483648) (hw : ¬ (0 ≤ w ∧ w < (wdS S g).length)) : Rv (d + 2) 257 [.inr (.inr (.inr (11, 0, 83))), .inl (iZ (p)), .inl (iZ (w)), .inl (x)] h (some (.inl (iZ 0))) (setI (setI h 83 0 (iZ 0)) 83 0 (iZ 1)) := Rv.of fun Q q => by
  have W0 := W
  obtain ⟨⟨w1, w2, w3, w4, w5, w6⟩, w7, w8, w9, w10, w11, w12, w13, w14, w15, w16, w17, w18⟩ := W0
  have wB : bkN (bkS S) := ⟨w1, w2, w3, w4, w5, w6⟩
  have sh0 := mi_sh I
  have al := alW_len (wdS S) 6 0
  have tl5 := lnL_le (ws := wdS S) (K := 128) (fun g => (w14 g).2) 6 0
  have alB_ := alW_B (ws := wdS S) (N := 1000) (fun g _ => (w14 g).1)
  have on1 := (mi_op I).2.1
  have on2 := (mi_op I).2.2.2.1
  have tn1 := (mi_tm I).2.1
  have tn2 := (mi_tm I).2.2.2.1
  have hg : g < 6 := by omega
  have wl1 := (w14 g).2
  refine Ev.sts 5 (c' := (7, [some (.inr (.inr (.inr (11, 0, 83)))), some (.inl (iZ (p))), some (.inl (iZ (w))), some (.inl (x)), none], [.inl (iZ (p)), .inr (.inr (.inr (11, 0, 83)))], (setI h 83 0 ((iZ (0)))))) rfl ?_
  refine Ev.callw (a := [.inr (.inr (.inr (11, 0, 83))), .inl (iZ (p))]) rfl (mx_isGoose (MI_th I) W ⟨by omega, by omega⟩ (fun _ => ?_) (fun z => absurd (show _ from ⟨by omega, by omega⟩) z))
  refine Ev.brF (p := (iZ (1)) = (iZ (0))) (c1 := (28, [some (.inr (.inr (.inr (11, 0, 83)))), some (.inl (iZ (p))), some (.inl (iZ (w))), some (.inl (x)), none], [], (setI h 83 0 ((iZ (0)))))) (c2 := (13, [some (.inr (.inr (.inr (11, 0, 83)))), some (.inl (iZ (p))), some (.inl (iZ (w))), some (.inl (x)), none], [], (setI h 83 0 ((iZ (0)))))) (by decide) rfl ?_
  refine Ev.sts 4 (c' := (17, [some (.inr (.inr (.inr (11, 0, 83)))), some (.inl (iZ (p))), some (.inl (iZ (w))), some (.inl (x)), none], [.inl (iZ (p)), .inr (.inr (.inr (11, 0, 83))), .inl (iZ (0)), .inl (iZ (w))], (setI h 83 0 ((iZ (0)))))) rfl ?_
  refine Ev.callv (a := [.inr (.inr (.inr (11, 0, 83))), .inl (iZ (p))]) rfl (mx_openOf (MI_th I) W hp hg) ?_
  refine Ev.sts 1 (c' := (21, [some (.inr (.inr (.inr (11, 0, 83)))), some (.inl (iZ (p))), some (.inl (iZ (w))), some (.inl (x)), none], [.inl (iZ (1)), .inl (iZ ((wdS S g).length)), .inl (iZ (0)), .inl (iZ (w))], (setI h 83 0 ((iZ (0)))))) rfl ?_
  refine Ev.gv (w := (iZ (((wdS S g).length) - 1))) rfl (iZ_sub _ _) ?_
  refine Ev.callw (a := [.inl (iZ (w)), .inl (iZ (0)), .inl (iZ (((wdS S g).length) - 1))]) rfl (mp_isIn ⟨by omega, by omega⟩ ⟨by omega, by omega⟩ ⟨by omega, by omega⟩ (fun z => absurd (show _ from ⟨by omega, by omega⟩) hw) (fun _ => ?_))
  refine Ev.brF (p := ¬ (iZ (0)) = (iZ (0))) (c1 := (34, [some (.inr (.inr (.inr (11, 0, 83)))), some (.inl (iZ (p))), some (.inl (iZ (w))), some (.inl (x)), none], [], (setI h 83 0 ((iZ (0)))))) (c2 := (28, [some (.inr (.inr (.inr (11, 0, 83)))), some (.inl (iZ (p))), some (.inl (iZ (w))), some (.inl (x)), none], [], (setI h 83 0 ((iZ (0)))))) (by decide) rfl ?_
  refine Ev.sts 2 (c' := (30, [some (.inr (.inr (.inr (11, 0, 83)))), some (.inl (iZ (p))), some (.inl (iZ (w))), some (.inl (x)), none], [.inl (iZ (1)), .inr (.inr (.inr (11, 0, 83)))], (setI h 83 0 ((iZ (0)))))) rfl ?_
  refine Ev.callv (a := [.inr (.inr (.inr (11, 0, 83))), .inl (iZ (1))]) rfl mp_fail ?_
  exact Ev.ret rfl (q)

theorem mz_oo {d : Nat} {y : Y4} {S : Sta} {h : PH} (I : MI h S y) (W : WN S) {p : Int} {w x : Int32} (hpb : -2147483648 ≤ p ∧ p < 2147483648) (hc : ¬ (0 ≤ p ∧ p < (bkS S).2.2.length)) : Rv (d + 2) 257 [.inr (.inr (.inr (11, 0, 83))), .inl (iZ (p)), .inl (w), .inl (x)] h (some (.inl (iZ 0))) (setI (setI h 83 0 (iZ 0)) 83 0 (iZ 1)) := Rv.of fun Q q => by
  have W0 := W
  obtain ⟨⟨w1, w2, w3, w4, w5, w6⟩, w7, w8, w9, w10, w11, w12, w13, w14, w15, w16, w17, w18⟩ := W0
  have wB : bkN (bkS S) := ⟨w1, w2, w3, w4, w5, w6⟩
  have sh0 := mi_sh I
  have al := alW_len (wdS S) 6 0
  have tl5 := lnL_le (ws := wdS S) (K := 128) (fun g => (w14 g).2) 6 0
  have alB_ := alW_B (ws := wdS S) (N := 1000) (fun g _ => (w14 g).1)
  have on1 := (mi_op I).2.1
  have on2 := (mi_op I).2.2.2.1
  have tn1 := (mi_tm I).2.1
  have tn2 := (mi_tm I).2.2.2.1
  refine Ev.sts 5 (c' := (7, [some (.inr (.inr (.inr (11, 0, 83)))), some (.inl (iZ (p))), some (.inl (w)), some (.inl (x)), none], [.inl (iZ (p)), .inr (.inr (.inr (11, 0, 83)))], (setI h 83 0 ((iZ (0)))))) rfl ?_
  refine Ev.callw (a := [.inr (.inr (.inr (11, 0, 83))), .inl (iZ (p))]) rfl (mx_isGoose (MI_th I) W ⟨by omega, by omega⟩ (fun z => absurd z hc) (fun _ => ?_))
  refine Ev.brT (p := (iZ (0)) = (iZ (0))) (c1 := (28, [some (.inr (.inr (.inr (11, 0, 83)))), some (.inl (iZ (p))), some (.inl (w)), some (.inl (x)), none], [], (setI h 83 0 ((iZ (0)))))) (c2 := (13, [some (.inr (.inr (.inr (11, 0, 83)))), some (.inl (iZ (p))), some (.inl (w)), some (.inl (x)), none], [], (setI h 83 0 ((iZ (0)))))) (by decide) rfl ?_
  refine Ev.sts 2 (c' := (30, [some (.inr (.inr (.inr (11, 0, 83)))), some (.inl (iZ (p))), some (.inl (w)), some (.inl (x)), none], [.inl (iZ (1)), .inr (.inr (.inr (11, 0, 83)))], (setI h 83 0 ((iZ (0)))))) rfl ?_
  refine Ev.callv (a := [.inr (.inr (.inr (11, 0, 83))), .inl (iZ (1))]) rfl mp_fail ?_
  exact Ev.ret rfl (q)

theorem my_openStart {d : Nat} {y : Y4} {S : Sta} {h : PH} (I : MI h S y) (W : WN S) {p w : Int} {g : Nat} (hp : p = (g : Int)) (hc : g < (bkS S).2.2.length) (hwb : -2147483648 ≤ w ∧ w < 2147483648) (hw : ¬ (0 ≤ w ∧ w < (wdS S g).length)) : Rv (d + 3) 256 [.inr (.inr (.inr (11, 0, 83))), .inl (iZ (p)), .inl (iZ (w))] h (some (.inl (iZ 0))) (setI (setI h 83 0 (iZ 0)) 83 0 (iZ 1)) := Rv.of fun Q q => by
  have W0 := W
  obtain ⟨⟨w1, w2, w3, w4, w5, w6⟩, w7, w8, w9, w10, w11, w12, w13, w14, w15, w16, w17, w18⟩ := W0
  have wB : bkN (bkS S) := ⟨w1, w2, w3, w4, w5, w6⟩
  have sh0 := mi_sh I
  have al := alW_len (wdS S) 6 0
  have tl5 := lnL_le (ws := wdS S) (K := 128) (fun g => (w14 g).2) 6 0
  have alB_ := alW_B (ws := wdS S) (N := 1000) (fun g _ => (w14 g).1)
  have on1 := (mi_op I).2.1
  have on2 := (mi_op I).2.2.2.1
  have tn1 := (mi_tm I).2.1
  have tn2 := (mi_tm I).2.2.2.1
  refine Ev.sts 4 (c' := (4, [some (.inr (.inr (.inr (11, 0, 83)))), some (.inl (iZ (p))), some (.inl (iZ (w)))], [.inl (iZ (1)), .inl (iZ (w)), .inl (iZ (p)), .inr (.inr (.inr (11, 0, 83)))], h)) rfl ?_
  refine Ev.callv (a := [.inr (.inr (.inr (11, 0, 83))), .inl (iZ (p)), .inl (iZ (w)), .inl (iZ (1))]) rfl (my_oo I W hp hc hwb hw) ?_
  exact Ev.ret rfl (q)

theorem mz_openStart {d : Nat} {y : Y4} {S : Sta} {h : PH} (I : MI h S y) (W : WN S) {p : Int} {w : Int32} (hpb : -2147483648 ≤ p ∧ p < 2147483648) (hc : ¬ (0 ≤ p ∧ p < (bkS S).2.2.length)) : Rv (d + 3) 256 [.inr (.inr (.inr (11, 0, 83))), .inl (iZ (p)), .inl (w)] h (some (.inl (iZ 0))) (setI (setI h 83 0 (iZ 0)) 83 0 (iZ 1)) := Rv.of fun Q q => by
  have W0 := W
  obtain ⟨⟨w1, w2, w3, w4, w5, w6⟩, w7, w8, w9, w10, w11, w12, w13, w14, w15, w16, w17, w18⟩ := W0
  have wB : bkN (bkS S) := ⟨w1, w2, w3, w4, w5, w6⟩
  have sh0 := mi_sh I
  have al := alW_len (wdS S) 6 0
  have tl5 := lnL_le (ws := wdS S) (K := 128) (fun g => (w14 g).2) 6 0
  have alB_ := alW_B (ws := wdS S) (N := 1000) (fun g _ => (w14 g).1)
  have on1 := (mi_op I).2.1
  have on2 := (mi_op I).2.2.2.1
  have tn1 := (mi_tm I).2.1
  have tn2 := (mi_tm I).2.2.2.1
  refine Ev.sts 4 (c' := (4, [some (.inr (.inr (.inr (11, 0, 83)))), some (.inl (iZ (p))), some (.inl (w))], [.inl (iZ (1)), .inl (w), .inl (iZ (p)), .inr (.inr (.inr (11, 0, 83)))], h)) rfl ?_
  refine Ev.callv (a := [.inr (.inr (.inr (11, 0, 83))), .inl (iZ (p)), .inl (w), .inl (iZ (1))]) rfl (mz_oo I W hpb hc) ?_
  exact Ev.ret rfl (q)

theorem my_openEnd {d : Nat} {y : Y4} {S : Sta} {h : PH} (I : MI h S y) (W : WN S) {p w : Int} {g : Nat} (hp : p = (g : Int)) (hc : g < (bkS S).2.2.length) (hwb : -2147483648 ≤ w ∧ w < 2147483648) (hw : ¬ (0 ≤ w ∧ w < (wdS S g).length)) : Rv (d + 3) 258 [.inr (.inr (.inr (11, 0, 83))), .inl (iZ (p)), .inl (iZ (w))] h (some (.inl (iZ 0))) (setI (setI h 83 0 (iZ 0)) 83 0 (iZ 1)) := Rv.of fun Q q => by
  have W0 := W
  obtain ⟨⟨w1, w2, w3, w4, w5, w6⟩, w7, w8, w9, w10, w11, w12, w13, w14, w15, w16, w17, w18⟩ := W0
  have wB : bkN (bkS S) := ⟨w1, w2, w3, w4, w5, w6⟩
  have sh0 := mi_sh I
  have al := alW_len (wdS S) 6 0
  have tl5 := lnL_le (ws := wdS S) (K := 128) (fun g => (w14 g).2) 6 0
  have alB_ := alW_B (ws := wdS S) (N := 1000) (fun g _ => (w14 g).1)
  have on1 := (mi_op I).2.1
  have on2 := (mi_op I).2.2.2.1
  have tn1 := (mi_tm I).2.1
  have tn2 := (mi_tm I).2.2.2.1
  refine Ev.sts 4 (c' := (4, [some (.inr (.inr (.inr (11, 0, 83)))), some (.inl (iZ (p))), some (.inl (iZ (w)))], [.inl (iZ (2)), .inl (iZ (w)), .inl (iZ (p)), .inr (.inr (.inr (11, 0, 83)))], h)) rfl ?_
  refine Ev.callv (a := [.inr (.inr (.inr (11, 0, 83))), .inl (iZ (p)), .inl (iZ (w)), .inl (iZ (2))]) rfl (my_oo I W hp hc hwb hw) ?_
  exact Ev.ret rfl (q)

theorem mz_openEnd {d : Nat} {y : Y4} {S : Sta} {h : PH} (I : MI h S y) (W : WN S) {p : Int} {w : Int32} (hpb : -2147483648 ≤ p ∧ p < 2147483648) (hc : ¬ (0 ≤ p ∧ p < (bkS S).2.2.length)) : Rv (d + 3) 258 [.inr (.inr (.inr (11, 0, 83))), .inl (iZ (p)), .inl (w)] h (some (.inl (iZ 0))) (setI (setI h 83 0 (iZ 0)) 83 0 (iZ 1)) := Rv.of fun Q q => by
  have W0 := W
  obtain ⟨⟨w1, w2, w3, w4, w5, w6⟩, w7, w8, w9, w10, w11, w12, w13, w14, w15, w16, w17, w18⟩ := W0
  have wB : bkN (bkS S) := ⟨w1, w2, w3, w4, w5, w6⟩
  have sh0 := mi_sh I
  have al := alW_len (wdS S) 6 0
  have tl5 := lnL_le (ws := wdS S) (K := 128) (fun g => (w14 g).2) 6 0
  have alB_ := alW_B (ws := wdS S) (N := 1000) (fun g _ => (w14 g).1)
  have on1 := (mi_op I).2.1
  have on2 := (mi_op I).2.2.2.1
  have tn1 := (mi_tm I).2.1
  have tn2 := (mi_tm I).2.2.2.1
  refine Ev.sts 4 (c' := (4, [some (.inr (.inr (.inr (11, 0, 83)))), some (.inl (iZ (p))), some (.inl (w))], [.inl (iZ (2)), .inl (w), .inl (iZ (p)), .inr (.inr (.inr (11, 0, 83)))], h)) rfl ?_
  refine Ev.callv (a := [.inr (.inr (.inr (11, 0, 83))), .inl (iZ (p)), .inl (w), .inl (iZ (2))]) rfl (mz_oo I W hpb hc) ?_
  exact Ev.ret rfl (q)

theorem my_openCount {d : Nat} {y : Y4} {S : Sta} {h : PH} (I : MI h S y) (W : WN S) {p w : Int} {g : Nat} (hp : p = (g : Int)) (hc : g < (bkS S).2.2.length) (hwb : -2147483648 ≤ w ∧ w < 2147483648) (hw : ¬ (0 ≤ w ∧ w < (wdS S g).length)) : Rv (d + 3) 259 [.inr (.inr (.inr (11, 0, 83))), .inl (iZ (p)), .inl (iZ (w))] h (some (.inl (iZ 0))) (setI (setI h 83 0 (iZ 0)) 83 0 (iZ 1)) := Rv.of fun Q q => by
  have W0 := W
  obtain ⟨⟨w1, w2, w3, w4, w5, w6⟩, w7, w8, w9, w10, w11, w12, w13, w14, w15, w16, w17, w18⟩ := W0
  have wB : bkN (bkS S) := ⟨w1, w2, w3, w4, w5, w6⟩
  have sh0 := mi_sh I
  have al := alW_len (wdS S) 6 0
  have tl5 := lnL_le (ws := wdS S) (K := 128) (fun g => (w14 g).2) 6 0
  have alB_ := alW_B (ws := wdS S) (N := 1000) (fun g _ => (w14 g).1)
  have on1 := (mi_op I).2.1
  have on2 := (mi_op I).2.2.2.1
  have tn1 := (mi_tm I).2.1
  have tn2 := (mi_tm I).2.2.2.1
  refine Ev.sts 4 (c' := (4, [some (.inr (.inr (.inr (11, 0, 83)))), some (.inl (iZ (p))), some (.inl (iZ (w)))], [.inl (iZ (3)), .inl (iZ (w)), .inl (iZ (p)), .inr (.inr (.inr (11, 0, 83)))], h)) rfl ?_
  refine Ev.callv (a := [.inr (.inr (.inr (11, 0, 83))), .inl (iZ (p)), .inl (iZ (w)), .inl (iZ (3))]) rfl (my_oo I W hp hc hwb hw) ?_
  exact Ev.ret rfl (q)

theorem mz_openCount {d : Nat} {y : Y4} {S : Sta} {h : PH} (I : MI h S y) (W : WN S) {p : Int} {w : Int32} (hpb : -2147483648 ≤ p ∧ p < 2147483648) (hc : ¬ (0 ≤ p ∧ p < (bkS S).2.2.length)) : Rv (d + 3) 259 [.inr (.inr (.inr (11, 0, 83))), .inl (iZ (p)), .inl (w)] h (some (.inl (iZ 0))) (setI (setI h 83 0 (iZ 0)) 83 0 (iZ 1)) := Rv.of fun Q q => by
  have W0 := W
  obtain ⟨⟨w1, w2, w3, w4, w5, w6⟩, w7, w8, w9, w10, w11, w12, w13, w14, w15, w16, w17, w18⟩ := W0
  have wB : bkN (bkS S) := ⟨w1, w2, w3, w4, w5, w6⟩
  have sh0 := mi_sh I
  have al := alW_len (wdS S) 6 0
  have tl5 := lnL_le (ws := wdS S) (K := 128) (fun g => (w14 g).2) 6 0
  have alB_ := alW_B (ws := wdS S) (N := 1000) (fun g _ => (w14 g).1)
  have on1 := (mi_op I).2.1
  have on2 := (mi_op I).2.2.2.1
  have tn1 := (mi_tm I).2.1
  have tn2 := (mi_tm I).2.2.2.1
  refine Ev.sts 4 (c' := (4, [some (.inr (.inr (.inr (11, 0, 83)))), some (.inl (iZ (p))), some (.inl (w))], [.inl (iZ (3)), .inl (w), .inl (iZ (p)), .inr (.inr (.inr (11, 0, 83)))], h)) rfl ?_
  refine Ev.callv (a := [.inr (.inr (.inr (11, 0, 83))), .inl (iZ (p)), .inl (w), .inl (iZ (3))]) rfl (mz_oo I W hpb hc) ?_
  exact Ev.ret rfl (q)

theorem my_openValue {d : Nat} {y : Y4} {S : Sta} {h : PH} (I : MI h S y) (W : WN S) {p w : Int} {g : Nat} (hp : p = (g : Int)) (hc : g < (bkS S).2.2.length) (hwb : -2147483648 ≤ w ∧ w < 2147483648) (hw : ¬ (0 ≤ w ∧ w < (wdS S g).length)) : Rv (d + 3) 260 [.inr (.inr (.inr (11, 0, 83))), .inl (iZ (p)), .inl (iZ (w))] h (some (.inl (iZ 0))) (setI (setI h 83 0 (iZ 0)) 83 0 (iZ 1)) := Rv.of fun Q q => by
  have W0 := W
  obtain ⟨⟨w1, w2, w3, w4, w5, w6⟩, w7, w8, w9, w10, w11, w12, w13, w14, w15, w16, w17, w18⟩ := W0
  have wB : bkN (bkS S) := ⟨w1, w2, w3, w4, w5, w6⟩
  have sh0 := mi_sh I
  have al := alW_len (wdS S) 6 0
  have tl5 := lnL_le (ws := wdS S) (K := 128) (fun g => (w14 g).2) 6 0
  have alB_ := alW_B (ws := wdS S) (N := 1000) (fun g _ => (w14 g).1)
  have on1 := (mi_op I).2.1
  have on2 := (mi_op I).2.2.2.1
  have tn1 := (mi_tm I).2.1
  have tn2 := (mi_tm I).2.2.2.1
  refine Ev.sts 4 (c' := (4, [some (.inr (.inr (.inr (11, 0, 83)))), some (.inl (iZ (p))), some (.inl (iZ (w)))], [.inl (iZ (4)), .inl (iZ (w)), .inl (iZ (p)), .inr (.inr (.inr (11, 0, 83)))], h)) rfl ?_
  refine Ev.callv (a := [.inr (.inr (.inr (11, 0, 83))), .inl (iZ (p)), .inl (iZ (w)), .inl (iZ (4))]) rfl (my_oo I W hp hc hwb hw) ?_
  exact Ev.ret rfl (q)

theorem mz_openValue {d : Nat} {y : Y4} {S : Sta} {h : PH} (I : MI h S y) (W : WN S) {p : Int} {w : Int32} (hpb : -2147483648 ≤ p ∧ p < 2147483648) (hc : ¬ (0 ≤ p ∧ p < (bkS S).2.2.length)) : Rv (d + 3) 260 [.inr (.inr (.inr (11, 0, 83))), .inl (iZ (p)), .inl (w)] h (some (.inl (iZ 0))) (setI (setI h 83 0 (iZ 0)) 83 0 (iZ 1)) := Rv.of fun Q q => by
  have W0 := W
  obtain ⟨⟨w1, w2, w3, w4, w5, w6⟩, w7, w8, w9, w10, w11, w12, w13, w14, w15, w16, w17, w18⟩ := W0
  have wB : bkN (bkS S) := ⟨w1, w2, w3, w4, w5, w6⟩
  have sh0 := mi_sh I
  have al := alW_len (wdS S) 6 0
  have tl5 := lnL_le (ws := wdS S) (K := 128) (fun g => (w14 g).2) 6 0
  have alB_ := alW_B (ws := wdS S) (N := 1000) (fun g _ => (w14 g).1)
  have on1 := (mi_op I).2.1
  have on2 := (mi_op I).2.2.2.1
  have tn1 := (mi_tm I).2.1
  have tn2 := (mi_tm I).2.2.2.1
  refine Ev.sts 4 (c' := (4, [some (.inr (.inr (.inr (11, 0, 83)))), some (.inl (iZ (p))), some (.inl (w))], [.inl (iZ (4)), .inl (w), .inl (iZ (p)), .inr (.inr (.inr (11, 0, 83)))], h)) rfl ?_
  refine Ev.callv (a := [.inr (.inr (.inr (11, 0, 83))), .inl (iZ (p)), .inl (w), .inl (iZ (4))]) rfl (mz_oo I W hpb hc) ?_
  exact Ev.ret rfl (q)

