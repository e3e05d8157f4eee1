/-! The reference: wouldTake that fails; trim, feed. -/
theorem mz_wouldTake {d : Nat} {y : Y4} {S : Sta} {h : PH} (I : MI h S y) (W : WN S) {p : Int} {x : Ctx} (hpb : -2147483648 ≤ p ∧ p < 2147483648) (hc : ¬ (0 ≤ p ∧ p < (bkS S).2.1.length)) : Rv (d + 2) 269 [.inr (.inr (.inr (11, 0, 83))), .inl (iZ (p)), .inl (iZ (x.1)), .inl (iZ (x.2.1)), .inl (iZ (x.2.2.1)), .inl (iZ (x.2.2.2))] h (some (.inl (iZ 0))) (setI h 83 0 (iZ 1)) := Rv.of fun Q q => by
  have W0 := W
  obtain ⟨⟨w1, w2, w3, w4, w5, w6⟩, w7, w8, w9, w10, w11, w12, w13, w14, w15, w16, w17, w18⟩ := W0
  have wB : bkN (bkS S) := ⟨w1, w2, w3, w4, w5, w6⟩
  have sh0 := mi_sh I
  have al := alW_len (wdS S) 6 0
  have tl5 := lnL_le (ws := wdS S) (K := 128) (fun g => (w14 g).2) 6 0
  have alB_ := alW_B (ws := wdS S) (N := 1000) (fun g _ => (w14 g).1)
  have on1 := (mi_op I).2.1
  have on2 := (mi_op I).2.2.2.1
  have tn1 := (mi_tm I).2.1
  have tn2 := (mi_tm I).2.2.2.1
  refine Ev.sts 3 (c' := (3, [some (.inr (.inr (.inr (11, 0, 83)))), some (.inl (iZ (p))), some (.inl (iZ (x.1))), some (.inl (iZ (x.2.1))), some (.inl (iZ (x.2.2.1))), some (.inl (iZ (x.2.2.2)))], [.inl (iZ (p)), .inr (.inr (.inr (11, 0, 83))), .inr (.inr (.inr (11, 0, 83)))], h)) rfl ?_
  refine Ev.callw (a := [.inr (.inr (.inr (11, 0, 83))), .inl (iZ (p))]) rfl (mp_isFlock I W ⟨by omega, by omega⟩ (fun z => absurd z hc) (fun _ => ?_))
  refine Ev.brF (p := ¬ (iZ (0)) = (iZ (0))) (c1 := (13, [some (.inr (.inr (.inr (11, 0, 83)))), some (.inl (iZ (p))), some (.inl (iZ (x.1))), some (.inl (iZ (x.2.1))), some (.inl (iZ (x.2.2.1))), some (.inl (iZ (x.2.2.2)))], [.inr (.inr (.inr (11, 0, 83)))], h)) (c2 := (9, [some (.inr (.inr (.inr (11, 0, 83)))), some (.inl (iZ (p))), some (.inl (iZ (x.1))), some (.inl (iZ (x.2.1))), some (.inl (iZ (x.2.2.1))), some (.inl (iZ (x.2.2.2)))], [.inr (.inr (.inr (11, 0, 83)))], h)) (by decide) rfl ?_
  refine Ev.sts 5 (c' := (37, [some (.inr (.inr (.inr (11, 0, 83)))), some (.inl (iZ (p))), some (.inl (iZ (x.1))), some (.inl (iZ (x.2.1))), some (.inl (iZ (x.2.2.1))), some (.inl (iZ (x.2.2.2)))], [.inl (iZ (1))], (setI h 83 0 ((iZ (1)))))) rfl ?_
  refine Ev.brF (p := (iZ (1)) ≤ (iZ (0))) (c1 := (42, [some (.inr (.inr (.inr (11, 0, 83)))), some (.inl (iZ (p))), some (.inl (iZ (x.1))), some (.inl (iZ (x.2.1))), some (.inl (iZ (x.2.2.1))), some (.inl (iZ (x.2.2.2)))], [], (setI h 83 0 ((iZ (1)))))) (c2 := (40, [some (.inr (.inr (.inr (11, 0, 83)))), some (.inl (iZ (p))), some (.inl (iZ (x.1))), some (.inl (iZ (x.2.1))), some (.inl (iZ (x.2.2.1))), some (.inl (iZ (x.2.2.2)))], [], (setI h 83 0 ((iZ (1)))))) (by decide) rfl ?_
  refine Ev.sts 1 (c' := (41, [some (.inr (.inr (.inr (11, 0, 83)))), some (.inl (iZ (p))), some (.inl (iZ (x.1))), some (.inl (iZ (x.2.1))), some (.inl (iZ (x.2.2.1))), some (.inl (iZ (x.2.2.2)))], [.inl (iZ (0))], (setI h 83 0 ((iZ (1)))))) rfl ?_
  exact Ev.ret rfl (q)

theorem my_wouldTake {d : Nat} {y : Y4} {S : Sta} {h : PH} (I : MI h S y) (W : WN S) {p : Int} {x : Ctx} (hc : 0 ≤ p ∧ p < (bkS S).2.1.length) (hx : bX x) (ok : ¬ okX x) : Rv (d + 2) 269 [.inr (.inr (.inr (11, 0, 83))), .inl (iZ (p)), .inl (iZ (x.1)), .inl (iZ (x.2.1)), .inl (iZ (x.2.2.1)), .inl (iZ (x.2.2.2))] h (some (.inl (iZ 0))) (setI h 83 0 (iZ 2)) := Rv.of fun Q q => by
  have W0 := W
  obtain ⟨⟨w1, w2, w3, w4, w5, w6⟩, w7, w8, w9, w10, w11, w12, w13, w14, w15, w16, w17, w18⟩ := W0
  have wB : bkN (bkS S) := ⟨w1, w2, w3, w4, w5, w6⟩
  have sh0 := mi_sh I
  have al := alW_len (wdS S) 6 0
  have tl5 := lnL_le (ws := wdS S) (K := 128) (fun g => (w14 g).2) 6 0
  have alB_ := alW_B (ws := wdS S) (N := 1000) (fun g _ => (w14 g).1)
  have on1 := (mi_op I).2.1
  have on2 := (mi_op I).2.2.2.1
  have tn1 := (mi_tm I).2.1
  have tn2 := (mi_tm I).2.2.2.1
  refine Ev.sts 3 (c' := (3, [some (.inr (.inr (.inr (11, 0, 83)))), some (.inl (iZ (p))), some (.inl (iZ (x.1))), some (.inl (iZ (x.2.1))), some (.inl (iZ (x.2.2.1))), some (.inl (iZ (x.2.2.2)))], [.inl (iZ (p)), .inr (.inr (.inr (11, 0, 83))), .inr (.inr (.inr (11, 0, 83)))], h)) rfl ?_
  refine Ev.callw (a := [.inr (.inr (.inr (11, 0, 83))), .inl (iZ (p))]) rfl (mp_isFlock I W ⟨by omega, by omega⟩ (fun _ => ?_) (fun z => absurd hc z))
  refine Ev.brT (p := ¬ (iZ (1)) = (iZ (0))) (c1 := (13, [some (.inr (.inr (.inr (11, 0, 83)))), some (.inl (iZ (p))), some (.inl (iZ (x.1))), some (.inl (iZ (x.2.1))), some (.inl (iZ (x.2.2.1))), some (.inl (iZ (x.2.2.2)))], [.inr (.inr (.inr (11, 0, 83)))], h)) (c2 := (9, [some (.inr (.inr (.inr (11, 0, 83)))), some (.inl (iZ (p))), some (.inl (iZ (x.1))), some (.inl (iZ (x.2.1))), some (.inl (iZ (x.2.2.1))), some (.inl (iZ (x.2.2.2)))], [.inr (.inr (.inr (11, 0, 83)))], h)) (by decide) rfl ?_
  refine Ev.sts 4 (c' := (19, [some (.inr (.inr (.inr (11, 0, 83)))), some (.inl (iZ (p))), some (.inl (iZ (x.1))), some (.inl (iZ (x.2.1))), some (.inl (iZ (x.2.2.1))), some (.inl (iZ (x.2.2.2)))], [.inl (iZ (x.2.2.2)), .inl (iZ (x.2.2.1)), .inl (iZ (x.2.1)), .inl (iZ (x.1)), .inr (.inr (.inr (11, 0, 83)))], h)) rfl ?_
  refine Ev.callw (a := [.inl (iZ (x.1)), .inl (iZ (x.2.1)), .inl (iZ (x.2.2.1)), .inl (iZ (x.2.2.2))]) rfl (mp_isComma hx (fun z => absurd z ok) (fun _ => ?_))
  refine Ev.brT (p := (iZ (0)) = (iZ (0))) (c1 := (29, [some (.inr (.inr (.inr (11, 0, 83)))), some (.inl (iZ (p))), some (.inl (iZ (x.1))), some (.inl (iZ (x.2.1))), some (.inl (iZ (x.2.2.1))), some (.inl (iZ (x.2.2.2)))], [.inr (.inr (.inr (11, 0, 83)))], h)) (c2 := (25, [some (.inr (.inr (.inr (11, 0, 83)))), some (.inl (iZ (p))), some (.inl (iZ (x.1))), some (.inl (iZ (x.2.1))), some (.inl (iZ (x.2.2.1))), some (.inl (iZ (x.2.2.2)))], [.inr (.inr (.inr (11, 0, 83)))], h)) (by decide) rfl ?_
  refine Ev.sts 4 (c' := (37, [some (.inr (.inr (.inr (11, 0, 83)))), some (.inl (iZ (p))), some (.inl (iZ (x.1))), some (.inl (iZ (x.2.1))), some (.inl (iZ (x.2.2.1))), some (.inl (iZ (x.2.2.2)))], [.inl (iZ (2))], (setI h 83 0 ((iZ (2)))))) rfl ?_
  refine Ev.brF (p := (iZ (2)) ≤ (iZ (0))) (c1 := (42, [some (.inr (.inr (.inr (11, 0, 83)))), some (.inl (iZ (p))), some (.inl (iZ (x.1))), some (.inl (iZ (x.2.1))), some (.inl (iZ (x.2.2.1))), some (.inl (iZ (x.2.2.2)))], [], (setI h 83 0 ((iZ (2)))))) (c2 := (40, [some (.inr (.inr (.inr (11, 0, 83)))), some (.inl (iZ (p))), some (.inl (iZ (x.1))), some (.inl (iZ (x.2.1))), some (.inl (iZ (x.2.2.1))), some (.inl (iZ (x.2.2.2)))], [], (setI h 83 0 ((iZ (2)))))) (by decide) rfl ?_
  refine Ev.sts 1 (c' := (41, [some (.inr (.inr (.inr (11, 0, 83)))), some (.inl (iZ (p))), some (.inl (iZ (x.1))), some (.inl (iZ (x.2.1))), some (.inl (iZ (x.2.2.1))), some (.inl (iZ (x.2.2.2)))], [.inl (iZ (0))], (setI h 83 0 ((iZ (2)))))) rfl ?_
  exact Ev.ret rfl (q)

