/-! The reference's calls that only look. -/
theorem mx_isThere {d : Nat} {y : Y4} {S : Sta} {h : PH} {p : Int} {Q : Rs → PH → Prop} (I : MI h S y) (W : WN S) (hpb : -2147483648 ≤ p ∧ p < 2147483648) (k1 : 0 ≤ p ∧ p < (csS S).length → Q (.inl (some (.inl (iZ 1)))) h) (k0 : ¬ (0 ≤ p ∧ p < (csS S).length) → Q (.inl (some (.inl (iZ 0)))) h) : Rn (d + 1) 243 [.inr (.inr (.inr (11, 0, 83))), .inl (iZ (p))] h Q := by
  have W0 := W
  obtain ⟨⟨w1, w2, w3, w4, w5, w6⟩, w7, w8, w9, w10, w11, w12, w13, w14, w15, w16, w17, w18⟩ := W0
  have wB : bkN (bkS S) := ⟨w1, w2, w3, w4, w5, w6⟩
  have sh0 := mi_sh I
  have al := alW_len (wdS S) 6 0
  have tl5 := lnL_le (ws := wdS S) (K := 128) (fun g => (w14 g).2) 6 0
  have alB_ := alW_B (ws := wdS S) (N := 1000) (fun g _ => (w14 g).1)
  have on1 := (mi_op I).2.1
  have on2 := (mi_op I).2.2.2.1
  have tn1 := (mi_tm I).2.1
  have tn2 := (mi_tm I).2.2.2.1
  refine Ev.sts 3 (c' := (3, [some (.inr (.inr (.inr (11, 0, 83)))), some (.inl (iZ (p)))], [.inr (.inr (.inr (11, 0, 83))), .inl (iZ (0)), .inl (iZ (p))], h)) rfl ?_
  refine Ev.gv (w := (iZ ((csS S).length))) rfl (mi_cs I).1 ?_
  refine Ev.sts 1 (c' := (7, [some (.inr (.inr (.inr (11, 0, 83)))), some (.inl (iZ (p)))], [.inl (iZ (1)), .inl (iZ ((csS S).length)), .inl (iZ (0)), .inl (iZ (p))], h)) rfl ?_
  refine Ev.gv (w := (iZ (((csS S).length) - 1))) rfl (iZ_sub _ _) ?_
  refine Ev.callw (a := [.inl (iZ (p)), .inl (iZ (0)), .inl (iZ (((csS S).length) - 1))]) rfl (mp_isIn ⟨by omega, by omega⟩ ⟨by omega, by omega⟩ ⟨by omega, by omega⟩ (fun c0 => ?_) (fun c0 => ?_))
  · exact Ev.ret rfl (k1 ⟨by omega, by omega⟩)
  · exact Ev.ret rfl (k0 (fun z => by omega))

theorem mx_isGoose {d : Nat} {y : Y4} {S : Sta} {h : PH} {p : Int} {Q : Rs → PH → Prop} (I : MI h S y) (W : WN S) (hpb : -2147483648 ≤ p ∧ p < 2147483648) (k1 : 0 ≤ p ∧ p < (bkS S).2.2.length → Q (.inl (some (.inl (iZ 1)))) h) (k0 : ¬ (0 ≤ p ∧ p < (bkS S).2.2.length) → Q (.inl (some (.inl (iZ 0)))) h) : Rn (d + 1) 252 [.inr (.inr (.inr (11, 0, 83))), .inl (iZ (p))] h Q := by
  have W0 := W
  obtain ⟨⟨w1, w2, w3, w4, w5, w6⟩, w7, w8, w9, w10, w11, w12, w13, w14, w15, w16, w17, w18⟩ := W0
  have wB : bkN (bkS S) := ⟨w1, w2, w3, w4, w5, w6⟩
  have sh0 := mi_sh I
  have al := alW_len (wdS S) 6 0
  have tl5 := lnL_le (ws := wdS S) (K := 128) (fun g => (w14 g).2) 6 0
  have alB_ := alW_B (ws := wdS S) (N := 1000) (fun g _ => (w14 g).1)
  have on1 := (mi_op I).2.1
  have on2 := (mi_op I).2.2.2.1
  have tn1 := (mi_tm I).2.1
  have tn2 := (mi_tm I).2.2.2.1
  refine Ev.sts 3 (c' := (3, [some (.inr (.inr (.inr (11, 0, 83)))), some (.inl (iZ (p)))], [.inr (.inr (.inr (11, 0, 83))), .inl (iZ (0)), .inl (iZ (p))], h)) rfl ?_
  refine Ev.gfr (r := (20, 64, 93)) rfl (sh_83_18 sh0) ?_
  refine Ev.sts 1 (c' := (7, [some (.inr (.inr (.inr (11, 0, 83)))), some (.inl (iZ (p)))], [.inl (iZ (1)), .inr (.inr (.inr (20, 64, 93))), .inl (iZ (0)), .inl (iZ (p))], h)) rfl ?_
  refine Ev.ldv (j := (iZ (1))) (n := 64) (w := .inl (iZ ((bkS S).2.2.length))) (by decide) rfl (congrArg vI (mi_bk I).2.1) ?_
  refine Ev.sts 1 (c' := (9, [some (.inr (.inr (.inr (11, 0, 83)))), some (.inl (iZ (p)))], [.inl (iZ (1)), .inl (iZ ((bkS S).2.2.length)), .inl (iZ (0)), .inl (iZ (p))], h)) rfl ?_
  refine Ev.gv (w := (iZ (((bkS S).2.2.length) - 1))) rfl (iZ_sub _ _) ?_
  refine Ev.callw (a := [.inl (iZ (p)), .inl (iZ (0)), .inl (iZ (((bkS S).2.2.length) - 1))]) rfl (mp_isIn ⟨by omega, by omega⟩ ⟨by omega, by omega⟩ ⟨by omega, by omega⟩ (fun c0 => ?_) (fun c0 => ?_))
  · exact Ev.ret rfl (k1 ⟨by omega, by omega⟩)
  · exact Ev.ret rfl (k0 (fun z => by omega))

theorem mx_nights {d : Nat} {y : Y4} {S : Sta} {h : PH} (I : MI h S y) (W : WN S) : Rv (d + 1) 234 [.inr (.inr (.inr (11, 0, 83)))] h (some (.inl (iZ (ntS S)))) (setI h 83 0 (iZ 0)) := Rv.of fun Q q => by
  have W0 := W
  obtain ⟨⟨w1, w2, w3, w4, w5, w6⟩, w7, w8, w9, w10, w11, w12, w13, w14, w15, w16, w17, w18⟩ := W0
  have wB : bkN (bkS S) := ⟨w1, w2, w3, w4, w5, w6⟩
  have sh0 := mi_sh I
  have al := alW_len (wdS S) 6 0
  have tl5 := lnL_le (ws := wdS S) (K := 128) (fun g => (w14 g).2) 6 0
  have alB_ := alW_B (ws := wdS S) (N := 1000) (fun g _ => (w14 g).1)
  have on1 := (mi_op I).2.1
  have on2 := (mi_op I).2.2.2.1
  have tn1 := (mi_tm I).2.1
  have tn2 := (mi_tm I).2.2.2.1
  refine Ev.sts 2 (c' := (2, [some (.inr (.inr (.inr (11, 0, 83))))], [.inr (.inr (.inr (11, 0, 83))), .inr (.inr (.inr (11, 0, 83)))], h)) rfl ?_
  refine Ev.gv (w := (iZ (ntS S))) rfl (mi_nt I) ?_
  refine Ev.callv (a := [.inr (.inr (.inr (11, 0, 83))), .inl (iZ (ntS S))]) rfl mp_told ?_
  exact Ev.ret rfl (q)

theorem mx_commas {d : Nat} {y : Y4} {S : Sta} {h : PH} (I : MI h S y) (W : WN S) : Rv (d + 1) 233 [.inr (.inr (.inr (11, 0, 83)))] h (some (.inl (iZ (csS S).length))) (setI h 83 0 (iZ 0)) := Rv.of fun Q q => by
  have W0 := W
  obtain ⟨⟨w1, w2, w3, w4, w5, w6⟩, w7, w8, w9, w10, w11, w12, w13, w14, w15, w16, w17, w18⟩ := W0
  have wB : bkN (bkS S) := ⟨w1, w2, w3, w4, w5, w6⟩
  have sh0 := mi_sh I
  have al := alW_len (wdS S) 6 0
  have tl5 := lnL_le (ws := wdS S) (K := 128) (fun g => (w14 g).2) 6 0
  have alB_ := alW_B (ws := wdS S) (N := 1000) (fun g _ => (w14 g).1)
  have on1 := (mi_op I).2.1
  have on2 := (mi_op I).2.2.2.1
  have tn1 := (mi_tm I).2.1
  have tn2 := (mi_tm I).2.2.2.1
  refine Ev.sts 2 (c' := (2, [some (.inr (.inr (.inr (11, 0, 83))))], [.inr (.inr (.inr (11, 0, 83))), .inr (.inr (.inr (11, 0, 83)))], h)) rfl ?_
  refine Ev.gv (w := (iZ ((csS S).length))) rfl (mi_cs I).1 ?_
  refine Ev.callv (a := [.inr (.inr (.inr (11, 0, 83))), .inl (iZ ((csS S).length))]) rfl mp_told ?_
  exact Ev.ret rfl (q)

theorem mx_greatestHour {d : Nat} {y : Y4} {S : Sta} {h : PH} (I : MI h S y) (W : WN S) : Rv (d + 1) 237 [.inr (.inr (.inr (11, 0, 83)))] h (some (.inl (iZ (grS S)))) (setI h 83 0 (iZ 0)) := Rv.of fun Q q => by
  have W0 := W
  obtain ⟨⟨w1, w2, w3, w4, w5, w6⟩, w7, w8, w9, w10, w11, w12, w13, w14, w15, w16, w17, w18⟩ := W0
  have wB : bkN (bkS S) := ⟨w1, w2, w3, w4, w5, w6⟩
  have sh0 := mi_sh I
  have al := alW_len (wdS S) 6 0
  have tl5 := lnL_le (ws := wdS S) (K := 128) (fun g => (w14 g).2) 6 0
  have alB_ := alW_B (ws := wdS S) (N := 1000) (fun g _ => (w14 g).1)
  have on1 := (mi_op I).2.1
  have on2 := (mi_op I).2.2.2.1
  have tn1 := (mi_tm I).2.1
  have tn2 := (mi_tm I).2.2.2.1
  refine Ev.sts 2 (c' := (2, [some (.inr (.inr (.inr (11, 0, 83))))], [.inr (.inr (.inr (11, 0, 83))), .inr (.inr (.inr (11, 0, 83)))], h)) rfl ?_
  refine Ev.gv (w := (iZ (grS S))) rfl (mi_gr I) ?_
  refine Ev.callv (a := [.inr (.inr (.inr (11, 0, 83))), .inl (iZ (grS S))]) rfl mp_told ?_
  exact Ev.ret rfl (q)

theorem mx_watermark {d : Nat} {y : Y4} {S : Sta} {h : PH} (I : MI h S y) (W : WN S) : Rv (d + 1) 238 [.inr (.inr (.inr (11, 0, 83)))] h (some (.inl (iZ (wmS S)))) (setI h 83 0 (iZ 0)) := Rv.of fun Q q => by
  have W0 := W
  obtain ⟨⟨w1, w2, w3, w4, w5, w6⟩, w7, w8, w9, w10, w11, w12, w13, w14, w15, w16, w17, w18⟩ := W0
  have wB : bkN (bkS S) := ⟨w1, w2, w3, w4, w5, w6⟩
  have sh0 := mi_sh I
  have al := alW_len (wdS S) 6 0
  have tl5 := lnL_le (ws := wdS S) (K := 128) (fun g => (w14 g).2) 6 0
  have alB_ := alW_B (ws := wdS S) (N := 1000) (fun g _ => (w14 g).1)
  have on1 := (mi_op I).2.1
  have on2 := (mi_op I).2.2.2.1
  have tn1 := (mi_tm I).2.1
  have tn2 := (mi_tm I).2.2.2.1
  refine Ev.sts 2 (c' := (2, [some (.inr (.inr (.inr (11, 0, 83))))], [.inr (.inr (.inr (11, 0, 83))), .inr (.inr (.inr (11, 0, 83)))], h)) rfl ?_
  refine Ev.gv (w := (iZ (wmS S))) rfl (mi_wm I) ?_
  refine Ev.callv (a := [.inr (.inr (.inr (11, 0, 83))), .inl (iZ (wmS S))]) rfl mp_told ?_
  exact Ev.ret rfl (q)

theorem mx_flocks {d : Nat} {y : Y4} {S : Sta} {h : PH} (I : MI h S y) (W : WN S) : Rv (d + 1) 231 [.inr (.inr (.inr (11, 0, 83)))] h (some (.inl (iZ (bkS S).2.1.length))) (setI h 83 0 (iZ 0)) := Rv.of fun Q q => by
  have W0 := W
  obtain ⟨⟨w1, w2, w3, w4, w5, w6⟩, w7, w8, w9, w10, w11, w12, w13, w14, w15, w16, w17, w18⟩ := W0
  have wB : bkN (bkS S) := ⟨w1, w2, w3, w4, w5, w6⟩
  have sh0 := mi_sh I
  have al := alW_len (wdS S) 6 0
  have tl5 := lnL_le (ws := wdS S) (K := 128) (fun g => (w14 g).2) 6 0
  have alB_ := alW_B (ws := wdS S) (N := 1000) (fun g _ => (w14 g).1)
  have on1 := (mi_op I).2.1
  have on2 := (mi_op I).2.2.2.1
  have tn1 := (mi_tm I).2.1
  have tn2 := (mi_tm I).2.2.2.1
  refine Ev.sts 2 (c' := (2, [some (.inr (.inr (.inr (11, 0, 83))))], [.inr (.inr (.inr (11, 0, 83))), .inr (.inr (.inr (11, 0, 83)))], h)) rfl ?_
  refine Ev.gfr (r := (20, 64, 93)) rfl (sh_83_18 sh0) ?_
  refine Ev.sts 1 (c' := (6, [some (.inr (.inr (.inr (11, 0, 83))))], [.inl (iZ (0)), .inr (.inr (.inr (20, 64, 93))), .inr (.inr (.inr (11, 0, 83)))], h)) rfl ?_
  refine Ev.ldv (j := (iZ (0))) (n := 64) (w := .inl (iZ ((bkS S).2.1.length))) (by decide) rfl (congrArg vI (mi_bk I).1) ?_
  refine Ev.callv (a := [.inr (.inr (.inr (11, 0, 83))), .inl (iZ ((bkS S).2.1.length))]) rfl mp_told ?_
  exact Ev.ret rfl (q)

theorem mx_geese {d : Nat} {y : Y4} {S : Sta} {h : PH} (I : MI h S y) (W : WN S) : Rv (d + 1) 232 [.inr (.inr (.inr (11, 0, 83)))] h (some (.inl (iZ (bkS S).2.2.length))) (setI h 83 0 (iZ 0)) := Rv.of fun Q q => by
  have W0 := W
  obtain ⟨⟨w1, w2, w3, w4, w5, w6⟩, w7, w8, w9, w10, w11, w12, w13, w14, w15, w16, w17, w18⟩ := W0
  have wB : bkN (bkS S) := ⟨w1, w2, w3, w4, w5, w6⟩
  have sh0 := mi_sh I
  have al := alW_len (wdS S) 6 0
  have tl5 := lnL_le (ws := wdS S) (K := 128) (fun g => (w14 g).2) 6 0
  have alB_ := alW_B (ws := wdS S) (N := 1000) (fun g _ => (w14 g).1)
  have on1 := (mi_op I).2.1
  have on2 := (mi_op I).2.2.2.1
  have tn1 := (mi_tm I).2.1
  have tn2 := (mi_tm I).2.2.2.1
  refine Ev.sts 2 (c' := (2, [some (.inr (.inr (.inr (11, 0, 83))))], [.inr (.inr (.inr (11, 0, 83))), .inr (.inr (.inr (11, 0, 83)))], h)) rfl ?_
  refine Ev.gfr (r := (20, 64, 93)) rfl (sh_83_18 sh0) ?_
  refine Ev.sts 1 (c' := (6, [some (.inr (.inr (.inr (11, 0, 83))))], [.inl (iZ (1)), .inr (.inr (.inr (20, 64, 93))), .inr (.inr (.inr (11, 0, 83)))], h)) rfl ?_
  refine Ev.ldv (j := (iZ (1))) (n := 64) (w := .inl (iZ ((bkS S).2.2.length))) (by decide) rfl (congrArg vI (mi_bk I).2.1) ?_
  refine Ev.callv (a := [.inr (.inr (.inr (11, 0, 83))), .inl (iZ ((bkS S).2.2.length))]) rfl mp_told ?_
  exact Ev.ret rfl (q)

theorem mx_tellings {d : Nat} {y : Y4} {S : Sta} {h : PH} (I : MI h S y) (W : WN S) : Rv (d + 1) 241 [.inr (.inr (.inr (11, 0, 83)))] h (some (.inl (iZ (tlS S).length))) (setI h 83 0 (iZ 0)) := Rv.of fun Q q => by
  have W0 := W
  obtain ⟨⟨w1, w2, w3, w4, w5, w6⟩, w7, w8, w9, w10, w11, w12, w13, w14, w15, w16, w17, w18⟩ := W0
  have wB : bkN (bkS S) := ⟨w1, w2, w3, w4, w5, w6⟩
  have sh0 := mi_sh I
  have al := alW_len (wdS S) 6 0
  have tl5 := lnL_le (ws := wdS S) (K := 128) (fun g => (w14 g).2) 6 0
  have alB_ := alW_B (ws := wdS S) (N := 1000) (fun g _ => (w14 g).1)
  have on1 := (mi_op I).2.1
  have on2 := (mi_op I).2.2.2.1
  have tn1 := (mi_tm I).2.1
  have tn2 := (mi_tm I).2.2.2.1
  refine Ev.sts 2 (c' := (2, [some (.inr (.inr (.inr (11, 0, 83))))], [.inr (.inr (.inr (11, 0, 83))), .inr (.inr (.inr (11, 0, 83)))], h)) rfl ?_
  refine Ev.gv (w := (iZ ((tlS S).length))) rfl (mi_tm I).1 ?_
  refine Ev.callv (a := [.inr (.inr (.inr (11, 0, 83))), .inl (iZ ((tlS S).length))]) rfl mp_told ?_
  exact Ev.ret rfl (q)

theorem mx_errorAt {d : Nat} {y : Y4} {S : Sta} {h : PH} (I : MI h S y) (W : WN S) : Rv (d + 1) 207 [.inr (.inr (.inr (11, 0, 83)))] h (some (.inl (iZ (eaS S)))) (setI h 83 0 (iZ 0)) := Rv.of fun Q q => by
  have W0 := W
  obtain ⟨⟨w1, w2, w3, w4, w5, w6⟩, w7, w8, w9, w10, w11, w12, w13, w14, w15, w16, w17, w18⟩ := W0
  have wB : bkN (bkS S) := ⟨w1, w2, w3, w4, w5, w6⟩
  have sh0 := mi_sh I
  have al := alW_len (wdS S) 6 0
  have tl5 := lnL_le (ws := wdS S) (K := 128) (fun g => (w14 g).2) 6 0
  have alB_ := alW_B (ws := wdS S) (N := 1000) (fun g _ => (w14 g).1)
  have on1 := (mi_op I).2.1
  have on2 := (mi_op I).2.2.2.1
  have tn1 := (mi_tm I).2.1
  have tn2 := (mi_tm I).2.2.2.1
  refine Ev.sts 2 (c' := (2, [some (.inr (.inr (.inr (11, 0, 83))))], [.inr (.inr (.inr (11, 0, 83))), .inr (.inr (.inr (11, 0, 83)))], h)) rfl ?_
  refine Ev.gv (w := (iZ (eaS S))) rfl (mi_ea I) ?_
  refine Ev.callv (a := [.inr (.inr (.inr (11, 0, 83))), .inl (iZ (eaS S))]) rfl mp_told ?_
  exact Ev.ret rfl (q)

theorem mx_allows {d : Nat} {y : Y4} {S : Sta} {h : PH} (I : MI h S y) (W : WN S) : Rv (d + 1) 225 [.inr (.inr (.inr (11, 0, 83)))] h (some (.inl (iZ (alB (bkS S) (ntS S))))) h := Rv.of fun Q q => by
  have W0 := W
  obtain ⟨⟨w1, w2, w3, w4, w5, w6⟩, w7, w8, w9, w10, w11, w12, w13, w14, w15, w16, w17, w18⟩ := W0
  have wB : bkN (bkS S) := ⟨w1, w2, w3, w4, w5, w6⟩
  have sh0 := mi_sh I
  have al := alW_len (wdS S) 6 0
  have tl5 := lnL_le (ws := wdS S) (K := 128) (fun g => (w14 g).2) 6 0
  have alB_ := alW_B (ws := wdS S) (N := 1000) (fun g _ => (w14 g).1)
  have on1 := (mi_op I).2.1
  have on2 := (mi_op I).2.2.2.1
  have tn1 := (mi_tm I).2.1
  have tn2 := (mi_tm I).2.2.2.1
  refine Ev.sts 2 (c' := (2, [some (.inr (.inr (.inr (11, 0, 83))))], [.inr (.inr (.inr (11, 0, 83))), .inr (.inr (.inr (11, 0, 83)))], h)) rfl ?_
  refine Ev.gv (w := (iZ (ntS S))) rfl (mi_nt I) ?_
  refine Ev.callv (a := [.inr (.inr (.inr (11, 0, 83))), .inl (iZ (ntS S))]) rfl (mp_allowed (mi_sh I) (mi_bk I) wB ⟨by omega, by omega⟩) ?_
  exact Ev.ret rfl (q)

theorem mx_allowance {d : Nat} {y : Y4} {S : Sta} {h : PH} (I : MI h S y) (W : WN S) : Rv (d + 2) 236 [.inr (.inr (.inr (11, 0, 83)))] h (some (.inl (iZ (alB (bkS S) (ntS S))))) (setI h 83 0 (iZ 0)) := Rv.of fun Q q => by
  have W0 := W
  obtain ⟨⟨w1, w2, w3, w4, w5, w6⟩, w7, w8, w9, w10, w11, w12, w13, w14, w15, w16, w17, w18⟩ := W0
  have wB : bkN (bkS S) := ⟨w1, w2, w3, w4, w5, w6⟩
  have sh0 := mi_sh I
  have al := alW_len (wdS S) 6 0
  have tl5 := lnL_le (ws := wdS S) (K := 128) (fun g => (w14 g).2) 6 0
  have alB_ := alW_B (ws := wdS S) (N := 1000) (fun g _ => (w14 g).1)
  have on1 := (mi_op I).2.1
  have on2 := (mi_op I).2.2.2.1
  have tn1 := (mi_tm I).2.1
  have tn2 := (mi_tm I).2.2.2.1
  refine Ev.sts 2 (c' := (2, [some (.inr (.inr (.inr (11, 0, 83))))], [.inr (.inr (.inr (11, 0, 83))), .inr (.inr (.inr (11, 0, 83)))], h)) rfl ?_
  refine Ev.callv (a := [.inr (.inr (.inr (11, 0, 83)))]) rfl (mx_allows I W) ?_
  refine Ev.callv (a := [.inr (.inr (.inr (11, 0, 83))), .inl (iZ (alB (bkS S) (ntS S)))]) rfl mp_told ?_
  exact Ev.ret rfl (q)

theorem mx_phase {d : Nat} {y : Y4} {S : Sta} {h : PH} (I : MI h S y) (W : WN S) : Rv (d + 1) 235 [.inr (.inr (.inr (11, 0, 83)))] h (some (.inl (iZ (phB (bkS S) (ntS S))))) (setI h 83 0 (iZ 0)) := Rv.of fun Q q => by
  have W0 := W
  obtain ⟨⟨w1, w2, w3, w4, w5, w6⟩, w7, w8, w9, w10, w11, w12, w13, w14, w15, w16, w17, w18⟩ := W0
  have wB : bkN (bkS S) := ⟨w1, w2, w3, w4, w5, w6⟩
  have sh0 := mi_sh I
  have al := alW_len (wdS S) 6 0
  have tl5 := lnL_le (ws := wdS S) (K := 128) (fun g => (w14 g).2) 6 0
  have alB_ := alW_B (ws := wdS S) (N := 1000) (fun g _ => (w14 g).1)
  have on1 := (mi_op I).2.1
  have on2 := (mi_op I).2.2.2.1
  have tn1 := (mi_tm I).2.1
  have tn2 := (mi_tm I).2.2.2.1
  refine Ev.sts 2 (c' := (2, [some (.inr (.inr (.inr (11, 0, 83))))], [.inr (.inr (.inr (11, 0, 83))), .inr (.inr (.inr (11, 0, 83)))], h)) rfl ?_
  refine Ev.gv (w := (iZ (ntS S))) rfl (mi_nt I) ?_
  refine Ev.sts 1 (c' := (6, [some (.inr (.inr (.inr (11, 0, 83))))], [.inr (.inr (.inr (11, 0, 83))), .inl (iZ (ntS S)), .inr (.inr (.inr (11, 0, 83)))], h)) rfl ?_
  refine Ev.gfr (r := (20, 64, 93)) rfl (sh_83_18 sh0) ?_
  refine Ev.sts 1 (c' := (10, [some (.inr (.inr (.inr (11, 0, 83))))], [.inl (iZ (2)), .inr (.inr (.inr (20, 64, 93))), .inl (iZ (ntS S)), .inr (.inr (.inr (11, 0, 83)))], h)) rfl ?_
  refine Ev.ldv (j := (iZ (2))) (n := 64) (w := .inl (iZ ((bkS S).1.length))) (by decide) rfl (congrArg vI (mi_bk I).2.2.1) ?_
  refine Ev.pv (p := (iZ ((bkS S).1.length)) = 0) (v := .inl ((iZ (ntS S)) - (iZ (ntS S)) / (iZ ((bkS S).1.length)) * (iZ ((bkS S).1.length)))) (w := .inl (iZ ((ntS S) % ((bkS S).1.length)))) (iZ_n0 (by omega) (by omega)) rfl (congrArg vI (iZ_rem (by omega) (by omega) (by omega) (by omega))) ?_
  refine Ev.callv (a := [.inr (.inr (.inr (11, 0, 83))), .inl (iZ ((ntS S) % ((bkS S).1.length)))]) rfl mp_told ?_
  exact Ev.ret rfl (q)

theorem mx_lateAll {d : Nat} {y : Y4} {S : Sta} {h : PH} (I : MI h S y) (W : WN S) : Rv d 240 [.inr (.inr (.inr (11, 0, 83)))] h (some (.inl (iZ (lateA (ltS S))))) h := Rv.of fun Q q => by
  have W0 := W
  obtain ⟨⟨w1, w2, w3, w4, w5, w6⟩, w7, w8, w9, w10, w11, w12, w13, w14, w15, w16, w17, w18⟩ := W0
  have wB : bkN (bkS S) := ⟨w1, w2, w3, w4, w5, w6⟩
  have sh0 := mi_sh I
  have al := alW_len (wdS S) 6 0
  have tl5 := lnL_le (ws := wdS S) (K := 128) (fun g => (w14 g).2) 6 0
  have alB_ := alW_B (ws := wdS S) (N := 1000) (fun g _ => (w14 g).1)
  have on1 := (mi_op I).2.1
  have on2 := (mi_op I).2.2.2.1
  have tn1 := (mi_tm I).2.1
  have tn2 := (mi_tm I).2.2.2.1
  refine Ev.sts 6 (c' := (7, [some (.inr (.inr (.inr (11, 0, 83)))), some (.inl (iZ (0))), some (.inl (iZ (0)))], [.inl (iZ (6)), .inl (iZ (0))], h)) rfl ?_
  refine Ev.brF (p := (iZ (6)) ≤ (iZ (0))) (c1 := (25, [some (.inr (.inr (.inr (11, 0, 83)))), some (.inl (iZ (0))), some (.inl (iZ (0)))], [], h)) (c2 := (10, [some (.inr (.inr (.inr (11, 0, 83)))), some (.inl (iZ (0))), some (.inl (iZ (0)))], [], h)) (by decide) rfl ?_
  refine Ev.sts 2 (c' := (12, [some (.inr (.inr (.inr (11, 0, 83)))), some (.inl (iZ (0))), some (.inl (iZ (0)))], [.inr (.inr (.inr (11, 0, 83))), .inl (iZ (0))], h)) rfl ?_
  refine Ev.gfr (r := (20, 6, 99)) rfl (sh_83_28 sh0) ?_
  refine Ev.sts 1 (c' := (16, [some (.inr (.inr (.inr (11, 0, 83)))), some (.inl (iZ (0))), some (.inl (iZ (0)))], [.inl (iZ (0)), .inr (.inr (.inr (20, 6, 99))), .inl (iZ (0))], h)) rfl ?_
  refine Ev.ldv (j := (iZ (0))) (n := 6) (w := .inl (iZ (ltS S 0))) (by decide) rfl (congrArg vI (mi_lt I 0 (by omega))) ?_
  refine Ev.gv (w := (iZ (0 + (ltS S 0)))) rfl (iZ_add _ _) ?_
  refine Ev.sts 1 (c' := (19, [some (.inr (.inr (.inr (11, 0, 83)))), some (.inl (iZ (0 + (ltS S 0)))), some (.inl (iZ (0)))], [], h)) rfl ?_
  refine Ev.stc (c1 := (22, [some (.inr (.inr (.inr (11, 0, 83)))), some (.inl (iZ (0 + (ltS S 0)))), some (.inl ((iZ (0)) + (iZ (1))))], [], h)) (c2 := (22, [some (.inr (.inr (.inr (11, 0, 83)))), some (.inl (iZ (0 + (ltS S 0)))), some (.inl (iZ (1)))], [], h)) rfl (by rw [iZ_add]; rfl) ?_
  refine Ev.sts 3 (c' := (7, [some (.inr (.inr (.inr (11, 0, 83)))), some (.inl (iZ (0 + (ltS S 0)))), some (.inl (iZ (1)))], [.inl (iZ (6)), .inl (iZ (1))], h)) rfl ?_
  refine Ev.brF (p := (iZ (6)) ≤ (iZ (1))) (c1 := (25, [some (.inr (.inr (.inr (11, 0, 83)))), some (.inl (iZ (0 + (ltS S 0)))), some (.inl (iZ (1)))], [], h)) (c2 := (10, [some (.inr (.inr (.inr (11, 0, 83)))), some (.inl (iZ (0 + (ltS S 0)))), some (.inl (iZ (1)))], [], h)) (by decide) rfl ?_
  refine Ev.sts 2 (c' := (12, [some (.inr (.inr (.inr (11, 0, 83)))), some (.inl (iZ (0 + (ltS S 0)))), some (.inl (iZ (1)))], [.inr (.inr (.inr (11, 0, 83))), .inl (iZ (0 + (ltS S 0)))], h)) rfl ?_
  refine Ev.gfr (r := (20, 6, 99)) rfl (sh_83_28 sh0) ?_
  refine Ev.sts 1 (c' := (16, [some (.inr (.inr (.inr (11, 0, 83)))), some (.inl (iZ (0 + (ltS S 0)))), some (.inl (iZ (1)))], [.inl (iZ (1)), .inr (.inr (.inr (20, 6, 99))), .inl (iZ (0 + (ltS S 0)))], h)) rfl ?_
  refine Ev.ldv (j := (iZ (1))) (n := 6) (w := .inl (iZ (ltS S 1))) (by decide) rfl (congrArg vI (mi_lt I 1 (by omega))) ?_
  refine Ev.gv (w := (iZ ((0 + (ltS S 0)) + (ltS S 1)))) rfl (iZ_add _ _) ?_
  refine Ev.sts 1 (c' := (19, [some (.inr (.inr (.inr (11, 0, 83)))), some (.inl (iZ ((0 + (ltS S 0)) + (ltS S 1)))), some (.inl (iZ (1)))], [], h)) rfl ?_
  refine Ev.stc (c1 := (22, [some (.inr (.inr (.inr (11, 0, 83)))), some (.inl (iZ ((0 + (ltS S 0)) + (ltS S 1)))), some (.inl ((iZ (1)) + (iZ (1))))], [], h)) (c2 := (22, [some (.inr (.inr (.inr (11, 0, 83)))), some (.inl (iZ ((0 + (ltS S 0)) + (ltS S 1)))), some (.inl (iZ (2)))], [], h)) rfl (by rw [iZ_add]; rfl) ?_
  refine Ev.sts 3 (c' := (7, [some (.inr (.inr (.inr (11, 0, 83)))), some (.inl (iZ ((0 + (ltS S 0)) + (ltS S 1)))), some (.inl (iZ (2)))], [.inl (iZ (6)), .inl (iZ (2))], h)) rfl ?_
  refine Ev.brF (p := (iZ (6)) ≤ (iZ (2))) (c1 := (25, [some (.inr (.inr (.inr (11, 0, 83)))), some (.inl (iZ ((0 + (ltS S 0)) + (ltS S 1)))), some (.inl (iZ (2)))], [], h)) (c2 := (10, [some (.inr (.inr (.inr (11, 0, 83)))), some (.inl (iZ ((0 + (ltS S 0)) + (ltS S 1)))), some (.inl (iZ (2)))], [], h)) (by decide) rfl ?_
  refine Ev.sts 2 (c' := (12, [some (.inr (.inr (.inr (11, 0, 83)))), some (.inl (iZ ((0 + (ltS S 0)) + (ltS S 1)))), some (.inl (iZ (2)))], [.inr (.inr (.inr (11, 0, 83))), .inl (iZ ((0 + (ltS S 0)) + (ltS S 1)))], h)) rfl ?_
  refine Ev.gfr (r := (20, 6, 99)) rfl (sh_83_28 sh0) ?_
  refine Ev.sts 1 (c' := (16, [some (.inr (.inr (.inr (11, 0, 83)))), some (.inl (iZ ((0 + (ltS S 0)) + (ltS S 1)))), some (.inl (iZ (2)))], [.inl (iZ (2)), .inr (.inr (.inr (20, 6, 99))), .inl (iZ ((0 + (ltS S 0)) + (ltS S 1)))], h)) rfl ?_
  refine Ev.ldv (j := (iZ (2))) (n := 6) (w := .inl (iZ (ltS S 2))) (by decide) rfl (congrArg vI (mi_lt I 2 (by omega))) ?_
  refine Ev.gv (w := (iZ (((0 + (ltS S 0)) + (ltS S 1)) + (ltS S 2)))) rfl (iZ_add _ _) ?_
  refine Ev.sts 1 (c' := (19, [some (.inr (.inr (.inr (11, 0, 83)))), some (.inl (iZ (((0 + (ltS S 0)) + (ltS S 1)) + (ltS S 2)))), some (.inl (iZ (2)))], [], h)) rfl ?_
  refine Ev.stc (c1 := (22, [some (.inr (.inr (.inr (11, 0, 83)))), some (.inl (iZ (((0 + (ltS S 0)) + (ltS S 1)) + (ltS S 2)))), some (.inl ((iZ (2)) + (iZ (1))))], [], h)) (c2 := (22, [some (.inr (.inr (.inr (11, 0, 83)))), some (.inl (iZ (((0 + (ltS S 0)) + (ltS S 1)) + (ltS S 2)))), some (.inl (iZ (3)))], [], h)) rfl (by rw [iZ_add]; rfl) ?_
  refine Ev.sts 3 (c' := (7, [some (.inr (.inr (.inr (11, 0, 83)))), some (.inl (iZ (((0 + (ltS S 0)) + (ltS S 1)) + (ltS S 2)))), some (.inl (iZ (3)))], [.inl (iZ (6)), .inl (iZ (3))], h)) rfl ?_
  refine Ev.brF (p := (iZ (6)) ≤ (iZ (3))) (c1 := (25, [some (.inr (.inr (.inr (11, 0, 83)))), some (.inl (iZ (((0 + (ltS S 0)) + (ltS S 1)) + (ltS S 2)))), some (.inl (iZ (3)))], [], h)) (c2 := (10, [some (.inr (.inr (.inr (11, 0, 83)))), some (.inl (iZ (((0 + (ltS S 0)) + (ltS S 1)) + (ltS S 2)))), some (.inl (iZ (3)))], [], h)) (by decide) rfl ?_
  refine Ev.sts 2 (c' := (12, [some (.inr (.inr (.inr (11, 0, 83)))), some (.inl (iZ (((0 + (ltS S 0)) + (ltS S 1)) + (ltS S 2)))), some (.inl (iZ (3)))], [.inr (.inr (.inr (11, 0, 83))), .inl (iZ (((0 + (ltS S 0)) + (ltS S 1)) + (ltS S 2)))], h)) rfl ?_
  refine Ev.gfr (r := (20, 6, 99)) rfl (sh_83_28 sh0) ?_
  refine Ev.sts 1 (c' := (16, [some (.inr (.inr (.inr (11, 0, 83)))), some (.inl (iZ (((0 + (ltS S 0)) + (ltS S 1)) + (ltS S 2)))), some (.inl (iZ (3)))], [.inl (iZ (3)), .inr (.inr (.inr (20, 6, 99))), .inl (iZ (((0 + (ltS S 0)) + (ltS S 1)) + (ltS S 2)))], h)) rfl ?_
  refine Ev.ldv (j := (iZ (3))) (n := 6) (w := .inl (iZ (ltS S 3))) (by decide) rfl (congrArg vI (mi_lt I 3 (by omega))) ?_
  refine Ev.gv (w := (iZ ((((0 + (ltS S 0)) + (ltS S 1)) + (ltS S 2)) + (ltS S 3)))) rfl (iZ_add _ _) ?_
  refine Ev.sts 1 (c' := (19, [some (.inr (.inr (.inr (11, 0, 83)))), some (.inl (iZ ((((0 + (ltS S 0)) + (ltS S 1)) + (ltS S 2)) + (ltS S 3)))), some (.inl (iZ (3)))], [], h)) rfl ?_
  refine Ev.stc (c1 := (22, [some (.inr (.inr (.inr (11, 0, 83)))), some (.inl (iZ ((((0 + (ltS S 0)) + (ltS S 1)) + (ltS S 2)) + (ltS S 3)))), some (.inl ((iZ (3)) + (iZ (1))))], [], h)) (c2 := (22, [some (.inr (.inr (.inr (11, 0, 83)))), some (.inl (iZ ((((0 + (ltS S 0)) + (ltS S 1)) + (ltS S 2)) + (ltS S 3)))), some (.inl (iZ (4)))], [], h)) rfl (by rw [iZ_add]; rfl) ?_
  refine Ev.sts 3 (c' := (7, [some (.inr (.inr (.inr (11, 0, 83)))), some (.inl (iZ ((((0 + (ltS S 0)) + (ltS S 1)) + (ltS S 2)) + (ltS S 3)))), some (.inl (iZ (4)))], [.inl (iZ (6)), .inl (iZ (4))], h)) rfl ?_
  refine Ev.brF (p := (iZ (6)) ≤ (iZ (4))) (c1 := (25, [some (.inr (.inr (.inr (11, 0, 83)))), some (.inl (iZ ((((0 + (ltS S 0)) + (ltS S 1)) + (ltS S 2)) + (ltS S 3)))), some (.inl (iZ (4)))], [], h)) (c2 := (10, [some (.inr (.inr (.inr (11, 0, 83)))), some (.inl (iZ ((((0 + (ltS S 0)) + (ltS S 1)) + (ltS S 2)) + (ltS S 3)))), some (.inl (iZ (4)))], [], h)) (by decide) rfl ?_
  refine Ev.sts 2 (c' := (12, [some (.inr (.inr (.inr (11, 0, 83)))), some (.inl (iZ ((((0 + (ltS S 0)) + (ltS S 1)) + (ltS S 2)) + (ltS S 3)))), some (.inl (iZ (4)))], [.inr (.inr (.inr (11, 0, 83))), .inl (iZ ((((0 + (ltS S 0)) + (ltS S 1)) + (ltS S 2)) + (ltS S 3)))], h)) rfl ?_
  refine Ev.gfr (r := (20, 6, 99)) rfl (sh_83_28 sh0) ?_
  refine Ev.sts 1 (c' := (16, [some (.inr (.inr (.inr (11, 0, 83)))), some (.inl (iZ ((((0 + (ltS S 0)) + (ltS S 1)) + (ltS S 2)) + (ltS S 3)))), some (.inl (iZ (4)))], [.inl (iZ (4)), .inr (.inr (.inr (20, 6, 99))), .inl (iZ ((((0 + (ltS S 0)) + (ltS S 1)) + (ltS S 2)) + (ltS S 3)))], h)) rfl ?_
  refine Ev.ldv (j := (iZ (4))) (n := 6) (w := .inl (iZ (ltS S 4))) (by decide) rfl (congrArg vI (mi_lt I 4 (by omega))) ?_
  refine Ev.gv (w := (iZ (((((0 + (ltS S 0)) + (ltS S 1)) + (ltS S 2)) + (ltS S 3)) + (ltS S 4)))) rfl (iZ_add _ _) ?_
  refine Ev.sts 1 (c' := (19, [some (.inr (.inr (.inr (11, 0, 83)))), some (.inl (iZ (((((0 + (ltS S 0)) + (ltS S 1)) + (ltS S 2)) + (ltS S 3)) + (ltS S 4)))), some (.inl (iZ (4)))], [], h)) rfl ?_
  refine Ev.stc (c1 := (22, [some (.inr (.inr (.inr (11, 0, 83)))), some (.inl (iZ (((((0 + (ltS S 0)) + (ltS S 1)) + (ltS S 2)) + (ltS S 3)) + (ltS S 4)))), some (.inl ((iZ (4)) + (iZ (1))))], [], h)) (c2 := (22, [some (.inr (.inr (.inr (11, 0, 83)))), some (.inl (iZ (((((0 + (ltS S 0)) + (ltS S 1)) + (ltS S 2)) + (ltS S 3)) + (ltS S 4)))), some (.inl (iZ (5)))], [], h)) rfl (by rw [iZ_add]; rfl) ?_
  refine Ev.sts 3 (c' := (7, [some (.inr (.inr (.inr (11, 0, 83)))), some (.inl (iZ (((((0 + (ltS S 0)) + (ltS S 1)) + (ltS S 2)) + (ltS S 3)) + (ltS S 4)))), some (.inl (iZ (5)))], [.inl (iZ (6)), .inl (iZ (5))], h)) rfl ?_
  refine Ev.brF (p := (iZ (6)) ≤ (iZ (5))) (c1 := (25, [some (.inr (.inr (.inr (11, 0, 83)))), some (.inl (iZ (((((0 + (ltS S 0)) + (ltS S 1)) + (ltS S 2)) + (ltS S 3)) + (ltS S 4)))), some (.inl (iZ (5)))], [], h)) (c2 := (10, [some (.inr (.inr (.inr (11, 0, 83)))), some (.inl (iZ (((((0 + (ltS S 0)) + (ltS S 1)) + (ltS S 2)) + (ltS S 3)) + (ltS S 4)))), some (.inl (iZ (5)))], [], h)) (by decide) rfl ?_
  refine Ev.sts 2 (c' := (12, [some (.inr (.inr (.inr (11, 0, 83)))), some (.inl (iZ (((((0 + (ltS S 0)) + (ltS S 1)) + (ltS S 2)) + (ltS S 3)) + (ltS S 4)))), some (.inl (iZ (5)))], [.inr (.inr (.inr (11, 0, 83))), .inl (iZ (((((0 + (ltS S 0)) + (ltS S 1)) + (ltS S 2)) + (ltS S 3)) + (ltS S 4)))], h)) rfl ?_
  refine Ev.gfr (r := (20, 6, 99)) rfl (sh_83_28 sh0) ?_
  refine Ev.sts 1 (c' := (16, [some (.inr (.inr (.inr (11, 0, 83)))), some (.inl (iZ (((((0 + (ltS S 0)) + (ltS S 1)) + (ltS S 2)) + (ltS S 3)) + (ltS S 4)))), some (.inl (iZ (5)))], [.inl (iZ (5)), .inr (.inr (.inr (20, 6, 99))), .inl (iZ (((((0 + (ltS S 0)) + (ltS S 1)) + (ltS S 2)) + (ltS S 3)) + (ltS S 4)))], h)) rfl ?_
  refine Ev.ldv (j := (iZ (5))) (n := 6) (w := .inl (iZ (ltS S 5))) (by decide) rfl (congrArg vI (mi_lt I 5 (by omega))) ?_
  refine Ev.gv (w := (iZ ((((((0 + (ltS S 0)) + (ltS S 1)) + (ltS S 2)) + (ltS S 3)) + (ltS S 4)) + (ltS S 5)))) rfl (iZ_add _ _) ?_
  refine Ev.sts 1 (c' := (19, [some (.inr (.inr (.inr (11, 0, 83)))), some (.inl (iZ ((((((0 + (ltS S 0)) + (ltS S 1)) + (ltS S 2)) + (ltS S 3)) + (ltS S 4)) + (ltS S 5)))), some (.inl (iZ (5)))], [], h)) rfl ?_
  refine Ev.stc (c1 := (22, [some (.inr (.inr (.inr (11, 0, 83)))), some (.inl (iZ ((((((0 + (ltS S 0)) + (ltS S 1)) + (ltS S 2)) + (ltS S 3)) + (ltS S 4)) + (ltS S 5)))), some (.inl ((iZ (5)) + (iZ (1))))], [], h)) (c2 := (22, [some (.inr (.inr (.inr (11, 0, 83)))), some (.inl (iZ ((((((0 + (ltS S 0)) + (ltS S 1)) + (ltS S 2)) + (ltS S 3)) + (ltS S 4)) + (ltS S 5)))), some (.inl (iZ (6)))], [], h)) rfl (by rw [iZ_add]; rfl) ?_
  refine Ev.sts 3 (c' := (7, [some (.inr (.inr (.inr (11, 0, 83)))), some (.inl (iZ ((((((0 + (ltS S 0)) + (ltS S 1)) + (ltS S 2)) + (ltS S 3)) + (ltS S 4)) + (ltS S 5)))), some (.inl (iZ (6)))], [.inl (iZ (6)), .inl (iZ (6))], h)) rfl ?_
  refine Ev.brT (p := (iZ (6)) ≤ (iZ (6))) (c1 := (25, [some (.inr (.inr (.inr (11, 0, 83)))), some (.inl (iZ ((((((0 + (ltS S 0)) + (ltS S 1)) + (ltS S 2)) + (ltS S 3)) + (ltS S 4)) + (ltS S 5)))), some (.inl (iZ (6)))], [], h)) (c2 := (10, [some (.inr (.inr (.inr (11, 0, 83)))), some (.inl (iZ ((((((0 + (ltS S 0)) + (ltS S 1)) + (ltS S 2)) + (ltS S 3)) + (ltS S 4)) + (ltS S 5)))), some (.inl (iZ (6)))], [], h)) (by decide) rfl ?_
  refine Ev.sts 1 (c' := (26, [some (.inr (.inr (.inr (11, 0, 83)))), some (.inl (iZ ((((((0 + (ltS S 0)) + (ltS S 1)) + (ltS S 2)) + (ltS S 3)) + (ltS S 4)) + (ltS S 5)))), some (.inl (iZ (6)))], [.inl (iZ ((((((0 + (ltS S 0)) + (ltS S 1)) + (ltS S 2)) + (ltS S 3)) + (ltS S 4)) + (ltS S 5)))], h)) rfl ?_
  exact Ev.ret rfl (q)

theorem mx_lateInAll {d : Nat} {y : Y4} {S : Sta} {h : PH} (I : MI h S y) (W : WN S) : Rv (d + 1) 239 [.inr (.inr (.inr (11, 0, 83)))] h (some (.inl (iZ (lateA (ltS S))))) (setI h 83 0 (iZ 0)) := Rv.of fun Q q => by
  have W0 := W
  obtain ⟨⟨w1, w2, w3, w4, w5, w6⟩, w7, w8, w9, w10, w11, w12, w13, w14, w15, w16, w17, w18⟩ := W0
  have wB : bkN (bkS S) := ⟨w1, w2, w3, w4, w5, w6⟩
  have sh0 := mi_sh I
  have al := alW_len (wdS S) 6 0
  have tl5 := lnL_le (ws := wdS S) (K := 128) (fun g => (w14 g).2) 6 0
  have alB_ := alW_B (ws := wdS S) (N := 1000) (fun g _ => (w14 g).1)
  have on1 := (mi_op I).2.1
  have on2 := (mi_op I).2.2.2.1
  have tn1 := (mi_tm I).2.1
  have tn2 := (mi_tm I).2.2.2.1
  refine Ev.sts 2 (c' := (2, [some (.inr (.inr (.inr (11, 0, 83))))], [.inr (.inr (.inr (11, 0, 83))), .inr (.inr (.inr (11, 0, 83)))], h)) rfl ?_
  refine Ev.callv (a := [.inr (.inr (.inr (11, 0, 83)))]) rfl (mx_lateAll I W) ?_
  refine Ev.callv (a := [.inr (.inr (.inr (11, 0, 83))), .inl (iZ (lateA (ltS S)))]) rfl mp_told ?_
  exact Ev.ret rfl (q)

theorem mq_hourOf {d : Nat} {y : Y4} {S : Sta} {h : PH} (I : MI h S y) (W : WN S) {p : Int} {k : Nat} (hp : p = (k : Int)) (hk : k < (csS S).length) : Rv (d + 2) 242 [.inr (.inr (.inr (11, 0, 83))), .inl (iZ (p))] h (some (.inl (iZ ((csS S).getD k cd0).1))) (setI h 83 0 (iZ 0)) := Rv.of fun Q q => by
  have W0 := W
  obtain ⟨⟨w1, w2, w3, w4, w5, w6⟩, w7, w8, w9, w10, w11, w12, w13, w14, w15, w16, w17, w18⟩ := W0
  have wB : bkN (bkS S) := ⟨w1, w2, w3, w4, w5, w6⟩
  have sh0 := mi_sh I
  have al := alW_len (wdS S) 6 0
  have tl5 := lnL_le (ws := wdS S) (K := 128) (fun g => (w14 g).2) 6 0
  have alB_ := alW_B (ws := wdS S) (N := 1000) (fun g _ => (w14 g).1)
  have on1 := (mi_op I).2.1
  have on2 := (mi_op I).2.2.2.1
  have tn1 := (mi_tm I).2.1
  have tn2 := (mi_tm I).2.2.2.1
  refine Ev.sts 5 (c' := (7, [some (.inr (.inr (.inr (11, 0, 83)))), some (.inl (iZ (p)))], [.inl (iZ (p)), .inr (.inr (.inr (11, 0, 83)))], (setI h 83 0 ((iZ (0)))))) rfl ?_
  refine Ev.callw (a := [.inr (.inr (.inr (11, 0, 83))), .inl (iZ (p))]) rfl (mx_isThere (MI_th I) W ⟨by omega, by omega⟩ (fun _ => ?_) (fun z => absurd (show _ from ⟨by omega, by omega⟩) z))
  refine Ev.brF (p := (iZ (1)) = (iZ (0))) (c1 := (22, [some (.inr (.inr (.inr (11, 0, 83)))), some (.inl (iZ (p)))], [], (setI h 83 0 ((iZ (0)))))) (c2 := (13, [some (.inr (.inr (.inr (11, 0, 83)))), some (.inl (iZ (p)))], [], (setI h 83 0 ((iZ (0)))))) (by decide) rfl ?_
  refine Ev.sts 1 (c' := (14, [some (.inr (.inr (.inr (11, 0, 83)))), some (.inl (iZ (p)))], [.inr (.inr (.inr (11, 0, 83)))], (setI h 83 0 ((iZ (0)))))) rfl ?_
  refine Ev.gfr (r := (20, 120, 96)) rfl (sh_83_22 sh0) ?_
  refine Ev.sts 1 (c' := (18, [some (.inr (.inr (.inr (11, 0, 83)))), some (.inl (iZ (p)))], [.inl (iZ (p)), .inr (.inr (.inr (20, 120, 96)))], (setI h 83 0 ((iZ (0)))))) rfl ?_
  refine Ev.ldv (j := (iZ (p))) (n := 120) (w := .inl (iZ (((csS S).getD k cd0).1))) (iZ_in (by omega) (by omega) (by omega)) rfl (by rw [iZ_ix (n := k) (by omega) (by omega)]; exact congrArg vI ((mi_cs (MI_th I)).2 k (by omega)).1) ?_
  refine Ev.sts 1 (c' := (27, [some (.inr (.inr (.inr (11, 0, 83)))), some (.inl (iZ (p)))], [.inl (iZ (((csS S).getD k cd0).1))], (setI h 83 0 ((iZ (0)))))) rfl ?_
  exact Ev.ret rfl (q)

theorem mq_flocksOf {d : Nat} {y : Y4} {S : Sta} {h : PH} (I : MI h S y) (W : WN S) {p : Int} {k : Nat} (hp : p = (k : Int)) (hk : k < (csS S).length) : Rv (d + 2) 244 [.inr (.inr (.inr (11, 0, 83))), .inl (iZ (p))] h (some (.inl (bcv ((csS S).getD k cd0).2))) (setI h 83 0 (iZ 0)) := Rv.of fun Q q => by
  have W0 := W
  obtain ⟨⟨w1, w2, w3, w4, w5, w6⟩, w7, w8, w9, w10, w11, w12, w13, w14, w15, w16, w17, w18⟩ := W0
  have wB : bkN (bkS S) := ⟨w1, w2, w3, w4, w5, w6⟩
  have sh0 := mi_sh I
  have al := alW_len (wdS S) 6 0
  have tl5 := lnL_le (ws := wdS S) (K := 128) (fun g => (w14 g).2) 6 0
  have alB_ := alW_B (ws := wdS S) (N := 1000) (fun g _ => (w14 g).1)
  have on1 := (mi_op I).2.1
  have on2 := (mi_op I).2.2.2.1
  have tn1 := (mi_tm I).2.1
  have tn2 := (mi_tm I).2.2.2.1
  refine Ev.sts 5 (c' := (7, [some (.inr (.inr (.inr (11, 0, 83)))), some (.inl (iZ (p)))], [.inl (iZ (p)), .inr (.inr (.inr (11, 0, 83)))], (setI h 83 0 ((iZ (0)))))) rfl ?_
  refine Ev.callw (a := [.inr (.inr (.inr (11, 0, 83))), .inl (iZ (p))]) rfl (mx_isThere (MI_th I) W ⟨by omega, by omega⟩ (fun _ => ?_) (fun z => absurd (show _ from ⟨by omega, by omega⟩) z))
  refine Ev.brF (p := (iZ (1)) = (iZ (0))) (c1 := (25, [some (.inr (.inr (.inr (11, 0, 83)))), some (.inl (iZ (p)))], [], (setI h 83 0 ((iZ (0)))))) (c2 := (13, [some (.inr (.inr (.inr (11, 0, 83)))), some (.inl (iZ (p)))], [], (setI h 83 0 ((iZ (0)))))) (by decide) rfl ?_
  refine Ev.sts 1 (c' := (14, [some (.inr (.inr (.inr (11, 0, 83)))), some (.inl (iZ (p)))], [.inr (.inr (.inr (11, 0, 83)))], (setI h 83 0 ((iZ (0)))))) rfl ?_
  refine Ev.gfr (r := (20, 120, 97)) rfl (sh_83_23 sh0) ?_
  refine Ev.sts 1 (c' := (18, [some (.inr (.inr (.inr (11, 0, 83)))), some (.inl (iZ (p)))], [.inl (iZ (p)), .inr (.inr (.inr (20, 120, 97)))], (setI h 83 0 ((iZ (0)))))) rfl ?_
  refine Ev.ldv (j := (iZ (p))) (n := 120) (w := .inl (((csS S).getD k cd0).2)) (iZ_in (by omega) (by omega) (by omega)) rfl (by rw [iZ_ix (n := k) (by omega) (by omega)]; exact congrArg vI ((mi_cs (MI_th I)).2 k (by omega)).2) ?_
  refine Ev.callv (a := [.inl (((csS S).getD k cd0).2)]) rfl (mp_ones ⟨(w8 k hk).2.2.1, (w8 k hk).2.2.2⟩) ?_
  refine Ev.sts 1 (c' := (30, [some (.inr (.inr (.inr (11, 0, 83)))), some (.inl (iZ (p)))], [.inl ((bcv ((csS S).getD k cd0).2))], (setI h 83 0 ((iZ (0)))))) rfl ?_
  exact Ev.ret rfl (q)

theorem mz_hourOf {d : Nat} {y : Y4} {S : Sta} {h : PH} (I : MI h S y) (W : WN S) {p : Int} (hpb : -2147483648 ≤ p ∧ p < 2147483648) (hc : ¬ (0 ≤ p ∧ p < (csS S).length)) : Rv (d + 2) 242 [.inr (.inr (.inr (11, 0, 83))), .inl (iZ (p))] h (some (.inl (iZ 0))) (setI (setI h 83 0 (iZ 0)) 83 0 (iZ 1)) := Rv.of fun Q q => by
  have W0 := W
  obtain ⟨⟨w1, w2, w3, w4, w5, w6⟩, w7, w8, w9, w10, w11, w12, w13, w14, w15, w16, w17, w18⟩ := W0
  have wB : bkN (bkS S) := ⟨w1, w2, w3, w4, w5, w6⟩
  have sh0 := mi_sh I
  have al := alW_len (wdS S) 6 0
  have tl5 := lnL_le (ws := wdS S) (K := 128) (fun g => (w14 g).2) 6 0
  have alB_ := alW_B (ws := wdS S) (N := 1000) (fun g _ => (w14 g).1)
  have on1 := (mi_op I).2.1
  have on2 := (mi_op I).2.2.2.1
  have tn1 := (mi_tm I).2.1
  have tn2 := (mi_tm I).2.2.2.1
  refine Ev.sts 5 (c' := (7, [some (.inr (.inr (.inr (11, 0, 83)))), some (.inl (iZ (p)))], [.inl (iZ (p)), .inr (.inr (.inr (11, 0, 83)))], (setI h 83 0 ((iZ (0)))))) rfl ?_
  refine Ev.callw (a := [.inr (.inr (.inr (11, 0, 83))), .inl (iZ (p))]) rfl (mx_isThere (MI_th I) W ⟨by omega, by omega⟩ (fun z => absurd z hc) (fun _ => ?_))
  refine Ev.brT (p := (iZ (0)) = (iZ (0))) (c1 := (22, [some (.inr (.inr (.inr (11, 0, 83)))), some (.inl (iZ (p)))], [], (setI h 83 0 ((iZ (0)))))) (c2 := (13, [some (.inr (.inr (.inr (11, 0, 83)))), some (.inl (iZ (p)))], [], (setI h 83 0 ((iZ (0)))))) (by decide) rfl ?_
  refine Ev.sts 2 (c' := (24, [some (.inr (.inr (.inr (11, 0, 83)))), some (.inl (iZ (p)))], [.inl (iZ (1)), .inr (.inr (.inr (11, 0, 83)))], (setI h 83 0 ((iZ (0)))))) rfl ?_
  refine Ev.callv (a := [.inr (.inr (.inr (11, 0, 83))), .inl (iZ (1))]) rfl mp_fail ?_
  exact Ev.ret rfl (q)

theorem mz_flocksOf {d : Nat} {y : Y4} {S : Sta} {h : PH} (I : MI h S y) (W : WN S) {p : Int} (hpb : -2147483648 ≤ p ∧ p < 2147483648) (hc : ¬ (0 ≤ p ∧ p < (csS S).length)) : Rv (d + 2) 244 [.inr (.inr (.inr (11, 0, 83))), .inl (iZ (p))] h (some (.inl (iZ 0))) (setI (setI h 83 0 (iZ 0)) 83 0 (iZ 1)) := Rv.of fun Q q => by
  have W0 := W
  obtain ⟨⟨w1, w2, w3, w4, w5, w6⟩, w7, w8, w9, w10, w11, w12, w13, w14, w15, w16, w17, w18⟩ := W0
  have wB : bkN (bkS S) := ⟨w1, w2, w3, w4, w5, w6⟩
  have sh0 := mi_sh I
  have al := alW_len (wdS S) 6 0
  have tl5 := lnL_le (ws := wdS S) (K := 128) (fun g => (w14 g).2) 6 0
  have alB_ := alW_B (ws := wdS S) (N := 1000) (fun g _ => (w14 g).1)
  have on1 := (mi_op I).2.1
  have on2 := (mi_op I).2.2.2.1
  have tn1 := (mi_tm I).2.1
  have tn2 := (mi_tm I).2.2.2.1
  refine Ev.sts 5 (c' := (7, [some (.inr (.inr (.inr (11, 0, 83)))), some (.inl (iZ (p)))], [.inl (iZ (p)), .inr (.inr (.inr (11, 0, 83)))], (setI h 83 0 ((iZ (0)))))) rfl ?_
  refine Ev.callw (a := [.inr (.inr (.inr (11, 0, 83))), .inl (iZ (p))]) rfl (mx_isThere (MI_th I) W ⟨by omega, by omega⟩ (fun z => absurd z hc) (fun _ => ?_))
  refine Ev.brT (p := (iZ (0)) = (iZ (0))) (c1 := (25, [some (.inr (.inr (.inr (11, 0, 83)))), some (.inl (iZ (p)))], [], (setI h 83 0 ((iZ (0)))))) (c2 := (13, [some (.inr (.inr (.inr (11, 0, 83)))), some (.inl (iZ (p)))], [], (setI h 83 0 ((iZ (0)))))) (by decide) rfl ?_
  refine Ev.sts 2 (c' := (27, [some (.inr (.inr (.inr (11, 0, 83)))), some (.inl (iZ (p)))], [.inl (iZ (1)), .inr (.inr (.inr (11, 0, 83)))], (setI h 83 0 ((iZ (0)))))) rfl ?_
  refine Ev.callv (a := [.inr (.inr (.inr (11, 0, 83))), .inl (iZ (1))]) rfl mp_fail ?_
  exact Ev.ret rfl (q)

theorem szF_s (a f : Int32) (c : Int × Int32) (L : List (Int × Int32)) : (a + ((c.2 >>> (f &&& 31)) &&& iZ 1)) + iZ (szF L f) = a + iZ (szF (c :: L) f) := by
  have e : szF (c :: L) f = (if bitv c.2 f = iZ 1 then 1 else 0) + szF L f := rfl
  rw [e, Int32.add_assoc]
  congr 1
  rcases and1 (c.2 >>> (f &&& 31)) with h | h
  · have h2 : ¬ bitv c.2 f = iZ 1 := fun z => by
      have z2 : (c.2 >>> (f &&& 31)) &&& iZ 1 = iZ 1 := z
      rw [h] at z2; exact absurd z2 (by decide)
    rw [h, if_neg h2, iZ_add]
    congr 1
  · rw [h, if_pos (show bitv c.2 f = iZ 1 from h), iZ_add]
    congr 1
theorem mx_size_lp {d : Nat} {y : Y4} {S : Sta} {h : PH} {p : Int} {Q : Rs → PH → Prop} (I : MI h S y) (W : WN S) (m : Nat) : ∀ (k : Nat) (a : Int32), k ≤ (csS S).length → (csS S).length < k + m → Q (.inl (some (.inl (a + iZ (szF ((csS S).drop k) (iZ p)))))) h → Ev d 248 (4, [some (.inr (.inr (.inr (11, 0, 83)))), some (.inl (iZ (p))), some (.inl (a)), some (.inl (iZ (k)))], [], h) Q := by
  have W0 := W
  obtain ⟨⟨w1, w2, w3, w4, w5, w6⟩, w7, w8, w9, w10, w11, w12, w13, w14, w15, w16, w17, w18⟩ := W0
  have wB : bkN (bkS S) := ⟨w1, w2, w3, w4, w5, w6⟩
  have sh0 := mi_sh I
  have al := alW_len (wdS S) 6 0
  have tl5 := lnL_le (ws := wdS S) (K := 128) (fun g => (w14 g).2) 6 0
  have alB_ := alW_B (ws := wdS S) (N := 1000) (fun g _ => (w14 g).1)
  have on1 := (mi_op I).2.1
  have on2 := (mi_op I).2.2.2.1
  have tn1 := (mi_tm I).2.1
  have tn2 := (mi_tm I).2.2.2.1
  induction m with
  | zero => intro k a h1 h2 q; omega
  | succ m ih =>
    intro k a h1 h2 q
    refine Ev.sts 2 (c' := (6, [some (.inr (.inr (.inr (11, 0, 83)))), some (.inl (iZ (p))), some (.inl (a)), some (.inl (iZ (k)))], [.inr (.inr (.inr (11, 0, 83))), .inl (iZ (k))], h)) rfl ?_
    refine Ev.gv (w := (iZ ((csS S).length))) rfl (mi_cs I).1 ?_
    refine Ev.brc (p := (iZ ((csS S).length)) ≤ (iZ (k))) (q := (((csS S).length : Int)) ≤ k) (c1 := (31, [some (.inr (.inr (.inr (11, 0, 83)))), some (.inl (iZ (p))), some (.inl (a)), some (.inl (iZ (k)))], [], h)) (c2 := (12, [some (.inr (.inr (.inr (11, 0, 83)))), some (.inl (iZ (p))), some (.inl (a)), some (.inl (iZ (k)))], [], h)) rfl (iZ_le ⟨by omega, by omega⟩ ⟨by omega, by omega⟩) (fun c0 => ?_) (fun c0 => ?_)
    · refine Ev.sts 1 (c' := (32, [some (.inr (.inr (.inr (11, 0, 83)))), some (.inl (iZ (p))), some (.inl (a)), some (.inl (iZ (k)))], [.inl (a)], h)) rfl ?_
      rw [List.drop_eq_nil_of_le (show (csS S).length ≤ k by omega)] at q
      rw [show a + iZ ((szF [] (iZ p) : Nat) : Int) = a from Int32.add_zero a] at q
      exact Ev.ret rfl q
    · have e0 := drop_getD cd0 (csS S) k (by omega)
      refine Ev.sts 2 (c' := (14, [some (.inr (.inr (.inr (11, 0, 83)))), some (.inl (iZ (p))), some (.inl (a)), some (.inl (iZ (k)))], [.inr (.inr (.inr (11, 0, 83))), .inl (a)], h)) rfl ?_
      refine Ev.gfr (r := (20, 120, 97)) rfl (sh_83_23 sh0) ?_
      refine Ev.sts 1 (c' := (18, [some (.inr (.inr (.inr (11, 0, 83)))), some (.inl (iZ (p))), some (.inl (a)), some (.inl (iZ (k)))], [.inl (iZ (k)), .inr (.inr (.inr (20, 120, 97))), .inl (a)], h)) rfl ?_
      refine Ev.ldv (j := (iZ (k))) (n := 120) (w := .inl (((csS S).getD k cd0).2)) (iZ_in (by omega) (by omega) (by omega)) rfl (by rw [iZ_ix (n := k) (by omega) (by omega)]; exact congrArg vI ((mi_cs I).2 k (by omega)).2) ?_
      refine Ev.sts 6 (c' := (25, [some (.inr (.inr (.inr (11, 0, 83)))), some (.inl (iZ (p))), some (.inl ((a + ((((csS S).getD k cd0).2 >>> ((iZ (p)) &&& 31)) &&& (iZ (1)))))), some (.inl (iZ (k)))], [], h)) rfl ?_
      refine Ev.stc (c1 := (28, [some (.inr (.inr (.inr (11, 0, 83)))), some (.inl (iZ (p))), some (.inl ((a + ((((csS S).getD k cd0).2 >>> ((iZ (p)) &&& 31)) &&& (iZ (1)))))), some (.inl ((iZ (k)) + (iZ (1))))], [], h)) (c2 := (28, [some (.inr (.inr (.inr (11, 0, 83)))), some (.inl (iZ (p))), some (.inl ((a + ((((csS S).getD k cd0).2 >>> ((iZ (p)) &&& 31)) &&& (iZ (1)))))), some (.inl (iZ (k + 1)))], [], h)) rfl (by rw [iZ_add]) ?_
      refine Ev.sts 1 (c' := (4, [some (.inr (.inr (.inr (11, 0, 83)))), some (.inl (iZ (p))), some (.inl ((a + ((((csS S).getD k cd0).2 >>> ((iZ (p)) &&& 31)) &&& (iZ (1)))))), some (.inl (iZ (k + 1)))], [], h)) rfl ?_
      refine ih (k + 1) _ (by omega) (by omega) ?_
      rw [szF_s, ← e0]
      exact q

theorem mx_size {d : Nat} {y : Y4} {S : Sta} {h : PH} (I : MI h S y) (W : WN S) {p : Int} : Rv d 248 [.inr (.inr (.inr (11, 0, 83))), .inl (iZ (p))] h (some (.inl (iZ (szF (csS S) (iZ p))))) h := Rv.of fun Q q => by
  have W0 := W
  obtain ⟨⟨w1, w2, w3, w4, w5, w6⟩, w7, w8, w9, w10, w11, w12, w13, w14, w15, w16, w17, w18⟩ := W0
  have wB : bkN (bkS S) := ⟨w1, w2, w3, w4, w5, w6⟩
  have sh0 := mi_sh I
  have al := alW_len (wdS S) 6 0
  have tl5 := lnL_le (ws := wdS S) (K := 128) (fun g => (w14 g).2) 6 0
  have alB_ := alW_B (ws := wdS S) (N := 1000) (fun g _ => (w14 g).1)
  have on1 := (mi_op I).2.1
  have on2 := (mi_op I).2.2.2.1
  have tn1 := (mi_tm I).2.1
  have tn2 := (mi_tm I).2.2.2.1
  refine Ev.sts 4 (c' := (4, [some (.inr (.inr (.inr (11, 0, 83)))), some (.inl (iZ (p))), some (.inl (iZ (0))), some (.inl (iZ (0)))], [], h)) rfl ?_
  refine mx_size_lp I W ((csS S).length + 1) 0 (iZ 0) (by omega) (by omega) ?_
  rw [List.drop_zero, show iZ 0 + iZ (szF (csS S) (iZ p)) = iZ (szF (csS S) (iZ p)) from Int32.zero_add _]
  exact q

theorem mx_lt_lp {d : Nat} {y : Y4} {S : Sta} {h : PH} {p : Int} {Q : Rs → PH → Prop} (I : MI h S y) (W : WN S) (m : Nat) : ∀ (c : Int), c = (m : Int) - 1 → m ≤ (csS S).length → Q (.inl (some (.inl (iZ (ltF (csS S) (iZ p) m))))) h → Ev d 250 (7, [some (.inr (.inr (.inr (11, 0, 83)))), some (.inl (iZ (p))), some (.inl (iZ (c)))], [], h) Q := by
  have W0 := W
  obtain ⟨⟨w1, w2, w3, w4, w5, w6⟩, w7, w8, w9, w10, w11, w12, w13, w14, w15, w16, w17, w18⟩ := W0
  have wB : bkN (bkS S) := ⟨w1, w2, w3, w4, w5, w6⟩
  have sh0 := mi_sh I
  have al := alW_len (wdS S) 6 0
  have tl5 := lnL_le (ws := wdS S) (K := 128) (fun g => (w14 g).2) 6 0
  have alB_ := alW_B (ws := wdS S) (N := 1000) (fun g _ => (w14 g).1)
  have on1 := (mi_op I).2.1
  have on2 := (mi_op I).2.2.2.1
  have tn1 := (mi_tm I).2.1
  have tn2 := (mi_tm I).2.2.2.1
  induction m with
  | zero =>
    intro c h1 h2 q
    refine Ev.sts 1 (c' := (8, [some (.inr (.inr (.inr (11, 0, 83)))), some (.inl (iZ (p))), some (.inl (iZ (c)))], [.inl (iZ (c))], h)) rfl ?_
    refine Ev.brT (p := (iZ (c)) < (iZ (0))) (c1 := (30, [some (.inr (.inr (.inr (11, 0, 83)))), some (.inl (iZ (p))), some (.inl (iZ (c)))], [], h)) (c2 := (11, [some (.inr (.inr (.inr (11, 0, 83)))), some (.inl (iZ (p))), some (.inl (iZ (c)))], [], h)) ((iZ_lt ⟨by omega, by omega⟩ ⟨by omega, by omega⟩).mpr (by omega)) rfl ?_
    refine Ev.sts 1 (c' := (31, [some (.inr (.inr (.inr (11, 0, 83)))), some (.inl (iZ (p))), some (.inl (iZ (c)))], [.inl (iZ (c))], h)) rfl ?_
    rw [show c = -1 by omega]
    exact Ev.ret rfl q
  | succ k ih =>
    intro c h1 h2 q
    refine Ev.sts 1 (c' := (8, [some (.inr (.inr (.inr (11, 0, 83)))), some (.inl (iZ (p))), some (.inl (iZ (c)))], [.inl (iZ (c))], h)) rfl ?_
    refine Ev.brF (p := (iZ (c)) < (iZ (0))) (c1 := (30, [some (.inr (.inr (.inr (11, 0, 83)))), some (.inl (iZ (p))), some (.inl (iZ (c)))], [], h)) (c2 := (11, [some (.inr (.inr (.inr (11, 0, 83)))), some (.inl (iZ (p))), some (.inl (iZ (c)))], [], h)) (fun c_ => absurd ((iZ_lt ⟨by omega, by omega⟩ ⟨by omega, by omega⟩).mp c_) (by omega)) rfl ?_
    refine Ev.sts 1 (c' := (12, [some (.inr (.inr (.inr (11, 0, 83)))), some (.inl (iZ (p))), some (.inl (iZ (c)))], [.inr (.inr (.inr (11, 0, 83)))], h)) rfl ?_
    refine Ev.gfr (r := (20, 120, 97)) rfl (sh_83_23 sh0) ?_
    refine Ev.sts 1 (c' := (16, [some (.inr (.inr (.inr (11, 0, 83)))), some (.inl (iZ (p))), some (.inl (iZ (c)))], [.inl (iZ (c)), .inr (.inr (.inr (20, 120, 97)))], h)) rfl ?_
    refine Ev.ldv (j := (iZ (c))) (n := 120) (w := .inl (((csS S).getD k cd0).2)) (iZ_in (by omega) (by omega) (by omega)) rfl (by rw [iZ_ix (n := k) (by omega) (by omega)]; exact congrArg vI ((mi_cs I).2 k (by omega)).2) ?_
    refine Ev.sts 4 (c' := (21, [some (.inr (.inr (.inr (11, 0, 83)))), some (.inl (iZ (p))), some (.inl (iZ (c)))], [.inl (((((csS S).getD k cd0).2 >>> ((iZ (p)) &&& 31)) &&& (iZ (1))))], h)) rfl ?_
    refine Ev.br (p := ¬ ((((csS S).getD k cd0).2 >>> ((iZ (p)) &&& 31)) &&& (iZ (1))) = (iZ (0))) (c1 := (30, [some (.inr (.inr (.inr (11, 0, 83)))), some (.inl (iZ (p))), some (.inl (iZ (c)))], [], h)) (c2 := (24, [some (.inr (.inr (.inr (11, 0, 83)))), some (.inl (iZ (p))), some (.inl (iZ (c)))], [], h)) rfl (fun c0 => ?_) (fun c0 => ?_)
    · have hb : bitv ((csS S).getD k cd0).2 (iZ p) = iZ 1 := (and1 (((csS S).getD k cd0).2 >>> (iZ p &&& 31))).elim (fun e => absurd e c0) (fun e => e)
      rw [show ltF (csS S) (iZ p) (k + 1) = (k : Int) from if_pos hb] at q
      rw [show c = (k : Int) by omega]
      exact Ev.sts 1 (c' := (31, [some (.inr (.inr (.inr (11, 0, 83)))), some (.inl (iZ (p))), some (.inl (iZ (k)))], [.inl (iZ (k))], h)) rfl (Ev.ret rfl q)
    · refine Ev.stc (c1 := (27, [some (.inr (.inr (.inr (11, 0, 83)))), some (.inl (iZ (p))), some (.inl ((iZ (c)) + (iZ (-1))))], [], h)) (c2 := (27, [some (.inr (.inr (.inr (11, 0, 83)))), some (.inl (iZ (p))), some (.inl (iZ (c + (-1))))], [], h)) rfl (by rw [iZ_add]) ?_
      refine Ev.sts 1 (c' := (7, [some (.inr (.inr (.inr (11, 0, 83)))), some (.inl (iZ (p))), some (.inl (iZ (c + (-1))))], [], h)) rfl ?_
      have hb : ¬ bitv ((csS S).getD k cd0).2 (iZ p) = iZ 1 := fun z => by
        have z1 : (((csS S).getD k cd0).2 >>> (iZ p &&& 31)) &&& iZ 1 = iZ 1 := z
        have z2 := Classical.not_not.mp c0
        rw [z1] at z2
        exact absurd z2 (by decide)
      rw [show ltF (csS S) (iZ p) (k + 1) = ltF (csS S) (iZ p) k from if_neg hb] at q
      exact ih (c + -1) (by omega) (by omega) q

theorem mx_latest {d : Nat} {y : Y4} {S : Sta} {h : PH} (I : MI h S y) (W : WN S) {p : Int} : Rv d 250 [.inr (.inr (.inr (11, 0, 83))), .inl (iZ (p))] h (some (.inl (iZ (ltF (csS S) (iZ p) (csS S).length)))) h := Rv.of fun Q q => by
  have W0 := W
  obtain ⟨⟨w1, w2, w3, w4, w5, w6⟩, w7, w8, w9, w10, w11, w12, w13, w14, w15, w16, w17, w18⟩ := W0
  have wB : bkN (bkS S) := ⟨w1, w2, w3, w4, w5, w6⟩
  have sh0 := mi_sh I
  have al := alW_len (wdS S) 6 0
  have tl5 := lnL_le (ws := wdS S) (K := 128) (fun g => (w14 g).2) 6 0
  have alB_ := alW_B (ws := wdS S) (N := 1000) (fun g _ => (w14 g).1)
  have on1 := (mi_op I).2.1
  have on2 := (mi_op I).2.2.2.1
  have tn1 := (mi_tm I).2.1
  have tn2 := (mi_tm I).2.2.2.1
  refine Ev.sts 1 (c' := (1, [some (.inr (.inr (.inr (11, 0, 83)))), some (.inl (iZ (p))), none], [.inr (.inr (.inr (11, 0, 83)))], h)) rfl ?_
  refine Ev.gv (w := (iZ ((csS S).length))) rfl (mi_cs I).1 ?_
  refine Ev.sts 1 (c' := (5, [some (.inr (.inr (.inr (11, 0, 83)))), some (.inl (iZ (p))), none], [.inl (iZ (1)), .inl (iZ ((csS S).length))], h)) rfl ?_
  refine Ev.gv (w := (iZ (((csS S).length) - 1))) rfl (iZ_sub _ _) ?_
  refine Ev.sts 1 (c' := (7, [some (.inr (.inr (.inr (11, 0, 83)))), some (.inl (iZ (p))), some (.inl (iZ (((csS S).length) - 1)))], [], h)) rfl ?_
  exact mx_lt_lp I W (csS S).length _ (by omega) (Nat.le_refl _) q

theorem mq_sizeOf {d : Nat} {y : Y4} {S : Sta} {h : PH} (I : MI h S y) (W : WN S) {p : Int} (hc : 0 ≤ p ∧ p < (bkS S).2.1.length) : Rv (d + 2) 247 [.inr (.inr (.inr (11, 0, 83))), .inl (iZ (p))] h (some (.inl (iZ (szF (csS S) (iZ p))))) (setI h 83 0 (iZ 0)) := Rv.of fun Q q => by
  have W0 := W
  obtain ⟨⟨w1, w2, w3, w4, w5, w6⟩, w7, w8, w9, w10, w11, w12, w13, w14, w15, w16, w17, w18⟩ := W0
  have wB : bkN (bkS S) := ⟨w1, w2, w3, w4, w5, w6⟩
  have sh0 := mi_sh I
  have al := alW_len (wdS S) 6 0
  have tl5 := lnL_le (ws := wdS S) (K := 128) (fun g => (w14 g).2) 6 0
  have alB_ := alW_B (ws := wdS S) (N := 1000) (fun g _ => (w14 g).1)
  have on1 := (mi_op I).2.1
  have on2 := (mi_op I).2.2.2.1
  have tn1 := (mi_tm I).2.1
  have tn2 := (mi_tm I).2.2.2.1
  refine Ev.sts 5 (c' := (7, [some (.inr (.inr (.inr (11, 0, 83)))), some (.inl (iZ (p)))], [.inl (iZ (p)), .inr (.inr (.inr (11, 0, 83)))], (setI h 83 0 ((iZ (0)))))) rfl ?_
  refine Ev.callw (a := [.inr (.inr (.inr (11, 0, 83))), .inl (iZ (p))]) rfl (mp_isFlock (MI_th I) W ⟨by omega, by omega⟩ (fun _ => ?_) (fun z => absurd hc z))
  refine Ev.brF (p := (iZ (1)) = (iZ (0))) (c1 := (21, [some (.inr (.inr (.inr (11, 0, 83)))), some (.inl (iZ (p)))], [], (setI h 83 0 ((iZ (0)))))) (c2 := (13, [some (.inr (.inr (.inr (11, 0, 83)))), some (.inl (iZ (p)))], [], (setI h 83 0 ((iZ (0)))))) (by decide) rfl ?_
  refine Ev.sts 2 (c' := (15, [some (.inr (.inr (.inr (11, 0, 83)))), some (.inl (iZ (p)))], [.inl (iZ (p)), .inr (.inr (.inr (11, 0, 83)))], (setI h 83 0 ((iZ (0)))))) rfl ?_
  refine Ev.callv (a := [.inr (.inr (.inr (11, 0, 83))), .inl (iZ (p))]) rfl (mx_size (MI_th I) W) ?_
  refine Ev.sts 1 (c' := (26, [some (.inr (.inr (.inr (11, 0, 83)))), some (.inl (iZ (p)))], [.inl (iZ (szF (csS S) (iZ p)))], (setI h 83 0 ((iZ (0)))))) rfl ?_
  exact Ev.ret rfl (q)

theorem mz_sizeOf {d : Nat} {y : Y4} {S : Sta} {h : PH} (I : MI h S y) (W : WN S) {p : Int} (hpb : -2147483648 ≤ p ∧ p < 2147483648) (hc : ¬ (0 ≤ p ∧ p < (bkS S).2.1.length)) : Rv (d + 2) 247 [.inr (.inr (.inr (11, 0, 83))), .inl (iZ (p))] h (some (.inl (iZ 0))) (setI (setI h 83 0 (iZ 0)) 83 0 (iZ 1)) := Rv.of fun Q q => by
  have W0 := W
  obtain ⟨⟨w1, w2, w3, w4, w5, w6⟩, w7, w8, w9, w10, w11, w12, w13, w14, w15, w16, w17, w18⟩ := W0
  have wB : bkN (bkS S) := ⟨w1, w2, w3, w4, w5, w6⟩
  have sh0 := mi_sh I
  have al := alW_len (wdS S) 6 0
  have tl5 := lnL_le (ws := wdS S) (K := 128) (fun g => (w14 g).2) 6 0
  have alB_ := alW_B (ws := wdS S) (N := 1000) (fun g _ => (w14 g).1)
  have on1 := (mi_op I).2.1
  have on2 := (mi_op I).2.2.2.1
  have tn1 := (mi_tm I).2.1
  have tn2 := (mi_tm I).2.2.2.1
  refine Ev.sts 5 (c' := (7, [some (.inr (.inr (.inr (11, 0, 83)))), some (.inl (iZ (p)))], [.inl (iZ (p)), .inr (.inr (.inr (11, 0, 83)))], (setI h 83 0 ((iZ (0)))))) rfl ?_
  refine Ev.callw (a := [.inr (.inr (.inr (11, 0, 83))), .inl (iZ (p))]) rfl (mp_isFlock (MI_th I) W ⟨by omega, by omega⟩ (fun z => absurd z hc) (fun _ => ?_))
  refine Ev.brT (p := (iZ (0)) = (iZ (0))) (c1 := (21, [some (.inr (.inr (.inr (11, 0, 83)))), some (.inl (iZ (p)))], [], (setI h 83 0 ((iZ (0)))))) (c2 := (13, [some (.inr (.inr (.inr (11, 0, 83)))), some (.inl (iZ (p)))], [], (setI h 83 0 ((iZ (0)))))) (by decide) rfl ?_
  refine Ev.sts 2 (c' := (23, [some (.inr (.inr (.inr (11, 0, 83)))), some (.inl (iZ (p)))], [.inl (iZ (1)), .inr (.inr (.inr (11, 0, 83)))], (setI h 83 0 ((iZ (0)))))) rfl ?_
  refine Ev.callv (a := [.inr (.inr (.inr (11, 0, 83))), .inl (iZ (1))]) rfl mp_fail ?_
  exact Ev.ret rfl (q)

theorem mq_latestIn {d : Nat} {y : Y4} {S : Sta} {h : PH} (I : MI h S y) (W : WN S) {p : Int} (hc : 0 ≤ p ∧ p < (bkS S).2.1.length) : Rv (d + 2) 249 [.inr (.inr (.inr (11, 0, 83))), .inl (iZ (p))] h (some (.inl (iZ (ltF (csS S) (iZ p) (csS S).length)))) (setI h 83 0 (iZ 0)) := Rv.of fun Q q => by
  have W0 := W
  obtain ⟨⟨w1, w2, w3, w4, w5, w6⟩, w7, w8, w9, w10, w11, w12, w13, w14, w15, w16, w17, w18⟩ := W0
  have wB : bkN (bkS S) := ⟨w1, w2, w3, w4, w5, w6⟩
  have sh0 := mi_sh I
  have al := alW_len (wdS S) 6 0
  have tl5 := lnL_le (ws := wdS S) (K := 128) (fun g => (w14 g).2) 6 0
  have alB_ := alW_B (ws := wdS S) (N := 1000) (fun g _ => (w14 g).1)
  have on1 := (mi_op I).2.1
  have on2 := (mi_op I).2.2.2.1
  have tn1 := (mi_tm I).2.1
  have tn2 := (mi_tm I).2.2.2.1
  refine Ev.sts 5 (c' := (7, [some (.inr (.inr (.inr (11, 0, 83)))), some (.inl (iZ (p)))], [.inl (iZ (p)), .inr (.inr (.inr (11, 0, 83)))], (setI h 83 0 ((iZ (0)))))) rfl ?_
  refine Ev.callw (a := [.inr (.inr (.inr (11, 0, 83))), .inl (iZ (p))]) rfl (mp_isFlock (MI_th I) W ⟨by omega, by omega⟩ (fun _ => ?_) (fun z => absurd hc z))
  refine Ev.brF (p := (iZ (1)) = (iZ (0))) (c1 := (21, [some (.inr (.inr (.inr (11, 0, 83)))), some (.inl (iZ (p)))], [], (setI h 83 0 ((iZ (0)))))) (c2 := (13, [some (.inr (.inr (.inr (11, 0, 83)))), some (.inl (iZ (p)))], [], (setI h 83 0 ((iZ (0)))))) (by decide) rfl ?_
  refine Ev.sts 2 (c' := (15, [some (.inr (.inr (.inr (11, 0, 83)))), some (.inl (iZ (p)))], [.inl (iZ (p)), .inr (.inr (.inr (11, 0, 83)))], (setI h 83 0 ((iZ (0)))))) rfl ?_
  refine Ev.callv (a := [.inr (.inr (.inr (11, 0, 83))), .inl (iZ (p))]) rfl (mx_latest (MI_th I) W) ?_
  refine Ev.sts 1 (c' := (26, [some (.inr (.inr (.inr (11, 0, 83)))), some (.inl (iZ (p)))], [.inl (iZ (ltF (csS S) (iZ p) (csS S).length))], (setI h 83 0 ((iZ (0)))))) rfl ?_
  exact Ev.ret rfl (q)

theorem mz_latestIn {d : Nat} {y : Y4} {S : Sta} {h : PH} (I : MI h S y) (W : WN S) {p : Int} (hpb : -2147483648 ≤ p ∧ p < 2147483648) (hc : ¬ (0 ≤ p ∧ p < (bkS S).2.1.length)) : Rv (d + 2) 249 [.inr (.inr (.inr (11, 0, 83))), .inl (iZ (p))] h (some (.inl (iZ 0))) (setI (setI h 83 0 (iZ 0)) 83 0 (iZ 1)) := Rv.of fun Q q => by
  have W0 := W
  obtain ⟨⟨w1, w2, w3, w4, w5, w6⟩, w7, w8, w9, w10, w11, w12, w13, w14, w15, w16, w17, w18⟩ := W0
  have wB : bkN (bkS S) := ⟨w1, w2, w3, w4, w5, w6⟩
  have sh0 := mi_sh I
  have al := alW_len (wdS S) 6 0
  have tl5 := lnL_le (ws := wdS S) (K := 128) (fun g => (w14 g).2) 6 0
  have alB_ := alW_B (ws := wdS S) (N := 1000) (fun g _ => (w14 g).1)
  have on1 := (mi_op I).2.1
  have on2 := (mi_op I).2.2.2.1
  have tn1 := (mi_tm I).2.1
  have tn2 := (mi_tm I).2.2.2.1
  refine Ev.sts 5 (c' := (7, [some (.inr (.inr (.inr (11, 0, 83)))), some (.inl (iZ (p)))], [.inl (iZ (p)), .inr (.inr (.inr (11, 0, 83)))], (setI h 83 0 ((iZ (0)))))) rfl ?_
  refine Ev.callw (a := [.inr (.inr (.inr (11, 0, 83))), .inl (iZ (p))]) rfl (mp_isFlock (MI_th I) W ⟨by omega, by omega⟩ (fun z => absurd z hc) (fun _ => ?_))
  refine Ev.brT (p := (iZ (0)) = (iZ (0))) (c1 := (21, [some (.inr (.inr (.inr (11, 0, 83)))), some (.inl (iZ (p)))], [], (setI h 83 0 ((iZ (0)))))) (c2 := (13, [some (.inr (.inr (.inr (11, 0, 83)))), some (.inl (iZ (p)))], [], (setI h 83 0 ((iZ (0)))))) (by decide) rfl ?_
  refine Ev.sts 2 (c' := (23, [some (.inr (.inr (.inr (11, 0, 83)))), some (.inl (iZ (p)))], [.inl (iZ (1)), .inr (.inr (.inr (11, 0, 83)))], (setI h 83 0 ((iZ (0)))))) rfl ?_
  refine Ev.callv (a := [.inr (.inr (.inr (11, 0, 83))), .inl (iZ (1))]) rfl mp_fail ?_
  exact Ev.ret rfl (q)

theorem mq_lateFor {d : Nat} {y : Y4} {S : Sta} {h : PH} (I : MI h S y) (W : WN S) {p : Int} {g : Nat} (hp : p = (g : Int)) (hc : g < (bkS S).2.2.length) : Rv (d + 2) 253 [.inr (.inr (.inr (11, 0, 83))), .inl (iZ (p))] h (some (.inl (iZ (ltS S g)))) (setI h 83 0 (iZ 0)) := Rv.of fun Q q => by
  have W0 := W
  obtain ⟨⟨w1, w2, w3, w4, w5, w6⟩, w7, w8, w9, w10, w11, w12, w13, w14, w15, w16, w17, w18⟩ := W0
  have wB : bkN (bkS S) := ⟨w1, w2, w3, w4, w5, w6⟩
  have sh0 := mi_sh I
  have al := alW_len (wdS S) 6 0
  have tl5 := lnL_le (ws := wdS S) (K := 128) (fun g => (w14 g).2) 6 0
  have alB_ := alW_B (ws := wdS S) (N := 1000) (fun g _ => (w14 g).1)
  have on1 := (mi_op I).2.1
  have on2 := (mi_op I).2.2.2.1
  have tn1 := (mi_tm I).2.1
  have tn2 := (mi_tm I).2.2.2.1
  have hg : g < 6 := by omega
  refine Ev.sts 5 (c' := (7, [some (.inr (.inr (.inr (11, 0, 83)))), some (.inl (iZ (p)))], [.inl (iZ (p)), .inr (.inr (.inr (11, 0, 83)))], (setI h 83 0 ((iZ (0)))))) rfl ?_
  refine Ev.callw (a := [.inr (.inr (.inr (11, 0, 83))), .inl (iZ (p))]) rfl (mx_isGoose (MI_th I) W ⟨by omega, by omega⟩ (fun _ => ?_) (fun z => absurd (show _ from ⟨by omega, by omega⟩) z))
  refine Ev.brF (p := (iZ (1)) = (iZ (0))) (c1 := (22, [some (.inr (.inr (.inr (11, 0, 83)))), some (.inl (iZ (p)))], [], (setI h 83 0 ((iZ (0)))))) (c2 := (13, [some (.inr (.inr (.inr (11, 0, 83)))), some (.inl (iZ (p)))], [], (setI h 83 0 ((iZ (0)))))) (by decide) rfl ?_
  refine Ev.sts 1 (c' := (14, [some (.inr (.inr (.inr (11, 0, 83)))), some (.inl (iZ (p)))], [.inr (.inr (.inr (11, 0, 83)))], (setI h 83 0 ((iZ (0)))))) rfl ?_
  refine Ev.gfr (r := (20, 6, 99)) rfl (sh_83_28 sh0) ?_
  refine Ev.sts 1 (c' := (18, [some (.inr (.inr (.inr (11, 0, 83)))), some (.inl (iZ (p)))], [.inl (iZ (p)), .inr (.inr (.inr (20, 6, 99)))], (setI h 83 0 ((iZ (0)))))) rfl ?_
  refine Ev.ldv (j := (iZ (p))) (n := 6) (w := .inl (iZ ((ltS S g)))) (iZ_in (by omega) (by omega) (by omega)) rfl (by rw [iZ_ix (n := g) (by omega) (by omega)]; exact congrArg vI (mi_lt (MI_th I) g hg)) ?_
  refine Ev.sts 1 (c' := (27, [some (.inr (.inr (.inr (11, 0, 83)))), some (.inl (iZ (p)))], [.inl (iZ ((ltS S g)))], (setI h 83 0 ((iZ (0)))))) rfl ?_
  exact Ev.ret rfl (q)

theorem mq_flockOf {d : Nat} {y : Y4} {S : Sta} {h : PH} (I : MI h S y) (W : WN S) {p : Int} {g : Nat} (hp : p = (g : Int)) (hc : g < (bkS S).2.2.length) : Rv (d + 2) 251 [.inr (.inr (.inr (11, 0, 83))), .inl (iZ (p))] h (some (.inl (iZ ((bkS S).2.2.getD g g0).1))) (setI h 83 0 (iZ 0)) := Rv.of fun Q q => by
  have W0 := W
  obtain ⟨⟨w1, w2, w3, w4, w5, w6⟩, w7, w8, w9, w10, w11, w12, w13, w14, w15, w16, w17, w18⟩ := W0
  have wB : bkN (bkS S) := ⟨w1, w2, w3, w4, w5, w6⟩
  have sh0 := mi_sh I
  have al := alW_len (wdS S) 6 0
  have tl5 := lnL_le (ws := wdS S) (K := 128) (fun g => (w14 g).2) 6 0
  have alB_ := alW_B (ws := wdS S) (N := 1000) (fun g _ => (w14 g).1)
  have on1 := (mi_op I).2.1
  have on2 := (mi_op I).2.2.2.1
  have tn1 := (mi_tm I).2.1
  have tn2 := (mi_tm I).2.2.2.1
  have hg : g < 6 := by omega
  refine Ev.sts 5 (c' := (7, [some (.inr (.inr (.inr (11, 0, 83)))), some (.inl (iZ (p)))], [.inl (iZ (p)), .inr (.inr (.inr (11, 0, 83)))], (setI h 83 0 ((iZ (0)))))) rfl ?_
  refine Ev.callw (a := [.inr (.inr (.inr (11, 0, 83))), .inl (iZ (p))]) rfl (mx_isGoose (MI_th I) W ⟨by omega, by omega⟩ (fun _ => ?_) (fun z => absurd (show _ from ⟨by omega, by omega⟩) z))
  refine Ev.brF (p := (iZ (1)) = (iZ (0))) (c1 := (22, [some (.inr (.inr (.inr (11, 0, 83)))), some (.inl (iZ (p)))], [], (setI h 83 0 ((iZ (0)))))) (c2 := (13, [some (.inr (.inr (.inr (11, 0, 83)))), some (.inl (iZ (p)))], [], (setI h 83 0 ((iZ (0)))))) (by decide) rfl ?_
  refine Ev.sts 3 (c' := (16, [some (.inr (.inr (.inr (11, 0, 83)))), some (.inl (iZ (p)))], [.inl (iZ (0)), .inl (iZ (p)), .inr (.inr (.inr (11, 0, 83)))], (setI h 83 0 ((iZ (0)))))) rfl ?_
  refine Ev.callv (a := [.inr (.inr (.inr (11, 0, 83))), .inl (iZ (p)), .inl (iZ (0))]) rfl (mp_of0 (g := g) (y := ((bkS S).2.2.getD g g0).1) (mi_sh (MI_th I)) hg (by omega) ((mi_bk (MI_th I)).2.2.2.2.2 g hc).1) ?_
  refine Ev.sts 1 (c' := (27, [some (.inr (.inr (.inr (11, 0, 83)))), some (.inl (iZ (p)))], [.inl (iZ (((bkS S).2.2.getD g g0).1))], (setI h 83 0 ((iZ (0)))))) rfl ?_
  exact Ev.ret rfl (q)

theorem mz_lateFor {d : Nat} {y : Y4} {S : Sta} {h : PH} (I : MI h S y) (W : WN S) {p : Int} (hpb : -2147483648 ≤ p ∧ p < 2147483648) (hc : ¬ (0 ≤ p ∧ p < (bkS S).2.2.length)) : Rv (d + 2) 253 [.inr (.inr (.inr (11, 0, 83))), .inl (iZ (p))] h (some (.inl (iZ 0))) (setI (setI h 83 0 (iZ 0)) 83 0 (iZ 1)) := Rv.of fun Q q => by
  have W0 := W
  obtain ⟨⟨w1, w2, w3, w4, w5, w6⟩, w7, w8, w9, w10, w11, w12, w13, w14, w15, w16, w17, w18⟩ := W0
  have wB : bkN (bkS S) := ⟨w1, w2, w3, w4, w5, w6⟩
  have sh0 := mi_sh I
  have al := alW_len (wdS S) 6 0
  have tl5 := lnL_le (ws := wdS S) (K := 128) (fun g => (w14 g).2) 6 0
  have alB_ := alW_B (ws := wdS S) (N := 1000) (fun g _ => (w14 g).1)
  have on1 := (mi_op I).2.1
  have on2 := (mi_op I).2.2.2.1
  have tn1 := (mi_tm I).2.1
  have tn2 := (mi_tm I).2.2.2.1
  refine Ev.sts 5 (c' := (7, [some (.inr (.inr (.inr (11, 0, 83)))), some (.inl (iZ (p)))], [.inl (iZ (p)), .inr (.inr (.inr (11, 0, 83)))], (setI h 83 0 ((iZ (0)))))) rfl ?_
  refine Ev.callw (a := [.inr (.inr (.inr (11, 0, 83))), .inl (iZ (p))]) rfl (mx_isGoose (MI_th I) W ⟨by omega, by omega⟩ (fun z => absurd z hc) (fun _ => ?_))
  refine Ev.brT (p := (iZ (0)) = (iZ (0))) (c1 := (22, [some (.inr (.inr (.inr (11, 0, 83)))), some (.inl (iZ (p)))], [], (setI h 83 0 ((iZ (0)))))) (c2 := (13, [some (.inr (.inr (.inr (11, 0, 83)))), some (.inl (iZ (p)))], [], (setI h 83 0 ((iZ (0)))))) (by decide) rfl ?_
  refine Ev.sts 2 (c' := (24, [some (.inr (.inr (.inr (11, 0, 83)))), some (.inl (iZ (p)))], [.inl (iZ (1)), .inr (.inr (.inr (11, 0, 83)))], (setI h 83 0 ((iZ (0)))))) rfl ?_
  refine Ev.callv (a := [.inr (.inr (.inr (11, 0, 83))), .inl (iZ (1))]) rfl mp_fail ?_
  exact Ev.ret rfl (q)

theorem mz_flockOf {d : Nat} {y : Y4} {S : Sta} {h : PH} (I : MI h S y) (W : WN S) {p : Int} (hpb : -2147483648 ≤ p ∧ p < 2147483648) (hc : ¬ (0 ≤ p ∧ p < (bkS S).2.2.length)) : Rv (d + 2) 251 [.inr (.inr (.inr (11, 0, 83))), .inl (iZ (p))] h (some (.inl (iZ 0))) (setI (setI h 83 0 (iZ 0)) 83 0 (iZ 1)) := Rv.of fun Q q => by
  have W0 := W
  obtain ⟨⟨w1, w2, w3, w4, w5, w6⟩, w7, w8, w9, w10, w11, w12, w13, w14, w15, w16, w17, w18⟩ := W0
  have wB : bkN (bkS S) := ⟨w1, w2, w3, w4, w5, w6⟩
  have sh0 := mi_sh I
  have al := alW_len (wdS S) 6 0
  have tl5 := lnL_le (ws := wdS S) (K := 128) (fun g => (w14 g).2) 6 0
  have alB_ := alW_B (ws := wdS S) (N := 1000) (fun g _ => (w14 g).1)
  have on1 := (mi_op I).2.1
  have on2 := (mi_op I).2.2.2.1
  have tn1 := (mi_tm I).2.1
  have tn2 := (mi_tm I).2.2.2.1
  refine Ev.sts 5 (c' := (7, [some (.inr (.inr (.inr (11, 0, 83)))), some (.inl (iZ (p)))], [.inl (iZ (p)), .inr (.inr (.inr (11, 0, 83)))], (setI h 83 0 ((iZ (0)))))) rfl ?_
  refine Ev.callw (a := [.inr (.inr (.inr (11, 0, 83))), .inl (iZ (p))]) rfl (mx_isGoose (MI_th I) W ⟨by omega, by omega⟩ (fun z => absurd z hc) (fun _ => ?_))
  refine Ev.brT (p := (iZ (0)) = (iZ (0))) (c1 := (22, [some (.inr (.inr (.inr (11, 0, 83)))), some (.inl (iZ (p)))], [], (setI h 83 0 ((iZ (0)))))) (c2 := (13, [some (.inr (.inr (.inr (11, 0, 83)))), some (.inl (iZ (p)))], [], (setI h 83 0 ((iZ (0)))))) (by decide) rfl ?_
  refine Ev.sts 2 (c' := (24, [some (.inr (.inr (.inr (11, 0, 83)))), some (.inl (iZ (p)))], [.inl (iZ (1)), .inr (.inr (.inr (11, 0, 83)))], (setI h 83 0 ((iZ (0)))))) rfl ?_
  refine Ev.callv (a := [.inr (.inr (.inr (11, 0, 83))), .inl (iZ (1))]) rfl mp_fail ?_
  exact Ev.ret rfl (q)

theorem mx_tell0 {d : Nat} {y : Y4} {S : Sta} {h : PH} (I : MI h S y) (W : WN S) {p : Int} {k : Nat} (hp : p = (k : Int)) (hk : k < (tlS S).length) : Rv (d + 1) 262 [.inr (.inr (.inr (11, 0, 83))), .inl (iZ (p)), .inl (iZ (0))] h (some (.inl (iZ ((tlS S).getD k t0).1))) (setI h 83 0 (iZ 0)) := Rv.of fun Q q => by
  have W0 := W
  obtain ⟨⟨w1, w2, w3, w4, w5, w6⟩, w7, w8, w9, w10, w11, w12, w13, w14, w15, w16, w17, w18⟩ := W0
  have wB : bkN (bkS S) := ⟨w1, w2, w3, w4, w5, w6⟩
  have sh0 := mi_sh I
  have al := alW_len (wdS S) 6 0
  have tl5 := lnL_le (ws := wdS S) (K := 128) (fun g => (w14 g).2) 6 0
  have alB_ := alW_B (ws := wdS S) (N := 1000) (fun g _ => (w14 g).1)
  have on1 := (mi_op I).2.1
  have on2 := (mi_op I).2.2.2.1
  have tn1 := (mi_tm I).2.1
  have tn2 := (mi_tm I).2.2.2.1
  refine Ev.sts 6 (c' := (8, [some (.inr (.inr (.inr (11, 0, 83)))), some (.inl (iZ (p))), some (.inl (iZ (0)))], [.inr (.inr (.inr (11, 0, 83))), .inl (iZ (0)), .inl (iZ (p))], (setI h 83 0 ((iZ (0)))))) rfl ?_
  refine Ev.gv (w := (iZ ((tlS S).length))) rfl (mi_tm (MI_th I)).1 ?_
  refine Ev.sts 1 (c' := (12, [some (.inr (.inr (.inr (11, 0, 83)))), some (.inl (iZ (p))), some (.inl (iZ (0)))], [.inl (iZ (1)), .inl (iZ ((tlS S).length)), .inl (iZ (0)), .inl (iZ (p))], (setI h 83 0 ((iZ (0)))))) rfl ?_
  refine Ev.gv (w := (iZ (((tlS S).length) - 1))) rfl (iZ_sub _ _) ?_
  refine Ev.callw (a := [.inl (iZ (p)), .inl (iZ (0)), .inl (iZ (((tlS S).length) - 1))]) rfl (mp_isIn ⟨by omega, by omega⟩ ⟨by omega, by omega⟩ ⟨by omega, by omega⟩ (fun _ => ?_) (fun z => absurd (show _ from ⟨by omega, by omega⟩) z))
  refine Ev.brF (p := (iZ (1)) = (iZ (0))) (c1 := (32, [some (.inr (.inr (.inr (11, 0, 83)))), some (.inl (iZ (p))), some (.inl (iZ (0)))], [], (setI h 83 0 ((iZ (0)))))) (c2 := (19, [some (.inr (.inr (.inr (11, 0, 83)))), some (.inl (iZ (p))), some (.inl (iZ (0)))], [], (setI h 83 0 ((iZ (0)))))) (by decide) rfl ?_
  refine Ev.sts 1 (c' := (20, [some (.inr (.inr (.inr (11, 0, 83)))), some (.inl (iZ (p))), some (.inl (iZ (0)))], [.inr (.inr (.inr (11, 0, 83)))], (setI h 83 0 ((iZ (0)))))) rfl ?_
  refine Ev.gfr (r := (20, y.2.2.1, y.2.2.2)) rfl (mi_tm I).2.2.2.2.1 ?_
  refine Ev.sts 2 (c' := (25, [some (.inr (.inr (.inr (11, 0, 83)))), some (.inl (iZ (p))), some (.inl (iZ (0)))], [.inl (iZ (p)), .inl (iZ (5)), .inr (.inr (.inr (20, y.2.2.1, y.2.2.2)))], (setI h 83 0 ((iZ (0)))))) rfl ?_
  refine Ev.gv (w := (iZ (5 * p))) rfl (iZ_mul _ _) ?_
  refine Ev.sts 1 (c' := (27, [some (.inr (.inr (.inr (11, 0, 83)))), some (.inl (iZ (p))), some (.inl (iZ (0)))], [.inl (iZ (0)), .inl (iZ (5 * p)), .inr (.inr (.inr (20, y.2.2.1, y.2.2.2)))], (setI h 83 0 ((iZ (0)))))) rfl ?_
  refine Ev.gv (w := (iZ ((5 * p) + 0))) rfl (iZ_add _ _) ?_
  refine Ev.ldv (j := (iZ ((5 * p) + 0))) (n := y.2.2.1) (w := .inl (iZ (((tlS S).getD k t0).1))) (iZ_in (by omega) (by omega) (by omega)) rfl (by rw [iZ_ix (n := (5 * k) + 0) (by omega) (by omega)]; exact congrArg vI ((mi_tm (MI_th I)).2.2.2.2.2.2 k (by omega)).1) ?_
  refine Ev.sts 1 (c' := (37, [some (.inr (.inr (.inr (11, 0, 83)))), some (.inl (iZ (p))), some (.inl (iZ (0)))], [.inl (iZ (((tlS S).getD k t0).1))], (setI h 83 0 ((iZ (0)))))) rfl ?_
  exact Ev.ret rfl (q)

theorem mq_tellingGoose {d : Nat} {y : Y4} {S : Sta} {h : PH} (I : MI h S y) (W : WN S) {p : Int} {k : Nat} (hp : p = (k : Int)) (hk : k < (tlS S).length) : Rv (d + 2) 261 [.inr (.inr (.inr (11, 0, 83))), .inl (iZ (p))] h (some (.inl (iZ ((tlS S).getD k t0).1))) (setI h 83 0 (iZ 0)) := Rv.of fun Q q => by
  have W0 := W
  obtain ⟨⟨w1, w2, w3, w4, w5, w6⟩, w7, w8, w9, w10, w11, w12, w13, w14, w15, w16, w17, w18⟩ := W0
  have wB : bkN (bkS S) := ⟨w1, w2, w3, w4, w5, w6⟩
  have sh0 := mi_sh I
  have al := alW_len (wdS S) 6 0
  have tl5 := lnL_le (ws := wdS S) (K := 128) (fun g => (w14 g).2) 6 0
  have alB_ := alW_B (ws := wdS S) (N := 1000) (fun g _ => (w14 g).1)
  have on1 := (mi_op I).2.1
  have on2 := (mi_op I).2.2.2.1
  have tn1 := (mi_tm I).2.1
  have tn2 := (mi_tm I).2.2.2.1
  refine Ev.sts 3 (c' := (3, [some (.inr (.inr (.inr (11, 0, 83)))), some (.inl (iZ (p)))], [.inl (iZ (0)), .inl (iZ (p)), .inr (.inr (.inr (11, 0, 83)))], h)) rfl ?_
  refine Ev.callv (a := [.inr (.inr (.inr (11, 0, 83))), .inl (iZ (p)), .inl (iZ (0))]) rfl (mx_tell0 I W hp hk) ?_
  exact Ev.ret rfl (q)

theorem mx_tell1 {d : Nat} {y : Y4} {S : Sta} {h : PH} (I : MI h S y) (W : WN S) {p : Int} {k : Nat} (hp : p = (k : Int)) (hk : k < (tlS S).length) : Rv (d + 1) 262 [.inr (.inr (.inr (11, 0, 83))), .inl (iZ (p)), .inl (iZ (1))] h (some (.inl (iZ ((tlS S).getD k t0).2.1))) (setI h 83 0 (iZ 0)) := Rv.of fun Q q => by
  have W0 := W
  obtain ⟨⟨w1, w2, w3, w4, w5, w6⟩, w7, w8, w9, w10, w11, w12, w13, w14, w15, w16, w17, w18⟩ := W0
  have wB : bkN (bkS S) := ⟨w1, w2, w3, w4, w5, w6⟩
  have sh0 := mi_sh I
  have al := alW_len (wdS S) 6 0
  have tl5 := lnL_le (ws := wdS S) (K := 128) (fun g => (w14 g).2) 6 0
  have alB_ := alW_B (ws := wdS S) (N := 1000) (fun g _ => (w14 g).1)
  have on1 := (mi_op I).2.1
  have on2 := (mi_op I).2.2.2.1
  have tn1 := (mi_tm I).2.1
  have tn2 := (mi_tm I).2.2.2.1
  refine Ev.sts 6 (c' := (8, [some (.inr (.inr (.inr (11, 0, 83)))), some (.inl (iZ (p))), some (.inl (iZ (1)))], [.inr (.inr (.inr (11, 0, 83))), .inl (iZ (0)), .inl (iZ (p))], (setI h 83 0 ((iZ (0)))))) rfl ?_
  refine Ev.gv (w := (iZ ((tlS S).length))) rfl (mi_tm (MI_th I)).1 ?_
  refine Ev.sts 1 (c' := (12, [some (.inr (.inr (.inr (11, 0, 83)))), some (.inl (iZ (p))), some (.inl (iZ (1)))], [.inl (iZ (1)), .inl (iZ ((tlS S).length)), .inl (iZ (0)), .inl (iZ (p))], (setI h 83 0 ((iZ (0)))))) rfl ?_
  refine Ev.gv (w := (iZ (((tlS S).length) - 1))) rfl (iZ_sub _ _) ?_
  refine Ev.callw (a := [.inl (iZ (p)), .inl (iZ (0)), .inl (iZ (((tlS S).length) - 1))]) rfl (mp_isIn ⟨by omega, by omega⟩ ⟨by omega, by omega⟩ ⟨by omega, by omega⟩ (fun _ => ?_) (fun z => absurd (show _ from ⟨by omega, by omega⟩) z))
  refine Ev.brF (p := (iZ (1)) = (iZ (0))) (c1 := (32, [some (.inr (.inr (.inr (11, 0, 83)))), some (.inl (iZ (p))), some (.inl (iZ (1)))], [], (setI h 83 0 ((iZ (0)))))) (c2 := (19, [some (.inr (.inr (.inr (11, 0, 83)))), some (.inl (iZ (p))), some (.inl (iZ (1)))], [], (setI h 83 0 ((iZ (0)))))) (by decide) rfl ?_
  refine Ev.sts 1 (c' := (20, [some (.inr (.inr (.inr (11, 0, 83)))), some (.inl (iZ (p))), some (.inl (iZ (1)))], [.inr (.inr (.inr (11, 0, 83)))], (setI h 83 0 ((iZ (0)))))) rfl ?_
  refine Ev.gfr (r := (20, y.2.2.1, y.2.2.2)) rfl (mi_tm I).2.2.2.2.1 ?_
  refine Ev.sts 2 (c' := (25, [some (.inr (.inr (.inr (11, 0, 83)))), some (.inl (iZ (p))), some (.inl (iZ (1)))], [.inl (iZ (p)), .inl (iZ (5)), .inr (.inr (.inr (20, y.2.2.1, y.2.2.2)))], (setI h 83 0 ((iZ (0)))))) rfl ?_
  refine Ev.gv (w := (iZ (5 * p))) rfl (iZ_mul _ _) ?_
  refine Ev.sts 1 (c' := (27, [some (.inr (.inr (.inr (11, 0, 83)))), some (.inl (iZ (p))), some (.inl (iZ (1)))], [.inl (iZ (1)), .inl (iZ (5 * p)), .inr (.inr (.inr (20, y.2.2.1, y.2.2.2)))], (setI h 83 0 ((iZ (0)))))) rfl ?_
  refine Ev.gv (w := (iZ ((5 * p) + 1))) rfl (iZ_add _ _) ?_
  refine Ev.ldv (j := (iZ ((5 * p) + 1))) (n := y.2.2.1) (w := .inl (iZ (((tlS S).getD k t0).2.1))) (iZ_in (by omega) (by omega) (by omega)) rfl (by rw [iZ_ix (n := (5 * k) + 1) (by omega) (by omega)]; exact congrArg vI ((mi_tm (MI_th I)).2.2.2.2.2.2 k (by omega)).2.1) ?_
  refine Ev.sts 1 (c' := (37, [some (.inr (.inr (.inr (11, 0, 83)))), some (.inl (iZ (p))), some (.inl (iZ (1)))], [.inl (iZ (((tlS S).getD k t0).2.1))], (setI h 83 0 ((iZ (0)))))) rfl ?_
  exact Ev.ret rfl (q)

theorem mq_tellingStart {d : Nat} {y : Y4} {S : Sta} {h : PH} (I : MI h S y) (W : WN S) {p : Int} {k : Nat} (hp : p = (k : Int)) (hk : k < (tlS S).length) : Rv (d + 2) 263 [.inr (.inr (.inr (11, 0, 83))), .inl (iZ (p))] h (some (.inl (iZ ((tlS S).getD k t0).2.1))) (setI h 83 0 (iZ 0)) := Rv.of fun Q q => by
  have W0 := W
  obtain ⟨⟨w1, w2, w3, w4, w5, w6⟩, w7, w8, w9, w10, w11, w12, w13, w14, w15, w16, w17, w18⟩ := W0
  have wB : bkN (bkS S) := ⟨w1, w2, w3, w4, w5, w6⟩
  have sh0 := mi_sh I
  have al := alW_len (wdS S) 6 0
  have tl5 := lnL_le (ws := wdS S) (K := 128) (fun g => (w14 g).2) 6 0
  have alB_ := alW_B (ws := wdS S) (N := 1000) (fun g _ => (w14 g).1)
  have on1 := (mi_op I).2.1
  have on2 := (mi_op I).2.2.2.1
  have tn1 := (mi_tm I).2.1
  have tn2 := (mi_tm I).2.2.2.1
  refine Ev.sts 3 (c' := (3, [some (.inr (.inr (.inr (11, 0, 83)))), some (.inl (iZ (p)))], [.inl (iZ (1)), .inl (iZ (p)), .inr (.inr (.inr (11, 0, 83)))], h)) rfl ?_
  refine Ev.callv (a := [.inr (.inr (.inr (11, 0, 83))), .inl (iZ (p)), .inl (iZ (1))]) rfl (mx_tell1 I W hp hk) ?_
  exact Ev.ret rfl (q)

theorem mx_tell2 {d : Nat} {y : Y4} {S : Sta} {h : PH} (I : MI h S y) (W : WN S) {p : Int} {k : Nat} (hp : p = (k : Int)) (hk : k < (tlS S).length) : Rv (d + 1) 262 [.inr (.inr (.inr (11, 0, 83))), .inl (iZ (p)), .inl (iZ (2))] h (some (.inl (iZ ((tlS S).getD k t0).2.2.1))) (setI h 83 0 (iZ 0)) := Rv.of fun Q q => by
  have W0 := W
  obtain ⟨⟨w1, w2, w3, w4, w5, w6⟩, w7, w8, w9, w10, w11, w12, w13, w14, w15, w16, w17, w18⟩ := W0
  have wB : bkN (bkS S) := ⟨w1, w2, w3, w4, w5, w6⟩
  have sh0 := mi_sh I
  have al := alW_len (wdS S) 6 0
  have tl5 := lnL_le (ws := wdS S) (K := 128) (fun g => (w14 g).2) 6 0
  have alB_ := alW_B (ws := wdS S) (N := 1000) (fun g _ => (w14 g).1)
  have on1 := (mi_op I).2.1
  have on2 := (mi_op I).2.2.2.1
  have tn1 := (mi_tm I).2.1
  have tn2 := (mi_tm I).2.2.2.1
  refine Ev.sts 6 (c' := (8, [some (.inr (.inr (.inr (11, 0, 83)))), some (.inl (iZ (p))), some (.inl (iZ (2)))], [.inr (.inr (.inr (11, 0, 83))), .inl (iZ (0)), .inl (iZ (p))], (setI h 83 0 ((iZ (0)))))) rfl ?_
  refine Ev.gv (w := (iZ ((tlS S).length))) rfl (mi_tm (MI_th I)).1 ?_
  refine Ev.sts 1 (c' := (12, [some (.inr (.inr (.inr (11, 0, 83)))), some (.inl (iZ (p))), some (.inl (iZ (2)))], [.inl (iZ (1)), .inl (iZ ((tlS S).length)), .inl (iZ (0)), .inl (iZ (p))], (setI h 83 0 ((iZ (0)))))) rfl ?_
  refine Ev.gv (w := (iZ (((tlS S).length) - 1))) rfl (iZ_sub _ _) ?_
  refine Ev.callw (a := [.inl (iZ (p)), .inl (iZ (0)), .inl (iZ (((tlS S).length) - 1))]) rfl (mp_isIn ⟨by omega, by omega⟩ ⟨by omega, by omega⟩ ⟨by omega, by omega⟩ (fun _ => ?_) (fun z => absurd (show _ from ⟨by omega, by omega⟩) z))
  refine Ev.brF (p := (iZ (1)) = (iZ (0))) (c1 := (32, [some (.inr (.inr (.inr (11, 0, 83)))), some (.inl (iZ (p))), some (.inl (iZ (2)))], [], (setI h 83 0 ((iZ (0)))))) (c2 := (19, [some (.inr (.inr (.inr (11, 0, 83)))), some (.inl (iZ (p))), some (.inl (iZ (2)))], [], (setI h 83 0 ((iZ (0)))))) (by decide) rfl ?_
  refine Ev.sts 1 (c' := (20, [some (.inr (.inr (.inr (11, 0, 83)))), some (.inl (iZ (p))), some (.inl (iZ (2)))], [.inr (.inr (.inr (11, 0, 83)))], (setI h 83 0 ((iZ (0)))))) rfl ?_
  refine Ev.gfr (r := (20, y.2.2.1, y.2.2.2)) rfl (mi_tm I).2.2.2.2.1 ?_
  refine Ev.sts 2 (c' := (25, [some (.inr (.inr (.inr (11, 0, 83)))), some (.inl (iZ (p))), some (.inl (iZ (2)))], [.inl (iZ (p)), .inl (iZ (5)), .inr (.inr (.inr (20, y.2.2.1, y.2.2.2)))], (setI h 83 0 ((iZ (0)))))) rfl ?_
  refine Ev.gv (w := (iZ (5 * p))) rfl (iZ_mul _ _) ?_
  refine Ev.sts 1 (c' := (27, [some (.inr (.inr (.inr (11, 0, 83)))), some (.inl (iZ (p))), some (.inl (iZ (2)))], [.inl (iZ (2)), .inl (iZ (5 * p)), .inr (.inr (.inr (20, y.2.2.1, y.2.2.2)))], (setI h 83 0 ((iZ (0)))))) rfl ?_
  refine Ev.gv (w := (iZ ((5 * p) + 2))) rfl (iZ_add _ _) ?_
  refine Ev.ldv (j := (iZ ((5 * p) + 2))) (n := y.2.2.1) (w := .inl (iZ (((tlS S).getD k t0).2.2.1))) (iZ_in (by omega) (by omega) (by omega)) rfl (by rw [iZ_ix (n := (5 * k) + 2) (by omega) (by omega)]; exact congrArg vI ((mi_tm (MI_th I)).2.2.2.2.2.2 k (by omega)).2.2.1) ?_
  refine Ev.sts 1 (c' := (37, [some (.inr (.inr (.inr (11, 0, 83)))), some (.inl (iZ (p))), some (.inl (iZ (2)))], [.inl (iZ (((tlS S).getD k t0).2.2.1))], (setI h 83 0 ((iZ (0)))))) rfl ?_
  exact Ev.ret rfl (q)

theorem mq_tellingEnd {d : Nat} {y : Y4} {S : Sta} {h : PH} (I : MI h S y) (W : WN S) {p : Int} {k : Nat} (hp : p = (k : Int)) (hk : k < (tlS S).length) : Rv (d + 2) 264 [.inr (.inr (.inr (11, 0, 83))), .inl (iZ (p))] h (some (.inl (iZ ((tlS S).getD k t0).2.2.1))) (setI h 83 0 (iZ 0)) := Rv.of fun Q q => by
  have W0 := W
  obtain ⟨⟨w1, w2, w3, w4, w5, w6⟩, w7, w8, w9, w10, w11, w12, w13, w14, w15, w16, w17, w18⟩ := W0
  have wB : bkN (bkS S) := ⟨w1, w2, w3, w4, w5, w6⟩
  have sh0 := mi_sh I
  have al := alW_len (wdS S) 6 0
  have tl5 := lnL_le (ws := wdS S) (K := 128) (fun g => (w14 g).2) 6 0
  have alB_ := alW_B (ws := wdS S) (N := 1000) (fun g _ => (w14 g).1)
  have on1 := (mi_op I).2.1
  have on2 := (mi_op I).2.2.2.1
  have tn1 := (mi_tm I).2.1
  have tn2 := (mi_tm I).2.2.2.1
  refine Ev.sts 3 (c' := (3, [some (.inr (.inr (.inr (11, 0, 83)))), some (.inl (iZ (p)))], [.inl (iZ (2)), .inl (iZ (p)), .inr (.inr (.inr (11, 0, 83)))], h)) rfl ?_
  refine Ev.callv (a := [.inr (.inr (.inr (11, 0, 83))), .inl (iZ (p)), .inl (iZ (2))]) rfl (mx_tell2 I W hp hk) ?_
  exact Ev.ret rfl (q)

theorem mx_tell3 {d : Nat} {y : Y4} {S : Sta} {h : PH} (I : MI h S y) (W : WN S) {p : Int} {k : Nat} (hp : p = (k : Int)) (hk : k < (tlS S).length) : Rv (d + 1) 262 [.inr (.inr (.inr (11, 0, 83))), .inl (iZ (p)), .inl (iZ (3))] h (some (.inl (iZ ((tlS S).getD k t0).2.2.2.1))) (setI h 83 0 (iZ 0)) := Rv.of fun Q q => by
  have W0 := W
  obtain ⟨⟨w1, w2, w3, w4, w5, w6⟩, w7, w8, w9, w10, w11, w12, w13, w14, w15, w16, w17, w18⟩ := W0
  have wB : bkN (bkS S) := ⟨w1, w2, w3, w4, w5, w6⟩
  have sh0 := mi_sh I
  have al := alW_len (wdS S) 6 0
  have tl5 := lnL_le (ws := wdS S) (K := 128) (fun g => (w14 g).2) 6 0
  have alB_ := alW_B (ws := wdS S) (N := 1000) (fun g _ => (w14 g).1)
  have on1 := (mi_op I).2.1
  have on2 := (mi_op I).2.2.2.1
  have tn1 := (mi_tm I).2.1
  have tn2 := (mi_tm I).2.2.2.1
  refine Ev.sts 6 (c' := (8, [some (.inr (.inr (.inr (11, 0, 83)))), some (.inl (iZ (p))), some (.inl (iZ (3)))], [.inr (.inr (.inr (11, 0, 83))), .inl (iZ (0)), .inl (iZ (p))], (setI h 83 0 ((iZ (0)))))) rfl ?_
  refine Ev.gv (w := (iZ ((tlS S).length))) rfl (mi_tm (MI_th I)).1 ?_
  refine Ev.sts 1 (c' := (12, [some (.inr (.inr (.inr (11, 0, 83)))), some (.inl (iZ (p))), some (.inl (iZ (3)))], [.inl (iZ (1)), .inl (iZ ((tlS S).length)), .inl (iZ (0)), .inl (iZ (p))], (setI h 83 0 ((iZ (0)))))) rfl ?_
  refine Ev.gv (w := (iZ (((tlS S).length) - 1))) rfl (iZ_sub _ _) ?_
  refine Ev.callw (a := [.inl (iZ (p)), .inl (iZ (0)), .inl (iZ (((tlS S).length) - 1))]) rfl (mp_isIn ⟨by omega, by omega⟩ ⟨by omega, by omega⟩ ⟨by omega, by omega⟩ (fun _ => ?_) (fun z => absurd (show _ from ⟨by omega, by omega⟩) z))
  refine Ev.brF (p := (iZ (1)) = (iZ (0))) (c1 := (32, [some (.inr (.inr (.inr (11, 0, 83)))), some (.inl (iZ (p))), some (.inl (iZ (3)))], [], (setI h 83 0 ((iZ (0)))))) (c2 := (19, [some (.inr (.inr (.inr (11, 0, 83)))), some (.inl (iZ (p))), some (.inl (iZ (3)))], [], (setI h 83 0 ((iZ (0)))))) (by decide) rfl ?_
  refine Ev.sts 1 (c' := (20, [some (.inr (.inr (.inr (11, 0, 83)))), some (.inl (iZ (p))), some (.inl (iZ (3)))], [.inr (.inr (.inr (11, 0, 83)))], (setI h 83 0 ((iZ (0)))))) rfl ?_
  refine Ev.gfr (r := (20, y.2.2.1, y.2.2.2)) rfl (mi_tm I).2.2.2.2.1 ?_
  refine Ev.sts 2 (c' := (25, [some (.inr (.inr (.inr (11, 0, 83)))), some (.inl (iZ (p))), some (.inl (iZ (3)))], [.inl (iZ (p)), .inl (iZ (5)), .inr (.inr (.inr (20, y.2.2.1, y.2.2.2)))], (setI h 83 0 ((iZ (0)))))) rfl ?_
  refine Ev.gv (w := (iZ (5 * p))) rfl (iZ_mul _ _) ?_
  refine Ev.sts 1 (c' := (27, [some (.inr (.inr (.inr (11, 0, 83)))), some (.inl (iZ (p))), some (.inl (iZ (3)))], [.inl (iZ (3)), .inl (iZ (5 * p)), .inr (.inr (.inr (20, y.2.2.1, y.2.2.2)))], (setI h 83 0 ((iZ (0)))))) rfl ?_
  refine Ev.gv (w := (iZ ((5 * p) + 3))) rfl (iZ_add _ _) ?_
  refine Ev.ldv (j := (iZ ((5 * p) + 3))) (n := y.2.2.1) (w := .inl (iZ (((tlS S).getD k t0).2.2.2.1))) (iZ_in (by omega) (by omega) (by omega)) rfl (by rw [iZ_ix (n := (5 * k) + 3) (by omega) (by omega)]; exact congrArg vI ((mi_tm (MI_th I)).2.2.2.2.2.2 k (by omega)).2.2.2.1) ?_
  refine Ev.sts 1 (c' := (37, [some (.inr (.inr (.inr (11, 0, 83)))), some (.inl (iZ (p))), some (.inl (iZ (3)))], [.inl (iZ (((tlS S).getD k t0).2.2.2.1))], (setI h 83 0 ((iZ (0)))))) rfl ?_
  exact Ev.ret rfl (q)

theorem mq_tellingCount {d : Nat} {y : Y4} {S : Sta} {h : PH} (I : MI h S y) (W : WN S) {p : Int} {k : Nat} (hp : p = (k : Int)) (hk : k < (tlS S).length) : Rv (d + 2) 265 [.inr (.inr (.inr (11, 0, 83))), .inl (iZ (p))] h (some (.inl (iZ ((tlS S).getD k t0).2.2.2.1))) (setI h 83 0 (iZ 0)) := Rv.of fun Q q => by
  have W0 := W
  obtain ⟨⟨w1, w2, w3, w4, w5, w6⟩, w7, w8, w9, w10, w11, w12, w13, w14, w15, w16, w17, w18⟩ := W0
  have wB : bkN (bkS S) := ⟨w1, w2, w3, w4, w5, w6⟩
  have sh0 := mi_sh I
  have al := alW_len (wdS S) 6 0
  have tl5 := lnL_le (ws := wdS S) (K := 128) (fun g => (w14 g).2) 6 0
  have alB_ := alW_B (ws := wdS S) (N := 1000) (fun g _ => (w14 g).1)
  have on1 := (mi_op I).2.1
  have on2 := (mi_op I).2.2.2.1
  have tn1 := (mi_tm I).2.1
  have tn2 := (mi_tm I).2.2.2.1
  refine Ev.sts 3 (c' := (3, [some (.inr (.inr (.inr (11, 0, 83)))), some (.inl (iZ (p)))], [.inl (iZ (3)), .inl (iZ (p)), .inr (.inr (.inr (11, 0, 83)))], h)) rfl ?_
  refine Ev.callv (a := [.inr (.inr (.inr (11, 0, 83))), .inl (iZ (p)), .inl (iZ (3))]) rfl (mx_tell3 I W hp hk) ?_
  exact Ev.ret rfl (q)

theorem mx_tell4 {d : Nat} {y : Y4} {S : Sta} {h : PH} (I : MI h S y) (W : WN S) {p : Int} {k : Nat} (hp : p = (k : Int)) (hk : k < (tlS S).length) : Rv (d + 1) 262 [.inr (.inr (.inr (11, 0, 83))), .inl (iZ (p)), .inl (iZ (4))] h (some (.inl (((tlS S).getD k t0).2.2.2.2))) (setI h 83 0 (iZ 0)) := Rv.of fun Q q => by
  have W0 := W
  obtain ⟨⟨w1, w2, w3, w4, w5, w6⟩, w7, w8, w9, w10, w11, w12, w13, w14, w15, w16, w17, w18⟩ := W0
  have wB : bkN (bkS S) := ⟨w1, w2, w3, w4, w5, w6⟩
  have sh0 := mi_sh I
  have al := alW_len (wdS S) 6 0
  have tl5 := lnL_le (ws := wdS S) (K := 128) (fun g => (w14 g).2) 6 0
  have alB_ := alW_B (ws := wdS S) (N := 1000) (fun g _ => (w14 g).1)
  have on1 := (mi_op I).2.1
  have on2 := (mi_op I).2.2.2.1
  have tn1 := (mi_tm I).2.1
  have tn2 := (mi_tm I).2.2.2.1
  refine Ev.sts 6 (c' := (8, [some (.inr (.inr (.inr (11, 0, 83)))), some (.inl (iZ (p))), some (.inl (iZ (4)))], [.inr (.inr (.inr (11, 0, 83))), .inl (iZ (0)), .inl (iZ (p))], (setI h 83 0 ((iZ (0)))))) rfl ?_
  refine Ev.gv (w := (iZ ((tlS S).length))) rfl (mi_tm (MI_th I)).1 ?_
  refine Ev.sts 1 (c' := (12, [some (.inr (.inr (.inr (11, 0, 83)))), some (.inl (iZ (p))), some (.inl (iZ (4)))], [.inl (iZ (1)), .inl (iZ ((tlS S).length)), .inl (iZ (0)), .inl (iZ (p))], (setI h 83 0 ((iZ (0)))))) rfl ?_
  refine Ev.gv (w := (iZ (((tlS S).length) - 1))) rfl (iZ_sub _ _) ?_
  refine Ev.callw (a := [.inl (iZ (p)), .inl (iZ (0)), .inl (iZ (((tlS S).length) - 1))]) rfl (mp_isIn ⟨by omega, by omega⟩ ⟨by omega, by omega⟩ ⟨by omega, by omega⟩ (fun _ => ?_) (fun z => absurd (show _ from ⟨by omega, by omega⟩) z))
  refine Ev.brF (p := (iZ (1)) = (iZ (0))) (c1 := (32, [some (.inr (.inr (.inr (11, 0, 83)))), some (.inl (iZ (p))), some (.inl (iZ (4)))], [], (setI h 83 0 ((iZ (0)))))) (c2 := (19, [some (.inr (.inr (.inr (11, 0, 83)))), some (.inl (iZ (p))), some (.inl (iZ (4)))], [], (setI h 83 0 ((iZ (0)))))) (by decide) rfl ?_
  refine Ev.sts 1 (c' := (20, [some (.inr (.inr (.inr (11, 0, 83)))), some (.inl (iZ (p))), some (.inl (iZ (4)))], [.inr (.inr (.inr (11, 0, 83)))], (setI h 83 0 ((iZ (0)))))) rfl ?_
  refine Ev.gfr (r := (20, y.2.2.1, y.2.2.2)) rfl (mi_tm I).2.2.2.2.1 ?_
  refine Ev.sts 2 (c' := (25, [some (.inr (.inr (.inr (11, 0, 83)))), some (.inl (iZ (p))), some (.inl (iZ (4)))], [.inl (iZ (p)), .inl (iZ (5)), .inr (.inr (.inr (20, y.2.2.1, y.2.2.2)))], (setI h 83 0 ((iZ (0)))))) rfl ?_
  refine Ev.gv (w := (iZ (5 * p))) rfl (iZ_mul _ _) ?_
  refine Ev.sts 1 (c' := (27, [some (.inr (.inr (.inr (11, 0, 83)))), some (.inl (iZ (p))), some (.inl (iZ (4)))], [.inl (iZ (4)), .inl (iZ (5 * p)), .inr (.inr (.inr (20, y.2.2.1, y.2.2.2)))], (setI h 83 0 ((iZ (0)))))) rfl ?_
  refine Ev.gv (w := (iZ ((5 * p) + 4))) rfl (iZ_add _ _) ?_
  refine Ev.ldv (j := (iZ ((5 * p) + 4))) (n := y.2.2.1) (w := .inl (((tlS S).getD k t0).2.2.2.2)) (iZ_in (by omega) (by omega) (by omega)) rfl (by rw [iZ_ix (n := (5 * k) + 4) (by omega) (by omega)]; exact congrArg vI ((mi_tm (MI_th I)).2.2.2.2.2.2 k (by omega)).2.2.2.2) ?_
  refine Ev.sts 1 (c' := (37, [some (.inr (.inr (.inr (11, 0, 83)))), some (.inl (iZ (p))), some (.inl (iZ (4)))], [.inl (((tlS S).getD k t0).2.2.2.2)], (setI h 83 0 ((iZ (0)))))) rfl ?_
  exact Ev.ret rfl (q)

theorem mq_tellingValue {d : Nat} {y : Y4} {S : Sta} {h : PH} (I : MI h S y) (W : WN S) {p : Int} {k : Nat} (hp : p = (k : Int)) (hk : k < (tlS S).length) : Rv (d + 2) 266 [.inr (.inr (.inr (11, 0, 83))), .inl (iZ (p))] h (some (.inl (((tlS S).getD k t0).2.2.2.2))) (setI h 83 0 (iZ 0)) := Rv.of fun Q q => by
  have W0 := W
  obtain ⟨⟨w1, w2, w3, w4, w5, w6⟩, w7, w8, w9, w10, w11, w12, w13, w14, w15, w16, w17, w18⟩ := W0
  have wB : bkN (bkS S) := ⟨w1, w2, w3, w4, w5, w6⟩
  have sh0 := mi_sh I
  have al := alW_len (wdS S) 6 0
  have tl5 := lnL_le (ws := wdS S) (K := 128) (fun g => (w14 g).2) 6 0
  have alB_ := alW_B (ws := wdS S) (N := 1000) (fun g _ => (w14 g).1)
  have on1 := (mi_op I).2.1
  have on2 := (mi_op I).2.2.2.1
  have tn1 := (mi_tm I).2.1
  have tn2 := (mi_tm I).2.2.2.1
  refine Ev.sts 3 (c' := (3, [some (.inr (.inr (.inr (11, 0, 83)))), some (.inl (iZ (p)))], [.inl (iZ (4)), .inl (iZ (p)), .inr (.inr (.inr (11, 0, 83)))], h)) rfl ?_
  refine Ev.callv (a := [.inr (.inr (.inr (11, 0, 83))), .inl (iZ (p)), .inl (iZ (4))]) rfl (mx_tell4 I W hp hk) ?_
  exact Ev.ret rfl (q)

theorem mx_tellz {d : Nat} {y : Y4} {S : Sta} {h : PH} (I : MI h S y) (W : WN S) {p : Int} {w : Int32} (hpb : -2147483648 ≤ p ∧ p < 2147483648) (hc : ¬ (0 ≤ p ∧ p < (tlS S).length)) : Rv (d + 1) 262 [.inr (.inr (.inr (11, 0, 83))), .inl (iZ (p)), .inl (w)] h (some (.inl (iZ 0))) (setI (setI h 83 0 (iZ 0)) 83 0 (iZ 1)) := Rv.of fun Q q => by
  have W0 := W
  obtain ⟨⟨w1, w2, w3, w4, w5, w6⟩, w7, w8, w9, w10, w11, w12, w13, w14, w15, w16, w17, w18⟩ := W0
  have wB : bkN (bkS S) := ⟨w1, w2, w3, w4, w5, w6⟩
  have sh0 := mi_sh I
  have al := alW_len (wdS S) 6 0
  have tl5 := lnL_le (ws := wdS S) (K := 128) (fun g => (w14 g).2) 6 0
  have alB_ := alW_B (ws := wdS S) (N := 1000) (fun g _ => (w14 g).1)
  have on1 := (mi_op I).2.1
  have on2 := (mi_op I).2.2.2.1
  have tn1 := (mi_tm I).2.1
  have tn2 := (mi_tm I).2.2.2.1
  refine Ev.sts 6 (c' := (8, [some (.inr (.inr (.inr (11, 0, 83)))), some (.inl (iZ (p))), some (.inl (w))], [.inr (.inr (.inr (11, 0, 83))), .inl (iZ (0)), .inl (iZ (p))], (setI h 83 0 ((iZ (0)))))) rfl ?_
  refine Ev.gv (w := (iZ ((tlS S).length))) rfl (mi_tm (MI_th I)).1 ?_
  refine Ev.sts 1 (c' := (12, [some (.inr (.inr (.inr (11, 0, 83)))), some (.inl (iZ (p))), some (.inl (w))], [.inl (iZ (1)), .inl (iZ ((tlS S).length)), .inl (iZ (0)), .inl (iZ (p))], (setI h 83 0 ((iZ (0)))))) rfl ?_
  refine Ev.gv (w := (iZ (((tlS S).length) - 1))) rfl (iZ_sub _ _) ?_
  refine Ev.callw (a := [.inl (iZ (p)), .inl (iZ (0)), .inl (iZ (((tlS S).length) - 1))]) rfl (mp_isIn ⟨by omega, by omega⟩ ⟨by omega, by omega⟩ ⟨by omega, by omega⟩ (fun z => absurd (show _ from ⟨by omega, by omega⟩) hc) (fun _ => ?_))
  refine Ev.brT (p := (iZ (0)) = (iZ (0))) (c1 := (32, [some (.inr (.inr (.inr (11, 0, 83)))), some (.inl (iZ (p))), some (.inl (w))], [], (setI h 83 0 ((iZ (0)))))) (c2 := (19, [some (.inr (.inr (.inr (11, 0, 83)))), some (.inl (iZ (p))), some (.inl (w))], [], (setI h 83 0 ((iZ (0)))))) (by decide) rfl ?_
  refine Ev.sts 2 (c' := (34, [some (.inr (.inr (.inr (11, 0, 83)))), some (.inl (iZ (p))), some (.inl (w))], [.inl (iZ (1)), .inr (.inr (.inr (11, 0, 83)))], (setI h 83 0 ((iZ (0)))))) rfl ?_
  refine Ev.callv (a := [.inr (.inr (.inr (11, 0, 83))), .inl (iZ (1))]) rfl mp_fail ?_
  exact Ev.ret rfl (q)

theorem mz_tellingGoose {d : Nat} {y : Y4} {S : Sta} {h : PH} (I : MI h S y) (W : WN S) {p : Int} (hpb : -2147483648 ≤ p ∧ p < 2147483648) (hc : ¬ (0 ≤ p ∧ p < (tlS S).length)) : Rv (d + 2) 261 [.inr (.inr (.inr (11, 0, 83))), .inl (iZ (p))] h (some (.inl (iZ 0))) (setI (setI h 83 0 (iZ 0)) 83 0 (iZ 1)) := Rv.of fun Q q => by
  have W0 := W
  obtain ⟨⟨w1, w2, w3, w4, w5, w6⟩, w7, w8, w9, w10, w11, w12, w13, w14, w15, w16, w17, w18⟩ := W0
  have wB : bkN (bkS S) := ⟨w1, w2, w3, w4, w5, w6⟩
  have sh0 := mi_sh I
  have al := alW_len (wdS S) 6 0
  have tl5 := lnL_le (ws := wdS S) (K := 128) (fun g => (w14 g).2) 6 0
  have alB_ := alW_B (ws := wdS S) (N := 1000) (fun g _ => (w14 g).1)
  have on1 := (mi_op I).2.1
  have on2 := (mi_op I).2.2.2.1
  have tn1 := (mi_tm I).2.1
  have tn2 := (mi_tm I).2.2.2.1
  refine Ev.sts 3 (c' := (3, [some (.inr (.inr (.inr (11, 0, 83)))), some (.inl (iZ (p)))], [.inl (iZ (0)), .inl (iZ (p)), .inr (.inr (.inr (11, 0, 83)))], h)) rfl ?_
  refine Ev.callv (a := [.inr (.inr (.inr (11, 0, 83))), .inl (iZ (p)), .inl (iZ (0))]) rfl (mx_tellz I W hpb hc) ?_
  exact Ev.ret rfl (q)

theorem mz_tellingStart {d : Nat} {y : Y4} {S : Sta} {h : PH} (I : MI h S y) (W : WN S) {p : Int} (hpb : -2147483648 ≤ p ∧ p < 2147483648) (hc : ¬ (0 ≤ p ∧ p < (tlS S).length)) : Rv (d + 2) 263 [.inr (.inr (.inr (11, 0, 83))), .inl (iZ (p))] h (some (.inl (iZ 0))) (setI (setI h 83 0 (iZ 0)) 83 0 (iZ 1)) := Rv.of fun Q q => by
  have W0 := W
  obtain ⟨⟨w1, w2, w3, w4, w5, w6⟩, w7, w8, w9, w10, w11, w12, w13, w14, w15, w16, w17, w18⟩ := W0
  have wB : bkN (bkS S) := ⟨w1, w2, w3, w4, w5, w6⟩
  have sh0 := mi_sh I
  have al := alW_len (wdS S) 6 0
  have tl5 := lnL_le (ws := wdS S) (K := 128) (fun g => (w14 g).2) 6 0
  have alB_ := alW_B (ws := wdS S) (N := 1000) (fun g _ => (w14 g).1)
  have on1 := (mi_op I).2.1
  have on2 := (mi_op I).2.2.2.1
  have tn1 := (mi_tm I).2.1
  have tn2 := (mi_tm I).2.2.2.1
  refine Ev.sts 3 (c' := (3, [some (.inr (.inr (.inr (11, 0, 83)))), some (.inl (iZ (p)))], [.inl (iZ (1)), .inl (iZ (p)), .inr (.inr (.inr (11, 0, 83)))], h)) rfl ?_
  refine Ev.callv (a := [.inr (.inr (.inr (11, 0, 83))), .inl (iZ (p)), .inl (iZ (1))]) rfl (mx_tellz I W hpb hc) ?_
  exact Ev.ret rfl (q)

theorem mz_tellingEnd {d : Nat} {y : Y4} {S : Sta} {h : PH} (I : MI h S y) (W : WN S) {p : Int} (hpb : -2147483648 ≤ p ∧ p < 2147483648) (hc : ¬ (0 ≤ p ∧ p < (tlS S).length)) : Rv (d + 2) 264 [.inr (.inr (.inr (11, 0, 83))), .inl (iZ (p))] h (some (.inl (iZ 0))) (setI (setI h 83 0 (iZ 0)) 83 0 (iZ 1)) := Rv.of fun Q q => by
  have W0 := W
  obtain ⟨⟨w1, w2, w3, w4, w5, w6⟩, w7, w8, w9, w10, w11, w12, w13, w14, w15, w16, w17, w18⟩ := W0
  have wB : bkN (bkS S) := ⟨w1, w2, w3, w4, w5, w6⟩
  have sh0 := mi_sh I
  have al := alW_len (wdS S) 6 0
  have tl5 := lnL_le (ws := wdS S) (K := 128) (fun g => (w14 g).2) 6 0
  have alB_ := alW_B (ws := wdS S) (N := 1000) (fun g _ => (w14 g).1)
  have on1 := (mi_op I).2.1
  have on2 := (mi_op I).2.2.2.1
  have tn1 := (mi_tm I).2.1
  have tn2 := (mi_tm I).2.2.2.1
  refine Ev.sts 3 (c' := (3, [some (.inr (.inr (.inr (11, 0, 83)))), some (.inl (iZ (p)))], [.inl (iZ (2)), .inl (iZ (p)), .inr (.inr (.inr (11, 0, 83)))], h)) rfl ?_
  refine Ev.callv (a := [.inr (.inr (.inr (11, 0, 83))), .inl (iZ (p)), .inl (iZ (2))]) rfl (mx_tellz I W hpb hc) ?_
  exact Ev.ret rfl (q)

theorem mz_tellingCount {d : Nat} {y : Y4} {S : Sta} {h : PH} (I : MI h S y) (W : WN S) {p : Int} (hpb : -2147483648 ≤ p ∧ p < 2147483648) (hc : ¬ (0 ≤ p ∧ p < (tlS S).length)) : Rv (d + 2) 265 [.inr (.inr (.inr (11, 0, 83))), .inl (iZ (p))] h (some (.inl (iZ 0))) (setI (setI h 83 0 (iZ 0)) 83 0 (iZ 1)) := Rv.of fun Q q => by
  have W0 := W
  obtain ⟨⟨w1, w2, w3, w4, w5, w6⟩, w7, w8, w9, w10, w11, w12, w13, w14, w15, w16, w17, w18⟩ := W0
  have wB : bkN (bkS S) := ⟨w1, w2, w3, w4, w5, w6⟩
  have sh0 := mi_sh I
  have al := alW_len (wdS S) 6 0
  have tl5 := lnL_le (ws := wdS S) (K := 128) (fun g => (w14 g).2) 6 0
  have alB_ := alW_B (ws := wdS S) (N := 1000) (fun g _ => (w14 g).1)
  have on1 := (mi_op I).2.1
  have on2 := (mi_op I).2.2.2.1
  have tn1 := (mi_tm I).2.1
  have tn2 := (mi_tm I).2.2.2.1
  refine Ev.sts 3 (c' := (3, [some (.inr (.inr (.inr (11, 0, 83)))), some (.inl (iZ (p)))], [.inl (iZ (3)), .inl (iZ (p)), .inr (.inr (.inr (11, 0, 83)))], h)) rfl ?_
  refine Ev.callv (a := [.inr (.inr (.inr (11, 0, 83))), .inl (iZ (p)), .inl (iZ (3))]) rfl (mx_tellz I W hpb hc) ?_
  exact Ev.ret rfl (q)

theorem mz_tellingValue {d : Nat} {y : Y4} {S : Sta} {h : PH} (I : MI h S y) (W : WN S) {p : Int} (hpb : -2147483648 ≤ p ∧ p < 2147483648) (hc : ¬ (0 ≤ p ∧ p < (tlS S).length)) : Rv (d + 2) 266 [.inr (.inr (.inr (11, 0, 83))), .inl (iZ (p))] h (some (.inl (iZ 0))) (setI (setI h 83 0 (iZ 0)) 83 0 (iZ 1)) := Rv.of fun Q q => by
  have W0 := W
  obtain ⟨⟨w1, w2, w3, w4, w5, w6⟩, w7, w8, w9, w10, w11, w12, w13, w14, w15, w16, w17, w18⟩ := W0
  have wB : bkN (bkS S) := ⟨w1, w2, w3, w4, w5, w6⟩
  have sh0 := mi_sh I
  have al := alW_len (wdS S) 6 0
  have tl5 := lnL_le (ws := wdS S) (K := 128) (fun g => (w14 g).2) 6 0
  have alB_ := alW_B (ws := wdS S) (N := 1000) (fun g _ => (w14 g).1)
  have on1 := (mi_op I).2.1
  have on2 := (mi_op I).2.2.2.1
  have tn1 := (mi_tm I).2.1
  have tn2 := (mi_tm I).2.2.2.1
  refine Ev.sts 3 (c' := (3, [some (.inr (.inr (.inr (11, 0, 83)))), some (.inl (iZ (p)))], [.inl (iZ (4)), .inl (iZ (p)), .inr (.inr (.inr (11, 0, 83)))], h)) rfl ?_
  refine Ev.callv (a := [.inr (.inr (.inr (11, 0, 83))), .inl (iZ (p)), .inl (iZ (4))]) rfl (mx_tellz I W hpb hc) ?_
  exact Ev.ret rfl (q)

