/-! The class's calls that only look. -/
theorem cx_counted {d b n : Nat} {u : Q5} {S : Sta} {h : PH} (I : CI h S b n u) (W : WN S) : Rv d 49 [.inr (.inr (.inr (1, 0, 1)))] h (some (.inl (iZ (bkS S).2.2.length))) h := Rv.of fun Q q => by
  have sh := ci_sh I
  have hb := ci_b I
  have W0 := W
  obtain ⟨⟨w1, w2, w3, w4, w5, w6⟩, w7, w8, w9, w10, w11, w12, w13, w14, w15, w16, w17, w18⟩ := W0
  refine Ev.sts 1 (c' := (1, [some (.inr (.inr (.inr (1, 0, 1))))], [.inr (.inr (.inr (1, 0, 1)))], h)) rfl ?_
  refine Ev.gfr (r := (2, 0, b)) rfl (ci_17 I) ?_
  refine Ev.gv (w := (iZ ((bkS S).2.2.length))) rfl (ci_bk I).2.2.1 ?_
  refine Ev.sts 1 (c' := (8, [some (.inr (.inr (.inr (1, 0, 1))))], [.inr (.inr (.inr (1, 0, 1))), .inl (iZ ((bkS S).2.2.length))], h)) rfl ?_
  refine Ev.gfr (r := (2, 0, b)) rfl (ci_17 I) ?_
  refine Ev.gfr (r := (24, 6, (b + 4))) rfl (sh_b3 sh hb) ?_
  refine Ev.sts 2 (c' := (16, [some (.inr (.inr (.inr (1, 0, 1))))], [.inr (.inr (.inr (1, 0, 1))), .inl (iZ (6)), .inl (iZ ((bkS S).2.2.length))], h)) rfl ?_
  refine Ev.gfr (r := (25, 6, 31)) rfl (sh_1_5 sh) ?_
  refine Ev.sts 2 (c' := (23, [some (.inr (.inr (.inr (1, 0, 1))))], [.inl (iZ (6)), .inl (iZ ((bkS S).2.2.length))], h)) rfl ?_
  refine Ev.gv (w := (iZ (min ((bkS S).2.2.length) 6))) rfl (iZ_min ⟨by omega, by omega⟩ ⟨by omega, by omega⟩) ?_
  rw [show min ((bkS S).2.2.length : Int) 6 = ((bkS S).2.2.length : Int) by omega]
  exact Ev.ret rfl q

theorem cr_comma {d b n : Nat} {u : Q5} {S : Sta} {h : PH} (I : CI h S b n u) (W : WN S) {p : Int} (hc : 0 ≤ p ∧ p < (csS S).length) : Rv d 43 [.inr (.inr (.inr (1, 0, 1))), .inl (iZ (p))] h (none) h := Rv.of fun Q q => by
  have sh := ci_sh I
  have hb := ci_b I
  have W0 := W
  obtain ⟨⟨w1, w2, w3, w4, w5, w6⟩, w7, w8, w9, w10, w11, w12, w13, w14, w15, w16, w17, w18⟩ := W0
  refine Ev.sts 1 (c' := (1, [some (.inr (.inr (.inr (1, 0, 1)))), some (.inl (iZ (p)))], [.inl (iZ (p))], h)) rfl ?_
  refine Ev.brc (p := (iZ (p)) < (iZ (0))) (q := ((p : Int)) < 0) (c1 := (12, [some (.inr (.inr (.inr (1, 0, 1)))), some (.inl (iZ (p)))], [], h)) (c2 := (4, [some (.inr (.inr (.inr (1, 0, 1)))), some (.inl (iZ (p)))], [], h)) rfl (iZ_lt ⟨by omega, by omega⟩ ⟨by omega, by omega⟩) (fun c0 => ?_) (fun c0 => ?_)
  · exact Ev.ret rfl ((absurd hc (by omega)))
  · refine Ev.sts 2 (c' := (6, [some (.inr (.inr (.inr (1, 0, 1)))), some (.inl (iZ (p)))], [.inr (.inr (.inr (1, 0, 1))), .inl (iZ (p))], h)) rfl ?_
    refine Ev.gv (w := (iZ ((csS S).length))) rfl (ci_cs I).1 ?_
    refine Ev.brc (p := (iZ (p)) < (iZ ((csS S).length))) (q := ((p : Int)) < ((csS S).length)) (c1 := (22, [some (.inr (.inr (.inr (1, 0, 1)))), some (.inl (iZ (p)))], [], h)) (c2 := (12, [some (.inr (.inr (.inr (1, 0, 1)))), some (.inl (iZ (p)))], [], h)) rfl (iZ_lt ⟨by omega, by omega⟩ ⟨by omega, by omega⟩) (fun c1 => ?_) (fun c1 => ?_)
    · exact Ev.ret rfl (q)
    · exact Ev.ret rfl ((absurd hc (by omega)))

theorem cn_comma {d b n : Nat} {u : Q5} {S : Sta} {h : PH} {Q : Rs → PH → Prop} (I : CI h S b n u) (W : WN S) {p : Int} (hp : -2147483648 ≤ p ∧ p < 2147483648) (hc : ¬ (0 ≤ p ∧ p < (csS S).length)) (q : Q (.inr 2) (grow h 6)) : Rn d 43 [.inr (.inr (.inr (1, 0, 1))), .inl (iZ (p))] h Q := by
  have sh := ci_sh I
  have hb := ci_b I
  have W0 := W
  obtain ⟨⟨w1, w2, w3, w4, w5, w6⟩, w7, w8, w9, w10, w11, w12, w13, w14, w15, w16, w17, w18⟩ := W0
  refine Ev.sts 1 (c' := (1, [some (.inr (.inr (.inr (1, 0, 1)))), some (.inl (iZ (p)))], [.inl (iZ (p))], h)) rfl ?_
  refine Ev.brc (p := (iZ (p)) < (iZ (0))) (q := ((p : Int)) < 0) (c1 := (12, [some (.inr (.inr (.inr (1, 0, 1)))), some (.inl (iZ (p)))], [], h)) (c2 := (4, [some (.inr (.inr (.inr (1, 0, 1)))), some (.inl (iZ (p)))], [], h)) rfl (iZ_lt ⟨by omega, by omega⟩ ⟨by omega, by omega⟩) (fun c0 => ?_) (fun c0 => ?_)
  · exact Ev.ret rfl (q)
  · refine Ev.sts 2 (c' := (6, [some (.inr (.inr (.inr (1, 0, 1)))), some (.inl (iZ (p)))], [.inr (.inr (.inr (1, 0, 1))), .inl (iZ (p))], h)) rfl ?_
    refine Ev.gv (w := (iZ ((csS S).length))) rfl (ci_cs I).1 ?_
    refine Ev.brc (p := (iZ (p)) < (iZ ((csS S).length))) (q := ((p : Int)) < ((csS S).length)) (c1 := (22, [some (.inr (.inr (.inr (1, 0, 1)))), some (.inl (iZ (p)))], [], h)) (c2 := (12, [some (.inr (.inr (.inr (1, 0, 1)))), some (.inl (iZ (p)))], [], h)) rfl (iZ_lt ⟨by omega, by omega⟩ ⟨by omega, by omega⟩) (fun c1 => ?_) (fun c1 => ?_)
    · exact Ev.ret rfl ((absurd (show 0 ≤ p ∧ p < (csS S).length by omega) hc))
    · exact Ev.ret rfl (q)

theorem cr_flock {d b n : Nat} {u : Q5} {S : Sta} {h : PH} (I : CI h S b n u) (W : WN S) {p : Int} (hc : 0 ≤ p ∧ p < (bkS S).2.1.length) : Rv d 42 [.inr (.inr (.inr (1, 0, 1))), .inl (iZ (p))] h (none) h := Rv.of fun Q q => by
  have sh := ci_sh I
  have hb := ci_b I
  have W0 := W
  obtain ⟨⟨w1, w2, w3, w4, w5, w6⟩, w7, w8, w9, w10, w11, w12, w13, w14, w15, w16, w17, w18⟩ := W0
  refine Ev.sts 1 (c' := (1, [some (.inr (.inr (.inr (1, 0, 1)))), some (.inl (iZ (p)))], [.inl (iZ (p))], h)) rfl ?_
  refine Ev.brc (p := (iZ (p)) < (iZ (0))) (q := ((p : Int)) < 0) (c1 := (15, [some (.inr (.inr (.inr (1, 0, 1)))), some (.inl (iZ (p)))], [], h)) (c2 := (4, [some (.inr (.inr (.inr (1, 0, 1)))), some (.inl (iZ (p)))], [], h)) rfl (iZ_lt ⟨by omega, by omega⟩ ⟨by omega, by omega⟩) (fun c0 => ?_) (fun c0 => ?_)
  · exact Ev.ret rfl ((absurd hc (by omega)))
  · refine Ev.sts 2 (c' := (6, [some (.inr (.inr (.inr (1, 0, 1)))), some (.inl (iZ (p)))], [.inr (.inr (.inr (1, 0, 1))), .inl (iZ (p))], h)) rfl ?_
    refine Ev.gfr (r := (2, 0, b)) rfl (ci_17 I) ?_
    refine Ev.gv (w := (iZ ((bkS S).2.1.length))) rfl (ci_bk I).2.1 ?_
    refine Ev.brc (p := (iZ (p)) < (iZ ((bkS S).2.1.length))) (q := ((p : Int)) < ((bkS S).2.1.length)) (c1 := (26, [some (.inr (.inr (.inr (1, 0, 1)))), some (.inl (iZ (p)))], [], h)) (c2 := (15, [some (.inr (.inr (.inr (1, 0, 1)))), some (.inl (iZ (p)))], [], h)) rfl (iZ_lt ⟨by omega, by omega⟩ ⟨by omega, by omega⟩) (fun c1 => ?_) (fun c1 => ?_)
    · exact Ev.ret rfl (q)
    · exact Ev.ret rfl ((absurd hc (by omega)))

theorem cn_flock {d b n : Nat} {u : Q5} {S : Sta} {h : PH} {Q : Rs → PH → Prop} (I : CI h S b n u) (W : WN S) {p : Int} (hp : -2147483648 ≤ p ∧ p < 2147483648) (hc : ¬ (0 ≤ p ∧ p < (bkS S).2.1.length)) (q : Q (.inr 2) (grow h 6)) : Rn d 42 [.inr (.inr (.inr (1, 0, 1))), .inl (iZ (p))] h Q := by
  have sh := ci_sh I
  have hb := ci_b I
  have W0 := W
  obtain ⟨⟨w1, w2, w3, w4, w5, w6⟩, w7, w8, w9, w10, w11, w12, w13, w14, w15, w16, w17, w18⟩ := W0
  refine Ev.sts 1 (c' := (1, [some (.inr (.inr (.inr (1, 0, 1)))), some (.inl (iZ (p)))], [.inl (iZ (p))], h)) rfl ?_
  refine Ev.brc (p := (iZ (p)) < (iZ (0))) (q := ((p : Int)) < 0) (c1 := (15, [some (.inr (.inr (.inr (1, 0, 1)))), some (.inl (iZ (p)))], [], h)) (c2 := (4, [some (.inr (.inr (.inr (1, 0, 1)))), some (.inl (iZ (p)))], [], h)) rfl (iZ_lt ⟨by omega, by omega⟩ ⟨by omega, by omega⟩) (fun c0 => ?_) (fun c0 => ?_)
  · exact Ev.ret rfl (q)
  · refine Ev.sts 2 (c' := (6, [some (.inr (.inr (.inr (1, 0, 1)))), some (.inl (iZ (p)))], [.inr (.inr (.inr (1, 0, 1))), .inl (iZ (p))], h)) rfl ?_
    refine Ev.gfr (r := (2, 0, b)) rfl (ci_17 I) ?_
    refine Ev.gv (w := (iZ ((bkS S).2.1.length))) rfl (ci_bk I).2.1 ?_
    refine Ev.brc (p := (iZ (p)) < (iZ ((bkS S).2.1.length))) (q := ((p : Int)) < ((bkS S).2.1.length)) (c1 := (26, [some (.inr (.inr (.inr (1, 0, 1)))), some (.inl (iZ (p)))], [], h)) (c2 := (15, [some (.inr (.inr (.inr (1, 0, 1)))), some (.inl (iZ (p)))], [], h)) rfl (iZ_lt ⟨by omega, by omega⟩ ⟨by omega, by omega⟩) (fun c1 => ?_) (fun c1 => ?_)
    · exact Ev.ret rfl ((absurd (show 0 ≤ p ∧ p < (bkS S).2.1.length by omega) hc))
    · exact Ev.ret rfl (q)

theorem cr_goose {d b n : Nat} {u : Q5} {S : Sta} {h : PH} (I : CI h S b n u) (W : WN S) {p : Int} (hc : 0 ≤ p ∧ p < (bkS S).2.2.length) : Rv (d + 1) 48 [.inr (.inr (.inr (1, 0, 1))), .inl (iZ (p))] h (none) h := Rv.of fun Q q => by
  have sh := ci_sh I
  have hb := ci_b I
  have W0 := W
  obtain ⟨⟨w1, w2, w3, w4, w5, w6⟩, w7, w8, w9, w10, w11, w12, w13, w14, w15, w16, w17, w18⟩ := W0
  refine Ev.sts 1 (c' := (1, [some (.inr (.inr (.inr (1, 0, 1)))), some (.inl (iZ (p)))], [.inl (iZ (p))], h)) rfl ?_
  refine Ev.brc (p := (iZ (p)) < (iZ (0))) (q := ((p : Int)) < 0) (c1 := (12, [some (.inr (.inr (.inr (1, 0, 1)))), some (.inl (iZ (p)))], [], h)) (c2 := (4, [some (.inr (.inr (.inr (1, 0, 1)))), some (.inl (iZ (p)))], [], h)) rfl (iZ_lt ⟨by omega, by omega⟩ ⟨by omega, by omega⟩) (fun c0 => ?_) (fun c0 => ?_)
  · exact Ev.ret rfl ((absurd hc (by omega)))
  · refine Ev.sts 2 (c' := (6, [some (.inr (.inr (.inr (1, 0, 1)))), some (.inl (iZ (p)))], [.inr (.inr (.inr (1, 0, 1))), .inl (iZ (p))], h)) rfl ?_
    refine Ev.callv (a := [.inr (.inr (.inr (1, 0, 1)))]) rfl (cx_counted I W) ?_
    refine Ev.brc (p := (iZ (p)) < (iZ ((bkS S).2.2.length))) (q := ((p : Int)) < ((bkS S).2.2.length)) (c1 := (23, [some (.inr (.inr (.inr (1, 0, 1)))), some (.inl (iZ (p)))], [], h)) (c2 := (12, [some (.inr (.inr (.inr (1, 0, 1)))), some (.inl (iZ (p)))], [], h)) rfl (iZ_lt ⟨by omega, by omega⟩ ⟨by omega, by omega⟩) (fun c1 => ?_) (fun c1 => ?_)
    · exact Ev.ret rfl (q)
    · exact Ev.ret rfl ((absurd hc (by omega)))

theorem cn_goose {d b n : Nat} {u : Q5} {S : Sta} {h : PH} {Q : Rs → PH → Prop} (I : CI h S b n u) (W : WN S) {p : Int} (hp : -2147483648 ≤ p ∧ p < 2147483648) (hc : ¬ (0 ≤ p ∧ p < (bkS S).2.2.length)) (q : Q (.inr 2) (grow h 6)) : Rn (d + 1) 48 [.inr (.inr (.inr (1, 0, 1))), .inl (iZ (p))] h Q := by
  have sh := ci_sh I
  have hb := ci_b I
  have W0 := W
  obtain ⟨⟨w1, w2, w3, w4, w5, w6⟩, w7, w8, w9, w10, w11, w12, w13, w14, w15, w16, w17, w18⟩ := W0
  refine Ev.sts 1 (c' := (1, [some (.inr (.inr (.inr (1, 0, 1)))), some (.inl (iZ (p)))], [.inl (iZ (p))], h)) rfl ?_
  refine Ev.brc (p := (iZ (p)) < (iZ (0))) (q := ((p : Int)) < 0) (c1 := (12, [some (.inr (.inr (.inr (1, 0, 1)))), some (.inl (iZ (p)))], [], h)) (c2 := (4, [some (.inr (.inr (.inr (1, 0, 1)))), some (.inl (iZ (p)))], [], h)) rfl (iZ_lt ⟨by omega, by omega⟩ ⟨by omega, by omega⟩) (fun c0 => ?_) (fun c0 => ?_)
  · exact Ev.ret rfl (q)
  · refine Ev.sts 2 (c' := (6, [some (.inr (.inr (.inr (1, 0, 1)))), some (.inl (iZ (p)))], [.inr (.inr (.inr (1, 0, 1))), .inl (iZ (p))], h)) rfl ?_
    refine Ev.callv (a := [.inr (.inr (.inr (1, 0, 1)))]) rfl (cx_counted I W) ?_
    refine Ev.brc (p := (iZ (p)) < (iZ ((bkS S).2.2.length))) (q := ((p : Int)) < ((bkS S).2.2.length)) (c1 := (23, [some (.inr (.inr (.inr (1, 0, 1)))), some (.inl (iZ (p)))], [], h)) (c2 := (12, [some (.inr (.inr (.inr (1, 0, 1)))), some (.inl (iZ (p)))], [], h)) rfl (iZ_lt ⟨by omega, by omega⟩ ⟨by omega, by omega⟩) (fun c1 => ?_) (fun c1 => ?_)
    · exact Ev.ret rfl ((absurd (show 0 ≤ p ∧ p < (bkS S).2.2.length by omega) hc))
    · exact Ev.ret rfl (q)

theorem cr_telling {d b n : Nat} {u : Q5} {S : Sta} {h : PH} (I : CI h S b n u) (W : WN S) {p : Int} (hc : 0 ≤ p ∧ p < (tlS S).length) : Rv d 58 [.inr (.inr (.inr (1, 0, 1))), .inl (iZ (p))] h (none) h := Rv.of fun Q q => by
  have sh := ci_sh I
  have hb := ci_b I
  have W0 := W
  obtain ⟨⟨w1, w2, w3, w4, w5, w6⟩, w7, w8, w9, w10, w11, w12, w13, w14, w15, w16, w17, w18⟩ := W0
  refine Ev.sts 1 (c' := (1, [some (.inr (.inr (.inr (1, 0, 1)))), some (.inl (iZ (p)))], [.inl (iZ (p))], h)) rfl ?_
  refine Ev.brc (p := (iZ (p)) < (iZ (0))) (q := ((p : Int)) < 0) (c1 := (15, [some (.inr (.inr (.inr (1, 0, 1)))), some (.inl (iZ (p)))], [], h)) (c2 := (4, [some (.inr (.inr (.inr (1, 0, 1)))), some (.inl (iZ (p)))], [], h)) rfl (iZ_lt ⟨by omega, by omega⟩ ⟨by omega, by omega⟩) (fun c0 => ?_) (fun c0 => ?_)
  · exact Ev.ret rfl ((absurd hc (by omega)))
  · refine Ev.sts 2 (c' := (6, [some (.inr (.inr (.inr (1, 0, 1)))), some (.inl (iZ (p)))], [.inr (.inr (.inr (1, 0, 1))), .inl (iZ (p))], h)) rfl ?_
    refine Ev.gfr (r := (8, 0, 62)) rfl (sh_1_6 sh) ?_
    refine Ev.gv (w := (iZ ((tlS S).length))) rfl (ci_tl I).1 ?_
    refine Ev.brc (p := (iZ (p)) < (iZ ((tlS S).length))) (q := ((p : Int)) < ((tlS S).length)) (c1 := (26, [some (.inr (.inr (.inr (1, 0, 1)))), some (.inl (iZ (p)))], [], h)) (c2 := (15, [some (.inr (.inr (.inr (1, 0, 1)))), some (.inl (iZ (p)))], [], h)) rfl (iZ_lt ⟨by omega, by omega⟩ ⟨by omega, by omega⟩) (fun c1 => ?_) (fun c1 => ?_)
    · exact Ev.ret rfl (q)
    · exact Ev.ret rfl ((absurd hc (by omega)))

theorem cn_telling {d b n : Nat} {u : Q5} {S : Sta} {h : PH} {Q : Rs → PH → Prop} (I : CI h S b n u) (W : WN S) {p : Int} (hp : -2147483648 ≤ p ∧ p < 2147483648) (hc : ¬ (0 ≤ p ∧ p < (tlS S).length)) (q : Q (.inr 2) (grow h 6)) : Rn d 58 [.inr (.inr (.inr (1, 0, 1))), .inl (iZ (p))] h Q := by
  have sh := ci_sh I
  have hb := ci_b I
  have W0 := W
  obtain ⟨⟨w1, w2, w3, w4, w5, w6⟩, w7, w8, w9, w10, w11, w12, w13, w14, w15, w16, w17, w18⟩ := W0
  refine Ev.sts 1 (c' := (1, [some (.inr (.inr (.inr (1, 0, 1)))), some (.inl (iZ (p)))], [.inl (iZ (p))], h)) rfl ?_
  refine Ev.brc (p := (iZ (p)) < (iZ (0))) (q := ((p : Int)) < 0) (c1 := (15, [some (.inr (.inr (.inr (1, 0, 1)))), some (.inl (iZ (p)))], [], h)) (c2 := (4, [some (.inr (.inr (.inr (1, 0, 1)))), some (.inl (iZ (p)))], [], h)) rfl (iZ_lt ⟨by omega, by omega⟩ ⟨by omega, by omega⟩) (fun c0 => ?_) (fun c0 => ?_)
  · exact Ev.ret rfl (q)
  · refine Ev.sts 2 (c' := (6, [some (.inr (.inr (.inr (1, 0, 1)))), some (.inl (iZ (p)))], [.inr (.inr (.inr (1, 0, 1))), .inl (iZ (p))], h)) rfl ?_
    refine Ev.gfr (r := (8, 0, 62)) rfl (sh_1_6 sh) ?_
    refine Ev.gv (w := (iZ ((tlS S).length))) rfl (ci_tl I).1 ?_
    refine Ev.brc (p := (iZ (p)) < (iZ ((tlS S).length))) (q := ((p : Int)) < ((tlS S).length)) (c1 := (26, [some (.inr (.inr (.inr (1, 0, 1)))), some (.inl (iZ (p)))], [], h)) (c2 := (15, [some (.inr (.inr (.inr (1, 0, 1)))), some (.inl (iZ (p)))], [], h)) rfl (iZ_lt ⟨by omega, by omega⟩ ⟨by omega, by omega⟩) (fun c1 => ?_) (fun c1 => ?_)
    · exact Ev.ret rfl ((absurd (show 0 ≤ p ∧ p < (tlS S).length by omega) hc))
    · exact Ev.ret rfl (q)



theorem cr_window {d b n : Nat} {u : Q5} {S : Sta} {h : PH} (I : CI h S b n u) (W : WN S) {p w : Int} {g : Nat} (hp : p = (g : Int)) (hc : g < (bkS S).2.2.length) (hw : 0 ≤ w ∧ w < (wdS S g).length) : Rv (d + 2) 53 [.inr (.inr (.inr (1, 0, 1))), .inl (iZ (p)), .inl (iZ (w))] h (none) h := Rv.of fun Q q => by
  have sh := ci_sh I
  have hb := ci_b I
  have W0 := W
  obtain ⟨⟨w1, w2, w3, w4, w5, w6⟩, w7, w8, w9, w10, w11, w12, w13, w14, w15, w16, w17, w18⟩ := W0
  have hg : g < 6 := by omega
  have hwl := (w14 g).2
  refine Ev.sts 2 (c' := (2, [some (.inr (.inr (.inr (1, 0, 1)))), some (.inl (iZ (p))), some (.inl (iZ (w)))], [.inl (iZ (p)), .inr (.inr (.inr (1, 0, 1)))], h)) rfl ?_
  refine Ev.callv (a := [.inr (.inr (.inr (1, 0, 1))), .inl (iZ (p))]) rfl (cr_goose I W ⟨by omega, by omega⟩) ?_
  refine Ev.sts 1 (c' := (6, [some (.inr (.inr (.inr (1, 0, 1)))), some (.inl (iZ (p))), some (.inl (iZ (w)))], [.inl (iZ (w))], h)) rfl ?_
  refine Ev.brc (p := (iZ (w)) < (iZ (0))) (q := ((w : Int)) < 0) (c1 := (22, [some (.inr (.inr (.inr (1, 0, 1)))), some (.inl (iZ (p))), some (.inl (iZ (w)))], [], h)) (c2 := (9, [some (.inr (.inr (.inr (1, 0, 1)))), some (.inl (iZ (p))), some (.inl (iZ (w)))], [], h)) rfl (iZ_lt ⟨by omega, by omega⟩ ⟨by omega, by omega⟩) (fun c0 => ?_) (fun c0 => ?_)
  · exact Ev.ret rfl ((absurd hw (by omega)))
  · refine Ev.sts 2 (c' := (11, [some (.inr (.inr (.inr (1, 0, 1)))), some (.inl (iZ (p))), some (.inl (iZ (w)))], [.inr (.inr (.inr (1, 0, 1))), .inl (iZ (w))], h)) rfl ?_
    refine Ev.gfr (r := (25, 6, 31)) rfl (sh_1_5 sh) ?_
    refine Ev.sts 1 (c' := (15, [some (.inr (.inr (.inr (1, 0, 1)))), some (.inl (iZ (p))), some (.inl (iZ (w)))], [.inl (iZ (p)), .inr (.inr (.inr (25, 6, 31))), .inl (iZ (w))], h)) rfl ?_
    refine Ev.ldv (j := (iZ (p))) (n := 6) (w := .inr (.inr (.inr (10, 0, (32 + 5 * g))))) (iZ_in (by omega) (by omega) (by omega)) rfl (by rw [iZ_ix (n := g) (by omega) (by omega)]; exact congrArg vR (sh_31 sh hg)) ?_
    refine Ev.gv (w := (iZ ((wdS S g).length))) rfl (ci_ws I g hg).1.1 ?_
    refine Ev.brc (p := (iZ (w)) < (iZ ((wdS S g).length))) (q := ((w : Int)) < ((wdS S g).length)) (c1 := (33, [some (.inr (.inr (.inr (1, 0, 1)))), some (.inl (iZ (p))), some (.inl (iZ (w)))], [], h)) (c2 := (22, [some (.inr (.inr (.inr (1, 0, 1)))), some (.inl (iZ (p))), some (.inl (iZ (w)))], [], h)) rfl (iZ_lt ⟨by omega, by omega⟩ ⟨by omega, by omega⟩) (fun c1 => ?_) (fun c1 => ?_)
    · exact Ev.ret rfl (q)
    · exact Ev.ret rfl ((absurd hw (by omega)))

theorem cn_window {d b n : Nat} {u : Q5} {S : Sta} {h : PH} {Q : Rs → PH → Prop} (I : CI h S b n u) (W : WN S) {p w : Int} {g : Nat} (hp : p = (g : Int)) (hc : g < (bkS S).2.2.length) (hwb : -2147483648 ≤ w ∧ w < 2147483648) (hw : ¬ (0 ≤ w ∧ w < (wdS S g).length)) (q : Q (.inr 2) (grow h 6)) : Rn (d + 2) 53 [.inr (.inr (.inr (1, 0, 1))), .inl (iZ (p)), .inl (iZ (w))] h Q := by
  have sh := ci_sh I
  have hb := ci_b I
  have W0 := W
  obtain ⟨⟨w1, w2, w3, w4, w5, w6⟩, w7, w8, w9, w10, w11, w12, w13, w14, w15, w16, w17, w18⟩ := W0
  have hg : g < 6 := by omega
  have hwl := (w14 g).2
  refine Ev.sts 2 (c' := (2, [some (.inr (.inr (.inr (1, 0, 1)))), some (.inl (iZ (p))), some (.inl (iZ (w)))], [.inl (iZ (p)), .inr (.inr (.inr (1, 0, 1)))], h)) rfl ?_
  refine Ev.callv (a := [.inr (.inr (.inr (1, 0, 1))), .inl (iZ (p))]) rfl (cr_goose I W ⟨by omega, by omega⟩) ?_
  refine Ev.sts 1 (c' := (6, [some (.inr (.inr (.inr (1, 0, 1)))), some (.inl (iZ (p))), some (.inl (iZ (w)))], [.inl (iZ (w))], h)) rfl ?_
  refine Ev.brc (p := (iZ (w)) < (iZ (0))) (q := ((w : Int)) < 0) (c1 := (22, [some (.inr (.inr (.inr (1, 0, 1)))), some (.inl (iZ (p))), some (.inl (iZ (w)))], [], h)) (c2 := (9, [some (.inr (.inr (.inr (1, 0, 1)))), some (.inl (iZ (p))), some (.inl (iZ (w)))], [], h)) rfl (iZ_lt ⟨by omega, by omega⟩ ⟨by omega, by omega⟩) (fun c0 => ?_) (fun c0 => ?_)
  · exact Ev.ret rfl (q)
  · refine Ev.sts 2 (c' := (11, [some (.inr (.inr (.inr (1, 0, 1)))), some (.inl (iZ (p))), some (.inl (iZ (w)))], [.inr (.inr (.inr (1, 0, 1))), .inl (iZ (w))], h)) rfl ?_
    refine Ev.gfr (r := (25, 6, 31)) rfl (sh_1_5 sh) ?_
    refine Ev.sts 1 (c' := (15, [some (.inr (.inr (.inr (1, 0, 1)))), some (.inl (iZ (p))), some (.inl (iZ (w)))], [.inl (iZ (p)), .inr (.inr (.inr (25, 6, 31))), .inl (iZ (w))], h)) rfl ?_
    refine Ev.ldv (j := (iZ (p))) (n := 6) (w := .inr (.inr (.inr (10, 0, (32 + 5 * g))))) (iZ_in (by omega) (by omega) (by omega)) rfl (by rw [iZ_ix (n := g) (by omega) (by omega)]; exact congrArg vR (sh_31 sh hg)) ?_
    refine Ev.gv (w := (iZ ((wdS S g).length))) rfl (ci_ws I g hg).1.1 ?_
    refine Ev.brc (p := (iZ (w)) < (iZ ((wdS S g).length))) (q := ((w : Int)) < ((wdS S g).length)) (c1 := (33, [some (.inr (.inr (.inr (1, 0, 1)))), some (.inl (iZ (p))), some (.inl (iZ (w)))], [], h)) (c2 := (22, [some (.inr (.inr (.inr (1, 0, 1)))), some (.inl (iZ (p))), some (.inl (iZ (w)))], [], h)) rfl (iZ_lt ⟨by omega, by omega⟩ ⟨by omega, by omega⟩) (fun c1 => ?_) (fun c1 => ?_)
    · exact Ev.ret rfl ((absurd (show 0 ≤ w ∧ w < (wdS S g).length by omega) hw))
    · exact Ev.ret rfl (q)

def bcv (x : Int32) : Int32 := ((((((((x - (((x).toUInt32 >>> (((iZ (1))).toUInt32 &&& Int32.toUInt32 31)).toInt32 &&& (iZ (1431655765)))) &&& (iZ (858993459))) + ((((x - (((x).toUInt32 >>> (((iZ (1))).toUInt32 &&& Int32.toUInt32 31)).toInt32 &&& (iZ (1431655765))))).toUInt32 >>> (((iZ (2))).toUInt32 &&& Int32.toUInt32 31)).toInt32 &&& (iZ (858993459)))) + (((((x - (((x).toUInt32 >>> (((iZ (1))).toUInt32 &&& Int32.toUInt32 31)).toInt32 &&& (iZ (1431655765)))) &&& (iZ (858993459))) + ((((x - (((x).toUInt32 >>> (((iZ (1))).toUInt32 &&& Int32.toUInt32 31)).toInt32 &&& (iZ (1431655765))))).toUInt32 >>> (((iZ (2))).toUInt32 &&& Int32.toUInt32 31)).toInt32 &&& (iZ (858993459))))).toUInt32 >>> (((iZ (4))).toUInt32 &&& Int32.toUInt32 31)).toInt32) &&& (iZ (252645135))) + (((((((x - (((x).toUInt32 >>> (((iZ (1))).toUInt32 &&& Int32.toUInt32 31)).toInt32 &&& (iZ (1431655765)))) &&& (iZ (858993459))) + ((((x - (((x).toUInt32 >>> (((iZ (1))).toUInt32 &&& Int32.toUInt32 31)).toInt32 &&& (iZ (1431655765))))).toUInt32 >>> (((iZ (2))).toUInt32 &&& Int32.toUInt32 31)).toInt32 &&& (iZ (858993459)))) + (((((x - (((x).toUInt32 >>> (((iZ (1))).toUInt32 &&& Int32.toUInt32 31)).toInt32 &&& (iZ (1431655765)))) &&& (iZ (858993459))) + ((((x - (((x).toUInt32 >>> (((iZ (1))).toUInt32 &&& Int32.toUInt32 31)).toInt32 &&& (iZ (1431655765))))).toUInt32 >>> (((iZ (2))).toUInt32 &&& Int32.toUInt32 31)).toInt32 &&& (iZ (858993459))))).toUInt32 >>> (((iZ (4))).toUInt32 &&& Int32.toUInt32 31)).toInt32) &&& (iZ (252645135)))).toUInt32 >>> (((iZ (8))).toUInt32 &&& Int32.toUInt32 31)).toInt32) + ((((((((x - (((x).toUInt32 >>> (((iZ (1))).toUInt32 &&& Int32.toUInt32 31)).toInt32 &&& (iZ (1431655765)))) &&& (iZ (858993459))) + ((((x - (((x).toUInt32 >>> (((iZ (1))).toUInt32 &&& Int32.toUInt32 31)).toInt32 &&& (iZ (1431655765))))).toUInt32 >>> (((iZ (2))).toUInt32 &&& Int32.toUInt32 31)).toInt32 &&& (iZ (858993459)))) + (((((x - (((x).toUInt32 >>> (((iZ (1))).toUInt32 &&& Int32.toUInt32 31)).toInt32 &&& (iZ (1431655765)))) &&& (iZ (858993459))) + ((((x - (((x).toUInt32 >>> (((iZ (1))).toUInt32 &&& Int32.toUInt32 31)).toInt32 &&& (iZ (1431655765))))).toUInt32 >>> (((iZ (2))).toUInt32 &&& Int32.toUInt32 31)).toInt32 &&& (iZ (858993459))))).toUInt32 >>> (((iZ (4))).toUInt32 &&& Int32.toUInt32 31)).toInt32) &&& (iZ (252645135))) + (((((((x - (((x).toUInt32 >>> (((iZ (1))).toUInt32 &&& Int32.toUInt32 31)).toInt32 &&& (iZ (1431655765)))) &&& (iZ (858993459))) + ((((x - (((x).toUInt32 >>> (((iZ (1))).toUInt32 &&& Int32.toUInt32 31)).toInt32 &&& (iZ (1431655765))))).toUInt32 >>> (((iZ (2))).toUInt32 &&& Int32.toUInt32 31)).toInt32 &&& (iZ (858993459)))) + (((((x - (((x).toUInt32 >>> (((iZ (1))).toUInt32 &&& Int32.toUInt32 31)).toInt32 &&& (iZ (1431655765)))) &&& (iZ (858993459))) + ((((x - (((x).toUInt32 >>> (((iZ (1))).toUInt32 &&& Int32.toUInt32 31)).toInt32 &&& (iZ (1431655765))))).toUInt32 >>> (((iZ (2))).toUInt32 &&& Int32.toUInt32 31)).toInt32 &&& (iZ (858993459))))).toUInt32 >>> (((iZ (4))).toUInt32 &&& Int32.toUInt32 31)).toInt32) &&& (iZ (252645135)))).toUInt32 >>> (((iZ (8))).toUInt32 &&& Int32.toUInt32 31)).toInt32)).toUInt32 >>> (((iZ (16))).toUInt32 &&& Int32.toUInt32 31)).toInt32) &&& (iZ (63)))
theorem sp_bitCount {d : Nat} {x : Int32} {h : PH} : Rv d 214 [.inl (x)] h (some (.inl (bcv x))) h := Rv.of fun Q q => by
  refine Ev.sts 41 (c' := (52, [some (.inl ((((((((x - (((x).toUInt32 >>> (((iZ (1))).toUInt32 &&& Int32.toUInt32 31)).toInt32 &&& (iZ (1431655765)))) &&& (iZ (858993459))) + ((((x - (((x).toUInt32 >>> (((iZ (1))).toUInt32 &&& Int32.toUInt32 31)).toInt32 &&& (iZ (1431655765))))).toUInt32 >>> (((iZ (2))).toUInt32 &&& Int32.toUInt32 31)).toInt32 &&& (iZ (858993459)))) + (((((x - (((x).toUInt32 >>> (((iZ (1))).toUInt32 &&& Int32.toUInt32 31)).toInt32 &&& (iZ (1431655765)))) &&& (iZ (858993459))) + ((((x - (((x).toUInt32 >>> (((iZ (1))).toUInt32 &&& Int32.toUInt32 31)).toInt32 &&& (iZ (1431655765))))).toUInt32 >>> (((iZ (2))).toUInt32 &&& Int32.toUInt32 31)).toInt32 &&& (iZ (858993459))))).toUInt32 >>> (((iZ (4))).toUInt32 &&& Int32.toUInt32 31)).toInt32) &&& (iZ (252645135))) + (((((((x - (((x).toUInt32 >>> (((iZ (1))).toUInt32 &&& Int32.toUInt32 31)).toInt32 &&& (iZ (1431655765)))) &&& (iZ (858993459))) + ((((x - (((x).toUInt32 >>> (((iZ (1))).toUInt32 &&& Int32.toUInt32 31)).toInt32 &&& (iZ (1431655765))))).toUInt32 >>> (((iZ (2))).toUInt32 &&& Int32.toUInt32 31)).toInt32 &&& (iZ (858993459)))) + (((((x - (((x).toUInt32 >>> (((iZ (1))).toUInt32 &&& Int32.toUInt32 31)).toInt32 &&& (iZ (1431655765)))) &&& (iZ (858993459))) + ((((x - (((x).toUInt32 >>> (((iZ (1))).toUInt32 &&& Int32.toUInt32 31)).toInt32 &&& (iZ (1431655765))))).toUInt32 >>> (((iZ (2))).toUInt32 &&& Int32.toUInt32 31)).toInt32 &&& (iZ (858993459))))).toUInt32 >>> (((iZ (4))).toUInt32 &&& Int32.toUInt32 31)).toInt32) &&& (iZ (252645135)))).toUInt32 >>> (((iZ (8))).toUInt32 &&& Int32.toUInt32 31)).toInt32) + ((((((((x - (((x).toUInt32 >>> (((iZ (1))).toUInt32 &&& Int32.toUInt32 31)).toInt32 &&& (iZ (1431655765)))) &&& (iZ (858993459))) + ((((x - (((x).toUInt32 >>> (((iZ (1))).toUInt32 &&& Int32.toUInt32 31)).toInt32 &&& (iZ (1431655765))))).toUInt32 >>> (((iZ (2))).toUInt32 &&& Int32.toUInt32 31)).toInt32 &&& (iZ (858993459)))) + (((((x - (((x).toUInt32 >>> (((iZ (1))).toUInt32 &&& Int32.toUInt32 31)).toInt32 &&& (iZ (1431655765)))) &&& (iZ (858993459))) + ((((x - (((x).toUInt32 >>> (((iZ (1))).toUInt32 &&& Int32.toUInt32 31)).toInt32 &&& (iZ (1431655765))))).toUInt32 >>> (((iZ (2))).toUInt32 &&& Int32.toUInt32 31)).toInt32 &&& (iZ (858993459))))).toUInt32 >>> (((iZ (4))).toUInt32 &&& Int32.toUInt32 31)).toInt32) &&& (iZ (252645135))) + (((((((x - (((x).toUInt32 >>> (((iZ (1))).toUInt32 &&& Int32.toUInt32 31)).toInt32 &&& (iZ (1431655765)))) &&& (iZ (858993459))) + ((((x - (((x).toUInt32 >>> (((iZ (1))).toUInt32 &&& Int32.toUInt32 31)).toInt32 &&& (iZ (1431655765))))).toUInt32 >>> (((iZ (2))).toUInt32 &&& Int32.toUInt32 31)).toInt32 &&& (iZ (858993459)))) + (((((x - (((x).toUInt32 >>> (((iZ (1))).toUInt32 &&& Int32.toUInt32 31)).toInt32 &&& (iZ (1431655765)))) &&& (iZ (858993459))) + ((((x - (((x).toUInt32 >>> (((iZ (1))).toUInt32 &&& Int32.toUInt32 31)).toInt32 &&& (iZ (1431655765))))).toUInt32 >>> (((iZ (2))).toUInt32 &&& Int32.toUInt32 31)).toInt32 &&& (iZ (858993459))))).toUInt32 >>> (((iZ (4))).toUInt32 &&& Int32.toUInt32 31)).toInt32) &&& (iZ (252645135)))).toUInt32 >>> (((iZ (8))).toUInt32 &&& Int32.toUInt32 31)).toInt32)).toUInt32 >>> (((iZ (16))).toUInt32 &&& Int32.toUInt32 31)).toInt32)))], [.inl (((((((((x - (((x).toUInt32 >>> (((iZ (1))).toUInt32 &&& Int32.toUInt32 31)).toInt32 &&& (iZ (1431655765)))) &&& (iZ (858993459))) + ((((x - (((x).toUInt32 >>> (((iZ (1))).toUInt32 &&& Int32.toUInt32 31)).toInt32 &&& (iZ (1431655765))))).toUInt32 >>> (((iZ (2))).toUInt32 &&& Int32.toUInt32 31)).toInt32 &&& (iZ (858993459)))) + (((((x - (((x).toUInt32 >>> (((iZ (1))).toUInt32 &&& Int32.toUInt32 31)).toInt32 &&& (iZ (1431655765)))) &&& (iZ (858993459))) + ((((x - (((x).toUInt32 >>> (((iZ (1))).toUInt32 &&& Int32.toUInt32 31)).toInt32 &&& (iZ (1431655765))))).toUInt32 >>> (((iZ (2))).toUInt32 &&& Int32.toUInt32 31)).toInt32 &&& (iZ (858993459))))).toUInt32 >>> (((iZ (4))).toUInt32 &&& Int32.toUInt32 31)).toInt32) &&& (iZ (252645135))) + (((((((x - (((x).toUInt32 >>> (((iZ (1))).toUInt32 &&& Int32.toUInt32 31)).toInt32 &&& (iZ (1431655765)))) &&& (iZ (858993459))) + ((((x - (((x).toUInt32 >>> (((iZ (1))).toUInt32 &&& Int32.toUInt32 31)).toInt32 &&& (iZ (1431655765))))).toUInt32 >>> (((iZ (2))).toUInt32 &&& Int32.toUInt32 31)).toInt32 &&& (iZ (858993459)))) + (((((x - (((x).toUInt32 >>> (((iZ (1))).toUInt32 &&& Int32.toUInt32 31)).toInt32 &&& (iZ (1431655765)))) &&& (iZ (858993459))) + ((((x - (((x).toUInt32 >>> (((iZ (1))).toUInt32 &&& Int32.toUInt32 31)).toInt32 &&& (iZ (1431655765))))).toUInt32 >>> (((iZ (2))).toUInt32 &&& Int32.toUInt32 31)).toInt32 &&& (iZ (858993459))))).toUInt32 >>> (((iZ (4))).toUInt32 &&& Int32.toUInt32 31)).toInt32) &&& (iZ (252645135)))).toUInt32 >>> (((iZ (8))).toUInt32 &&& Int32.toUInt32 31)).toInt32) + ((((((((x - (((x).toUInt32 >>> (((iZ (1))).toUInt32 &&& Int32.toUInt32 31)).toInt32 &&& (iZ (1431655765)))) &&& (iZ (858993459))) + ((((x - (((x).toUInt32 >>> (((iZ (1))).toUInt32 &&& Int32.toUInt32 31)).toInt32 &&& (iZ (1431655765))))).toUInt32 >>> (((iZ (2))).toUInt32 &&& Int32.toUInt32 31)).toInt32 &&& (iZ (858993459)))) + (((((x - (((x).toUInt32 >>> (((iZ (1))).toUInt32 &&& Int32.toUInt32 31)).toInt32 &&& (iZ (1431655765)))) &&& (iZ (858993459))) + ((((x - (((x).toUInt32 >>> (((iZ (1))).toUInt32 &&& Int32.toUInt32 31)).toInt32 &&& (iZ (1431655765))))).toUInt32 >>> (((iZ (2))).toUInt32 &&& Int32.toUInt32 31)).toInt32 &&& (iZ (858993459))))).toUInt32 >>> (((iZ (4))).toUInt32 &&& Int32.toUInt32 31)).toInt32) &&& (iZ (252645135))) + (((((((x - (((x).toUInt32 >>> (((iZ (1))).toUInt32 &&& Int32.toUInt32 31)).toInt32 &&& (iZ (1431655765)))) &&& (iZ (858993459))) + ((((x - (((x).toUInt32 >>> (((iZ (1))).toUInt32 &&& Int32.toUInt32 31)).toInt32 &&& (iZ (1431655765))))).toUInt32 >>> (((iZ (2))).toUInt32 &&& Int32.toUInt32 31)).toInt32 &&& (iZ (858993459)))) + (((((x - (((x).toUInt32 >>> (((iZ (1))).toUInt32 &&& Int32.toUInt32 31)).toInt32 &&& (iZ (1431655765)))) &&& (iZ (858993459))) + ((((x - (((x).toUInt32 >>> (((iZ (1))).toUInt32 &&& Int32.toUInt32 31)).toInt32 &&& (iZ (1431655765))))).toUInt32 >>> (((iZ (2))).toUInt32 &&& Int32.toUInt32 31)).toInt32 &&& (iZ (858993459))))).toUInt32 >>> (((iZ (4))).toUInt32 &&& Int32.toUInt32 31)).toInt32) &&& (iZ (252645135)))).toUInt32 >>> (((iZ (8))).toUInt32 &&& Int32.toUInt32 31)).toInt32)).toUInt32 >>> (((iZ (16))).toUInt32 &&& Int32.toUInt32 31)).toInt32) &&& (iZ (63))))], h)) rfl ?_
  exact Ev.ret rfl (q)

theorem cq_hourOf {d b n : Nat} {u : Q5} {S : Sta} {h : PH} (I : CI h S b n u) (W : WN S) {p : Int} {k : Nat} (hp : p = (k : Int)) (hc : k < (csS S).length) : Rv (d + 1) 66 [.inr (.inr (.inr (1, 0, 1))), .inl (iZ (p))] h (some (.inl (iZ ((csS S).getD k cd0).1))) h := Rv.of fun Q q => by
  have sh := ci_sh I
  have hb := ci_b I
  have W0 := W
  obtain ⟨⟨w1, w2, w3, w4, w5, w6⟩, w7, w8, w9, w10, w11, w12, w13, w14, w15, w16, w17, w18⟩ := W0
  refine Ev.sts 2 (c' := (2, [some (.inr (.inr (.inr (1, 0, 1)))), some (.inl (iZ (p)))], [.inl (iZ (p)), .inr (.inr (.inr (1, 0, 1)))], h)) rfl ?_
  refine Ev.callv (a := [.inr (.inr (.inr (1, 0, 1))), .inl (iZ (p))]) rfl (cr_comma I W ⟨by omega, by omega⟩) ?_
  refine Ev.sts 1 (c' := (6, [some (.inr (.inr (.inr (1, 0, 1)))), some (.inl (iZ (p)))], [.inr (.inr (.inr (1, 0, 1)))], h)) rfl ?_
  refine Ev.gfr (r := (20, 120, 29)) rfl (sh_1_3 sh) ?_
  refine Ev.sts 1 (c' := (10, [some (.inr (.inr (.inr (1, 0, 1)))), some (.inl (iZ (p)))], [.inl (iZ (p)), .inr (.inr (.inr (20, 120, 29)))], h)) rfl ?_
  refine Ev.callv (a := [.inr (.inr (.inr (20, 120, 29))), .inl (iZ (p))]) rfl (sp_at (k := k) (by omega) (by omega) (by omega) ((ci_cs I).2 k (by omega)).1) ?_
  exact Ev.ret rfl (q)

theorem cz_hourOf {d b n : Nat} {u : Q5} {S : Sta} {h : PH} {Q : Rs → PH → Prop} (I : CI h S b n u) (W : WN S) {p : Int} (hp : -2147483648 ≤ p ∧ p < 2147483648) (hc : ¬ (0 ≤ p ∧ p < (csS S).length)) (q : Q (.inr 2) (grow h 6)) : Rn (d + 1) 66 [.inr (.inr (.inr (1, 0, 1))), .inl (iZ (p))] h Q := by
  have sh := ci_sh I
  have hb := ci_b I
  have W0 := W
  obtain ⟨⟨w1, w2, w3, w4, w5, w6⟩, w7, w8, w9, w10, w11, w12, w13, w14, w15, w16, w17, w18⟩ := W0
  refine Ev.sts 2 (c' := (2, [some (.inr (.inr (.inr (1, 0, 1)))), some (.inl (iZ (p)))], [.inl (iZ (p)), .inr (.inr (.inr (1, 0, 1)))], h)) rfl ?_
  refine Ev.callw (a := [.inr (.inr (.inr (1, 0, 1))), .inl (iZ (p))]) rfl (cn_comma I W ⟨by omega, by omega⟩ hc ?_)
  exact thrown rfl rfl (by decide) (q)

theorem cq_flocksOf {d b n : Nat} {u : Q5} {S : Sta} {h : PH} (I : CI h S b n u) (W : WN S) {p : Int} {k : Nat} (hp : p = (k : Int)) (hc : k < (csS S).length) : Rv (d + 1) 67 [.inr (.inr (.inr (1, 0, 1))), .inl (iZ (p))] h (some (.inl (bcv ((csS S).getD k cd0).2))) h := Rv.of fun Q q => by
  have sh := ci_sh I
  have hb := ci_b I
  have W0 := W
  obtain ⟨⟨w1, w2, w3, w4, w5, w6⟩, w7, w8, w9, w10, w11, w12, w13, w14, w15, w16, w17, w18⟩ := W0
  refine Ev.sts 2 (c' := (2, [some (.inr (.inr (.inr (1, 0, 1)))), some (.inl (iZ (p)))], [.inl (iZ (p)), .inr (.inr (.inr (1, 0, 1)))], h)) rfl ?_
  refine Ev.callv (a := [.inr (.inr (.inr (1, 0, 1))), .inl (iZ (p))]) rfl (cr_comma I W ⟨by omega, by omega⟩) ?_
  refine Ev.sts 1 (c' := (6, [some (.inr (.inr (.inr (1, 0, 1)))), some (.inl (iZ (p)))], [.inr (.inr (.inr (1, 0, 1)))], h)) rfl ?_
  refine Ev.gfr (r := (20, 120, 30)) rfl (sh_1_4 sh) ?_
  refine Ev.sts 1 (c' := (10, [some (.inr (.inr (.inr (1, 0, 1)))), some (.inl (iZ (p)))], [.inl (iZ (p)), .inr (.inr (.inr (20, 120, 30)))], h)) rfl ?_
  refine Ev.callv (a := [.inr (.inr (.inr (20, 120, 30))), .inl (iZ (p))]) rfl (sp_at (k := k) (by omega) (by omega) (by omega) ((ci_cs I).2 k (by omega)).2) ?_
  refine Ev.callv (a := [.inl (((csS S).getD k cd0).2)]) rfl sp_bitCount ?_
  exact Ev.ret rfl (q)

theorem cz_flocksOf {d b n : Nat} {u : Q5} {S : Sta} {h : PH} {Q : Rs → PH → Prop} (I : CI h S b n u) (W : WN S) {p : Int} (hp : -2147483648 ≤ p ∧ p < 2147483648) (hc : ¬ (0 ≤ p ∧ p < (csS S).length)) (q : Q (.inr 2) (grow h 6)) : Rn (d + 1) 67 [.inr (.inr (.inr (1, 0, 1))), .inl (iZ (p))] h Q := by
  have sh := ci_sh I
  have hb := ci_b I
  have W0 := W
  obtain ⟨⟨w1, w2, w3, w4, w5, w6⟩, w7, w8, w9, w10, w11, w12, w13, w14, w15, w16, w17, w18⟩ := W0
  refine Ev.sts 2 (c' := (2, [some (.inr (.inr (.inr (1, 0, 1)))), some (.inl (iZ (p)))], [.inl (iZ (p)), .inr (.inr (.inr (1, 0, 1)))], h)) rfl ?_
  refine Ev.callw (a := [.inr (.inr (.inr (1, 0, 1))), .inl (iZ (p))]) rfl (cn_comma I W ⟨by omega, by omega⟩ hc ?_)
  exact thrown rfl rfl (by decide) (q)

theorem cq_flockOf {d b n : Nat} {u : Q5} {S : Sta} {h : PH} (I : CI h S b n u) (W : WN S) {p : Int} {g : Nat} (hp : p = (g : Int)) (hc : g < (bkS S).2.2.length) : Rv (d + 2) 47 [.inr (.inr (.inr (1, 0, 1))), .inl (iZ (p))] h (some (.inl (iZ ((bkS S).2.2.getD g g0).1))) h := Rv.of fun Q q => by
  have sh := ci_sh I
  have hb := ci_b I
  have W0 := W
  obtain ⟨⟨w1, w2, w3, w4, w5, w6⟩, w7, w8, w9, w10, w11, w12, w13, w14, w15, w16, w17, w18⟩ := W0
  have hg : g < 6 := by omega
  refine Ev.sts 2 (c' := (2, [some (.inr (.inr (.inr (1, 0, 1)))), some (.inl (iZ (p)))], [.inl (iZ (p)), .inr (.inr (.inr (1, 0, 1)))], h)) rfl ?_
  refine Ev.callv (a := [.inr (.inr (.inr (1, 0, 1))), .inl (iZ (p))]) rfl (cr_goose I W ⟨by omega, by omega⟩) ?_
  refine Ev.sts 1 (c' := (6, [some (.inr (.inr (.inr (1, 0, 1)))), some (.inl (iZ (p)))], [.inr (.inr (.inr (1, 0, 1)))], h)) rfl ?_
  refine Ev.gfr (r := (2, 0, b)) rfl (ci_17 I) ?_
  refine Ev.gfr (r := (24, 6, (b + 4))) rfl (sh_b3 sh hb) ?_
  refine Ev.sts 1 (c' := (13, [some (.inr (.inr (.inr (1, 0, 1)))), some (.inl (iZ (p)))], [.inl (iZ (p)), .inr (.inr (.inr (24, 6, (b + 4))))], h)) rfl ?_
  refine Ev.ldv (j := (iZ (p))) (n := 6) (w := .inr (.inr (.inr (4, 0, (b + 9 + g))))) (iZ_in (by omega) (by omega) (by omega)) rfl (by rw [iZ_ix (n := g) (by omega) (by omega)]; exact congrArg vR (sh_bg sh hb hg)) ?_
  refine Ev.gv (w := (iZ (((bkS S).2.2.getD g g0).1))) rfl ((ci_bk I).2.2.2.2 g (by omega)).1 ?_
  exact Ev.ret rfl (q)

theorem cz_flockOf {d b n : Nat} {u : Q5} {S : Sta} {h : PH} {Q : Rs → PH → Prop} (I : CI h S b n u) (W : WN S) {p : Int} (hp : -2147483648 ≤ p ∧ p < 2147483648) (hc : ¬ (0 ≤ p ∧ p < (bkS S).2.2.length)) (q : Q (.inr 2) (grow h 6)) : Rn (d + 2) 47 [.inr (.inr (.inr (1, 0, 1))), .inl (iZ (p))] h Q := by
  have sh := ci_sh I
  have hb := ci_b I
  have W0 := W
  obtain ⟨⟨w1, w2, w3, w4, w5, w6⟩, w7, w8, w9, w10, w11, w12, w13, w14, w15, w16, w17, w18⟩ := W0
  refine Ev.sts 2 (c' := (2, [some (.inr (.inr (.inr (1, 0, 1)))), some (.inl (iZ (p)))], [.inl (iZ (p)), .inr (.inr (.inr (1, 0, 1)))], h)) rfl ?_
  refine Ev.callw (a := [.inr (.inr (.inr (1, 0, 1))), .inl (iZ (p))]) rfl (cn_goose I W ⟨by omega, by omega⟩ hc ?_)
  exact thrown rfl rfl (by decide) (q)

theorem cq_lateFor {d b n : Nat} {u : Q5} {S : Sta} {h : PH} (I : CI h S b n u) (W : WN S) {p : Int} {g : Nat} (hp : p = (g : Int)) (hc : g < (bkS S).2.2.length) : Rv (d + 2) 50 [.inr (.inr (.inr (1, 0, 1))), .inl (iZ (p))] h (some (.inl (iZ (ltS S g)))) h := Rv.of fun Q q => by
  have sh := ci_sh I
  have hb := ci_b I
  have W0 := W
  obtain ⟨⟨w1, w2, w3, w4, w5, w6⟩, w7, w8, w9, w10, w11, w12, w13, w14, w15, w16, w17, w18⟩ := W0
  have hg : g < 6 := by omega
  refine Ev.sts 2 (c' := (2, [some (.inr (.inr (.inr (1, 0, 1)))), some (.inl (iZ (p)))], [.inl (iZ (p)), .inr (.inr (.inr (1, 0, 1)))], h)) rfl ?_
  refine Ev.callv (a := [.inr (.inr (.inr (1, 0, 1))), .inl (iZ (p))]) rfl (cr_goose I W ⟨by omega, by omega⟩) ?_
  refine Ev.sts 1 (c' := (6, [some (.inr (.inr (.inr (1, 0, 1)))), some (.inl (iZ (p)))], [.inr (.inr (.inr (1, 0, 1)))], h)) rfl ?_
  refine Ev.gfr (r := (25, 6, 31)) rfl (sh_1_5 sh) ?_
  refine Ev.sts 1 (c' := (10, [some (.inr (.inr (.inr (1, 0, 1)))), some (.inl (iZ (p)))], [.inl (iZ (p)), .inr (.inr (.inr (25, 6, 31)))], h)) rfl ?_
  refine Ev.ldv (j := (iZ (p))) (n := 6) (w := .inr (.inr (.inr (10, 0, (32 + 5 * g))))) (iZ_in (by omega) (by omega) (by omega)) rfl (by rw [iZ_ix (n := g) (by omega) (by omega)]; exact congrArg vR (sh_31 sh hg)) ?_
  refine Ev.gv (w := (iZ (ltS S g))) rfl (ci_ws I g hg).2 ?_
  exact Ev.ret rfl (q)

theorem cz_lateFor {d b n : Nat} {u : Q5} {S : Sta} {h : PH} {Q : Rs → PH → Prop} (I : CI h S b n u) (W : WN S) {p : Int} (hp : -2147483648 ≤ p ∧ p < 2147483648) (hc : ¬ (0 ≤ p ∧ p < (bkS S).2.2.length)) (q : Q (.inr 2) (grow h 6)) : Rn (d + 2) 50 [.inr (.inr (.inr (1, 0, 1))), .inl (iZ (p))] h Q := by
  have sh := ci_sh I
  have hb := ci_b I
  have W0 := W
  obtain ⟨⟨w1, w2, w3, w4, w5, w6⟩, w7, w8, w9, w10, w11, w12, w13, w14, w15, w16, w17, w18⟩ := W0
  refine Ev.sts 2 (c' := (2, [some (.inr (.inr (.inr (1, 0, 1)))), some (.inl (iZ (p)))], [.inl (iZ (p)), .inr (.inr (.inr (1, 0, 1)))], h)) rfl ?_
  refine Ev.callw (a := [.inr (.inr (.inr (1, 0, 1))), .inl (iZ (p))]) rfl (cn_goose I W ⟨by omega, by omega⟩ hc ?_)
  exact thrown rfl rfl (by decide) (q)

theorem cq_openWindows {d b n : Nat} {u : Q5} {S : Sta} {h : PH} (I : CI h S b n u) (W : WN S) {p : Int} {g : Nat} (hp : p = (g : Int)) (hc : g < (bkS S).2.2.length) : Rv (d + 2) 51 [.inr (.inr (.inr (1, 0, 1))), .inl (iZ (p))] h (some (.inl (iZ (wdS S g).length))) h := Rv.of fun Q q => by
  have sh := ci_sh I
  have hb := ci_b I
  have W0 := W
  obtain ⟨⟨w1, w2, w3, w4, w5, w6⟩, w7, w8, w9, w10, w11, w12, w13, w14, w15, w16, w17, w18⟩ := W0
  have hg : g < 6 := by omega
  refine Ev.sts 2 (c' := (2, [some (.inr (.inr (.inr (1, 0, 1)))), some (.inl (iZ (p)))], [.inl (iZ (p)), .inr (.inr (.inr (1, 0, 1)))], h)) rfl ?_
  refine Ev.callv (a := [.inr (.inr (.inr (1, 0, 1))), .inl (iZ (p))]) rfl (cr_goose I W ⟨by omega, by omega⟩) ?_
  refine Ev.sts 1 (c' := (6, [some (.inr (.inr (.inr (1, 0, 1)))), some (.inl (iZ (p)))], [.inr (.inr (.inr (1, 0, 1)))], h)) rfl ?_
  refine Ev.gfr (r := (25, 6, 31)) rfl (sh_1_5 sh) ?_
  refine Ev.sts 1 (c' := (10, [some (.inr (.inr (.inr (1, 0, 1)))), some (.inl (iZ (p)))], [.inl (iZ (p)), .inr (.inr (.inr (25, 6, 31)))], h)) rfl ?_
  refine Ev.ldv (j := (iZ (p))) (n := 6) (w := .inr (.inr (.inr (10, 0, (32 + 5 * g))))) (iZ_in (by omega) (by omega) (by omega)) rfl (by rw [iZ_ix (n := g) (by omega) (by omega)]; exact congrArg vR (sh_31 sh hg)) ?_
  refine Ev.gv (w := (iZ ((wdS S g).length))) rfl (ci_ws I g hg).1.1 ?_
  exact Ev.ret rfl (q)

theorem cz_openWindows {d b n : Nat} {u : Q5} {S : Sta} {h : PH} {Q : Rs → PH → Prop} (I : CI h S b n u) (W : WN S) {p : Int} (hp : -2147483648 ≤ p ∧ p < 2147483648) (hc : ¬ (0 ≤ p ∧ p < (bkS S).2.2.length)) (q : Q (.inr 2) (grow h 6)) : Rn (d + 2) 51 [.inr (.inr (.inr (1, 0, 1))), .inl (iZ (p))] h Q := by
  have sh := ci_sh I
  have hb := ci_b I
  have W0 := W
  obtain ⟨⟨w1, w2, w3, w4, w5, w6⟩, w7, w8, w9, w10, w11, w12, w13, w14, w15, w16, w17, w18⟩ := W0
  refine Ev.sts 2 (c' := (2, [some (.inr (.inr (.inr (1, 0, 1)))), some (.inl (iZ (p)))], [.inl (iZ (p)), .inr (.inr (.inr (1, 0, 1)))], h)) rfl ?_
  refine Ev.callw (a := [.inr (.inr (.inr (1, 0, 1))), .inl (iZ (p))]) rfl (cn_goose I W ⟨by omega, by omega⟩ hc ?_)
  exact thrown rfl rfl (by decide) (q)

theorem cq_tellingGoose {d b n : Nat} {u : Q5} {S : Sta} {h : PH} (I : CI h S b n u) (W : WN S) {p : Int} {k : Nat} (hp : p = (k : Int)) (hc : k < (tlS S).length) : Rv (d + 1) 57 [.inr (.inr (.inr (1, 0, 1))), .inl (iZ (p))] h (some (.inl (iZ ((tlS S).getD k t0).1))) h := Rv.of fun Q q => by
  have sh := ci_sh I
  have hb := ci_b I
  have W0 := W
  obtain ⟨⟨w1, w2, w3, w4, w5, w6⟩, w7, w8, w9, w10, w11, w12, w13, w14, w15, w16, w17, w18⟩ := W0
  have hnl := (nL_facts (ci_tl I).2.2.1).2.1
  have hnn := (ci_tl I).2.1
  refine Ev.sts 2 (c' := (2, [some (.inr (.inr (.inr (1, 0, 1)))), some (.inl (iZ (p)))], [.inl (iZ (p)), .inr (.inr (.inr (1, 0, 1)))], h)) rfl ?_
  refine Ev.callv (a := [.inr (.inr (.inr (1, 0, 1))), .inl (iZ (p))]) rfl (cr_telling I W ⟨by omega, by omega⟩) ?_
  refine Ev.sts 1 (c' := (6, [some (.inr (.inr (.inr (1, 0, 1)))), some (.inl (iZ (p)))], [.inr (.inr (.inr (1, 0, 1)))], h)) rfl ?_
  refine Ev.gfr (r := (8, 0, 62)) rfl (sh_1_6 sh) ?_
  refine Ev.gfr (r := (20, n, u.1)) rfl (ci_tl I).2.2.2.1.1 ?_
  refine Ev.sts 1 (c' := (13, [some (.inr (.inr (.inr (1, 0, 1)))), some (.inl (iZ (p)))], [.inl (iZ (p)), .inr (.inr (.inr (20, n, u.1)))], h)) rfl ?_
  refine Ev.callv (a := [.inr (.inr (.inr (20, n, u.1))), .inl (iZ (p))]) rfl (sp_at (k := k) (by omega) (by omega) (by omega) ((ci_tl I).2.2.2.2.2 k (by omega)).1) ?_
  exact Ev.ret rfl (q)

theorem cz_tellingGoose {d b n : Nat} {u : Q5} {S : Sta} {h : PH} {Q : Rs → PH → Prop} (I : CI h S b n u) (W : WN S) {p : Int} (hp : -2147483648 ≤ p ∧ p < 2147483648) (hc : ¬ (0 ≤ p ∧ p < (tlS S).length)) (q : Q (.inr 2) (grow h 6)) : Rn (d + 1) 57 [.inr (.inr (.inr (1, 0, 1))), .inl (iZ (p))] h Q := by
  have sh := ci_sh I
  have hb := ci_b I
  have W0 := W
  obtain ⟨⟨w1, w2, w3, w4, w5, w6⟩, w7, w8, w9, w10, w11, w12, w13, w14, w15, w16, w17, w18⟩ := W0
  refine Ev.sts 2 (c' := (2, [some (.inr (.inr (.inr (1, 0, 1)))), some (.inl (iZ (p)))], [.inl (iZ (p)), .inr (.inr (.inr (1, 0, 1)))], h)) rfl ?_
  refine Ev.callw (a := [.inr (.inr (.inr (1, 0, 1))), .inl (iZ (p))]) rfl (cn_telling I W ⟨by omega, by omega⟩ hc ?_)
  exact thrown rfl rfl (by decide) (q)

theorem cq_tellingStart {d b n : Nat} {u : Q5} {S : Sta} {h : PH} (I : CI h S b n u) (W : WN S) {p : Int} {k : Nat} (hp : p = (k : Int)) (hc : k < (tlS S).length) : Rv (d + 1) 59 [.inr (.inr (.inr (1, 0, 1))), .inl (iZ (p))] h (some (.inl (iZ ((tlS S).getD k t0).2.1))) h := Rv.of fun Q q => by
  have sh := ci_sh I
  have hb := ci_b I
  have W0 := W
  obtain ⟨⟨w1, w2, w3, w4, w5, w6⟩, w7, w8, w9, w10, w11, w12, w13, w14, w15, w16, w17, w18⟩ := W0
  have hnl := (nL_facts (ci_tl I).2.2.1).2.1
  have hnn := (ci_tl I).2.1
  refine Ev.sts 2 (c' := (2, [some (.inr (.inr (.inr (1, 0, 1)))), some (.inl (iZ (p)))], [.inl (iZ (p)), .inr (.inr (.inr (1, 0, 1)))], h)) rfl ?_
  refine Ev.callv (a := [.inr (.inr (.inr (1, 0, 1))), .inl (iZ (p))]) rfl (cr_telling I W ⟨by omega, by omega⟩) ?_
  refine Ev.sts 1 (c' := (6, [some (.inr (.inr (.inr (1, 0, 1)))), some (.inl (iZ (p)))], [.inr (.inr (.inr (1, 0, 1)))], h)) rfl ?_
  refine Ev.gfr (r := (8, 0, 62)) rfl (sh_1_6 sh) ?_
  refine Ev.gfr (r := (20, n, u.2.1)) rfl (ci_tl I).2.2.2.1.2.1 ?_
  refine Ev.sts 1 (c' := (13, [some (.inr (.inr (.inr (1, 0, 1)))), some (.inl (iZ (p)))], [.inl (iZ (p)), .inr (.inr (.inr (20, n, u.2.1)))], h)) rfl ?_
  refine Ev.callv (a := [.inr (.inr (.inr (20, n, u.2.1))), .inl (iZ (p))]) rfl (sp_at (k := k) (by omega) (by omega) (by omega) ((ci_tl I).2.2.2.2.2 k (by omega)).2.1) ?_
  exact Ev.ret rfl (q)

theorem cz_tellingStart {d b n : Nat} {u : Q5} {S : Sta} {h : PH} {Q : Rs → PH → Prop} (I : CI h S b n u) (W : WN S) {p : Int} (hp : -2147483648 ≤ p ∧ p < 2147483648) (hc : ¬ (0 ≤ p ∧ p < (tlS S).length)) (q : Q (.inr 2) (grow h 6)) : Rn (d + 1) 59 [.inr (.inr (.inr (1, 0, 1))), .inl (iZ (p))] h Q := by
  have sh := ci_sh I
  have hb := ci_b I
  have W0 := W
  obtain ⟨⟨w1, w2, w3, w4, w5, w6⟩, w7, w8, w9, w10, w11, w12, w13, w14, w15, w16, w17, w18⟩ := W0
  refine Ev.sts 2 (c' := (2, [some (.inr (.inr (.inr (1, 0, 1)))), some (.inl (iZ (p)))], [.inl (iZ (p)), .inr (.inr (.inr (1, 0, 1)))], h)) rfl ?_
  refine Ev.callw (a := [.inr (.inr (.inr (1, 0, 1))), .inl (iZ (p))]) rfl (cn_telling I W ⟨by omega, by omega⟩ hc ?_)
  exact thrown rfl rfl (by decide) (q)

theorem cq_tellingEnd {d b n : Nat} {u : Q5} {S : Sta} {h : PH} (I : CI h S b n u) (W : WN S) {p : Int} {k : Nat} (hp : p = (k : Int)) (hc : k < (tlS S).length) : Rv (d + 1) 60 [.inr (.inr (.inr (1, 0, 1))), .inl (iZ (p))] h (some (.inl (iZ ((tlS S).getD k t0).2.2.1))) h := Rv.of fun Q q => by
  have sh := ci_sh I
  have hb := ci_b I
  have W0 := W
  obtain ⟨⟨w1, w2, w3, w4, w5, w6⟩, w7, w8, w9, w10, w11, w12, w13, w14, w15, w16, w17, w18⟩ := W0
  have hnl := (nL_facts (ci_tl I).2.2.1).2.1
  have hnn := (ci_tl I).2.1
  refine Ev.sts 2 (c' := (2, [some (.inr (.inr (.inr (1, 0, 1)))), some (.inl (iZ (p)))], [.inl (iZ (p)), .inr (.inr (.inr (1, 0, 1)))], h)) rfl ?_
  refine Ev.callv (a := [.inr (.inr (.inr (1, 0, 1))), .inl (iZ (p))]) rfl (cr_telling I W ⟨by omega, by omega⟩) ?_
  refine Ev.sts 1 (c' := (6, [some (.inr (.inr (.inr (1, 0, 1)))), some (.inl (iZ (p)))], [.inr (.inr (.inr (1, 0, 1)))], h)) rfl ?_
  refine Ev.gfr (r := (8, 0, 62)) rfl (sh_1_6 sh) ?_
  refine Ev.gfr (r := (20, n, u.2.2.1)) rfl (ci_tl I).2.2.2.1.2.2.1 ?_
  refine Ev.sts 1 (c' := (13, [some (.inr (.inr (.inr (1, 0, 1)))), some (.inl (iZ (p)))], [.inl (iZ (p)), .inr (.inr (.inr (20, n, u.2.2.1)))], h)) rfl ?_
  refine Ev.callv (a := [.inr (.inr (.inr (20, n, u.2.2.1))), .inl (iZ (p))]) rfl (sp_at (k := k) (by omega) (by omega) (by omega) ((ci_tl I).2.2.2.2.2 k (by omega)).2.2.1) ?_
  exact Ev.ret rfl (q)

theorem cz_tellingEnd {d b n : Nat} {u : Q5} {S : Sta} {h : PH} {Q : Rs → PH → Prop} (I : CI h S b n u) (W : WN S) {p : Int} (hp : -2147483648 ≤ p ∧ p < 2147483648) (hc : ¬ (0 ≤ p ∧ p < (tlS S).length)) (q : Q (.inr 2) (grow h 6)) : Rn (d + 1) 60 [.inr (.inr (.inr (1, 0, 1))), .inl (iZ (p))] h Q := by
  have sh := ci_sh I
  have hb := ci_b I
  have W0 := W
  obtain ⟨⟨w1, w2, w3, w4, w5, w6⟩, w7, w8, w9, w10, w11, w12, w13, w14, w15, w16, w17, w18⟩ := W0
  refine Ev.sts 2 (c' := (2, [some (.inr (.inr (.inr (1, 0, 1)))), some (.inl (iZ (p)))], [.inl (iZ (p)), .inr (.inr (.inr (1, 0, 1)))], h)) rfl ?_
  refine Ev.callw (a := [.inr (.inr (.inr (1, 0, 1))), .inl (iZ (p))]) rfl (cn_telling I W ⟨by omega, by omega⟩ hc ?_)
  exact thrown rfl rfl (by decide) (q)

theorem cq_tellingCount {d b n : Nat} {u : Q5} {S : Sta} {h : PH} (I : CI h S b n u) (W : WN S) {p : Int} {k : Nat} (hp : p = (k : Int)) (hc : k < (tlS S).length) : Rv (d + 1) 61 [.inr (.inr (.inr (1, 0, 1))), .inl (iZ (p))] h (some (.inl (iZ ((tlS S).getD k t0).2.2.2.1))) h := Rv.of fun Q q => by
  have sh := ci_sh I
  have hb := ci_b I
  have W0 := W
  obtain ⟨⟨w1, w2, w3, w4, w5, w6⟩, w7, w8, w9, w10, w11, w12, w13, w14, w15, w16, w17, w18⟩ := W0
  have hnl := (nL_facts (ci_tl I).2.2.1).2.1
  have hnn := (ci_tl I).2.1
  refine Ev.sts 2 (c' := (2, [some (.inr (.inr (.inr (1, 0, 1)))), some (.inl (iZ (p)))], [.inl (iZ (p)), .inr (.inr (.inr (1, 0, 1)))], h)) rfl ?_
  refine Ev.callv (a := [.inr (.inr (.inr (1, 0, 1))), .inl (iZ (p))]) rfl (cr_telling I W ⟨by omega, by omega⟩) ?_
  refine Ev.sts 1 (c' := (6, [some (.inr (.inr (.inr (1, 0, 1)))), some (.inl (iZ (p)))], [.inr (.inr (.inr (1, 0, 1)))], h)) rfl ?_
  refine Ev.gfr (r := (8, 0, 62)) rfl (sh_1_6 sh) ?_
  refine Ev.gfr (r := (20, n, u.2.2.2.1)) rfl (ci_tl I).2.2.2.1.2.2.2.1 ?_
  refine Ev.sts 1 (c' := (13, [some (.inr (.inr (.inr (1, 0, 1)))), some (.inl (iZ (p)))], [.inl (iZ (p)), .inr (.inr (.inr (20, n, u.2.2.2.1)))], h)) rfl ?_
  refine Ev.callv (a := [.inr (.inr (.inr (20, n, u.2.2.2.1))), .inl (iZ (p))]) rfl (sp_at (k := k) (by omega) (by omega) (by omega) ((ci_tl I).2.2.2.2.2 k (by omega)).2.2.2.1) ?_
  exact Ev.ret rfl (q)

theorem cz_tellingCount {d b n : Nat} {u : Q5} {S : Sta} {h : PH} {Q : Rs → PH → Prop} (I : CI h S b n u) (W : WN S) {p : Int} (hp : -2147483648 ≤ p ∧ p < 2147483648) (hc : ¬ (0 ≤ p ∧ p < (tlS S).length)) (q : Q (.inr 2) (grow h 6)) : Rn (d + 1) 61 [.inr (.inr (.inr (1, 0, 1))), .inl (iZ (p))] h Q := by
  have sh := ci_sh I
  have hb := ci_b I
  have W0 := W
  obtain ⟨⟨w1, w2, w3, w4, w5, w6⟩, w7, w8, w9, w10, w11, w12, w13, w14, w15, w16, w17, w18⟩ := W0
  refine Ev.sts 2 (c' := (2, [some (.inr (.inr (.inr (1, 0, 1)))), some (.inl (iZ (p)))], [.inl (iZ (p)), .inr (.inr (.inr (1, 0, 1)))], h)) rfl ?_
  refine Ev.callw (a := [.inr (.inr (.inr (1, 0, 1))), .inl (iZ (p))]) rfl (cn_telling I W ⟨by omega, by omega⟩ hc ?_)
  exact thrown rfl rfl (by decide) (q)

theorem cq_tellingValue {d b n : Nat} {u : Q5} {S : Sta} {h : PH} (I : CI h S b n u) (W : WN S) {p : Int} {k : Nat} (hp : p = (k : Int)) (hc : k < (tlS S).length) : Rv (d + 1) 68 [.inr (.inr (.inr (1, 0, 1))), .inl (iZ (p))] h (some (.inl (((tlS S).getD k t0).2.2.2.2))) h := Rv.of fun Q q => by
  have sh := ci_sh I
  have hb := ci_b I
  have W0 := W
  obtain ⟨⟨w1, w2, w3, w4, w5, w6⟩, w7, w8, w9, w10, w11, w12, w13, w14, w15, w16, w17, w18⟩ := W0
  have hnl := (nL_facts (ci_tl I).2.2.1).2.1
  have hnn := (ci_tl I).2.1
  refine Ev.sts 2 (c' := (2, [some (.inr (.inr (.inr (1, 0, 1)))), some (.inl (iZ (p)))], [.inl (iZ (p)), .inr (.inr (.inr (1, 0, 1)))], h)) rfl ?_
  refine Ev.callv (a := [.inr (.inr (.inr (1, 0, 1))), .inl (iZ (p))]) rfl (cr_telling I W ⟨by omega, by omega⟩) ?_
  refine Ev.sts 1 (c' := (6, [some (.inr (.inr (.inr (1, 0, 1)))), some (.inl (iZ (p)))], [.inr (.inr (.inr (1, 0, 1)))], h)) rfl ?_
  refine Ev.gfr (r := (8, 0, 62)) rfl (sh_1_6 sh) ?_
  refine Ev.gfr (r := (20, n, u.2.2.2.2)) rfl (ci_tl I).2.2.2.1.2.2.2.2 ?_
  refine Ev.sts 1 (c' := (13, [some (.inr (.inr (.inr (1, 0, 1)))), some (.inl (iZ (p)))], [.inl (iZ (p)), .inr (.inr (.inr (20, n, u.2.2.2.2)))], h)) rfl ?_
  refine Ev.callv (a := [.inr (.inr (.inr (20, n, u.2.2.2.2))), .inl (iZ (p))]) rfl (sp_at (k := k) (by omega) (by omega) (by omega) ((ci_tl I).2.2.2.2.2 k (by omega)).2.2.2.2) ?_
  exact Ev.ret rfl (q)

theorem cz_tellingValue {d b n : Nat} {u : Q5} {S : Sta} {h : PH} {Q : Rs → PH → Prop} (I : CI h S b n u) (W : WN S) {p : Int} (hp : -2147483648 ≤ p ∧ p < 2147483648) (hc : ¬ (0 ≤ p ∧ p < (tlS S).length)) (q : Q (.inr 2) (grow h 6)) : Rn (d + 1) 68 [.inr (.inr (.inr (1, 0, 1))), .inl (iZ (p))] h Q := by
  have sh := ci_sh I
  have hb := ci_b I
  have W0 := W
  obtain ⟨⟨w1, w2, w3, w4, w5, w6⟩, w7, w8, w9, w10, w11, w12, w13, w14, w15, w16, w17, w18⟩ := W0
  refine Ev.sts 2 (c' := (2, [some (.inr (.inr (.inr (1, 0, 1)))), some (.inl (iZ (p)))], [.inl (iZ (p)), .inr (.inr (.inr (1, 0, 1)))], h)) rfl ?_
  refine Ev.callw (a := [.inr (.inr (.inr (1, 0, 1))), .inl (iZ (p))]) rfl (cn_telling I W ⟨by omega, by omega⟩ hc ?_)
  exact thrown rfl rfl (by decide) (q)

theorem cq_openStart {d b n : Nat} {u : Q5} {S : Sta} {h : PH} (I : CI h S b n u) (W : WN S) {p w : Int} {g k : Nat} (hp : p = (g : Int)) (hc : g < (bkS S).2.2.length) (hw : w = (k : Int)) (hk : k < (wdS S g).length) : Rv (d + 3) 52 [.inr (.inr (.inr (1, 0, 1))), .inl (iZ (p)), .inl (iZ (w))] h (some (.inl (iZ ((wdS S g).getD k w0).1))) h := Rv.of fun Q q => by
  have sh := ci_sh I
  have hb := ci_b I
  have W0 := W
  obtain ⟨⟨w1, w2, w3, w4, w5, w6⟩, w7, w8, w9, w10, w11, w12, w13, w14, w15, w16, w17, w18⟩ := W0
  have hg : g < 6 := by omega
  have hwl := (w14 g).2
  refine Ev.sts 3 (c' := (3, [some (.inr (.inr (.inr (1, 0, 1)))), some (.inl (iZ (p))), some (.inl (iZ (w)))], [.inl (iZ (w)), .inl (iZ (p)), .inr (.inr (.inr (1, 0, 1)))], h)) rfl ?_
  refine Ev.callv (a := [.inr (.inr (.inr (1, 0, 1))), .inl (iZ (p)), .inl (iZ (w))]) rfl (cr_window (g := g) I W hp hc ⟨by omega, by omega⟩) ?_
  refine Ev.sts 1 (c' := (7, [some (.inr (.inr (.inr (1, 0, 1)))), some (.inl (iZ (p))), some (.inl (iZ (w)))], [.inr (.inr (.inr (1, 0, 1)))], h)) rfl ?_
  refine Ev.gfr (r := (25, 6, 31)) rfl (sh_1_5 sh) ?_
  refine Ev.sts 1 (c' := (11, [some (.inr (.inr (.inr (1, 0, 1)))), some (.inl (iZ (p))), some (.inl (iZ (w)))], [.inl (iZ (p)), .inr (.inr (.inr (25, 6, 31)))], h)) rfl ?_
  refine Ev.ldv (j := (iZ (p))) (n := 6) (w := .inr (.inr (.inr (10, 0, (32 + 5 * g))))) (iZ_in (by omega) (by omega) (by omega)) rfl (by rw [iZ_ix (n := g) (by omega) (by omega)]; exact congrArg vR (sh_31 sh hg)) ?_
  refine Ev.gfr (r := (20, 128, (33 + 5 * g))) rfl (sh_w0 sh hg) ?_
  refine Ev.sts 1 (c' := (16, [some (.inr (.inr (.inr (1, 0, 1)))), some (.inl (iZ (p))), some (.inl (iZ (w)))], [.inl (iZ (w)), .inr (.inr (.inr (20, 128, (33 + 5 * g))))], h)) rfl ?_
  refine Ev.callv (a := [.inr (.inr (.inr (20, 128, (33 + 5 * g)))), .inl (iZ (w))]) rfl (sp_at (k := k) (by omega) (by omega) (by omega) (winC_s (ci_ws I g hg).1 (by omega))) ?_
  exact Ev.ret rfl (q)

theorem cy_openStart {d b n : Nat} {u : Q5} {S : Sta} {h : PH} {Q : Rs → PH → Prop} (I : CI h S b n u) (W : WN S) {p w : Int} {g : Nat} (hp : p = (g : Int)) (hc : g < (bkS S).2.2.length) (hwb : -2147483648 ≤ w ∧ w < 2147483648) (hw : ¬ (0 ≤ w ∧ w < (wdS S g).length)) (q : Q (.inr 2) (grow h 6)) : Rn (d + 3) 52 [.inr (.inr (.inr (1, 0, 1))), .inl (iZ (p)), .inl (iZ (w))] h Q := by
  have sh := ci_sh I
  have hb := ci_b I
  have W0 := W
  obtain ⟨⟨w1, w2, w3, w4, w5, w6⟩, w7, w8, w9, w10, w11, w12, w13, w14, w15, w16, w17, w18⟩ := W0
  refine Ev.sts 3 (c' := (3, [some (.inr (.inr (.inr (1, 0, 1)))), some (.inl (iZ (p))), some (.inl (iZ (w)))], [.inl (iZ (w)), .inl (iZ (p)), .inr (.inr (.inr (1, 0, 1)))], h)) rfl ?_
  refine Ev.callw (a := [.inr (.inr (.inr (1, 0, 1))), .inl (iZ (p)), .inl (iZ (w))]) rfl (cn_window (g := g) I W hp hc ⟨by omega, by omega⟩ hw ?_)
  exact thrown rfl rfl (by decide) (q)

theorem cq_openEnd {d b n : Nat} {u : Q5} {S : Sta} {h : PH} (I : CI h S b n u) (W : WN S) {p w : Int} {g k : Nat} (hp : p = (g : Int)) (hc : g < (bkS S).2.2.length) (hw : w = (k : Int)) (hk : k < (wdS S g).length) : Rv (d + 3) 54 [.inr (.inr (.inr (1, 0, 1))), .inl (iZ (p)), .inl (iZ (w))] h (some (.inl (iZ ((wdS S g).getD k w0).2.1))) h := Rv.of fun Q q => by
  have sh := ci_sh I
  have hb := ci_b I
  have W0 := W
  obtain ⟨⟨w1, w2, w3, w4, w5, w6⟩, w7, w8, w9, w10, w11, w12, w13, w14, w15, w16, w17, w18⟩ := W0
  have hg : g < 6 := by omega
  have hwl := (w14 g).2
  refine Ev.sts 3 (c' := (3, [some (.inr (.inr (.inr (1, 0, 1)))), some (.inl (iZ (p))), some (.inl (iZ (w)))], [.inl (iZ (w)), .inl (iZ (p)), .inr (.inr (.inr (1, 0, 1)))], h)) rfl ?_
  refine Ev.callv (a := [.inr (.inr (.inr (1, 0, 1))), .inl (iZ (p)), .inl (iZ (w))]) rfl (cr_window (g := g) I W hp hc ⟨by omega, by omega⟩) ?_
  refine Ev.sts 1 (c' := (7, [some (.inr (.inr (.inr (1, 0, 1)))), some (.inl (iZ (p))), some (.inl (iZ (w)))], [.inr (.inr (.inr (1, 0, 1)))], h)) rfl ?_
  refine Ev.gfr (r := (25, 6, 31)) rfl (sh_1_5 sh) ?_
  refine Ev.sts 1 (c' := (11, [some (.inr (.inr (.inr (1, 0, 1)))), some (.inl (iZ (p))), some (.inl (iZ (w)))], [.inl (iZ (p)), .inr (.inr (.inr (25, 6, 31)))], h)) rfl ?_
  refine Ev.ldv (j := (iZ (p))) (n := 6) (w := .inr (.inr (.inr (10, 0, (32 + 5 * g))))) (iZ_in (by omega) (by omega) (by omega)) rfl (by rw [iZ_ix (n := g) (by omega) (by omega)]; exact congrArg vR (sh_31 sh hg)) ?_
  refine Ev.gfr (r := (20, 128, (34 + 5 * g))) rfl (sh_w1 sh hg) ?_
  refine Ev.sts 1 (c' := (16, [some (.inr (.inr (.inr (1, 0, 1)))), some (.inl (iZ (p))), some (.inl (iZ (w)))], [.inl (iZ (w)), .inr (.inr (.inr (20, 128, (34 + 5 * g))))], h)) rfl ?_
  refine Ev.callv (a := [.inr (.inr (.inr (20, 128, (34 + 5 * g)))), .inl (iZ (w))]) rfl (sp_at (k := k) (by omega) (by omega) (by omega) (winC_e (ci_ws I g hg).1 (by omega))) ?_
  exact Ev.ret rfl (q)

theorem cy_openEnd {d b n : Nat} {u : Q5} {S : Sta} {h : PH} {Q : Rs → PH → Prop} (I : CI h S b n u) (W : WN S) {p w : Int} {g : Nat} (hp : p = (g : Int)) (hc : g < (bkS S).2.2.length) (hwb : -2147483648 ≤ w ∧ w < 2147483648) (hw : ¬ (0 ≤ w ∧ w < (wdS S g).length)) (q : Q (.inr 2) (grow h 6)) : Rn (d + 3) 54 [.inr (.inr (.inr (1, 0, 1))), .inl (iZ (p)), .inl (iZ (w))] h Q := by
  have sh := ci_sh I
  have hb := ci_b I
  have W0 := W
  obtain ⟨⟨w1, w2, w3, w4, w5, w6⟩, w7, w8, w9, w10, w11, w12, w13, w14, w15, w16, w17, w18⟩ := W0
  refine Ev.sts 3 (c' := (3, [some (.inr (.inr (.inr (1, 0, 1)))), some (.inl (iZ (p))), some (.inl (iZ (w)))], [.inl (iZ (w)), .inl (iZ (p)), .inr (.inr (.inr (1, 0, 1)))], h)) rfl ?_
  refine Ev.callw (a := [.inr (.inr (.inr (1, 0, 1))), .inl (iZ (p)), .inl (iZ (w))]) rfl (cn_window (g := g) I W hp hc ⟨by omega, by omega⟩ hw ?_)
  exact thrown rfl rfl (by decide) (q)

theorem cq_openCount {d b n : Nat} {u : Q5} {S : Sta} {h : PH} (I : CI h S b n u) (W : WN S) {p w : Int} {g k : Nat} (hp : p = (g : Int)) (hc : g < (bkS S).2.2.length) (hw : w = (k : Int)) (hk : k < (wdS S g).length) : Rv (d + 3) 55 [.inr (.inr (.inr (1, 0, 1))), .inl (iZ (p)), .inl (iZ (w))] h (some (.inl (iZ ((wdS S g).getD k w0).2.2.1))) h := Rv.of fun Q q => by
  have sh := ci_sh I
  have hb := ci_b I
  have W0 := W
  obtain ⟨⟨w1, w2, w3, w4, w5, w6⟩, w7, w8, w9, w10, w11, w12, w13, w14, w15, w16, w17, w18⟩ := W0
  have hg : g < 6 := by omega
  have hwl := (w14 g).2
  refine Ev.sts 3 (c' := (3, [some (.inr (.inr (.inr (1, 0, 1)))), some (.inl (iZ (p))), some (.inl (iZ (w)))], [.inl (iZ (w)), .inl (iZ (p)), .inr (.inr (.inr (1, 0, 1)))], h)) rfl ?_
  refine Ev.callv (a := [.inr (.inr (.inr (1, 0, 1))), .inl (iZ (p)), .inl (iZ (w))]) rfl (cr_window (g := g) I W hp hc ⟨by omega, by omega⟩) ?_
  refine Ev.sts 1 (c' := (7, [some (.inr (.inr (.inr (1, 0, 1)))), some (.inl (iZ (p))), some (.inl (iZ (w)))], [.inr (.inr (.inr (1, 0, 1)))], h)) rfl ?_
  refine Ev.gfr (r := (25, 6, 31)) rfl (sh_1_5 sh) ?_
  refine Ev.sts 1 (c' := (11, [some (.inr (.inr (.inr (1, 0, 1)))), some (.inl (iZ (p))), some (.inl (iZ (w)))], [.inl (iZ (p)), .inr (.inr (.inr (25, 6, 31)))], h)) rfl ?_
  refine Ev.ldv (j := (iZ (p))) (n := 6) (w := .inr (.inr (.inr (10, 0, (32 + 5 * g))))) (iZ_in (by omega) (by omega) (by omega)) rfl (by rw [iZ_ix (n := g) (by omega) (by omega)]; exact congrArg vR (sh_31 sh hg)) ?_
  refine Ev.gfr (r := (20, 128, (35 + 5 * g))) rfl (sh_w2 sh hg) ?_
  refine Ev.sts 1 (c' := (16, [some (.inr (.inr (.inr (1, 0, 1)))), some (.inl (iZ (p))), some (.inl (iZ (w)))], [.inl (iZ (w)), .inr (.inr (.inr (20, 128, (35 + 5 * g))))], h)) rfl ?_
  refine Ev.callv (a := [.inr (.inr (.inr (20, 128, (35 + 5 * g)))), .inl (iZ (w))]) rfl (sp_at (k := k) (by omega) (by omega) (by omega) (winC_c (ci_ws I g hg).1 (by omega))) ?_
  exact Ev.ret rfl (q)

theorem cy_openCount {d b n : Nat} {u : Q5} {S : Sta} {h : PH} {Q : Rs → PH → Prop} (I : CI h S b n u) (W : WN S) {p w : Int} {g : Nat} (hp : p = (g : Int)) (hc : g < (bkS S).2.2.length) (hwb : -2147483648 ≤ w ∧ w < 2147483648) (hw : ¬ (0 ≤ w ∧ w < (wdS S g).length)) (q : Q (.inr 2) (grow h 6)) : Rn (d + 3) 55 [.inr (.inr (.inr (1, 0, 1))), .inl (iZ (p)), .inl (iZ (w))] h Q := by
  have sh := ci_sh I
  have hb := ci_b I
  have W0 := W
  obtain ⟨⟨w1, w2, w3, w4, w5, w6⟩, w7, w8, w9, w10, w11, w12, w13, w14, w15, w16, w17, w18⟩ := W0
  refine Ev.sts 3 (c' := (3, [some (.inr (.inr (.inr (1, 0, 1)))), some (.inl (iZ (p))), some (.inl (iZ (w)))], [.inl (iZ (w)), .inl (iZ (p)), .inr (.inr (.inr (1, 0, 1)))], h)) rfl ?_
  refine Ev.callw (a := [.inr (.inr (.inr (1, 0, 1))), .inl (iZ (p)), .inl (iZ (w))]) rfl (cn_window (g := g) I W hp hc ⟨by omega, by omega⟩ hw ?_)
  exact thrown rfl rfl (by decide) (q)

theorem cq_openValue {d b n : Nat} {u : Q5} {S : Sta} {h : PH} (I : CI h S b n u) (W : WN S) {p w : Int} {g k : Nat} (hp : p = (g : Int)) (hc : g < (bkS S).2.2.length) (hw : w = (k : Int)) (hk : k < (wdS S g).length) : Rv (d + 3) 56 [.inr (.inr (.inr (1, 0, 1))), .inl (iZ (p)), .inl (iZ (w))] h (some (.inl (((wdS S g).getD k w0).2.2.2))) h := Rv.of fun Q q => by
  have sh := ci_sh I
  have hb := ci_b I
  have W0 := W
  obtain ⟨⟨w1, w2, w3, w4, w5, w6⟩, w7, w8, w9, w10, w11, w12, w13, w14, w15, w16, w17, w18⟩ := W0
  have hg : g < 6 := by omega
  have hwl := (w14 g).2
  refine Ev.sts 3 (c' := (3, [some (.inr (.inr (.inr (1, 0, 1)))), some (.inl (iZ (p))), some (.inl (iZ (w)))], [.inl (iZ (w)), .inl (iZ (p)), .inr (.inr (.inr (1, 0, 1)))], h)) rfl ?_
  refine Ev.callv (a := [.inr (.inr (.inr (1, 0, 1))), .inl (iZ (p)), .inl (iZ (w))]) rfl (cr_window (g := g) I W hp hc ⟨by omega, by omega⟩) ?_
  refine Ev.sts 1 (c' := (7, [some (.inr (.inr (.inr (1, 0, 1)))), some (.inl (iZ (p))), some (.inl (iZ (w)))], [.inr (.inr (.inr (1, 0, 1)))], h)) rfl ?_
  refine Ev.gfr (r := (25, 6, 31)) rfl (sh_1_5 sh) ?_
  refine Ev.sts 1 (c' := (11, [some (.inr (.inr (.inr (1, 0, 1)))), some (.inl (iZ (p))), some (.inl (iZ (w)))], [.inl (iZ (p)), .inr (.inr (.inr (25, 6, 31)))], h)) rfl ?_
  refine Ev.ldv (j := (iZ (p))) (n := 6) (w := .inr (.inr (.inr (10, 0, (32 + 5 * g))))) (iZ_in (by omega) (by omega) (by omega)) rfl (by rw [iZ_ix (n := g) (by omega) (by omega)]; exact congrArg vR (sh_31 sh hg)) ?_
  refine Ev.gfr (r := (20, 128, (36 + 5 * g))) rfl (sh_w3 sh hg) ?_
  refine Ev.sts 1 (c' := (16, [some (.inr (.inr (.inr (1, 0, 1)))), some (.inl (iZ (p))), some (.inl (iZ (w)))], [.inl (iZ (w)), .inr (.inr (.inr (20, 128, (36 + 5 * g))))], h)) rfl ?_
  refine Ev.callv (a := [.inr (.inr (.inr (20, 128, (36 + 5 * g)))), .inl (iZ (w))]) rfl (sp_at (k := k) (by omega) (by omega) (by omega) (winC_v (ci_ws I g hg).1 (by omega))) ?_
  exact Ev.ret rfl (q)

theorem cy_openValue {d b n : Nat} {u : Q5} {S : Sta} {h : PH} {Q : Rs → PH → Prop} (I : CI h S b n u) (W : WN S) {p w : Int} {g : Nat} (hp : p = (g : Int)) (hc : g < (bkS S).2.2.length) (hwb : -2147483648 ≤ w ∧ w < 2147483648) (hw : ¬ (0 ≤ w ∧ w < (wdS S g).length)) (q : Q (.inr 2) (grow h 6)) : Rn (d + 3) 56 [.inr (.inr (.inr (1, 0, 1))), .inl (iZ (p)), .inl (iZ (w))] h Q := by
  have sh := ci_sh I
  have hb := ci_b I
  have W0 := W
  obtain ⟨⟨w1, w2, w3, w4, w5, w6⟩, w7, w8, w9, w10, w11, w12, w13, w14, w15, w16, w17, w18⟩ := W0
  refine Ev.sts 3 (c' := (3, [some (.inr (.inr (.inr (1, 0, 1)))), some (.inl (iZ (p))), some (.inl (iZ (w)))], [.inl (iZ (w)), .inl (iZ (p)), .inr (.inr (.inr (1, 0, 1)))], h)) rfl ?_
  refine Ev.callw (a := [.inr (.inr (.inr (1, 0, 1))), .inl (iZ (p)), .inl (iZ (w))]) rfl (cn_window (g := g) I W hp hc ⟨by omega, by omega⟩ hw ?_)
  exact thrown rfl rfl (by decide) (q)

theorem cn_window2 {d b n : Nat} {u : Q5} {S : Sta} {h : PH} {Q : Rs → PH → Prop} (I : CI h S b n u) (W : WN S) {p w : Int} (hp : -2147483648 ≤ p ∧ p < 2147483648) (hc : ¬ (0 ≤ p ∧ p < (bkS S).2.2.length)) (q : Q (.inr 2) (grow h 6)) : Rn (d + 2) 53 [.inr (.inr (.inr (1, 0, 1))), .inl (iZ (p)), .inl (iZ (w))] h Q := by
  have sh := ci_sh I
  have hb := ci_b I
  have W0 := W
  obtain ⟨⟨w1, w2, w3, w4, w5, w6⟩, w7, w8, w9, w10, w11, w12, w13, w14, w15, w16, w17, w18⟩ := W0
  refine Ev.sts 2 (c' := (2, [some (.inr (.inr (.inr (1, 0, 1)))), some (.inl (iZ (p))), some (.inl (iZ (w)))], [.inl (iZ (p)), .inr (.inr (.inr (1, 0, 1)))], h)) rfl ?_
  refine Ev.callw (a := [.inr (.inr (.inr (1, 0, 1))), .inl (iZ (p))]) rfl (cn_goose I W ⟨by omega, by omega⟩ hc ?_)
  exact thrown rfl rfl (by decide) (q)

theorem cz_openStart {d b n : Nat} {u : Q5} {S : Sta} {h : PH} {Q : Rs → PH → Prop} (I : CI h S b n u) (W : WN S) {p w : Int} (hp : -2147483648 ≤ p ∧ p < 2147483648) (hc : ¬ (0 ≤ p ∧ p < (bkS S).2.2.length)) (q : Q (.inr 2) (grow h 6)) : Rn (d + 3) 52 [.inr (.inr (.inr (1, 0, 1))), .inl (iZ (p)), .inl (iZ (w))] h Q := by
  have sh := ci_sh I
  have hb := ci_b I
  have W0 := W
  obtain ⟨⟨w1, w2, w3, w4, w5, w6⟩, w7, w8, w9, w10, w11, w12, w13, w14, w15, w16, w17, w18⟩ := W0
  refine Ev.sts 3 (c' := (3, [some (.inr (.inr (.inr (1, 0, 1)))), some (.inl (iZ (p))), some (.inl (iZ (w)))], [.inl (iZ (w)), .inl (iZ (p)), .inr (.inr (.inr (1, 0, 1)))], h)) rfl ?_
  refine Ev.callw (a := [.inr (.inr (.inr (1, 0, 1))), .inl (iZ (p)), .inl (iZ (w))]) rfl (cn_window2 I W ⟨by omega, by omega⟩ hc ?_)
  exact thrown rfl rfl (by decide) (q)

theorem cz_openEnd {d b n : Nat} {u : Q5} {S : Sta} {h : PH} {Q : Rs → PH → Prop} (I : CI h S b n u) (W : WN S) {p w : Int} (hp : -2147483648 ≤ p ∧ p < 2147483648) (hc : ¬ (0 ≤ p ∧ p < (bkS S).2.2.length)) (q : Q (.inr 2) (grow h 6)) : Rn (d + 3) 54 [.inr (.inr (.inr (1, 0, 1))), .inl (iZ (p)), .inl (iZ (w))] h Q := by
  have sh := ci_sh I
  have hb := ci_b I
  have W0 := W
  obtain ⟨⟨w1, w2, w3, w4, w5, w6⟩, w7, w8, w9, w10, w11, w12, w13, w14, w15, w16, w17, w18⟩ := W0
  refine Ev.sts 3 (c' := (3, [some (.inr (.inr (.inr (1, 0, 1)))), some (.inl (iZ (p))), some (.inl (iZ (w)))], [.inl (iZ (w)), .inl (iZ (p)), .inr (.inr (.inr (1, 0, 1)))], h)) rfl ?_
  refine Ev.callw (a := [.inr (.inr (.inr (1, 0, 1))), .inl (iZ (p)), .inl (iZ (w))]) rfl (cn_window2 I W ⟨by omega, by omega⟩ hc ?_)
  exact thrown rfl rfl (by decide) (q)

theorem cz_openCount {d b n : Nat} {u : Q5} {S : Sta} {h : PH} {Q : Rs → PH → Prop} (I : CI h S b n u) (W : WN S) {p w : Int} (hp : -2147483648 ≤ p ∧ p < 2147483648) (hc : ¬ (0 ≤ p ∧ p < (bkS S).2.2.length)) (q : Q (.inr 2) (grow h 6)) : Rn (d + 3) 55 [.inr (.inr (.inr (1, 0, 1))), .inl (iZ (p)), .inl (iZ (w))] h Q := by
  have sh := ci_sh I
  have hb := ci_b I
  have W0 := W
  obtain ⟨⟨w1, w2, w3, w4, w5, w6⟩, w7, w8, w9, w10, w11, w12, w13, w14, w15, w16, w17, w18⟩ := W0
  refine Ev.sts 3 (c' := (3, [some (.inr (.inr (.inr (1, 0, 1)))), some (.inl (iZ (p))), some (.inl (iZ (w)))], [.inl (iZ (w)), .inl (iZ (p)), .inr (.inr (.inr (1, 0, 1)))], h)) rfl ?_
  refine Ev.callw (a := [.inr (.inr (.inr (1, 0, 1))), .inl (iZ (p)), .inl (iZ (w))]) rfl (cn_window2 I W ⟨by omega, by omega⟩ hc ?_)
  exact thrown rfl rfl (by decide) (q)

theorem cz_openValue {d b n : Nat} {u : Q5} {S : Sta} {h : PH} {Q : Rs → PH → Prop} (I : CI h S b n u) (W : WN S) {p w : Int} (hp : -2147483648 ≤ p ∧ p < 2147483648) (hc : ¬ (0 ≤ p ∧ p < (bkS S).2.2.length)) (q : Q (.inr 2) (grow h 6)) : Rn (d + 3) 56 [.inr (.inr (.inr (1, 0, 1))), .inl (iZ (p)), .inl (iZ (w))] h Q := by
  have sh := ci_sh I
  have hb := ci_b I
  have W0 := W
  obtain ⟨⟨w1, w2, w3, w4, w5, w6⟩, w7, w8, w9, w10, w11, w12, w13, w14, w15, w16, w17, w18⟩ := W0
  refine Ev.sts 3 (c' := (3, [some (.inr (.inr (.inr (1, 0, 1)))), some (.inl (iZ (p))), some (.inl (iZ (w)))], [.inl (iZ (w)), .inl (iZ (p)), .inr (.inr (.inr (1, 0, 1)))], h)) rfl ?_
  refine Ev.callw (a := [.inr (.inr (.inr (1, 0, 1))), .inl (iZ (p)), .inl (iZ (w))]) rfl (cn_window2 I W ⟨by omega, by omega⟩ hc ?_)
  exact thrown rfl rfl (by decide) (q)

theorem cq_isIn {d b n : Nat} {u : Q5} {S : Sta} {h : PH} {Q : Rs → PH → Prop} (I : CI h S b n u) (W : WN S) {p w : Int} {k : Nat} (hp : 0 ≤ p ∧ p < (bkS S).2.1.length) (hw : w = (k : Int)) (hk : k < (csS S).length) (q1 : bitP ((csS S).getD k cd0).2 (iZ p) → Q (.inl (some (.inl (iZ 1)))) h) (q0 : ¬ bitP ((csS S).getD k cd0).2 (iZ p) → Q (.inl (some (.inl (iZ 0)))) h) : Rn (d + 1) 41 [.inr (.inr (.inr (1, 0, 1))), .inl (iZ (p)), .inl (iZ (w))] h Q := by
  have sh := ci_sh I
  have hb := ci_b I
  have W0 := W
  obtain ⟨⟨w1, w2, w3, w4, w5, w6⟩, w7, w8, w9, w10, w11, w12, w13, w14, w15, w16, w17, w18⟩ := W0
  refine Ev.sts 2 (c' := (2, [some (.inr (.inr (.inr (1, 0, 1)))), some (.inl (iZ (p))), some (.inl (iZ (w)))], [.inl (iZ (p)), .inr (.inr (.inr (1, 0, 1)))], h)) rfl ?_
  refine Ev.callv (a := [.inr (.inr (.inr (1, 0, 1))), .inl (iZ (p))]) rfl (cr_flock I W ⟨by omega, by omega⟩) ?_
  refine Ev.sts 2 (c' := (7, [some (.inr (.inr (.inr (1, 0, 1)))), some (.inl (iZ (p))), some (.inl (iZ (w)))], [.inl (iZ (w)), .inr (.inr (.inr (1, 0, 1)))], h)) rfl ?_
  refine Ev.callv (a := [.inr (.inr (.inr (1, 0, 1))), .inl (iZ (w))]) rfl (cr_comma I W ⟨by omega, by omega⟩) ?_
  refine Ev.sts 2 (c' := (12, [some (.inr (.inr (.inr (1, 0, 1)))), some (.inl (iZ (p))), some (.inl (iZ (w)))], [.inr (.inr (.inr (1, 0, 1))), .inl (iZ (p))], h)) rfl ?_
  refine Ev.gfr (r := (20, 120, 30)) rfl (sh_1_4 sh) ?_
  refine Ev.sts 1 (c' := (16, [some (.inr (.inr (.inr (1, 0, 1)))), some (.inl (iZ (p))), some (.inl (iZ (w)))], [.inl (iZ (w)), .inr (.inr (.inr (20, 120, 30))), .inl (iZ (p))], h)) rfl ?_
  refine Ev.callv (a := [.inr (.inr (.inr (20, 120, 30))), .inl (iZ (w))]) rfl (sp_at (k := k) (by omega) (by omega) (by omega) ((ci_cs I).2 k (by omega)).2) ?_
  refine Ev.callw (a := [.inl (iZ (p)), .inl (((csS S).getD k cd0).2)]) rfl (sp_takes (fun c0 => ?_) (fun c0 => ?_))
  · exact Ev.ret rfl (q1 c0)
  · exact Ev.ret rfl (q0 c0)

theorem cz_isIn {d b n : Nat} {u : Q5} {S : Sta} {h : PH} {Q : Rs → PH → Prop} (I : CI h S b n u) (W : WN S) {p w : Int} (hp : -2147483648 ≤ p ∧ p < 2147483648) (hc : ¬ (0 ≤ p ∧ p < (bkS S).2.1.length)) (q : Q (.inr 2) (grow h 6)) : Rn (d + 1) 41 [.inr (.inr (.inr (1, 0, 1))), .inl (iZ (p)), .inl (iZ (w))] h Q := by
  have sh := ci_sh I
  have hb := ci_b I
  have W0 := W
  obtain ⟨⟨w1, w2, w3, w4, w5, w6⟩, w7, w8, w9, w10, w11, w12, w13, w14, w15, w16, w17, w18⟩ := W0
  refine Ev.sts 2 (c' := (2, [some (.inr (.inr (.inr (1, 0, 1)))), some (.inl (iZ (p))), some (.inl (iZ (w)))], [.inl (iZ (p)), .inr (.inr (.inr (1, 0, 1)))], h)) rfl ?_
  refine Ev.callw (a := [.inr (.inr (.inr (1, 0, 1))), .inl (iZ (p))]) rfl (cn_flock I W ⟨by omega, by omega⟩ hc ?_)
  exact thrown rfl rfl (by decide) (q)

theorem cy_isIn {d b n : Nat} {u : Q5} {S : Sta} {h : PH} {Q : Rs → PH → Prop} (I : CI h S b n u) (W : WN S) {p w : Int} (hp : 0 ≤ p ∧ p < (bkS S).2.1.length) (hw : -2147483648 ≤ w ∧ w < 2147483648) (hc : ¬ (0 ≤ w ∧ w < (csS S).length)) (q : Q (.inr 2) (grow h 6)) : Rn (d + 1) 41 [.inr (.inr (.inr (1, 0, 1))), .inl (iZ (p)), .inl (iZ (w))] h Q := by
  have sh := ci_sh I
  have hb := ci_b I
  have W0 := W
  obtain ⟨⟨w1, w2, w3, w4, w5, w6⟩, w7, w8, w9, w10, w11, w12, w13, w14, w15, w16, w17, w18⟩ := W0
  refine Ev.sts 2 (c' := (2, [some (.inr (.inr (.inr (1, 0, 1)))), some (.inl (iZ (p))), some (.inl (iZ (w)))], [.inl (iZ (p)), .inr (.inr (.inr (1, 0, 1)))], h)) rfl ?_
  refine Ev.callv (a := [.inr (.inr (.inr (1, 0, 1))), .inl (iZ (p))]) rfl (cr_flock I W ⟨by omega, by omega⟩) ?_
  refine Ev.sts 2 (c' := (7, [some (.inr (.inr (.inr (1, 0, 1)))), some (.inl (iZ (p))), some (.inl (iZ (w)))], [.inl (iZ (w)), .inr (.inr (.inr (1, 0, 1)))], h)) rfl ?_
  refine Ev.callw (a := [.inr (.inr (.inr (1, 0, 1))), .inl (iZ (w))]) rfl (cn_comma I W ⟨by omega, by omega⟩ hc ?_)
  exact thrown rfl rfl (by decide) (q)

def lateA (f : Nat → Nat) : Int := ((((((0 : Int) + f 0) + f 1) + f 2) + f 3) + f 4) + f 5
theorem cx_lateInAll {d b n : Nat} {u : Q5} {S : Sta} {h : PH} (I : CI h S b n u) (W : WN S) : Rv d 39 [.inr (.inr (.inr (1, 0, 1)))] h (some (.inl (iZ (lateA (ltS S))))) h := Rv.of fun Q q => by
  have sh := ci_sh I
  have hb := ci_b I
  have W0 := W
  obtain ⟨⟨w1, w2, w3, w4, w5, w6⟩, w7, w8, w9, w10, w11, w12, w13, w14, w15, w16, w17, w18⟩ := W0
  refine Ev.sts 6 (c' := (6, [some (.inr (.inr (.inr (1, 0, 1)))), some (.inl (iZ (0))), some (.inl (iZ (0)))], [.inr (.inr (.inr (1, 0, 1))), .inl (iZ (0))], h)) rfl ?_
  refine Ev.gfr (r := (25, 6, 31)) rfl (sh_1_5 sh) ?_
  refine Ev.sts 1 (c' := (10, [some (.inr (.inr (.inr (1, 0, 1)))), some (.inl (iZ (0))), some (.inl (iZ (0)))], [.inl (iZ (6)), .inl (iZ (0))], h)) rfl ?_
  refine Ev.brF (p := (iZ (6)) ≤ (iZ (0))) (c1 := (31, [some (.inr (.inr (.inr (1, 0, 1)))), some (.inl (iZ (0))), some (.inl (iZ (0)))], [], h)) (c2 := (13, [some (.inr (.inr (.inr (1, 0, 1)))), some (.inl (iZ (0))), some (.inl (iZ (0)))], [], h)) (by decide) rfl ?_
  refine Ev.sts 2 (c' := (15, [some (.inr (.inr (.inr (1, 0, 1)))), some (.inl (iZ (0))), some (.inl (iZ (0)))], [.inr (.inr (.inr (1, 0, 1))), .inl (iZ (0))], h)) rfl ?_
  refine Ev.gfr (r := (25, 6, 31)) rfl (sh_1_5 sh) ?_
  refine Ev.sts 1 (c' := (19, [some (.inr (.inr (.inr (1, 0, 1)))), some (.inl (iZ (0))), some (.inl (iZ (0)))], [.inl (iZ (0)), .inr (.inr (.inr (25, 6, 31))), .inl (iZ (0))], h)) rfl ?_
  refine Ev.ldv (j := (iZ (0))) (n := 6) (w := .inr (.inr (.inr (10, 0, 32)))) (by decide) rfl (congrArg vR (sh_31_0 sh)) ?_
  refine Ev.gv (w := (iZ (ltS S 0))) rfl (ci_ws I 0 (by omega)).2 ?_
  refine Ev.gv (w := (iZ (0 + (ltS S 0)))) rfl (iZ_add _ _) ?_
  refine Ev.sts 1 (c' := (25, [some (.inr (.inr (.inr (1, 0, 1)))), some (.inl (iZ (0 + (ltS S 0)))), some (.inl (iZ (0)))], [], h)) rfl ?_
  refine Ev.stc (c1 := (28, [some (.inr (.inr (.inr (1, 0, 1)))), some (.inl (iZ (0 + (ltS S 0)))), some (.inl ((iZ (0)) + (iZ (1))))], [], h)) (c2 := (28, [some (.inr (.inr (.inr (1, 0, 1)))), some (.inl (iZ (0 + (ltS S 0)))), some (.inl (iZ (1)))], [], h)) rfl (by rw [iZ_add]; rfl) ?_
  refine Ev.sts 3 (c' := (6, [some (.inr (.inr (.inr (1, 0, 1)))), some (.inl (iZ (0 + (ltS S 0)))), some (.inl (iZ (1)))], [.inr (.inr (.inr (1, 0, 1))), .inl (iZ (1))], h)) rfl ?_
  refine Ev.gfr (r := (25, 6, 31)) rfl (sh_1_5 sh) ?_
  refine Ev.sts 1 (c' := (10, [some (.inr (.inr (.inr (1, 0, 1)))), some (.inl (iZ (0 + (ltS S 0)))), some (.inl (iZ (1)))], [.inl (iZ (6)), .inl (iZ (1))], h)) rfl ?_
  refine Ev.brF (p := (iZ (6)) ≤ (iZ (1))) (c1 := (31, [some (.inr (.inr (.inr (1, 0, 1)))), some (.inl (iZ (0 + (ltS S 0)))), some (.inl (iZ (1)))], [], h)) (c2 := (13, [some (.inr (.inr (.inr (1, 0, 1)))), some (.inl (iZ (0 + (ltS S 0)))), some (.inl (iZ (1)))], [], h)) (by decide) rfl ?_
  refine Ev.sts 2 (c' := (15, [some (.inr (.inr (.inr (1, 0, 1)))), some (.inl (iZ (0 + (ltS S 0)))), some (.inl (iZ (1)))], [.inr (.inr (.inr (1, 0, 1))), .inl (iZ (0 + (ltS S 0)))], h)) rfl ?_
  refine Ev.gfr (r := (25, 6, 31)) rfl (sh_1_5 sh) ?_
  refine Ev.sts 1 (c' := (19, [some (.inr (.inr (.inr (1, 0, 1)))), some (.inl (iZ (0 + (ltS S 0)))), some (.inl (iZ (1)))], [.inl (iZ (1)), .inr (.inr (.inr (25, 6, 31))), .inl (iZ (0 + (ltS S 0)))], h)) rfl ?_
  refine Ev.ldv (j := (iZ (1))) (n := 6) (w := .inr (.inr (.inr (10, 0, 37)))) (by decide) rfl (congrArg vR (sh_31_1 sh)) ?_
  refine Ev.gv (w := (iZ (ltS S 1))) rfl (ci_ws I 1 (by omega)).2 ?_
  refine Ev.gv (w := (iZ ((0 + (ltS S 0)) + (ltS S 1)))) rfl (iZ_add _ _) ?_
  refine Ev.sts 1 (c' := (25, [some (.inr (.inr (.inr (1, 0, 1)))), some (.inl (iZ ((0 + (ltS S 0)) + (ltS S 1)))), some (.inl (iZ (1)))], [], h)) rfl ?_
  refine Ev.stc (c1 := (28, [some (.inr (.inr (.inr (1, 0, 1)))), some (.inl (iZ ((0 + (ltS S 0)) + (ltS S 1)))), some (.inl ((iZ (1)) + (iZ (1))))], [], h)) (c2 := (28, [some (.inr (.inr (.inr (1, 0, 1)))), some (.inl (iZ ((0 + (ltS S 0)) + (ltS S 1)))), some (.inl (iZ (2)))], [], h)) rfl (by rw [iZ_add]; rfl) ?_
  refine Ev.sts 3 (c' := (6, [some (.inr (.inr (.inr (1, 0, 1)))), some (.inl (iZ ((0 + (ltS S 0)) + (ltS S 1)))), some (.inl (iZ (2)))], [.inr (.inr (.inr (1, 0, 1))), .inl (iZ (2))], h)) rfl ?_
  refine Ev.gfr (r := (25, 6, 31)) rfl (sh_1_5 sh) ?_
  refine Ev.sts 1 (c' := (10, [some (.inr (.inr (.inr (1, 0, 1)))), some (.inl (iZ ((0 + (ltS S 0)) + (ltS S 1)))), some (.inl (iZ (2)))], [.inl (iZ (6)), .inl (iZ (2))], h)) rfl ?_
  refine Ev.brF (p := (iZ (6)) ≤ (iZ (2))) (c1 := (31, [some (.inr (.inr (.inr (1, 0, 1)))), some (.inl (iZ ((0 + (ltS S 0)) + (ltS S 1)))), some (.inl (iZ (2)))], [], h)) (c2 := (13, [some (.inr (.inr (.inr (1, 0, 1)))), some (.inl (iZ ((0 + (ltS S 0)) + (ltS S 1)))), some (.inl (iZ (2)))], [], h)) (by decide) rfl ?_
  refine Ev.sts 2 (c' := (15, [some (.inr (.inr (.inr (1, 0, 1)))), some (.inl (iZ ((0 + (ltS S 0)) + (ltS S 1)))), some (.inl (iZ (2)))], [.inr (.inr (.inr (1, 0, 1))), .inl (iZ ((0 + (ltS S 0)) + (ltS S 1)))], h)) rfl ?_
  refine Ev.gfr (r := (25, 6, 31)) rfl (sh_1_5 sh) ?_
  refine Ev.sts 1 (c' := (19, [some (.inr (.inr (.inr (1, 0, 1)))), some (.inl (iZ ((0 + (ltS S 0)) + (ltS S 1)))), some (.inl (iZ (2)))], [.inl (iZ (2)), .inr (.inr (.inr (25, 6, 31))), .inl (iZ ((0 + (ltS S 0)) + (ltS S 1)))], h)) rfl ?_
  refine Ev.ldv (j := (iZ (2))) (n := 6) (w := .inr (.inr (.inr (10, 0, 42)))) (by decide) rfl (congrArg vR (sh_31_2 sh)) ?_
  refine Ev.gv (w := (iZ (ltS S 2))) rfl (ci_ws I 2 (by omega)).2 ?_
  refine Ev.gv (w := (iZ (((0 + (ltS S 0)) + (ltS S 1)) + (ltS S 2)))) rfl (iZ_add _ _) ?_
  refine Ev.sts 1 (c' := (25, [some (.inr (.inr (.inr (1, 0, 1)))), some (.inl (iZ (((0 + (ltS S 0)) + (ltS S 1)) + (ltS S 2)))), some (.inl (iZ (2)))], [], h)) rfl ?_
  refine Ev.stc (c1 := (28, [some (.inr (.inr (.inr (1, 0, 1)))), some (.inl (iZ (((0 + (ltS S 0)) + (ltS S 1)) + (ltS S 2)))), some (.inl ((iZ (2)) + (iZ (1))))], [], h)) (c2 := (28, [some (.inr (.inr (.inr (1, 0, 1)))), some (.inl (iZ (((0 + (ltS S 0)) + (ltS S 1)) + (ltS S 2)))), some (.inl (iZ (3)))], [], h)) rfl (by rw [iZ_add]; rfl) ?_
  refine Ev.sts 3 (c' := (6, [some (.inr (.inr (.inr (1, 0, 1)))), some (.inl (iZ (((0 + (ltS S 0)) + (ltS S 1)) + (ltS S 2)))), some (.inl (iZ (3)))], [.inr (.inr (.inr (1, 0, 1))), .inl (iZ (3))], h)) rfl ?_
  refine Ev.gfr (r := (25, 6, 31)) rfl (sh_1_5 sh) ?_
  refine Ev.sts 1 (c' := (10, [some (.inr (.inr (.inr (1, 0, 1)))), some (.inl (iZ (((0 + (ltS S 0)) + (ltS S 1)) + (ltS S 2)))), some (.inl (iZ (3)))], [.inl (iZ (6)), .inl (iZ (3))], h)) rfl ?_
  refine Ev.brF (p := (iZ (6)) ≤ (iZ (3))) (c1 := (31, [some (.inr (.inr (.inr (1, 0, 1)))), some (.inl (iZ (((0 + (ltS S 0)) + (ltS S 1)) + (ltS S 2)))), some (.inl (iZ (3)))], [], h)) (c2 := (13, [some (.inr (.inr (.inr (1, 0, 1)))), some (.inl (iZ (((0 + (ltS S 0)) + (ltS S 1)) + (ltS S 2)))), some (.inl (iZ (3)))], [], h)) (by decide) rfl ?_
  refine Ev.sts 2 (c' := (15, [some (.inr (.inr (.inr (1, 0, 1)))), some (.inl (iZ (((0 + (ltS S 0)) + (ltS S 1)) + (ltS S 2)))), some (.inl (iZ (3)))], [.inr (.inr (.inr (1, 0, 1))), .inl (iZ (((0 + (ltS S 0)) + (ltS S 1)) + (ltS S 2)))], h)) rfl ?_
  refine Ev.gfr (r := (25, 6, 31)) rfl (sh_1_5 sh) ?_
  refine Ev.sts 1 (c' := (19, [some (.inr (.inr (.inr (1, 0, 1)))), some (.inl (iZ (((0 + (ltS S 0)) + (ltS S 1)) + (ltS S 2)))), some (.inl (iZ (3)))], [.inl (iZ (3)), .inr (.inr (.inr (25, 6, 31))), .inl (iZ (((0 + (ltS S 0)) + (ltS S 1)) + (ltS S 2)))], h)) rfl ?_
  refine Ev.ldv (j := (iZ (3))) (n := 6) (w := .inr (.inr (.inr (10, 0, 47)))) (by decide) rfl (congrArg vR (sh_31_3 sh)) ?_
  refine Ev.gv (w := (iZ (ltS S 3))) rfl (ci_ws I 3 (by omega)).2 ?_
  refine Ev.gv (w := (iZ ((((0 + (ltS S 0)) + (ltS S 1)) + (ltS S 2)) + (ltS S 3)))) rfl (iZ_add _ _) ?_
  refine Ev.sts 1 (c' := (25, [some (.inr (.inr (.inr (1, 0, 1)))), some (.inl (iZ ((((0 + (ltS S 0)) + (ltS S 1)) + (ltS S 2)) + (ltS S 3)))), some (.inl (iZ (3)))], [], h)) rfl ?_
  refine Ev.stc (c1 := (28, [some (.inr (.inr (.inr (1, 0, 1)))), some (.inl (iZ ((((0 + (ltS S 0)) + (ltS S 1)) + (ltS S 2)) + (ltS S 3)))), some (.inl ((iZ (3)) + (iZ (1))))], [], h)) (c2 := (28, [some (.inr (.inr (.inr (1, 0, 1)))), some (.inl (iZ ((((0 + (ltS S 0)) + (ltS S 1)) + (ltS S 2)) + (ltS S 3)))), some (.inl (iZ (4)))], [], h)) rfl (by rw [iZ_add]; rfl) ?_
  refine Ev.sts 3 (c' := (6, [some (.inr (.inr (.inr (1, 0, 1)))), some (.inl (iZ ((((0 + (ltS S 0)) + (ltS S 1)) + (ltS S 2)) + (ltS S 3)))), some (.inl (iZ (4)))], [.inr (.inr (.inr (1, 0, 1))), .inl (iZ (4))], h)) rfl ?_
  refine Ev.gfr (r := (25, 6, 31)) rfl (sh_1_5 sh) ?_
  refine Ev.sts 1 (c' := (10, [some (.inr (.inr (.inr (1, 0, 1)))), some (.inl (iZ ((((0 + (ltS S 0)) + (ltS S 1)) + (ltS S 2)) + (ltS S 3)))), some (.inl (iZ (4)))], [.inl (iZ (6)), .inl (iZ (4))], h)) rfl ?_
  refine Ev.brF (p := (iZ (6)) ≤ (iZ (4))) (c1 := (31, [some (.inr (.inr (.inr (1, 0, 1)))), some (.inl (iZ ((((0 + (ltS S 0)) + (ltS S 1)) + (ltS S 2)) + (ltS S 3)))), some (.inl (iZ (4)))], [], h)) (c2 := (13, [some (.inr (.inr (.inr (1, 0, 1)))), some (.inl (iZ ((((0 + (ltS S 0)) + (ltS S 1)) + (ltS S 2)) + (ltS S 3)))), some (.inl (iZ (4)))], [], h)) (by decide) rfl ?_
  refine Ev.sts 2 (c' := (15, [some (.inr (.inr (.inr (1, 0, 1)))), some (.inl (iZ ((((0 + (ltS S 0)) + (ltS S 1)) + (ltS S 2)) + (ltS S 3)))), some (.inl (iZ (4)))], [.inr (.inr (.inr (1, 0, 1))), .inl (iZ ((((0 + (ltS S 0)) + (ltS S 1)) + (ltS S 2)) + (ltS S 3)))], h)) rfl ?_
  refine Ev.gfr (r := (25, 6, 31)) rfl (sh_1_5 sh) ?_
  refine Ev.sts 1 (c' := (19, [some (.inr (.inr (.inr (1, 0, 1)))), some (.inl (iZ ((((0 + (ltS S 0)) + (ltS S 1)) + (ltS S 2)) + (ltS S 3)))), some (.inl (iZ (4)))], [.inl (iZ (4)), .inr (.inr (.inr (25, 6, 31))), .inl (iZ ((((0 + (ltS S 0)) + (ltS S 1)) + (ltS S 2)) + (ltS S 3)))], h)) rfl ?_
  refine Ev.ldv (j := (iZ (4))) (n := 6) (w := .inr (.inr (.inr (10, 0, 52)))) (by decide) rfl (congrArg vR (sh_31_4 sh)) ?_
  refine Ev.gv (w := (iZ (ltS S 4))) rfl (ci_ws I 4 (by omega)).2 ?_
  refine Ev.gv (w := (iZ (((((0 + (ltS S 0)) + (ltS S 1)) + (ltS S 2)) + (ltS S 3)) + (ltS S 4)))) rfl (iZ_add _ _) ?_
  refine Ev.sts 1 (c' := (25, [some (.inr (.inr (.inr (1, 0, 1)))), some (.inl (iZ (((((0 + (ltS S 0)) + (ltS S 1)) + (ltS S 2)) + (ltS S 3)) + (ltS S 4)))), some (.inl (iZ (4)))], [], h)) rfl ?_
  refine Ev.stc (c1 := (28, [some (.inr (.inr (.inr (1, 0, 1)))), some (.inl (iZ (((((0 + (ltS S 0)) + (ltS S 1)) + (ltS S 2)) + (ltS S 3)) + (ltS S 4)))), some (.inl ((iZ (4)) + (iZ (1))))], [], h)) (c2 := (28, [some (.inr (.inr (.inr (1, 0, 1)))), some (.inl (iZ (((((0 + (ltS S 0)) + (ltS S 1)) + (ltS S 2)) + (ltS S 3)) + (ltS S 4)))), some (.inl (iZ (5)))], [], h)) rfl (by rw [iZ_add]; rfl) ?_
  refine Ev.sts 3 (c' := (6, [some (.inr (.inr (.inr (1, 0, 1)))), some (.inl (iZ (((((0 + (ltS S 0)) + (ltS S 1)) + (ltS S 2)) + (ltS S 3)) + (ltS S 4)))), some (.inl (iZ (5)))], [.inr (.inr (.inr (1, 0, 1))), .inl (iZ (5))], h)) rfl ?_
  refine Ev.gfr (r := (25, 6, 31)) rfl (sh_1_5 sh) ?_
  refine Ev.sts 1 (c' := (10, [some (.inr (.inr (.inr (1, 0, 1)))), some (.inl (iZ (((((0 + (ltS S 0)) + (ltS S 1)) + (ltS S 2)) + (ltS S 3)) + (ltS S 4)))), some (.inl (iZ (5)))], [.inl (iZ (6)), .inl (iZ (5))], h)) rfl ?_
  refine Ev.brF (p := (iZ (6)) ≤ (iZ (5))) (c1 := (31, [some (.inr (.inr (.inr (1, 0, 1)))), some (.inl (iZ (((((0 + (ltS S 0)) + (ltS S 1)) + (ltS S 2)) + (ltS S 3)) + (ltS S 4)))), some (.inl (iZ (5)))], [], h)) (c2 := (13, [some (.inr (.inr (.inr (1, 0, 1)))), some (.inl (iZ (((((0 + (ltS S 0)) + (ltS S 1)) + (ltS S 2)) + (ltS S 3)) + (ltS S 4)))), some (.inl (iZ (5)))], [], h)) (by decide) rfl ?_
  refine Ev.sts 2 (c' := (15, [some (.inr (.inr (.inr (1, 0, 1)))), some (.inl (iZ (((((0 + (ltS S 0)) + (ltS S 1)) + (ltS S 2)) + (ltS S 3)) + (ltS S 4)))), some (.inl (iZ (5)))], [.inr (.inr (.inr (1, 0, 1))), .inl (iZ (((((0 + (ltS S 0)) + (ltS S 1)) + (ltS S 2)) + (ltS S 3)) + (ltS S 4)))], h)) rfl ?_
  refine Ev.gfr (r := (25, 6, 31)) rfl (sh_1_5 sh) ?_
  refine Ev.sts 1 (c' := (19, [some (.inr (.inr (.inr (1, 0, 1)))), some (.inl (iZ (((((0 + (ltS S 0)) + (ltS S 1)) + (ltS S 2)) + (ltS S 3)) + (ltS S 4)))), some (.inl (iZ (5)))], [.inl (iZ (5)), .inr (.inr (.inr (25, 6, 31))), .inl (iZ (((((0 + (ltS S 0)) + (ltS S 1)) + (ltS S 2)) + (ltS S 3)) + (ltS S 4)))], h)) rfl ?_
  refine Ev.ldv (j := (iZ (5))) (n := 6) (w := .inr (.inr (.inr (10, 0, 57)))) (by decide) rfl (congrArg vR (sh_31_5 sh)) ?_
  refine Ev.gv (w := (iZ (ltS S 5))) rfl (ci_ws I 5 (by omega)).2 ?_
  refine Ev.gv (w := (iZ ((((((0 + (ltS S 0)) + (ltS S 1)) + (ltS S 2)) + (ltS S 3)) + (ltS S 4)) + (ltS S 5)))) rfl (iZ_add _ _) ?_
  refine Ev.sts 1 (c' := (25, [some (.inr (.inr (.inr (1, 0, 1)))), some (.inl (iZ ((((((0 + (ltS S 0)) + (ltS S 1)) + (ltS S 2)) + (ltS S 3)) + (ltS S 4)) + (ltS S 5)))), some (.inl (iZ (5)))], [], h)) rfl ?_
  refine Ev.stc (c1 := (28, [some (.inr (.inr (.inr (1, 0, 1)))), some (.inl (iZ ((((((0 + (ltS S 0)) + (ltS S 1)) + (ltS S 2)) + (ltS S 3)) + (ltS S 4)) + (ltS S 5)))), some (.inl ((iZ (5)) + (iZ (1))))], [], h)) (c2 := (28, [some (.inr (.inr (.inr (1, 0, 1)))), some (.inl (iZ ((((((0 + (ltS S 0)) + (ltS S 1)) + (ltS S 2)) + (ltS S 3)) + (ltS S 4)) + (ltS S 5)))), some (.inl (iZ (6)))], [], h)) rfl (by rw [iZ_add]; rfl) ?_
  refine Ev.sts 3 (c' := (6, [some (.inr (.inr (.inr (1, 0, 1)))), some (.inl (iZ ((((((0 + (ltS S 0)) + (ltS S 1)) + (ltS S 2)) + (ltS S 3)) + (ltS S 4)) + (ltS S 5)))), some (.inl (iZ (6)))], [.inr (.inr (.inr (1, 0, 1))), .inl (iZ (6))], h)) rfl ?_
  refine Ev.gfr (r := (25, 6, 31)) rfl (sh_1_5 sh) ?_
  refine Ev.sts 1 (c' := (10, [some (.inr (.inr (.inr (1, 0, 1)))), some (.inl (iZ ((((((0 + (ltS S 0)) + (ltS S 1)) + (ltS S 2)) + (ltS S 3)) + (ltS S 4)) + (ltS S 5)))), some (.inl (iZ (6)))], [.inl (iZ (6)), .inl (iZ (6))], h)) rfl ?_
  refine Ev.brT (p := (iZ (6)) ≤ (iZ (6))) (c1 := (31, [some (.inr (.inr (.inr (1, 0, 1)))), some (.inl (iZ ((((((0 + (ltS S 0)) + (ltS S 1)) + (ltS S 2)) + (ltS S 3)) + (ltS S 4)) + (ltS S 5)))), some (.inl (iZ (6)))], [], h)) (c2 := (13, [some (.inr (.inr (.inr (1, 0, 1)))), some (.inl (iZ ((((((0 + (ltS S 0)) + (ltS S 1)) + (ltS S 2)) + (ltS S 3)) + (ltS S 4)) + (ltS S 5)))), some (.inl (iZ (6)))], [], h)) (by decide) rfl ?_
  refine Ev.sts 1 (c' := (32, [some (.inr (.inr (.inr (1, 0, 1)))), some (.inl (iZ ((((((0 + (ltS S 0)) + (ltS S 1)) + (ltS S 2)) + (ltS S 3)) + (ltS S 4)) + (ltS S 5)))), some (.inl (iZ (6)))], [.inl (iZ ((((((0 + (ltS S 0)) + (ltS S 1)) + (ltS S 2)) + (ltS S 3)) + (ltS S 4)) + (ltS S 5)))], h)) rfl ?_
  exact Ev.ret rfl (q)

/-- how many commas a flock took; the latest -/
def szF : List (Int × Int32) → Int32 → Nat
  | [], _ => 0
  | c :: cs, f => (if bitv c.2 f = iZ 1 then 1 else 0) + szF cs f
def ltF (cs : List (Int × Int32)) (f : Int32) : Nat → Int
  | 0 => -1
  | k + 1 => if bitv (cs.getD k cd0).2 f = iZ 1 then (k : Int) else ltF cs f k
theorem cx_sz_lp {d b n : Nat} {u : Q5} {S : Sta} {h : PH} {p : Int} {Q : Rs → PH → Prop} (I : CI h S b n u) (W : WN S) (m : Nat) : ∀ (k c : Nat), k ≤ (csS S).length → (csS S).length < k + m → Q (.inl (some (.inl (iZ ((c : Int) + (szF ((csS S).drop k) (iZ p) : Int)))))) h → Ev (d + 1) 45 (9, [some (.inr (.inr (.inr (1, 0, 1)))), some (.inl (iZ (p))), some (.inl (iZ (c))), some (.inl (iZ (k)))], [], h) Q := by
  have sh := ci_sh I
  have hb := ci_b I
  have W0 := W
  obtain ⟨⟨w1, w2, w3, w4, w5, w6⟩, w7, w8, w9, w10, w11, w12, w13, w14, w15, w16, w17, w18⟩ := W0
  induction m with
  | zero => intro k c h1 h2 q; omega
  | succ m ih =>
    intro k c h1 h2 q
    refine Ev.sts 2 (c' := (11, [some (.inr (.inr (.inr (1, 0, 1)))), some (.inl (iZ (p))), some (.inl (iZ (c))), some (.inl (iZ (k)))], [.inr (.inr (.inr (1, 0, 1))), .inl (iZ (k))], h)) rfl ?_
    refine Ev.gv (w := (iZ ((csS S).length))) rfl (ci_cs I).1 ?_
    refine Ev.brc (p := (iZ ((csS S).length)) ≤ (iZ (k))) (q := (((csS S).length : Int)) ≤ k) (c1 := (41, [some (.inr (.inr (.inr (1, 0, 1)))), some (.inl (iZ (p))), some (.inl (iZ (c))), some (.inl (iZ (k)))], [], h)) (c2 := (17, [some (.inr (.inr (.inr (1, 0, 1)))), some (.inl (iZ (p))), some (.inl (iZ (c))), some (.inl (iZ (k)))], [], h)) rfl (iZ_le ⟨by omega, by omega⟩ ⟨by omega, by omega⟩) (fun c0 => ?_) (fun c0 => ?_)
    · refine Ev.sts 1 (c' := (42, [some (.inr (.inr (.inr (1, 0, 1)))), some (.inl (iZ (p))), some (.inl (iZ (c))), some (.inl (iZ (k)))], [.inl (iZ (c))], h)) rfl ?_
      rw [List.drop_eq_nil_of_le (show (csS S).length ≤ k by omega)] at q
      rw [show (c : Int) + ((szF [] (iZ p) : Nat) : Int) = (c : Int) from Int.add_zero _] at q
      exact Ev.ret rfl q
    · have e0 := drop_getD cd0 (csS S) k (by omega)
      refine Ev.sts 2 (c' := (19, [some (.inr (.inr (.inr (1, 0, 1)))), some (.inl (iZ (p))), some (.inl (iZ (c))), some (.inl (iZ (k)))], [.inr (.inr (.inr (1, 0, 1))), .inl (iZ (p))], h)) rfl ?_
      refine Ev.gfr (r := (20, 120, 30)) rfl (sh_1_4 sh) ?_
      refine Ev.sts 1 (c' := (23, [some (.inr (.inr (.inr (1, 0, 1)))), some (.inl (iZ (p))), some (.inl (iZ (c))), some (.inl (iZ (k)))], [.inl (iZ (k)), .inr (.inr (.inr (20, 120, 30))), .inl (iZ (p))], h)) rfl ?_
      refine Ev.callv (a := [.inr (.inr (.inr (20, 120, 30))), .inl (iZ (k))]) rfl (sp_at (k := k) (by omega) (by omega) (by omega) ((ci_cs I).2 k (by omega)).2) ?_
      refine Ev.callw (a := [.inl (iZ (p)), .inl (((csS S).getD k cd0).2)]) rfl (sp_takes (fun c1 => ?_) (fun c1 => ?_))
      · refine Ev.brF (p := (iZ (1)) = (iZ (0))) (c1 := (35, [some (.inr (.inr (.inr (1, 0, 1)))), some (.inl (iZ (p))), some (.inl (iZ (c))), some (.inl (iZ (k)))], [], h)) (c2 := (32, [some (.inr (.inr (.inr (1, 0, 1)))), some (.inl (iZ (p))), some (.inl (iZ (c))), some (.inl (iZ (k)))], [], h)) (by decide) rfl ?_
        refine Ev.stc (c1 := (35, [some (.inr (.inr (.inr (1, 0, 1)))), some (.inl (iZ (p))), some (.inl ((iZ (c)) + (iZ (1)))), some (.inl (iZ (k)))], [], h)) (c2 := (35, [some (.inr (.inr (.inr (1, 0, 1)))), some (.inl (iZ (p))), some (.inl (iZ (c + 1))), some (.inl (iZ (k)))], [], h)) rfl (by rw [iZ_add]) ?_
        refine Ev.stc (c1 := (38, [some (.inr (.inr (.inr (1, 0, 1)))), some (.inl (iZ (p))), some (.inl (iZ (c + 1))), some (.inl ((iZ (k)) + (iZ (1))))], [], h)) (c2 := (38, [some (.inr (.inr (.inr (1, 0, 1)))), some (.inl (iZ (p))), some (.inl (iZ (c + 1))), some (.inl (iZ (k + 1)))], [], h)) rfl (by rw [iZ_add]) ?_
        refine Ev.sts 1 (c' := (9, [some (.inr (.inr (.inr (1, 0, 1)))), some (.inl (iZ (p))), some (.inl (iZ (c + 1))), some (.inl (iZ (k + 1)))], [], h)) rfl ?_
        refine ih (k + 1) (c + 1) (by omega) (by omega) ?_
        rw [e0] at q
        replace q : Q (.inl (some (.inl (iZ ((c : Int) + (((if bitv ((csS S).getD k cd0).2 (iZ p) = iZ 1 then 1 else 0) + szF ((csS S).drop (k + 1)) (iZ p) : Nat) : Int)))))) h := q
        rw [if_pos (show bitv ((csS S).getD k cd0).2 (iZ p) = iZ 1 from c1)] at q
        rw [show (c : Int) + ((1 + szF ((csS S).drop (k + 1)) (iZ p) : Nat) : Int) = ((c + 1 : Nat) : Int) + (szF ((csS S).drop (k + 1)) (iZ p) : Int) by omega] at q
        exact q
      · refine Ev.brT (p := (iZ (0)) = (iZ (0))) (c1 := (35, [some (.inr (.inr (.inr (1, 0, 1)))), some (.inl (iZ (p))), some (.inl (iZ (c))), some (.inl (iZ (k)))], [], h)) (c2 := (32, [some (.inr (.inr (.inr (1, 0, 1)))), some (.inl (iZ (p))), some (.inl (iZ (c))), some (.inl (iZ (k)))], [], h)) (by decide) rfl ?_
        refine Ev.stc (c1 := (38, [some (.inr (.inr (.inr (1, 0, 1)))), some (.inl (iZ (p))), some (.inl (iZ (c))), some (.inl ((iZ (k)) + (iZ (1))))], [], h)) (c2 := (38, [some (.inr (.inr (.inr (1, 0, 1)))), some (.inl (iZ (p))), some (.inl (iZ (c))), some (.inl (iZ (k + 1)))], [], h)) rfl (by rw [iZ_add]) ?_
        refine Ev.sts 1 (c' := (9, [some (.inr (.inr (.inr (1, 0, 1)))), some (.inl (iZ (p))), some (.inl (iZ (c))), some (.inl (iZ (k + 1)))], [], h)) rfl ?_
        refine ih (k + 1) (c) (by omega) (by omega) ?_
        rw [e0] at q
        replace q : Q (.inl (some (.inl (iZ ((c : Int) + (((if bitv ((csS S).getD k cd0).2 (iZ p) = iZ 1 then 1 else 0) + szF ((csS S).drop (k + 1)) (iZ p) : Nat) : Int)))))) h := q
        rw [if_neg (show ¬ bitv ((csS S).getD k cd0).2 (iZ p) = iZ 1 from c1)] at q
        rw [show (c : Int) + ((0 + szF ((csS S).drop (k + 1)) (iZ p) : Nat) : Int) = ((c : Nat) : Int) + (szF ((csS S).drop (k + 1)) (iZ p) : Int) by omega] at q
        exact q

theorem cq_sizeOf {d b n : Nat} {u : Q5} {S : Sta} {h : PH} (I : CI h S b n u) (W : WN S) {p : Int} (hc : 0 ≤ p ∧ p < (bkS S).2.1.length) : Rv (d + 1) 45 [.inr (.inr (.inr (1, 0, 1))), .inl (iZ (p))] h (some (.inl (iZ (szF (csS S) (iZ p))))) h := Rv.of fun Q q => by
  have sh := ci_sh I
  have hb := ci_b I
  have W0 := W
  obtain ⟨⟨w1, w2, w3, w4, w5, w6⟩, w7, w8, w9, w10, w11, w12, w13, w14, w15, w16, w17, w18⟩ := W0
  refine Ev.sts 2 (c' := (2, [some (.inr (.inr (.inr (1, 0, 1)))), some (.inl (iZ (p))), none, none], [.inl (iZ (p)), .inr (.inr (.inr (1, 0, 1)))], h)) rfl ?_
  refine Ev.callv (a := [.inr (.inr (.inr (1, 0, 1))), .inl (iZ (p))]) rfl (cr_flock I W ⟨by omega, by omega⟩) ?_
  refine Ev.sts 4 (c' := (9, [some (.inr (.inr (.inr (1, 0, 1)))), some (.inl (iZ (p))), some (.inl (iZ (0))), some (.inl (iZ (0)))], [], h)) rfl ?_
  refine cx_sz_lp I W ((csS S).length + 1) 0 0 (by omega) (by omega) ?_
  rw [List.drop_zero, show ((0 : Nat) : Int) + (szF (csS S) (iZ p) : Int) = (szF (csS S) (iZ p) : Int) by omega]
  exact q

theorem cz_sizeOf {d b n : Nat} {u : Q5} {S : Sta} {h : PH} {Q : Rs → PH → Prop} (I : CI h S b n u) (W : WN S) {p : Int} (hp : -2147483648 ≤ p ∧ p < 2147483648) (hc : ¬ (0 ≤ p ∧ p < (bkS S).2.1.length)) (q : Q (.inr 2) (grow h 6)) : Rn (d + 1) 45 [.inr (.inr (.inr (1, 0, 1))), .inl (iZ (p))] h Q := by
  have sh := ci_sh I
  have hb := ci_b I
  have W0 := W
  obtain ⟨⟨w1, w2, w3, w4, w5, w6⟩, w7, w8, w9, w10, w11, w12, w13, w14, w15, w16, w17, w18⟩ := W0
  refine Ev.sts 2 (c' := (2, [some (.inr (.inr (.inr (1, 0, 1)))), some (.inl (iZ (p))), none, none], [.inl (iZ (p)), .inr (.inr (.inr (1, 0, 1)))], h)) rfl ?_
  refine Ev.callw (a := [.inr (.inr (.inr (1, 0, 1))), .inl (iZ (p))]) rfl (cn_flock I W ⟨by omega, by omega⟩ hc ?_)
  exact thrown rfl rfl (by decide) (q)

theorem cx_lt_lp {d b n : Nat} {u : Q5} {S : Sta} {h : PH} {p : Int} {Q : Rs → PH → Prop} (I : CI h S b n u) (W : WN S) (m : Nat) : ∀ (c : Int), c = (m : Int) - 1 → m ≤ (csS S).length → Q (.inl (some (.inl (iZ (ltF (csS S) (iZ p) m))))) h → Ev (d + 1) 46 (12, [some (.inr (.inr (.inr (1, 0, 1)))), some (.inl (iZ (p))), some (.inl (iZ (c)))], [], h) Q := by
  have sh := ci_sh I
  have hb := ci_b I
  have W0 := W
  obtain ⟨⟨w1, w2, w3, w4, w5, w6⟩, w7, w8, w9, w10, w11, w12, w13, w14, w15, w16, w17, w18⟩ := W0
  induction m with
  | zero =>
    intro c h1 h2 q
    refine Ev.sts 1 (c' := (13, [some (.inr (.inr (.inr (1, 0, 1)))), some (.inl (iZ (p))), some (.inl (iZ (c)))], [.inl (iZ (c))], h)) rfl ?_
    refine Ev.brT (p := (iZ (c)) < (iZ (0))) (c1 := (39, [some (.inr (.inr (.inr (1, 0, 1)))), some (.inl (iZ (p))), some (.inl (iZ (c)))], [], h)) (c2 := (16, [some (.inr (.inr (.inr (1, 0, 1)))), some (.inl (iZ (p))), some (.inl (iZ (c)))], [], h)) ((iZ_lt ⟨by omega, by omega⟩ ⟨by omega, by omega⟩).mpr (by omega)) rfl ?_
    refine Ev.sts 1 (c' := (40, [some (.inr (.inr (.inr (1, 0, 1)))), some (.inl (iZ (p))), some (.inl (iZ (c)))], [.inl (iZ (-1))], h)) rfl ?_
    rw [show c = -1 by omega]
    exact Ev.ret rfl q
  | succ k ih =>
    intro c h1 h2 q
    refine Ev.sts 1 (c' := (13, [some (.inr (.inr (.inr (1, 0, 1)))), some (.inl (iZ (p))), some (.inl (iZ (c)))], [.inl (iZ (c))], h)) rfl ?_
    refine Ev.brF (p := (iZ (c)) < (iZ (0))) (c1 := (39, [some (.inr (.inr (.inr (1, 0, 1)))), some (.inl (iZ (p))), some (.inl (iZ (c)))], [], h)) (c2 := (16, [some (.inr (.inr (.inr (1, 0, 1)))), some (.inl (iZ (p))), some (.inl (iZ (c)))], [], h)) (fun c_ => absurd ((iZ_lt ⟨by omega, by omega⟩ ⟨by omega, by omega⟩).mp c_) (by omega)) rfl ?_
    refine Ev.sts 2 (c' := (18, [some (.inr (.inr (.inr (1, 0, 1)))), some (.inl (iZ (p))), some (.inl (iZ (c)))], [.inr (.inr (.inr (1, 0, 1))), .inl (iZ (p))], h)) rfl ?_
    refine Ev.gfr (r := (20, 120, 30)) rfl (sh_1_4 sh) ?_
    refine Ev.sts 1 (c' := (22, [some (.inr (.inr (.inr (1, 0, 1)))), some (.inl (iZ (p))), some (.inl (iZ (c)))], [.inl (iZ (c)), .inr (.inr (.inr (20, 120, 30))), .inl (iZ (p))], h)) rfl ?_
    refine Ev.callv (a := [.inr (.inr (.inr (20, 120, 30))), .inl (iZ (c))]) rfl (sp_at (k := k) (by omega) (by omega) (by omega) ((ci_cs I).2 k (by omega)).2) ?_
    refine Ev.callw (a := [.inl (iZ (p)), .inl (((csS S).getD k cd0).2)]) rfl (sp_takes (fun c0 => ?_) (fun c0 => ?_))
    · refine Ev.brF (p := (iZ (1)) = (iZ (0))) (c1 := (33, [some (.inr (.inr (.inr (1, 0, 1)))), some (.inl (iZ (p))), some (.inl (iZ (c)))], [], h)) (c2 := (31, [some (.inr (.inr (.inr (1, 0, 1)))), some (.inl (iZ (p))), some (.inl (iZ (c)))], [], h)) (by decide) rfl ?_
      refine Ev.sts 1 (c' := (32, [some (.inr (.inr (.inr (1, 0, 1)))), some (.inl (iZ (p))), some (.inl (iZ (c)))], [.inl (iZ (c))], h)) rfl ?_
      rw [show ltF (csS S) (iZ p) (k + 1) = (k : Int) from if_pos c0] at q
      rw [show c = (k : Int) by omega]
      exact Ev.ret rfl q
    · refine Ev.brT (p := (iZ (0)) = (iZ (0))) (c1 := (33, [some (.inr (.inr (.inr (1, 0, 1)))), some (.inl (iZ (p))), some (.inl (iZ (c)))], [], h)) (c2 := (31, [some (.inr (.inr (.inr (1, 0, 1)))), some (.inl (iZ (p))), some (.inl (iZ (c)))], [], h)) (by decide) rfl ?_
      refine Ev.stc (c1 := (36, [some (.inr (.inr (.inr (1, 0, 1)))), some (.inl (iZ (p))), some (.inl ((iZ (c)) + (iZ (-1))))], [], h)) (c2 := (36, [some (.inr (.inr (.inr (1, 0, 1)))), some (.inl (iZ (p))), some (.inl (iZ (c + (-1))))], [], h)) rfl (by rw [iZ_add]) ?_
      refine Ev.sts 1 (c' := (12, [some (.inr (.inr (.inr (1, 0, 1)))), some (.inl (iZ (p))), some (.inl (iZ (c + (-1))))], [], h)) rfl ?_
      rw [show ltF (csS S) (iZ p) (k + 1) = ltF (csS S) (iZ p) k from if_neg c0] at q
      exact ih (c + -1) (by omega) (by omega) q

theorem cq_latestIn {d b n : Nat} {u : Q5} {S : Sta} {h : PH} (I : CI h S b n u) (W : WN S) {p : Int} (hc : 0 ≤ p ∧ p < (bkS S).2.1.length) : Rv (d + 1) 46 [.inr (.inr (.inr (1, 0, 1))), .inl (iZ (p))] h (some (.inl (iZ (ltF (csS S) (iZ p) (csS S).length)))) h := Rv.of fun Q q => by
  have sh := ci_sh I
  have hb := ci_b I
  have W0 := W
  obtain ⟨⟨w1, w2, w3, w4, w5, w6⟩, w7, w8, w9, w10, w11, w12, w13, w14, w15, w16, w17, w18⟩ := W0
  refine Ev.sts 2 (c' := (2, [some (.inr (.inr (.inr (1, 0, 1)))), some (.inl (iZ (p))), none], [.inl (iZ (p)), .inr (.inr (.inr (1, 0, 1)))], h)) rfl ?_
  refine Ev.callv (a := [.inr (.inr (.inr (1, 0, 1))), .inl (iZ (p))]) rfl (cr_flock I W ⟨by omega, by omega⟩) ?_
  refine Ev.sts 1 (c' := (6, [some (.inr (.inr (.inr (1, 0, 1)))), some (.inl (iZ (p))), none], [.inr (.inr (.inr (1, 0, 1)))], h)) rfl ?_
  refine Ev.gv (w := (iZ ((csS S).length))) rfl (ci_cs I).1 ?_
  refine Ev.sts 1 (c' := (10, [some (.inr (.inr (.inr (1, 0, 1)))), some (.inl (iZ (p))), none], [.inl (iZ (1)), .inl (iZ ((csS S).length))], h)) rfl ?_
  refine Ev.gv (w := (iZ (((csS S).length) - 1))) rfl (iZ_sub _ _) ?_
  refine Ev.sts 1 (c' := (12, [some (.inr (.inr (.inr (1, 0, 1)))), some (.inl (iZ (p))), some (.inl (iZ (((csS S).length) - 1)))], [], h)) rfl ?_
  exact cx_lt_lp I W (csS S).length _ (by omega) (Nat.le_refl _) q

theorem cz_latestIn {d b n : Nat} {u : Q5} {S : Sta} {h : PH} {Q : Rs → PH → Prop} (I : CI h S b n u) (W : WN S) {p : Int} (hp : -2147483648 ≤ p ∧ p < 2147483648) (hc : ¬ (0 ≤ p ∧ p < (bkS S).2.1.length)) (q : Q (.inr 2) (grow h 6)) : Rn (d + 1) 46 [.inr (.inr (.inr (1, 0, 1))), .inl (iZ (p))] h Q := by
  have sh := ci_sh I
  have hb := ci_b I
  have W0 := W
  obtain ⟨⟨w1, w2, w3, w4, w5, w6⟩, w7, w8, w9, w10, w11, w12, w13, w14, w15, w16, w17, w18⟩ := W0
  refine Ev.sts 2 (c' := (2, [some (.inr (.inr (.inr (1, 0, 1)))), some (.inl (iZ (p))), none], [.inl (iZ (p)), .inr (.inr (.inr (1, 0, 1)))], h)) rfl ?_
  refine Ev.callw (a := [.inr (.inr (.inr (1, 0, 1))), .inl (iZ (p))]) rfl (cn_flock I W ⟨by omega, by omega⟩ hc ?_)
  exact thrown rfl rfl (by decide) (q)

