/-! The reference: a comma in a goose's windows. -/
/-- a goose of the reference's book -/
def gsM (h : PH) (g : Nat) (G : Gs) : Prop := h.1 93 (27 + 6 * g + 0) = iZ G.1 ∧ h.1 93 (27 + 6 * g + 1) = iZ G.2.1 ∧ h.1 93 (27 + 6 * g + 2) = iZ G.2.2.1 ∧ h.1 93 (27 + 6 * g + 3) = iZ G.2.2.2.1 ∧ ∃ k, k + wlen G.2.2.2.2 ≤ 1024 ∧ h.1 93 (27 + 6 * g + 4) = iZ k ∧ h.1 93 (27 + 6 * g + 5) = iZ ((k + wlen G.2.2.2.2 : Nat) : Int) ∧ pgM h 94 k G.2.2.2.2
theorem gsM_eq {h h' : PH} {g : Nat} {G : Gs} (e : h'.1 93 = h.1 93) (e2 : h'.1 94 = h.1 94) (w : gsM h g G) : gsM h' g G := by
  obtain ⟨w1, w2, w3, w4, k, w5, w6, w7, w8⟩ := w
  unfold gsM
  rw [e]
  exact ⟨w1, w2, w3, w4, k, w5, w6, w7, pgM_eq e2 _ _ w8⟩
theorem mp_of0 {d g : Nat} {x y : Int} {h : PH} (sh : Sh h) (hg : g < 6) (hx : x = (g : Int)) (e : h.1 93 (27 + 6 * g + 0) = iZ y) : Rv d 214 [.inr (.inr (.inr (11, 0, 83))), .inl (iZ (x)), .inl (iZ (0))] h (some (.inl (iZ y))) h := Rv.of fun Q q => by
  refine Ev.sts 1 (c' := (1, [some (.inr (.inr (.inr (11, 0, 83)))), some (.inl (iZ (x))), some (.inl (iZ (0)))], [.inr (.inr (.inr (11, 0, 83)))], h)) rfl ?_
  refine Ev.gfr (r := (20, 64, 93)) rfl (sh_83_18 sh) ?_
  refine Ev.sts 3 (c' := (9, [some (.inr (.inr (.inr (11, 0, 83)))), some (.inl (iZ (x))), some (.inl (iZ (0)))], [.inl (iZ (x)), .inl (iZ (6)), .inl (iZ (27)), .inr (.inr (.inr (20, 64, 93)))], h)) rfl ?_
  refine Ev.gv (w := (iZ (6 * x))) rfl (iZ_mul _ _) ?_
  refine Ev.gv (w := (iZ (27 + (6 * x)))) rfl (iZ_add _ _) ?_
  refine Ev.sts 1 (c' := (12, [some (.inr (.inr (.inr (11, 0, 83)))), some (.inl (iZ (x))), some (.inl (iZ (0)))], [.inl (iZ (0)), .inl (iZ (27 + (6 * x))), .inr (.inr (.inr (20, 64, 93)))], h)) rfl ?_
  refine Ev.gv (w := (iZ ((27 + (6 * x)) + 0))) rfl (iZ_add _ _) ?_
  refine Ev.ldv (j := (iZ ((27 + (6 * x)) + 0))) (n := 64) (w := .inl (iZ (y))) (iZ_in (by omega) (by omega) (by omega)) rfl (by rw [iZ_ix (n := (27 + (6 * g)) + 0) (by omega) (by omega)]; exact congrArg vI e) ?_
  exact Ev.ret rfl (q)

theorem mp_of1 {d g : Nat} {x y : Int} {h : PH} (sh : Sh h) (hg : g < 6) (hx : x = (g : Int)) (e : h.1 93 (27 + 6 * g + 1) = iZ y) : Rv d 214 [.inr (.inr (.inr (11, 0, 83))), .inl (iZ (x)), .inl (iZ (1))] h (some (.inl (iZ y))) h := Rv.of fun Q q => by
  refine Ev.sts 1 (c' := (1, [some (.inr (.inr (.inr (11, 0, 83)))), some (.inl (iZ (x))), some (.inl (iZ (1)))], [.inr (.inr (.inr (11, 0, 83)))], h)) rfl ?_
  refine Ev.gfr (r := (20, 64, 93)) rfl (sh_83_18 sh) ?_
  refine Ev.sts 3 (c' := (9, [some (.inr (.inr (.inr (11, 0, 83)))), some (.inl (iZ (x))), some (.inl (iZ (1)))], [.inl (iZ (x)), .inl (iZ (6)), .inl (iZ (27)), .inr (.inr (.inr (20, 64, 93)))], h)) rfl ?_
  refine Ev.gv (w := (iZ (6 * x))) rfl (iZ_mul _ _) ?_
  refine Ev.gv (w := (iZ (27 + (6 * x)))) rfl (iZ_add _ _) ?_
  refine Ev.sts 1 (c' := (12, [some (.inr (.inr (.inr (11, 0, 83)))), some (.inl (iZ (x))), some (.inl (iZ (1)))], [.inl (iZ (1)), .inl (iZ (27 + (6 * x))), .inr (.inr (.inr (20, 64, 93)))], h)) rfl ?_
  refine Ev.gv (w := (iZ ((27 + (6 * x)) + 1))) rfl (iZ_add _ _) ?_
  refine Ev.ldv (j := (iZ ((27 + (6 * x)) + 1))) (n := 64) (w := .inl (iZ (y))) (iZ_in (by omega) (by omega) (by omega)) rfl (by rw [iZ_ix (n := (27 + (6 * g)) + 1) (by omega) (by omega)]; exact congrArg vI e) ?_
  exact Ev.ret rfl (q)

theorem mp_of2 {d g : Nat} {x y : Int} {h : PH} (sh : Sh h) (hg : g < 6) (hx : x = (g : Int)) (e : h.1 93 (27 + 6 * g + 2) = iZ y) : Rv d 214 [.inr (.inr (.inr (11, 0, 83))), .inl (iZ (x)), .inl (iZ (2))] h (some (.inl (iZ y))) h := Rv.of fun Q q => by
  refine Ev.sts 1 (c' := (1, [some (.inr (.inr (.inr (11, 0, 83)))), some (.inl (iZ (x))), some (.inl (iZ (2)))], [.inr (.inr (.inr (11, 0, 83)))], h)) rfl ?_
  refine Ev.gfr (r := (20, 64, 93)) rfl (sh_83_18 sh) ?_
  refine Ev.sts 3 (c' := (9, [some (.inr (.inr (.inr (11, 0, 83)))), some (.inl (iZ (x))), some (.inl (iZ (2)))], [.inl (iZ (x)), .inl (iZ (6)), .inl (iZ (27)), .inr (.inr (.inr (20, 64, 93)))], h)) rfl ?_
  refine Ev.gv (w := (iZ (6 * x))) rfl (iZ_mul _ _) ?_
  refine Ev.gv (w := (iZ (27 + (6 * x)))) rfl (iZ_add _ _) ?_
  refine Ev.sts 1 (c' := (12, [some (.inr (.inr (.inr (11, 0, 83)))), some (.inl (iZ (x))), some (.inl (iZ (2)))], [.inl (iZ (2)), .inl (iZ (27 + (6 * x))), .inr (.inr (.inr (20, 64, 93)))], h)) rfl ?_
  refine Ev.gv (w := (iZ ((27 + (6 * x)) + 2))) rfl (iZ_add _ _) ?_
  refine Ev.ldv (j := (iZ ((27 + (6 * x)) + 2))) (n := 64) (w := .inl (iZ (y))) (iZ_in (by omega) (by omega) (by omega)) rfl (by rw [iZ_ix (n := (27 + (6 * g)) + 2) (by omega) (by omega)]; exact congrArg vI e) ?_
  exact Ev.ret rfl (q)

theorem mp_of3 {d g : Nat} {x y : Int} {h : PH} (sh : Sh h) (hg : g < 6) (hx : x = (g : Int)) (e : h.1 93 (27 + 6 * g + 3) = iZ y) : Rv d 214 [.inr (.inr (.inr (11, 0, 83))), .inl (iZ (x)), .inl (iZ (3))] h (some (.inl (iZ y))) h := Rv.of fun Q q => by
  refine Ev.sts 1 (c' := (1, [some (.inr (.inr (.inr (11, 0, 83)))), some (.inl (iZ (x))), some (.inl (iZ (3)))], [.inr (.inr (.inr (11, 0, 83)))], h)) rfl ?_
  refine Ev.gfr (r := (20, 64, 93)) rfl (sh_83_18 sh) ?_
  refine Ev.sts 3 (c' := (9, [some (.inr (.inr (.inr (11, 0, 83)))), some (.inl (iZ (x))), some (.inl (iZ (3)))], [.inl (iZ (x)), .inl (iZ (6)), .inl (iZ (27)), .inr (.inr (.inr (20, 64, 93)))], h)) rfl ?_
  refine Ev.gv (w := (iZ (6 * x))) rfl (iZ_mul _ _) ?_
  refine Ev.gv (w := (iZ (27 + (6 * x)))) rfl (iZ_add _ _) ?_
  refine Ev.sts 1 (c' := (12, [some (.inr (.inr (.inr (11, 0, 83)))), some (.inl (iZ (x))), some (.inl (iZ (3)))], [.inl (iZ (3)), .inl (iZ (27 + (6 * x))), .inr (.inr (.inr (20, 64, 93)))], h)) rfl ?_
  refine Ev.gv (w := (iZ ((27 + (6 * x)) + 3))) rfl (iZ_add _ _) ?_
  refine Ev.ldv (j := (iZ ((27 + (6 * x)) + 3))) (n := 64) (w := .inl (iZ (y))) (iZ_in (by omega) (by omega) (by omega)) rfl (by rw [iZ_ix (n := (27 + (6 * g)) + 3) (by omega) (by omega)]; exact congrArg vI e) ?_
  exact Ev.ret rfl (q)

theorem mp_of4 {d g : Nat} {x y : Int} {h : PH} (sh : Sh h) (hg : g < 6) (hx : x = (g : Int)) (e : h.1 93 (27 + 6 * g + 4) = iZ y) : Rv d 214 [.inr (.inr (.inr (11, 0, 83))), .inl (iZ (x)), .inl (iZ (4))] h (some (.inl (iZ y))) h := Rv.of fun Q q => by
  refine Ev.sts 1 (c' := (1, [some (.inr (.inr (.inr (11, 0, 83)))), some (.inl (iZ (x))), some (.inl (iZ (4)))], [.inr (.inr (.inr (11, 0, 83)))], h)) rfl ?_
  refine Ev.gfr (r := (20, 64, 93)) rfl (sh_83_18 sh) ?_
  refine Ev.sts 3 (c' := (9, [some (.inr (.inr (.inr (11, 0, 83)))), some (.inl (iZ (x))), some (.inl (iZ (4)))], [.inl (iZ (x)), .inl (iZ (6)), .inl (iZ (27)), .inr (.inr (.inr (20, 64, 93)))], h)) rfl ?_
  refine Ev.gv (w := (iZ (6 * x))) rfl (iZ_mul _ _) ?_
  refine Ev.gv (w := (iZ (27 + (6 * x)))) rfl (iZ_add _ _) ?_
  refine Ev.sts 1 (c' := (12, [some (.inr (.inr (.inr (11, 0, 83)))), some (.inl (iZ (x))), some (.inl (iZ (4)))], [.inl (iZ (4)), .inl (iZ (27 + (6 * x))), .inr (.inr (.inr (20, 64, 93)))], h)) rfl ?_
  refine Ev.gv (w := (iZ ((27 + (6 * x)) + 4))) rfl (iZ_add _ _) ?_
  refine Ev.ldv (j := (iZ ((27 + (6 * x)) + 4))) (n := 64) (w := .inl (iZ (y))) (iZ_in (by omega) (by omega) (by omega)) rfl (by rw [iZ_ix (n := (27 + (6 * g)) + 4) (by omega) (by omega)]; exact congrArg vI e) ?_
  exact Ev.ret rfl (q)

theorem mp_of5 {d g : Nat} {x y : Int} {h : PH} (sh : Sh h) (hg : g < 6) (hx : x = (g : Int)) (e : h.1 93 (27 + 6 * g + 5) = iZ y) : Rv d 214 [.inr (.inr (.inr (11, 0, 83))), .inl (iZ (x)), .inl (iZ (5))] h (some (.inl (iZ y))) h := Rv.of fun Q q => by
  refine Ev.sts 1 (c' := (1, [some (.inr (.inr (.inr (11, 0, 83)))), some (.inl (iZ (x))), some (.inl (iZ (5)))], [.inr (.inr (.inr (11, 0, 83)))], h)) rfl ?_
  refine Ev.gfr (r := (20, 64, 93)) rfl (sh_83_18 sh) ?_
  refine Ev.sts 3 (c' := (9, [some (.inr (.inr (.inr (11, 0, 83)))), some (.inl (iZ (x))), some (.inl (iZ (5)))], [.inl (iZ (x)), .inl (iZ (6)), .inl (iZ (27)), .inr (.inr (.inr (20, 64, 93)))], h)) rfl ?_
  refine Ev.gv (w := (iZ (6 * x))) rfl (iZ_mul _ _) ?_
  refine Ev.gv (w := (iZ (27 + (6 * x)))) rfl (iZ_add _ _) ?_
  refine Ev.sts 1 (c' := (12, [some (.inr (.inr (.inr (11, 0, 83)))), some (.inl (iZ (x))), some (.inl (iZ (5)))], [.inl (iZ (5)), .inl (iZ (27 + (6 * x))), .inr (.inr (.inr (20, 64, 93)))], h)) rfl ?_
  refine Ev.gv (w := (iZ ((27 + (6 * x)) + 5))) rfl (iZ_add _ _) ?_
  refine Ev.ldv (j := (iZ ((27 + (6 * x)) + 5))) (n := 64) (w := .inl (iZ (y))) (iZ_in (by omega) (by omega) (by omega)) rfl (by rw [iZ_ix (n := (27 + (6 * g)) + 5) (by omega) (by omega)]; exact congrArg vI e) ?_
  exact Ev.ret rfl (q)

theorem mp_together {d tl : Nat} {a b : Int32} {h : PH} (ht : tl < 4) : Rv d 219 [.inl (iZ (tl)), .inl (a), .inl (b)] h (some (.inl (jn tl a b))) h := Rv.of fun Q q => by
  refine Ev.sts 2 (c' := (2, [some (.inl (iZ (tl))), some (.inl (a)), some (.inl (b))], [.inl (iZ (2)), .inl (iZ (tl))], h)) rfl ?_
  refine Ev.brc (p := ¬ (iZ (tl)) = (iZ (2))) (q := ¬ ((tl : Int)) = 2) (c1 := (13, [some (.inl (iZ (tl))), some (.inl (a)), some (.inl (b))], [], h)) (c2 := (5, [some (.inl (iZ (tl))), some (.inl (a)), some (.inl (b))], [], h)) rfl (not_congr (iZ_eq ⟨by omega, by omega⟩ ⟨by omega, by omega⟩)) (fun c0 => ?_) (fun c0 => ?_)
  · refine Ev.sts 2 (c' := (15, [some (.inl (iZ (tl))), some (.inl (a)), some (.inl (b))], [.inl (iZ (3)), .inl (iZ (tl))], h)) rfl ?_
    refine Ev.brc (p := ¬ (iZ (tl)) = (iZ (3))) (q := ¬ ((tl : Int)) = 3) (c1 := (26, [some (.inl (iZ (tl))), some (.inl (a)), some (.inl (b))], [], h)) (c2 := (18, [some (.inl (iZ (tl))), some (.inl (a)), some (.inl (b))], [], h)) rfl (not_congr (iZ_eq ⟨by omega, by omega⟩ ⟨by omega, by omega⟩)) (fun c1 => ?_) (fun c1 => ?_)
    · refine Ev.sts 3 (c' := (29, [some (.inl (iZ (tl))), some (.inl (a)), some (.inl (b))], [.inl ((a + b))], h)) rfl ?_
      rw [jn_s (by omega) (by omega)] at q
      exact Ev.ret rfl q
    · refine Ev.sts 4 (c' := (29, [some (.inl (iZ (tl))), some (.inl (a)), some (.inl (b))], [.inl ((if b < a then b else a))], h)) rfl ?_
      rw [jn_3 (by omega)] at q
      exact Ev.ret rfl q
  · refine Ev.sts 4 (c' := (29, [some (.inl (iZ (tl))), some (.inl (a)), some (.inl (b))], [.inl ((if a < b then b else a))], h)) rfl ?_
    rw [jn_2 (by omega)] at q
    exact Ev.ret rfl q

/-- the last start at or ahead of an hour, as the reference has it -/
def lsM (G : Gs) (hr : Int) : Int := if G.2.2.1 = 0 then hr else hr / G.2.2.1 * G.2.2.1
def fsM (G : Gs) (hr : Int) : Int := if G.2.2.1 = 0 then hr else if hr - G.2.1 + 1 ≤ 0 then 0 else (hr - G.2.1 + 1 + G.2.2.1 - 1) / G.2.2.1 * G.2.2.1
theorem lsM_e {G : Gs} {hr : Int} : lsM G hr = hr - hr % (if G.2.2.1 = 0 then 1 else G.2.2.1) := by
  unfold lsM
  split
  · rw [Int.emod_one]; omega
  · rw [Int.emod_def, Int.mul_comm]; omega
theorem mp_lastStart {d g : Nat} {hr : Int} {G : Gs} {h : PH} (sh : Sh h) (hg : g < 6) (gm : gsM h g G) (hh : 0 ≤ hr ∧ hr < 1000) (g4 : 1 ≤ G.2.1 ∧ G.2.1 ≤ 200) (g5 : 0 ≤ G.2.2.1 ∧ G.2.2.1 ≤ 200) : Rv (d + 1) 216 [.inr (.inr (.inr (11, 0, 83))), .inl (iZ (g)), .inl (iZ (hr))] h (some (.inl (iZ (lsM G hr)))) h := Rv.of fun Q q => by
  obtain ⟨gm1, gm2, gm3, gm4, kk, k1, k2, k3, k4⟩ := gm
  refine Ev.sts 3 (c' := (3, [some (.inr (.inr (.inr (11, 0, 83)))), some (.inl (iZ (g))), some (.inl (iZ (hr))), none], [.inl (iZ (2)), .inl (iZ (g)), .inr (.inr (.inr (11, 0, 83)))], h)) rfl ?_
  refine Ev.callv (a := [.inr (.inr (.inr (11, 0, 83))), .inl (iZ (g)), .inl (iZ (2))]) rfl (mp_of2 (g := g) (y := G.2.2.1) sh (by omega) rfl gm3) ?_
  refine Ev.sts 2 (c' := (8, [some (.inr (.inr (.inr (11, 0, 83)))), some (.inl (iZ (g))), some (.inl (iZ (hr))), some (.inl (iZ (G.2.2.1)))], [.inl (iZ (G.2.2.1))], h)) rfl ?_
  refine Ev.brc (p := ¬ (iZ (G.2.2.1)) = (iZ (0))) (q := ¬ ((G.2.2.1 : Int)) = 0) (c1 := (15, [some (.inr (.inr (.inr (11, 0, 83)))), some (.inl (iZ (g))), some (.inl (iZ (hr))), some (.inl (iZ (G.2.2.1)))], [], h)) (c2 := (11, [some (.inr (.inr (.inr (11, 0, 83)))), some (.inl (iZ (g))), some (.inl (iZ (hr))), some (.inl (iZ (G.2.2.1)))], [], h)) rfl (not_congr (iZ_eq ⟨by omega, by omega⟩ ⟨by omega, by omega⟩)) (fun c0 => ?_) (fun c0 => ?_)
  · refine Ev.sts 2 (c' := (17, [some (.inr (.inr (.inr (11, 0, 83)))), some (.inl (iZ (g))), some (.inl (iZ (hr))), some (.inl (iZ (G.2.2.1)))], [.inl (iZ (G.2.2.1)), .inl (iZ (hr))], h)) rfl ?_
    refine Ev.pv (p := (iZ (G.2.2.1)) = 0) (v := .inl ((iZ (hr)) / (iZ (G.2.2.1)))) (w := .inl (iZ (hr / G.2.2.1))) (iZ_n0 (by omega) (by omega)) rfl (congrArg vI (iZ_div (by omega) (by omega) (by omega) (by omega))) ?_
    refine Ev.sts 1 (c' := (19, [some (.inr (.inr (.inr (11, 0, 83)))), some (.inl (iZ (g))), some (.inl (iZ (hr))), some (.inl (iZ (G.2.2.1)))], [.inl (iZ (G.2.2.1)), .inl (iZ (hr / G.2.2.1))], h)) rfl ?_
    refine Ev.gv (w := (iZ ((hr / G.2.2.1) * G.2.2.1))) rfl (iZ_mul _ _) ?_
    rw [show lsM G hr = (hr / G.2.2.1) * G.2.2.1 from if_neg (by omega)] at q
    exact Ev.ret rfl q
  · refine Ev.sts 2 (c' := (20, [some (.inr (.inr (.inr (11, 0, 83)))), some (.inl (iZ (g))), some (.inl (iZ (hr))), some (.inl (iZ (G.2.2.1)))], [.inl (iZ (hr))], h)) rfl ?_
    rw [show lsM G hr = hr from if_pos (by omega)] at q
    exact Ev.ret rfl q

theorem lsM_b {G : Gs} {hr : Int} (hh : 0 ≤ hr ∧ hr < 1000) (g5 : 0 ≤ G.2.2.1 ∧ G.2.2.1 ≤ 200) : 0 ≤ lsM G hr ∧ lsM G hr < 1000 := by
  unfold lsM
  split
  · omega
  · have e := Int.emod_def hr G.2.2.1
    have m1 := Int.emod_nonneg hr (show G.2.2.1 ≠ 0 by omega)
    have m2 : 0 ≤ hr / G.2.2.1 * G.2.2.1 := Int.mul_nonneg (Int.ediv_nonneg hh.1 g5.1) g5.1
    rw [Int.mul_comm] at e
    omega
theorem mp_isLate {d g : Nat} {hr wm : Int} {G : Gs} {h : PH} {Q : Rs → PH → Prop} (sh : Sh h) (hg : g < 6) (gm : gsM h g G) (hh : 0 ≤ hr ∧ hr < 1000) (g4 : 1 ≤ G.2.1 ∧ G.2.1 ≤ 200) (g5 : 0 ≤ G.2.2.1 ∧ G.2.2.1 ≤ 200) (hw : h.1 83 27 = iZ wm) (hm : 0 ≤ wm ∧ wm < 3000) (k1 : hr - hr % (if G.2.2.1 = 0 then 1 else G.2.2.1) + G.2.1 ≤ wm → Q (.inl (some (.inl (iZ 1)))) h) (k0 : ¬ hr - hr % (if G.2.2.1 = 0 then 1 else G.2.2.1) + G.2.1 ≤ wm → Q (.inl (some (.inl (iZ 0)))) h) : Rn (d + 2) 215 [.inr (.inr (.inr (11, 0, 83))), .inl (iZ (g)), .inl (iZ (hr))] h Q := by
  have gm0 := gm
  obtain ⟨gm1, gm2, gm3, gm4, -⟩ := gm0
  have lb : 0 ≤ lsM G hr ∧ lsM G hr < 1000 := lsM_b hh g5
  refine Ev.sts 3 (c' := (3, [some (.inr (.inr (.inr (11, 0, 83)))), some (.inl (iZ (g))), some (.inl (iZ (hr)))], [.inl (iZ (hr)), .inl (iZ (g)), .inr (.inr (.inr (11, 0, 83)))], h)) rfl ?_
  refine Ev.callv (a := [.inr (.inr (.inr (11, 0, 83))), .inl (iZ (g)), .inl (iZ (hr))]) rfl (mp_lastStart (G := G) sh hg gm hh g4 g5) ?_
  refine Ev.sts 3 (c' := (9, [some (.inr (.inr (.inr (11, 0, 83)))), some (.inl (iZ (g))), some (.inl (iZ (hr)))], [.inl (iZ (1)), .inl (iZ (g)), .inr (.inr (.inr (11, 0, 83))), .inl (iZ (lsM G hr))], h)) rfl ?_
  refine Ev.callv (a := [.inr (.inr (.inr (11, 0, 83))), .inl (iZ (g)), .inl (iZ (1))]) rfl (mp_of1 (g := g) (y := G.2.1) sh (by omega) rfl gm2) ?_
  refine Ev.gv (w := (iZ ((lsM G hr) + G.2.1))) rfl (iZ_add _ _) ?_
  refine Ev.sts 1 (c' := (14, [some (.inr (.inr (.inr (11, 0, 83)))), some (.inl (iZ (g))), some (.inl (iZ (hr)))], [.inr (.inr (.inr (11, 0, 83))), .inl (iZ ((lsM G hr) + G.2.1))], h)) rfl ?_
  refine Ev.gv (w := (iZ (wm))) rfl hw ?_
  refine Ev.brc (p := (iZ (wm)) < (iZ ((lsM G hr) + G.2.1))) (q := ((wm : Int)) < ((lsM G hr) + G.2.1)) (c1 := (24, [some (.inr (.inr (.inr (11, 0, 83)))), some (.inl (iZ (g))), some (.inl (iZ (hr)))], [], h)) (c2 := (20, [some (.inr (.inr (.inr (11, 0, 83)))), some (.inl (iZ (g))), some (.inl (iZ (hr)))], [], h)) rfl (iZ_lt ⟨by omega, by omega⟩ ⟨by omega, by omega⟩) (fun c0 => ?_) (fun c0 => ?_)
  · refine Ev.sts 1 (c' := (25, [some (.inr (.inr (.inr (11, 0, 83)))), some (.inl (iZ (g))), some (.inl (iZ (hr)))], [.inl (iZ (0))], h)) rfl ?_
    exact Ev.ret rfl (k0 (by rw [← lsM_e]; omega))
  · refine Ev.sts 2 (c' := (25, [some (.inr (.inr (.inr (11, 0, 83)))), some (.inl (iZ (g))), some (.inl (iZ (hr)))], [.inl (iZ (1))], h)) rfl ?_
    exact Ev.ret rfl (k1 (by rw [← lsM_e]; omega))

theorem mp_firstStart {d g : Nat} {hr : Int} {G : Gs} {h : PH} (sh : Sh h) (hg : g < 6) (gm : gsM h g G) (hh : 0 ≤ hr ∧ hr < 1000) (g4 : 1 ≤ G.2.1 ∧ G.2.1 ≤ 200) (g5 : 0 ≤ G.2.2.1 ∧ G.2.2.1 ≤ 200) : Rv (d + 1) 224 [.inr (.inr (.inr (11, 0, 83))), .inl (iZ (g)), .inl (iZ (hr))] h (some (.inl (iZ (fsM G hr)))) h := Rv.of fun Q q => by
  obtain ⟨gm1, gm2, gm3, gm4, kk, k1, k2, k3, k4⟩ := gm
  refine Ev.sts 3 (c' := (3, [some (.inr (.inr (.inr (11, 0, 83)))), some (.inl (iZ (g))), some (.inl (iZ (hr))), none, none], [.inl (iZ (2)), .inl (iZ (g)), .inr (.inr (.inr (11, 0, 83)))], h)) rfl ?_
  refine Ev.callv (a := [.inr (.inr (.inr (11, 0, 83))), .inl (iZ (g)), .inl (iZ (2))]) rfl (mp_of2 (g := g) (y := G.2.2.1) sh (by omega) rfl gm3) ?_
  refine Ev.sts 2 (c' := (8, [some (.inr (.inr (.inr (11, 0, 83)))), some (.inl (iZ (g))), some (.inl (iZ (hr))), some (.inl (iZ (G.2.2.1))), none], [.inl (iZ (G.2.2.1))], h)) rfl ?_
  refine Ev.brc (p := ¬ (iZ (G.2.2.1)) = (iZ (0))) (q := ¬ ((G.2.2.1 : Int)) = 0) (c1 := (13, [some (.inr (.inr (.inr (11, 0, 83)))), some (.inl (iZ (g))), some (.inl (iZ (hr))), some (.inl (iZ (G.2.2.1))), none], [], h)) (c2 := (11, [some (.inr (.inr (.inr (11, 0, 83)))), some (.inl (iZ (g))), some (.inl (iZ (hr))), some (.inl (iZ (G.2.2.1))), none], [], h)) rfl (not_congr (iZ_eq ⟨by omega, by omega⟩ ⟨by omega, by omega⟩)) (fun c0 => ?_) (fun c0 => ?_)
  · refine Ev.sts 4 (c' := (17, [some (.inr (.inr (.inr (11, 0, 83)))), some (.inl (iZ (g))), some (.inl (iZ (hr))), some (.inl (iZ (G.2.2.1))), none], [.inl (iZ (1)), .inl (iZ (g)), .inr (.inr (.inr (11, 0, 83))), .inl (iZ (hr))], h)) rfl ?_
    refine Ev.callv (a := [.inr (.inr (.inr (11, 0, 83))), .inl (iZ (g)), .inl (iZ (1))]) rfl (mp_of1 (g := g) (y := G.2.1) sh (by omega) rfl gm2) ?_
    refine Ev.gv (w := (iZ (hr - G.2.1))) rfl (iZ_sub _ _) ?_
    refine Ev.sts 1 (c' := (22, [some (.inr (.inr (.inr (11, 0, 83)))), some (.inl (iZ (g))), some (.inl (iZ (hr))), some (.inl (iZ (G.2.2.1))), none], [.inl (iZ (1)), .inl (iZ (hr - G.2.1))], h)) rfl ?_
    refine Ev.gv (w := (iZ ((hr - G.2.1) + 1))) rfl (iZ_add _ _) ?_
    refine Ev.sts 2 (c' := (27, [some (.inr (.inr (.inr (11, 0, 83)))), some (.inl (iZ (g))), some (.inl (iZ (hr))), some (.inl (iZ (G.2.2.1))), some (.inl (iZ ((hr - G.2.1) + 1)))], [.inl (iZ ((hr - G.2.1) + 1))], h)) rfl ?_
    refine Ev.brc (p := (iZ (0)) < (iZ ((hr - G.2.1) + 1))) (q := ((0 : Int)) < ((hr - G.2.1) + 1)) (c1 := (34, [some (.inr (.inr (.inr (11, 0, 83)))), some (.inl (iZ (g))), some (.inl (iZ (hr))), some (.inl (iZ (G.2.2.1))), some (.inl (iZ ((hr - G.2.1) + 1)))], [], h)) (c2 := (30, [some (.inr (.inr (.inr (11, 0, 83)))), some (.inl (iZ (g))), some (.inl (iZ (hr))), some (.inl (iZ (G.2.2.1))), some (.inl (iZ ((hr - G.2.1) + 1)))], [], h)) rfl (iZ_lt ⟨by omega, by omega⟩ ⟨by omega, by omega⟩) (fun c1 => ?_) (fun c1 => ?_)
    · refine Ev.sts 2 (c' := (37, [some (.inr (.inr (.inr (11, 0, 83)))), some (.inl (iZ (g))), some (.inl (iZ (hr))), some (.inl (iZ (G.2.2.1))), some (.inl (iZ ((hr - G.2.1) + 1)))], [.inl (iZ (G.2.2.1)), .inl (iZ ((hr - G.2.1) + 1))], h)) rfl ?_
      refine Ev.gv (w := (iZ (((hr - G.2.1) + 1) + G.2.2.1))) rfl (iZ_add _ _) ?_
      refine Ev.sts 1 (c' := (39, [some (.inr (.inr (.inr (11, 0, 83)))), some (.inl (iZ (g))), some (.inl (iZ (hr))), some (.inl (iZ (G.2.2.1))), some (.inl (iZ ((hr - G.2.1) + 1)))], [.inl (iZ (1)), .inl (iZ (((hr - G.2.1) + 1) + G.2.2.1))], h)) rfl ?_
      refine Ev.gv (w := (iZ ((((hr - G.2.1) + 1) + G.2.2.1) - 1))) rfl (iZ_sub _ _) ?_
      refine Ev.sts 1 (c' := (41, [some (.inr (.inr (.inr (11, 0, 83)))), some (.inl (iZ (g))), some (.inl (iZ (hr))), some (.inl (iZ (G.2.2.1))), some (.inl (iZ ((hr - G.2.1) + 1)))], [.inl (iZ (G.2.2.1)), .inl (iZ ((((hr - G.2.1) + 1) + G.2.2.1) - 1))], h)) rfl ?_
      refine Ev.pv (p := (iZ (G.2.2.1)) = 0) (v := .inl ((iZ ((((hr - G.2.1) + 1) + G.2.2.1) - 1)) / (iZ (G.2.2.1)))) (w := .inl (iZ (((((hr - G.2.1) + 1) + G.2.2.1) - 1) / G.2.2.1))) (iZ_n0 (by omega) (by omega)) rfl (congrArg vI (iZ_div (by omega) (by omega) (by omega) (by omega))) ?_
      refine Ev.sts 1 (c' := (43, [some (.inr (.inr (.inr (11, 0, 83)))), some (.inl (iZ (g))), some (.inl (iZ (hr))), some (.inl (iZ (G.2.2.1))), some (.inl (iZ ((hr - G.2.1) + 1)))], [.inl (iZ (G.2.2.1)), .inl (iZ (((((hr - G.2.1) + 1) + G.2.2.1) - 1) / G.2.2.1))], h)) rfl ?_
      refine Ev.gv (w := (iZ ((((((hr - G.2.1) + 1) + G.2.2.1) - 1) / G.2.2.1) * G.2.2.1))) rfl (iZ_mul _ _) ?_
      rw [show fsM G hr = (((((hr - G.2.1) + 1) + G.2.2.1) - 1) / G.2.2.1) * G.2.2.1 from (if_neg (by omega)).trans (if_neg (by omega))] at q
      exact Ev.ret rfl q
    · refine Ev.sts 2 (c' := (44, [some (.inr (.inr (.inr (11, 0, 83)))), some (.inl (iZ (g))), some (.inl (iZ (hr))), some (.inl (iZ (G.2.2.1))), some (.inl (iZ ((hr - G.2.1) + 1)))], [.inl (iZ (0))], h)) rfl ?_
      rw [show fsM G hr = 0 from (if_neg (by omega)).trans (if_pos (by omega))] at q
      exact Ev.ret rfl q
  · refine Ev.sts 1 (c' := (12, [some (.inr (.inr (.inr (11, 0, 83)))), some (.inl (iZ (g))), some (.inl (iZ (hr))), some (.inl (iZ (G.2.2.1))), none], [.inl (iZ (hr))], h)) rfl ?_
    rw [show fsM G hr = hr from if_pos (by omega)] at q
    exact Ev.ret rfl q

def cinM (wd : Int) (tl : Nat) (v : Int32) (g : Nat) (M : List Tel) (s : Int) : List Tel :=
  if plM M g s < M.length ∧ (M.getD (plM M g s) t0).1 = g ∧ (M.getD (plM M g s) t0).2.1 = s then M.set (plM M g s) ((M.getD (plM M g s) t0).1, (M.getD (plM M g s) t0).2.1, (M.getD (plM M g s) t0).2.2.1, (M.getD (plM M g s) t0).2.2.2.1 + 1, jn tl v (M.getD (plM M g s) t0).2.2.2.2) else M.take (plM M g s) ++ (g, s, s + wd, 1, v) :: M.drop (plM M g s)
def evM (wd st hr wm : Int) (tl : Nat) (v : Int32) (g : Nat) : Nat → List Tel → Int → List Tel
  | 0, M, _ => M
  | n + 1, M, s => if hr < s then M else evM wd st hr wm tl v g n (if s + wd ≤ wm then M else cinM wd tl v g M s) (s + st)
theorem upd_ok {h : PH} {M : List Tel} {no c w : Nat} {n : Int} {v : Int32} (op : opM h M no c) (hw : w < M.length) : opM (setI (setI h c (5 * w + 3) (iZ n)) c (5 * w + 4) v) (M.set w ((M.getD w t0).1, (M.getD w t0).2.1, (M.getD w t0).2.2.1, n, v)) no c ∧ fm h (setI (setI h c (5 * w + 3) (iZ n)) c (5 * w + 4) v) c c no no := by
  obtain ⟨p1, p2, p3, p4, p5, p6, p7⟩ := op
  have hc : c ≠ 83 := by unfold aO at p6; omega
  have hl : (M.set w ((M.getD w t0).1, (M.getD w t0).2.1, (M.getD w t0).2.2.1, n, v)).length = M.length := List.length_set ..
  refine ⟨⟨?_, by rw [hl]; omega, p3, p4, p5, p6, fun j hj => ?_⟩, rfl, fun _ _ _ => rfl, fun a a1 a2 _ => ?_, fun k hk => ?_, Nat.le_refl _, Nat.le_refl _, Nat.le_refl _, Nat.le_refl _, Or.inl rfl⟩
  · rw [hl, setI_oth hc.symm, setI_oth hc.symm]; exact p1
  · rw [hl] at hj
    rw [set_get _ _ _ _ hw]
    obtain ⟨q0, q1, q2, q3, q4⟩ := p7 j hj
    unfold rT
    by_cases z : j = w
    · subst z
      rw [if_pos rfl]
      refine ⟨?_, ?_, ?_, ?_, ?_⟩
      · rw [setI_ne (by omega), setI_ne (by omega)]; exact q0
      · rw [setI_ne (by omega), setI_ne (by omega)]; exact q1
      · rw [setI_ne (by omega), setI_ne (by omega)]; exact q2
      · rw [setI_ne (by omega)]; exact setI_self _ _ _ _
      · exact setI_self _ _ _ _
    · rw [if_neg z]
      refine ⟨?_, ?_, ?_, ?_, ?_⟩
      · rw [setI_ne (by omega), setI_ne (by omega)]; exact q0
      · rw [setI_ne (by omega), setI_ne (by omega)]; exact q1
      · rw [setI_ne (by omega), setI_ne (by omega)]; exact q2
      · rw [setI_ne (by omega), setI_ne (by omega)]; exact q3
      · rw [setI_ne (by omega), setI_ne (by omega)]; exact q4
  · rw [setI_oth a2, setI_oth a2]
  · rw [setI_oth hc.symm, setI_oth hc.symm]
theorem cinM_len (wd : Int) (tl : Nat) (v : Int32) (g : Nat) (M : List Tel) (s : Int) : (cinM wd tl v g M s).length ≤ M.length + 1 := by
  unfold cinM
  split
  · rw [List.length_set]; omega
  · rw [ins_len _ _ _ (plM_le M g s)]; omega
theorem cinM_B {wd : Int} {tl : Nat} {v : Int32} {g : Nat} {M : List Tel} {s N : Int} (hn : tsB N M) (hN : 0 ≤ N) (hg : g < 6) (h1 : 0 ≤ s) (h2 : s < 1000) (h3 : 1 ≤ wd) (h4 : wd ≤ 200) : tsB (N + 1) (cinM wd tl v g M s) := by
  intro j hj
  have hp := plM_le M g s
  have up : ∀ t, tB N t → tB (N + 1) t := fun t ht => ⟨ht.1, ht.2.1, ht.2.2.1, ht.2.2.2.1, ht.2.2.2.2.1, ht.2.2.2.2.2.1, by have := ht.2.2.2.2.2.2; omega⟩
  by_cases c : plM M g s < M.length ∧ (M.getD (plM M g s) t0).1 = g ∧ (M.getD (plM M g s) t0).2.1 = s
  · have e : cinM wd tl v g M s = _ := if_pos c
    rw [e] at hj ⊢
    rw [List.length_set] at hj
    rw [set_get _ _ _ _ c.1]
    by_cases z : j = plM M g s
    · rw [if_pos z]
      obtain ⟨b0, b1, b2, b3, b4, b5, b6⟩ := hn _ c.1
      exact ⟨b0, b1, b2, b3, b4, by show 1 ≤ _ + 1; omega, by show _ + 1 ≤ N + 1; omega⟩
    · rw [if_neg z]; exact up _ (hn j hj)
  · have e : cinM wd tl v g M s = _ := if_neg c
    rw [e] at hj ⊢
    rw [ins_len _ _ _ hp] at hj
    rw [ins_get _ _ _ _ hp]
    by_cases z1 : j < plM M g s
    · rw [if_pos z1]; exact up _ (hn j (by omega))
    · by_cases z2 : j = plM M g s
      · rw [if_neg z1, if_pos z2]
        exact ⟨hg, h1, h2, by show 0 ≤ s + wd; omega, by show s + wd < 1300; omega, by show (1 : Int) ≤ 1; omega, by show 1 ≤ N + 1; omega⟩
      · rw [if_neg z1, if_neg z2]; exact up _ (hn (j - 1) (by omega))
/-- a window's value behind a store of how many -/
theorem mp_w4x {d no c w : Nat} {x : Int32} {M : List Tel} {h : PH} (op : opM h M no c) (hw : w < M.length) : Rv d 218 [.inr (.inr (.inr (11, 0, 83))), .inl (iZ (w)), .inl (iZ (4))] (setI h c (5 * w + 3) x) (some (.inl (M.getD w t0).2.2.2.2)) (setI h c (5 * w + 3) x) := Rv.of fun Q q => by
  have o1 := op.2.1
  have o2 := op.2.2.2.1
  refine Ev.sts 1 (c' := (1, [some (.inr (.inr (.inr (11, 0, 83)))), some (.inl (iZ (w))), some (.inl (iZ (4)))], [.inr (.inr (.inr (11, 0, 83)))], (setI h c (5 * w + 3) x))) rfl ?_
  refine Ev.gfr (r := (20, no, c)) rfl op.2.2.2.2.1 ?_
  refine Ev.sts 2 (c' := (6, [some (.inr (.inr (.inr (11, 0, 83)))), some (.inl (iZ (w))), some (.inl (iZ (4)))], [.inl (iZ (w)), .inl (iZ (5)), .inr (.inr (.inr (20, no, c)))], (setI h c (5 * w + 3) x))) rfl ?_
  refine Ev.gv (w := (iZ (5 * w))) rfl (iZ_mul _ _) ?_
  refine Ev.sts 1 (c' := (8, [some (.inr (.inr (.inr (11, 0, 83)))), some (.inl (iZ (w))), some (.inl (iZ (4)))], [.inl (iZ (4)), .inl (iZ (5 * w)), .inr (.inr (.inr (20, no, c)))], (setI h c (5 * w + 3) x))) rfl ?_
  refine Ev.gv (w := (iZ ((5 * w) + 4))) rfl (iZ_add _ _) ?_
  refine Ev.ldv (j := (iZ ((5 * w) + 4))) (n := no) (w := .inl ((M.getD w t0).2.2.2.2)) (iZ_in (by omega) (by omega) (by omega)) rfl (by rw [iZ_ix (n := (5 * w) + 4) (by omega) (by omega)]; exact congrArg vI ((setI_ne (by omega)).trans (op.2.2.2.2.2.2 w hw).2.2.2.2)) ?_
  exact Ev.ret rfl (q)

theorem fnd_b (M : List Tel) (g : Nat) (s : Int) : -(M.length : Int) - 1 ≤ fndM M g s ∧ fndM M g s ≤ M.length := by
  have hp := plM_le M g s
  unfold fndM
  split <;> omega
theorem mp_ev_lp {d g tl : Nat} {hr wm wd st : Int} {v : Int32} {G : Gs} {Q : Rs → PH → Prop} (hg : g < 6) (eW : G.2.1 = wd) (eS : G.2.2.1 = st) (g4 : 1 ≤ wd ∧ wd ≤ 200) (g5 : 1 ≤ st ∧ st ≤ 200) (htl : tl < 4) (hr0 : 0 ≤ hr ∧ hr < 1000) (hm : 0 ≤ wm ∧ wm < 3000) (m : Nat) : ∀ (h : PH) (M : List Tel) (no c : Nat) (N s : Int) (a7 a8 a9 : Option VV), Sh h → opM h M no c → gsM h g G → tsB N M → 0 ≤ N → h.1 83 27 = iZ wm → M.length + m ≤ 9000 → 103 ≤ hN h → N + m ≤ 1900 → 0 ≤ s → s < 1300 → hr - s < (m : Int) → (∀ h1 n1 c1, opM h1 (evM wd st hr wm tl v g m M s) n1 c1 → fm h h1 c c1 no n1 → Q (.inl none) h1) → Ev (d + 2) 217 (214, [some (.inr (.inr (.inr (11, 0, 83)))), some (.inl (iZ (g))), some (.inl (iZ (hr))), some (.inl (iZ (tl))), some (.inl (iZ (wd))), some (.inl (v)), some (.inl (iZ (s))), a7, a8, a9], [], h) Q := by
  induction m with
  | zero =>
    intro h M no c N s a7 a8 a9 sh op gm hn hN0 hw hM hh hNm hs1 hs2 hlast q
    refine Ev.sts 2 (c' := (217, [some (.inr (.inr (.inr (11, 0, 83)))), some (.inl (iZ (g))), some (.inl (iZ (hr))), some (.inl (iZ (tl))), some (.inl (iZ (wd))), some (.inl (v)), some (.inl (iZ (s))), a7, a8, a9], [.inl (iZ (hr)), .inl (iZ (s))], h)) rfl ?_
    refine Ev.brT (p := (iZ (hr)) < (iZ (s))) (c1 := (325, [some (.inr (.inr (.inr (11, 0, 83)))), some (.inl (iZ (g))), some (.inl (iZ (hr))), some (.inl (iZ (tl))), some (.inl (iZ (wd))), some (.inl (v)), some (.inl (iZ (s))), a7, a8, a9], [], h)) (c2 := (220, [some (.inr (.inr (.inr (11, 0, 83)))), some (.inl (iZ (g))), some (.inl (iZ (hr))), some (.inl (iZ (tl))), some (.inl (iZ (wd))), some (.inl (v)), some (.inl (iZ (s))), a7, a8, a9], [], h)) ((iZ_lt ⟨by omega, by omega⟩ ⟨by omega, by omega⟩).mpr (by omega)) rfl ?_
    exact Ev.ret rfl (q h no c op (fm_refl h c no))
  | succ m ih =>
    intro h M no c N s a7 a8 a9 sh op gm hn hN0 hw hM1 hh hNm hs1 hs2 hlast q
    have hM : M.length ≤ 9000 := by omega
    have hfb := fnd_b M g s
    have gm0 := gm
    obtain ⟨gm1, gm2, gm3, gm4, -⟩ := gm0
    rw [eS] at gm3
    refine Ev.sts 2 (c' := (217, [some (.inr (.inr (.inr (11, 0, 83)))), some (.inl (iZ (g))), some (.inl (iZ (hr))), some (.inl (iZ (tl))), some (.inl (iZ (wd))), some (.inl (v)), some (.inl (iZ (s))), a7, a8, a9], [.inl (iZ (hr)), .inl (iZ (s))], h)) rfl ?_
    refine Ev.brc (p := (iZ (hr)) < (iZ (s))) (q := ((hr : Int)) < s) (c1 := (325, [some (.inr (.inr (.inr (11, 0, 83)))), some (.inl (iZ (g))), some (.inl (iZ (hr))), some (.inl (iZ (tl))), some (.inl (iZ (wd))), some (.inl (v)), some (.inl (iZ (s))), a7, a8, a9], [], h)) (c2 := (220, [some (.inr (.inr (.inr (11, 0, 83)))), some (.inl (iZ (g))), some (.inl (iZ (hr))), some (.inl (iZ (tl))), some (.inl (iZ (wd))), some (.inl (v)), some (.inl (iZ (s))), a7, a8, a9], [], h)) rfl (iZ_lt ⟨by omega, by omega⟩ ⟨by omega, by omega⟩) (fun c0 => ?_) (fun c0 => ?_)
    · have e : evM wd st hr wm tl v g (m + 1) M s = M := if_pos (by omega)
      rw [e] at q
      exact Ev.ret rfl (q h no c op (fm_refl h c no))
    · refine Ev.sts 2 (c' := (224, [some (.inr (.inr (.inr (11, 0, 83)))), some (.inl (iZ (g))), some (.inl (iZ (hr))), some (.inl (iZ (tl))), some (.inl (iZ (wd))), some (.inl (v)), some (.inl (iZ (s))), a7, a8, a9], [.inl (iZ (wd)), .inl (iZ (s))], h)) rfl ?_
      refine Ev.gv (w := (iZ (s + wd))) rfl (iZ_add _ _) ?_
      refine Ev.sts 1 (c' := (226, [some (.inr (.inr (.inr (11, 0, 83)))), some (.inl (iZ (g))), some (.inl (iZ (hr))), some (.inl (iZ (tl))), some (.inl (iZ (wd))), some (.inl (v)), some (.inl (iZ (s))), a7, a8, a9], [.inr (.inr (.inr (11, 0, 83))), .inl (iZ (s + wd))], h)) rfl ?_
      refine Ev.gv (w := (iZ (wm))) rfl hw ?_
      refine Ev.brc (p := (iZ (wm)) < (iZ (s + wd))) (q := ((wm : Int)) < (s + wd)) (c1 := (235, [some (.inr (.inr (.inr (11, 0, 83)))), some (.inl (iZ (g))), some (.inl (iZ (hr))), some (.inl (iZ (tl))), some (.inl (iZ (wd))), some (.inl (v)), some (.inl (iZ (s))), a7, a8, a9], [], h)) (c2 := (232, [some (.inr (.inr (.inr (11, 0, 83)))), some (.inl (iZ (g))), some (.inl (iZ (hr))), some (.inl (iZ (tl))), some (.inl (iZ (wd))), some (.inl (v)), some (.inl (iZ (s))), a7, a8, a9], [], h)) rfl (iZ_lt ⟨by omega, by omega⟩ ⟨by omega, by omega⟩) (fun c1 => ?_) (fun c1 => ?_)
      · refine Ev.sts 3 (c' := (239, [some (.inr (.inr (.inr (11, 0, 83)))), some (.inl (iZ (g))), some (.inl (iZ (hr))), some (.inl (iZ (tl))), some (.inl (iZ (wd))), some (.inl (v)), some (.inl (iZ (s))), a7, a8, a9], [.inl (iZ (s)), .inl (iZ (g)), .inr (.inr (.inr (11, 0, 83)))], h)) rfl ?_
        refine Ev.callv (a := [.inr (.inr (.inr (11, 0, 83))), .inl (iZ (g)), .inl (iZ (s))]) rfl (mp_find op hn ⟨by omega, by omega⟩ hg) ?_
        refine Ev.sts 2 (c' := (246, [some (.inr (.inr (.inr (11, 0, 83)))), some (.inl (iZ (g))), some (.inl (iZ (hr))), some (.inl (iZ (tl))), some (.inl (iZ (wd))), some (.inl (v)), some (.inl (iZ (s))), some (.inl (iZ (fndM M g s))), a8, a9], [.inl (iZ (fndM M g s))], h)) rfl ?_
        refine Ev.brc (p := (iZ (0)) ≤ (iZ (fndM M g s))) (q := ((0 : Int)) ≤ (fndM M g s)) (c1 := (272, [some (.inr (.inr (.inr (11, 0, 83)))), some (.inl (iZ (g))), some (.inl (iZ (hr))), some (.inl (iZ (tl))), some (.inl (iZ (wd))), some (.inl (v)), some (.inl (iZ (s))), some (.inl (iZ (fndM M g s))), a8, a9], [], h)) (c2 := (249, [some (.inr (.inr (.inr (11, 0, 83)))), some (.inl (iZ (g))), some (.inl (iZ (hr))), some (.inl (iZ (tl))), some (.inl (iZ (wd))), some (.inl (v)), some (.inl (iZ (s))), some (.inl (iZ (fndM M g s))), a8, a9], [], h)) rfl (iZ_le ⟨by omega, by omega⟩ ⟨by omega, by omega⟩) (fun c2 => ?_) (fun c2 => ?_)
        · have hyf : plM M g s < M.length ∧ (M.getD (plM M g s) t0).1 = g ∧ (M.getD (plM M g s) t0).2.1 = s := Classical.byContradiction fun y => by
            have e : fndM M g s = -(plM M g s : Int) - 1 := if_neg y
            have hp := plM_le M g s
            omega
          have hfe : fndM M g s = (plM M g s : Int) := if_pos hyf
          obtain ⟨b0, b1, b2, b3, b4, b5, b6⟩ := hn _ hyf.1
          have o1 := op.2.1
          have o2 := op.2.2.2.1
          rw [hfe]
          refine Ev.sts 1 (c' := (273, [some (.inr (.inr (.inr (11, 0, 83)))), some (.inl (iZ (g))), some (.inl (iZ (hr))), some (.inl (iZ (tl))), some (.inl (iZ (wd))), some (.inl (v)), some (.inl (iZ (s))), some (.inl (iZ (plM M g s))), a8, a9], [.inr (.inr (.inr (11, 0, 83)))], h)) rfl ?_
          refine Ev.gfr (r := (20, no, c)) rfl op.2.2.2.2.1 ?_
          refine Ev.sts 2 (c' := (279, [some (.inr (.inr (.inr (11, 0, 83)))), some (.inl (iZ (g))), some (.inl (iZ (hr))), some (.inl (iZ (tl))), some (.inl (iZ (wd))), some (.inl (v)), some (.inl (iZ (s))), some (.inl (iZ (plM M g s))), a8, a9], [.inl (iZ (plM M g s)), .inl (iZ (5)), .inr (.inr (.inr (20, no, c)))], h)) rfl ?_
          refine Ev.gv (w := (iZ (5 * (plM M g s)))) rfl (iZ_mul _ _) ?_
          refine Ev.sts 1 (c' := (281, [some (.inr (.inr (.inr (11, 0, 83)))), some (.inl (iZ (g))), some (.inl (iZ (hr))), some (.inl (iZ (tl))), some (.inl (iZ (wd))), some (.inl (v)), some (.inl (iZ (s))), some (.inl (iZ (plM M g s))), a8, a9], [.inl (iZ (3)), .inl (iZ (5 * (plM M g s))), .inr (.inr (.inr (20, no, c)))], h)) rfl ?_
          refine Ev.gv (w := (iZ ((5 * (plM M g s)) + 3))) rfl (iZ_add _ _) ?_
          refine Ev.sts 1 (c' := (283, [some (.inr (.inr (.inr (11, 0, 83)))), some (.inl (iZ (g))), some (.inl (iZ (hr))), some (.inl (iZ (tl))), some (.inl (iZ (wd))), some (.inl (v)), some (.inl (iZ (s))), some (.inl (iZ (plM M g s))), a8, a9], [.inl (iZ ((5 * (plM M g s)) + 3)), .inr (.inr (.inr (20, no, c))), .inl (iZ ((5 * (plM M g s)) + 3)), .inr (.inr (.inr (20, no, c)))], h)) rfl ?_
          refine Ev.ldv (j := (iZ ((5 * (plM M g s)) + 3))) (n := no) (w := .inl (iZ ((M.getD (plM M g s) t0).2.2.2.1))) (iZ_in (by omega) (by omega) (by omega)) rfl (by rw [iZ_ix (n := (5 * (plM M g s)) + 3) (by omega) (by omega)]; exact congrArg vI (op.2.2.2.2.2.2 _ hyf.1).2.2.2.1) ?_
          refine Ev.sts 1 (c' := (285, [some (.inr (.inr (.inr (11, 0, 83)))), some (.inl (iZ (g))), some (.inl (iZ (hr))), some (.inl (iZ (tl))), some (.inl (iZ (wd))), some (.inl (v)), some (.inl (iZ (s))), some (.inl (iZ (plM M g s))), a8, a9], [.inl (iZ (1)), .inl (iZ ((M.getD (plM M g s) t0).2.2.2.1)), .inl (iZ ((5 * (plM M g s)) + 3)), .inr (.inr (.inr (20, no, c)))], h)) rfl ?_
          refine Ev.gv (w := (iZ (((M.getD (plM M g s) t0).2.2.2.1) + 1))) rfl (iZ_add _ _) ?_
          refine Ev.sto (j := (iZ ((5 * (plM M g s)) + 3))) (n := no) (h2 := (setI h c ((5 * (plM M g s)) + 3) ((iZ (((M.getD (plM M g s) t0).2.2.2.1) + 1))))) (iZ_in (by omega) (by omega) (by omega)) rfl (by rw [iZ_ix (n := (5 * (plM M g s)) + 3) (by omega) (by omega)]) ?_
          refine Ev.sts 1 (c' := (288, [some (.inr (.inr (.inr (11, 0, 83)))), some (.inl (iZ (g))), some (.inl (iZ (hr))), some (.inl (iZ (tl))), some (.inl (iZ (wd))), some (.inl (v)), some (.inl (iZ (s))), some (.inl (iZ (plM M g s))), a8, a9], [.inr (.inr (.inr (11, 0, 83)))], (setI h c ((5 * (plM M g s)) + 3) ((iZ (((M.getD (plM M g s) t0).2.2.2.1) + 1)))))) rfl ?_
          refine Ev.gfr (r := (20, no, c)) rfl op.2.2.2.2.1 ?_
          refine Ev.sts 2 (c' := (294, [some (.inr (.inr (.inr (11, 0, 83)))), some (.inl (iZ (g))), some (.inl (iZ (hr))), some (.inl (iZ (tl))), some (.inl (iZ (wd))), some (.inl (v)), some (.inl (iZ (s))), some (.inl (iZ (plM M g s))), a8, a9], [.inl (iZ (plM M g s)), .inl (iZ (5)), .inr (.inr (.inr (20, no, c)))], (setI h c ((5 * (plM M g s)) + 3) ((iZ (((M.getD (plM M g s) t0).2.2.2.1) + 1)))))) rfl ?_
          refine Ev.gv (w := (iZ (5 * (plM M g s)))) rfl (iZ_mul _ _) ?_
          refine Ev.sts 1 (c' := (296, [some (.inr (.inr (.inr (11, 0, 83)))), some (.inl (iZ (g))), some (.inl (iZ (hr))), some (.inl (iZ (tl))), some (.inl (iZ (wd))), some (.inl (v)), some (.inl (iZ (s))), some (.inl (iZ (plM M g s))), a8, a9], [.inl (iZ (4)), .inl (iZ (5 * (plM M g s))), .inr (.inr (.inr (20, no, c)))], (setI h c ((5 * (plM M g s)) + 3) ((iZ (((M.getD (plM M g s) t0).2.2.2.1) + 1)))))) rfl ?_
          refine Ev.gv (w := (iZ ((5 * (plM M g s)) + 4))) rfl (iZ_add _ _) ?_
          refine Ev.sts 5 (c' := (304, [some (.inr (.inr (.inr (11, 0, 83)))), some (.inl (iZ (g))), some (.inl (iZ (hr))), some (.inl (iZ (tl))), some (.inl (iZ (wd))), some (.inl (v)), some (.inl (iZ (s))), some (.inl (iZ (plM M g s))), a8, a9], [.inl (iZ (4)), .inl (iZ (plM M g s)), .inr (.inr (.inr (11, 0, 83))), .inl (v), .inl (iZ (tl)), .inl (iZ ((5 * (plM M g s)) + 4)), .inr (.inr (.inr (20, no, c)))], (setI h c ((5 * (plM M g s)) + 3) ((iZ (((M.getD (plM M g s) t0).2.2.2.1) + 1)))))) rfl ?_
          refine Ev.callv (a := [.inr (.inr (.inr (11, 0, 83))), .inl (iZ (plM M g s)), .inl (iZ (4))]) rfl (mp_w4x op hyf.1) ?_
          refine Ev.callv (a := [.inl (iZ (tl)), .inl (v), .inl (((M.getD (plM M g s) t0).2.2.2.2))]) rfl (mp_together (tl := tl) (by omega)) ?_
          refine Ev.sto (j := (iZ ((5 * (plM M g s)) + 4))) (n := no) (h2 := (setI (setI h c ((5 * (plM M g s)) + 3) ((iZ (((M.getD (plM M g s) t0).2.2.2.1) + 1)))) c ((5 * (plM M g s)) + 4) ((jn tl v ((M.getD (plM M g s) t0).2.2.2.2))))) (iZ_in (by omega) (by omega) (by omega)) rfl (by rw [iZ_ix (n := (5 * (plM M g s)) + 4) (by omega) (by omega)]) ?_
          refine Ev.sts 4 (c' := (316, [some (.inr (.inr (.inr (11, 0, 83)))), some (.inl (iZ (g))), some (.inl (iZ (hr))), some (.inl (iZ (tl))), some (.inl (iZ (wd))), some (.inl (v)), some (.inl (iZ (s))), some (.inl (iZ (plM M g s))), a8, a9], [.inl (iZ (2)), .inl (iZ (g)), .inr (.inr (.inr (11, 0, 83))), .inl (iZ (s))], (setI (setI h c ((5 * (plM M g s)) + 3) ((iZ (((M.getD (plM M g s) t0).2.2.2.1) + 1)))) c ((5 * (plM M g s)) + 4) ((jn tl v ((M.getD (plM M g s) t0).2.2.2.2)))))) rfl ?_
          refine Ev.callv (a := [.inr (.inr (.inr (11, 0, 83))), .inl (iZ (g)), .inl (iZ (2))]) rfl (mp_of2 (g := g) (y := st) sh (by omega) rfl ((congrFun ((setI_oth (by have := op.2.2.2.2.2.1; unfold aO at this; omega)).trans (setI_oth (by have := op.2.2.2.2.2.1; unfold aO at this; omega))) _).trans gm3)) ?_
          refine Ev.gv (w := (iZ (s + st))) rfl (iZ_add _ _) ?_
          refine Ev.sts 2 (c' := (214, [some (.inr (.inr (.inr (11, 0, 83)))), some (.inl (iZ (g))), some (.inl (iZ (hr))), some (.inl (iZ (tl))), some (.inl (iZ (wd))), some (.inl (v)), some (.inl (iZ (s + st))), some (.inl (iZ (plM M g s))), a8, a9], [], (setI (setI h c ((5 * (plM M g s)) + 3) ((iZ (((M.getD (plM M g s) t0).2.2.2.1) + 1)))) c ((5 * (plM M g s)) + 4) ((jn tl v ((M.getD (plM M g s) t0).2.2.2.2)))))) rfl ?_
          have ec : cinM wd tl v g M s = M.set (plM M g s) ((M.getD (plM M g s) t0).1, (M.getD (plM M g s) t0).2.1, (M.getD (plM M g s) t0).2.2.1, (M.getD (plM M g s) t0).2.2.2.1 + 1, jn tl v (M.getD (plM M g s) t0).2.2.2.2) := if_pos hyf
          have uo := upd_ok (n := (M.getD (plM M g s) t0).2.2.2.1 + 1) (v := jn tl v (M.getD (plM M g s) t0).2.2.2.2) op hyf.1
          rw [← ec] at uo
          have op1 := uo.1
          have f1 := uo.2
          have e : evM wd st hr wm tl v g (m + 1) M s = evM wd st hr wm tl v g m (cinM wd tl v g M s) (s + st) := (if_neg (by omega)).trans (by rw [if_neg (by omega)])
          rw [e] at q
          have hB := cinM_B (wd := wd) (tl := tl) (v := v) (g := g) (s := s) hn hN0 hg (by omega) (by omega) (by omega) (by omega)
          have hL := cinM_len wd tl v g M s
          exact ih _ _ no c (N + 1) (s + st) _ _ _ (Sh_fm sh f1) op1 (gsM_eq (f1.2.2.1 93 (by omega) (by have := op.2.2.2.2.2.1; unfold aO at this; omega) (by omega)) (f1.2.2.1 94 (by omega) (by have := op.2.2.2.2.2.1; unfold aO at this; omega) (by omega)) gm) hB (by omega) ((f1.2.2.2.1 27 (by omega)).trans hw) (by omega) hh (by omega) (by omega) (by omega) (by omega) (fun h2 n2 c2 op2 f2 => q h2 n2 c2 op2 (fm_trans f1 f2))
        · have hnf : ¬ (plM M g s < M.length ∧ (M.getD (plM M g s) t0).1 = g ∧ (M.getD (plM M g s) t0).2.1 = s) := fun y => by
            have e : fndM M g s = (plM M g s : Int) := if_pos y
            omega
          have hfe : fndM M g s = -(plM M g s : Int) - 1 := if_neg hnf
          refine Ev.sts 2 (c' := (252, [some (.inr (.inr (.inr (11, 0, 83)))), some (.inl (iZ (g))), some (.inl (iZ (hr))), some (.inl (iZ (tl))), some (.inl (iZ (wd))), some (.inl (v)), some (.inl (iZ (s))), some (.inl (iZ (fndM M g s))), a8, a9], [.inl (iZ (fndM M g s)), .inr (.inr (.inr (11, 0, 83)))], h)) rfl ?_
          refine Ev.gv (w := (iZ (-(fndM M g s)))) rfl (iZ_neg _) ?_
          refine Ev.sts 1 (c' := (254, [some (.inr (.inr (.inr (11, 0, 83)))), some (.inl (iZ (g))), some (.inl (iZ (hr))), some (.inl (iZ (tl))), some (.inl (iZ (wd))), some (.inl (v)), some (.inl (iZ (s))), some (.inl (iZ (fndM M g s))), a8, a9], [.inl (iZ (1)), .inl (iZ (-(fndM M g s))), .inr (.inr (.inr (11, 0, 83)))], h)) rfl ?_
          refine Ev.gv (w := (iZ ((-(fndM M g s)) - 1))) rfl (iZ_sub _ _) ?_
          refine Ev.sts 4 (c' := (262, [some (.inr (.inr (.inr (11, 0, 83)))), some (.inl (iZ (g))), some (.inl (iZ (hr))), some (.inl (iZ (tl))), some (.inl (iZ (wd))), some (.inl (v)), some (.inl (iZ (s))), some (.inl (iZ (fndM M g s))), a8, a9], [.inl (iZ (wd)), .inl (iZ (s)), .inl (iZ (s)), .inl (iZ (g)), .inl (iZ ((-(fndM M g s)) - 1)), .inr (.inr (.inr (11, 0, 83)))], h)) rfl ?_
          refine Ev.gv (w := (iZ (s + wd))) rfl (iZ_add _ _) ?_
          refine Ev.sts 2 (c' := (266, [some (.inr (.inr (.inr (11, 0, 83)))), some (.inl (iZ (g))), some (.inl (iZ (hr))), some (.inl (iZ (tl))), some (.inl (iZ (wd))), some (.inl (v)), some (.inl (iZ (s))), some (.inl (iZ (fndM M g s))), a8, a9], [.inl (v), .inl (iZ (1)), .inl (iZ (s + wd)), .inl (iZ (s)), .inl (iZ (g)), .inl (iZ ((-(fndM M g s)) - 1)), .inr (.inr (.inr (11, 0, 83)))], h)) rfl ?_
          refine Ev.callw (a := [.inr (.inr (.inr (11, 0, 83))), .inl (iZ ((-(fndM M g s)) - 1)), .inl (iZ (g)), .inl (iZ (s)), .inl (iZ (s + wd)), .inl (iZ (1)), .inl (v)]) rfl (mp_insert (w := plM M g s) op hh hM (by omega) (plM_le M g s) (fun h1 n1 c1 op1 f1 => ?_))
          refine Ev.sts 5 (c' := (316, [some (.inr (.inr (.inr (11, 0, 83)))), some (.inl (iZ (g))), some (.inl (iZ (hr))), some (.inl (iZ (tl))), some (.inl (iZ (wd))), some (.inl (v)), some (.inl (iZ (s))), some (.inl (iZ (fndM M g s))), a8, a9], [.inl (iZ (2)), .inl (iZ (g)), .inr (.inr (.inr (11, 0, 83))), .inl (iZ (s))], h1)) rfl ?_
          refine Ev.callv (a := [.inr (.inr (.inr (11, 0, 83))), .inl (iZ (g)), .inl (iZ (2))]) rfl (mp_of2 (g := g) (y := st) (Sh_fm sh f1) (by omega) rfl ((congrFun (f1.2.2.1 93 (by omega) (by have := op.2.2.2.2.2.1; unfold aO at this; omega) (by omega)) _).trans gm3)) ?_
          refine Ev.gv (w := (iZ (s + st))) rfl (iZ_add _ _) ?_
          refine Ev.sts 2 (c' := (214, [some (.inr (.inr (.inr (11, 0, 83)))), some (.inl (iZ (g))), some (.inl (iZ (hr))), some (.inl (iZ (tl))), some (.inl (iZ (wd))), some (.inl (v)), some (.inl (iZ (s + st))), some (.inl (iZ (fndM M g s))), a8, a9], [], h1)) rfl ?_
          have ec : cinM wd tl v g M s = M.take (plM M g s) ++ (g, s, s + wd, 1, v) :: M.drop (plM M g s) := if_neg (fun z => hnf z)
          rw [← ec] at op1
          have e : evM wd st hr wm tl v g (m + 1) M s = evM wd st hr wm tl v g m (cinM wd tl v g M s) (s + st) := (if_neg (by omega)).trans (by rw [if_neg (by omega)])
          rw [e] at q
          have hB := cinM_B (wd := wd) (tl := tl) (v := v) (g := g) (s := s) hn hN0 hg (by omega) (by omega) (by omega) (by omega)
          have hL := cinM_len wd tl v g M s
          have f83 := f1.2.2.2.1 27 (by omega)
          have fN := f1.2.2.2.2.1
          exact ih h1 _ n1 c1 (N + 1) (s + st) _ _ _ (Sh_fm sh f1) op1 (gsM_eq (f1.2.2.1 93 (by omega) (by have := op.2.2.2.2.2.1; unfold aO at this; omega) (by omega)) (f1.2.2.1 94 (by omega) (by have := op.2.2.2.2.2.1; unfold aO at this; omega) (by omega)) gm) hB (by omega) (f83.trans hw) (by omega) (by omega) (by omega) (by omega) (by omega) (by omega) (fun h2 n2 c2 op2 f2 => q h2 n2 c2 op2 (fm_trans f1 f2))
      · refine Ev.sts 5 (c' := (316, [some (.inr (.inr (.inr (11, 0, 83)))), some (.inl (iZ (g))), some (.inl (iZ (hr))), some (.inl (iZ (tl))), some (.inl (iZ (wd))), some (.inl (v)), some (.inl (iZ (s))), a7, a8, a9], [.inl (iZ (2)), .inl (iZ (g)), .inr (.inr (.inr (11, 0, 83))), .inl (iZ (s))], h)) rfl ?_
        refine Ev.callv (a := [.inr (.inr (.inr (11, 0, 83))), .inl (iZ (g)), .inl (iZ (2))]) rfl (mp_of2 (g := g) (y := st) sh (by omega) rfl gm3) ?_
        refine Ev.gv (w := (iZ (s + st))) rfl (iZ_add _ _) ?_
        refine Ev.sts 2 (c' := (214, [some (.inr (.inr (.inr (11, 0, 83)))), some (.inl (iZ (g))), some (.inl (iZ (hr))), some (.inl (iZ (tl))), some (.inl (iZ (wd))), some (.inl (v)), some (.inl (iZ (s + st))), a7, a8, a9], [], h)) rfl ?_
        have e : evM wd st hr wm tl v g (m + 1) M s = evM wd st hr wm tl v g m M (s + st) := (if_neg (by omega)).trans (by rw [if_pos (by omega)])
        rw [e] at q
        exact ih h M no c (N + 1) (s + st) _ _ _ sh op gm (fun j hj => ⟨(hn j hj).1, (hn j hj).2.1, (hn j hj).2.2.1, (hn j hj).2.2.2.1, (hn j hj).2.2.2.2.1, (hn j hj).2.2.2.2.2.1, by have := (hn j hj).2.2.2.2.2.2; omega⟩) (by omega) hw (by omega) hh (by omega) (by omega) (by omega) (by omega) q

