/-! The one state; the class shows it; the class's book.  -/
abbrev Gs : Type := Nat × Int × Int × Nat × List Cmd
abbrev Bk : Type := List Int × List (List Cmd) × List Gs
def g0 : Gs := (0, 1, 1, 0, [])
abbrev Sta : Type := List Int × Int × Bk × List (Int × Int32) × Nat × Int × Int × (Nat → List Win) × (Nat → Nat) × List Tel
def tpS (S : Sta) : List Int := S.1
def eaS (S : Sta) : Int := S.2.1
def bkS (S : Sta) : Bk := S.2.2.1
def csS (S : Sta) : List (Int × Int32) := S.2.2.2.1
def ntS (S : Sta) : Nat := S.2.2.2.2.1
def grS (S : Sta) : Int := S.2.2.2.2.2.1
def wmS (S : Sta) : Int := S.2.2.2.2.2.2.1
def wdS (S : Sta) : Nat → List Win := S.2.2.2.2.2.2.2.1
def ltS (S : Sta) : Nat → Nat := S.2.2.2.2.2.2.2.2.1
def tlS (S : Sta) : List Tel := S.2.2.2.2.2.2.2.2.2
def cd0 : Int × Int32 := (0, 0)
def moC (h : PH) (b : Nat) (M : List Int) : Prop := (h.1 b 5 = iZ 0 ∧ M = [5]) ∨ (h.1 b 5 = iZ M.length ∧ ∀ j, j < M.length → h.1 (b + 1) j = iZ (M.getD j 0))
def tsC (h : PH) (b f : Nat) (l : List Cmd) : Prop := ∃ k, k + l.length ≤ 400 ∧ h.1 (b + 2) f = iZ k ∧ h.1 (b + 3) f = iZ ((k + l.length : Nat) : Int) ∧ pgC h b k l
/-- a goose of the class's book -/
def gsC (h : PH) (b g : Nat) (G : Gs) : Prop := h.1 (b + 9 + g) 0 = iZ G.1 ∧ h.1 (b + 9 + g) 1 = iZ (if G.2.2.1 = 0 then 1 else 0) ∧ h.1 (b + 9 + g) 2 = iZ G.2.1 ∧ h.1 (b + 9 + g) 3 = iZ (if G.2.2.1 = 0 then 1 else G.2.2.1) ∧ h.2.2.1 (b + 9 + g) 4 = (40, 0, 21 + G.2.2.2.1) ∧ ∃ k, k + G.2.2.2.2.length ≤ 400 ∧ h.1 (b + 9 + g) 5 = iZ k ∧ h.1 (b + 9 + g) 6 = iZ ((k + G.2.2.2.2.length : Nat) : Int) ∧ pgC h b k G.2.2.2.2
/-- the class's book at b -/
def bkC (h : PH) (b : Nat) (B : Bk) : Prop := moC h b B.1 ∧ h.1 b 6 = iZ B.2.1.length ∧ h.1 b 7 = iZ B.2.2.length ∧ (∀ f, f < B.2.1.length → tsC h b f (B.2.1.getD f [])) ∧ (∀ g, g < B.2.2.length → gsC h b g (B.2.2.getD g g0))
/-- a book's numbers -/
def bkN (B : Bk) : Prop := 1 ≤ B.1.length ∧ B.1.length ≤ 8 ∧ (∀ j, j < B.1.length → 0 ≤ B.1.getD j 0 ∧ B.1.getD j 0 ≤ 99) ∧ B.2.1.length ≤ 8 ∧ B.2.2.length ≤ 6 ∧ ∀ g, g < B.2.2.length → (B.2.2.getD g g0).1 < 8 ∧ 1 ≤ (B.2.2.getD g g0).2.1 ∧ (B.2.2.getD g g0).2.1 ≤ 200 ∧ 0 ≤ (B.2.2.getD g g0).2.2.1 ∧ (B.2.2.getD g g0).2.2.1 ≤ (B.2.2.getD g g0).2.1 ∧ (B.2.2.getD g g0).2.2.2.1 < 4
/-- the state's numbers -/
def WN (S : Sta) : Prop := bkN (bkS S) ∧ (csS S).length ≤ 120 ∧ (∀ j, j < (csS S).length → 0 ≤ ((csS S).getD j cd0).1 ∧ ((csS S).getD j cd0).1 ≤ 999 ∧ 0 ≤ ((csS S).getD j cd0).2.toInt ∧ ((csS S).getD j cd0).2.toInt < 256) ∧ ntS S ≤ 20000 ∧ -1 ≤ grS S ∧ grS S ≤ 999 ∧ 0 ≤ wmS S ∧ wmS S ≤ 2000 ∧ (∀ g, wsB 1000 (wdS S g) ∧ (wdS S g).length ≤ 128) ∧ (∀ g, (bkS S).2.2.length ≤ g → wdS S g = []) ∧ (tlS S).length ≤ 5040 ∧ (∀ j, j < (tlS S).length → wB 1000 ((tlS S).getD j t0).2) ∧ (tpS S).length ≤ 1600
/-- the class's object shows S -/
def CI (h : PH) (S : Sta) (b n : Nat) (u : Q5) : Prop := Sh h ∧ (b = 13 ∨ b = 68) ∧ h.2.2.1 1 7 = (2, 0, b) ∧ h.2.2.1 2 4 = (2, 0, 81 - b) ∧ (h.1 4 1 = iZ (tpS S).length ∧ ∀ j, j < (tpS S).length → h.1 5 j = iZ ((tpS S).getD j 0)) ∧ h.1 2 7 = iZ (eaS S) ∧ bkC h b (bkS S) ∧ (h.1 1 8 = iZ (csS S).length ∧ ∀ j, j < (csS S).length → h.1 29 j = iZ ((csS S).getD j cd0).1 ∧ h.1 30 j = ((csS S).getD j cd0).2) ∧ h.1 1 9 = iZ (ntS S) ∧ h.1 1 10 = iZ (grS S) ∧ h.1 1 11 = iZ (wmS S) ∧ (∀ g, g < 6 → winC h g (wdS S g) ∧ h.1 (32 + 5 * g) 5 = iZ (ltS S g)) ∧ tlC h (tlS S) n u ∧ 83 ≤ hN h
theorem ci_sh {h : PH} {S : Sta} {b n : Nat} {u : Q5} (I : CI h S b n u) : Sh h := I.1
theorem ci_b {h : PH} {S : Sta} {b n : Nat} {u : Q5} (I : CI h S b n u) : b = 13 ∨ b = 68 := I.2.1
theorem ci_17 {h : PH} {S : Sta} {b n : Nat} {u : Q5} (I : CI h S b n u) : h.2.2.1 1 7 = (2, 0, b) := I.2.2.1
theorem ci_24 {h : PH} {S : Sta} {b n : Nat} {u : Q5} (I : CI h S b n u) : h.2.2.1 2 4 = (2, 0, 81 - b) := I.2.2.2.1
theorem ci_tp {h : PH} {S : Sta} {b n : Nat} {u : Q5} (I : CI h S b n u) : h.1 4 1 = iZ (tpS S).length ∧ ∀ j, j < (tpS S).length → h.1 5 j = iZ ((tpS S).getD j 0) := I.2.2.2.2.1
theorem ci_ea {h : PH} {S : Sta} {b n : Nat} {u : Q5} (I : CI h S b n u) : h.1 2 7 = iZ (eaS S) := I.2.2.2.2.2.1
theorem ci_bk {h : PH} {S : Sta} {b n : Nat} {u : Q5} (I : CI h S b n u) : bkC h b (bkS S) := I.2.2.2.2.2.2.1
theorem ci_cs {h : PH} {S : Sta} {b n : Nat} {u : Q5} (I : CI h S b n u) : h.1 1 8 = iZ (csS S).length ∧ ∀ j, j < (csS S).length → h.1 29 j = iZ ((csS S).getD j cd0).1 ∧ h.1 30 j = ((csS S).getD j cd0).2 := I.2.2.2.2.2.2.2.1
theorem ci_nt {h : PH} {S : Sta} {b n : Nat} {u : Q5} (I : CI h S b n u) : h.1 1 9 = iZ (ntS S) := I.2.2.2.2.2.2.2.2.1
theorem ci_gr {h : PH} {S : Sta} {b n : Nat} {u : Q5} (I : CI h S b n u) : h.1 1 10 = iZ (grS S) := I.2.2.2.2.2.2.2.2.2.1
theorem ci_wm {h : PH} {S : Sta} {b n : Nat} {u : Q5} (I : CI h S b n u) : h.1 1 11 = iZ (wmS S) := I.2.2.2.2.2.2.2.2.2.2.1
theorem ci_ws {h : PH} {S : Sta} {b n : Nat} {u : Q5} (I : CI h S b n u) : ∀ g, g < 6 → winC h g (wdS S g) ∧ h.1 (32 + 5 * g) 5 = iZ (ltS S g) := I.2.2.2.2.2.2.2.2.2.2.2.1
theorem ci_tl {h : PH} {S : Sta} {b n : Nat} {u : Q5} (I : CI h S b n u) : tlC h (tlS S) n u := I.2.2.2.2.2.2.2.2.2.2.2.2.1
theorem ci_hN {h : PH} {S : Sta} {b n : Nat} {u : Q5} (I : CI h S b n u) : 83 ≤ hN h := I.2.2.2.2.2.2.2.2.2.2.2.2.2
theorem cx_nights {d b n : Nat} {u : Q5} {S : Sta} {h : PH} (I : CI h S b n u) : Rv d 65 [.inr (.inr (.inr (1, 0, 1)))] h (some (.inl (iZ (ntS S)))) h := Rv.of fun Q q => by
  have sh := ci_sh I
  refine Ev.sts 1 (c' := (1, [some (.inr (.inr (.inr (1, 0, 1))))], [.inr (.inr (.inr (1, 0, 1)))], h)) rfl ?_
  refine Ev.gv (w := (iZ (ntS S))) rfl (ci_nt I) ?_
  exact Ev.ret rfl (q)

theorem cx_commas {d b n : Nat} {u : Q5} {S : Sta} {h : PH} (I : CI h S b n u) : Rv d 33 [.inr (.inr (.inr (1, 0, 1)))] h (some (.inl (iZ (csS S).length))) h := Rv.of fun Q q => by
  have sh := ci_sh I
  refine Ev.sts 1 (c' := (1, [some (.inr (.inr (.inr (1, 0, 1))))], [.inr (.inr (.inr (1, 0, 1)))], h)) rfl ?_
  refine Ev.gv (w := (iZ ((csS S).length))) rfl (ci_cs I).1 ?_
  exact Ev.ret rfl (q)

theorem cx_greatestHour {d b n : Nat} {u : Q5} {S : Sta} {h : PH} (I : CI h S b n u) : Rv d 37 [.inr (.inr (.inr (1, 0, 1)))] h (some (.inl (iZ (grS S)))) h := Rv.of fun Q q => by
  have sh := ci_sh I
  refine Ev.sts 1 (c' := (1, [some (.inr (.inr (.inr (1, 0, 1))))], [.inr (.inr (.inr (1, 0, 1)))], h)) rfl ?_
  refine Ev.gv (w := (iZ (grS S))) rfl (ci_gr I) ?_
  exact Ev.ret rfl (q)

theorem cx_watermark {d b n : Nat} {u : Q5} {S : Sta} {h : PH} (I : CI h S b n u) : Rv d 38 [.inr (.inr (.inr (1, 0, 1)))] h (some (.inl (iZ (wmS S)))) h := Rv.of fun Q q => by
  have sh := ci_sh I
  refine Ev.sts 1 (c' := (1, [some (.inr (.inr (.inr (1, 0, 1))))], [.inr (.inr (.inr (1, 0, 1)))], h)) rfl ?_
  refine Ev.gv (w := (iZ (wmS S))) rfl (ci_wm I) ?_
  exact Ev.ret rfl (q)

theorem cx_flocks {d b n : Nat} {u : Q5} {S : Sta} {h : PH} (I : CI h S b n u) : Rv d 63 [.inr (.inr (.inr (1, 0, 1)))] h (some (.inl (iZ (bkS S).2.1.length))) h := Rv.of fun Q q => by
  have sh := ci_sh I
  refine Ev.sts 1 (c' := (1, [some (.inr (.inr (.inr (1, 0, 1))))], [.inr (.inr (.inr (1, 0, 1)))], h)) rfl ?_
  refine Ev.gfr (r := (2, 0, b)) rfl (ci_17 I) ?_
  refine Ev.gv (w := (iZ ((bkS S).2.1.length))) rfl (ci_bk I).2.1 ?_
  exact Ev.ret rfl (q)

theorem cx_geese {d b n : Nat} {u : Q5} {S : Sta} {h : PH} (I : CI h S b n u) : Rv d 64 [.inr (.inr (.inr (1, 0, 1)))] h (some (.inl (iZ (bkS S).2.2.length))) h := Rv.of fun Q q => by
  have sh := ci_sh I
  refine Ev.sts 1 (c' := (1, [some (.inr (.inr (.inr (1, 0, 1))))], [.inr (.inr (.inr (1, 0, 1)))], h)) rfl ?_
  refine Ev.gfr (r := (2, 0, b)) rfl (ci_17 I) ?_
  refine Ev.gv (w := (iZ ((bkS S).2.2.length))) rfl (ci_bk I).2.2.1 ?_
  exact Ev.ret rfl (q)

theorem cx_tellings {d b n : Nat} {u : Q5} {S : Sta} {h : PH} (I : CI h S b n u) : Rv d 40 [.inr (.inr (.inr (1, 0, 1)))] h (some (.inl (iZ (tlS S).length))) h := Rv.of fun Q q => by
  have sh := ci_sh I
  refine Ev.sts 1 (c' := (1, [some (.inr (.inr (.inr (1, 0, 1))))], [.inr (.inr (.inr (1, 0, 1)))], h)) rfl ?_
  refine Ev.gfr (r := (8, 0, 62)) rfl (sh_1_6 sh) ?_
  refine Ev.gv (w := (iZ ((tlS S).length))) rfl (ci_tl I).1 ?_
  exact Ev.ret rfl (q)

theorem cx_errorAt {d b n : Nat} {u : Q5} {S : Sta} {h : PH} (I : CI h S b n u) : Rv d 81 [.inr (.inr (.inr (1, 0, 1)))] h (some (.inl (iZ (eaS S)))) h := Rv.of fun Q q => by
  have sh := ci_sh I
  refine Ev.sts 1 (c' := (1, [some (.inr (.inr (.inr (1, 0, 1))))], [.inr (.inr (.inr (1, 0, 1)))], h)) rfl ?_
  refine Ev.gfr (r := (7, 0, 2)) rfl (sh_1_1 sh) ?_
  refine Ev.gv (w := (iZ (eaS S))) rfl (ci_ea I) ?_
  exact Ev.ret rfl (q)

/-- the phase and the allowance behind x nights -/
def phB (B : Bk) (x : Int) : Int := x % B.1.length
def alB (B : Bk) (x : Int) : Int := B.1.getD (x % B.1.length).toNat 0
theorem alB_b {B : Bk} (w : bkN B) (x : Int) : 0 ≤ alB B x ∧ alB B x ≤ 99 := by
  obtain ⟨w1, w2, w3, -⟩ := w
  have h1 := Int.emod_nonneg x (show (B.1.length : Int) ≠ 0 by omega)
  have h2 := Int.emod_lt_of_pos x (show 0 < (B.1.length : Int) by omega)
  exact w3 _ (by omega)
theorem sp_phaseIn {d b : Nat} {x : Int} {M : List Int} {h : PH} (mo : moC h b M) (hM : 1 ≤ M.length ∧ M.length ≤ 8) (hx : 0 ≤ x ∧ x < 100000) : Rv d 83 [.inr (.inr (.inr (2, 0, b))), .inl (iZ (x))] h (some (.inl (iZ (x % M.length)))) h := Rv.of fun Q q => by
  rcases mo with ⟨m1, m2⟩ | ⟨m1, m2⟩
  · subst m2
    refine Ev.sts 1 (c' := (1, [some (.inr (.inr (.inr (2, 0, b)))), some (.inl (iZ (x)))], [.inr (.inr (.inr (2, 0, b)))], h)) rfl ?_
    refine Ev.gv (w := (iZ (0))) rfl m1 ?_
    refine Ev.sts 1 (c' := (5, [some (.inr (.inr (.inr (2, 0, b)))), some (.inl (iZ (x)))], [.inl (iZ (1)), .inl (iZ (0))], h)) rfl ?_
    refine Ev.brF (p := (iZ (1)) ≤ (iZ (0))) (c1 := (12, [some (.inr (.inr (.inr (2, 0, b)))), some (.inl (iZ (x)))], [], h)) (c2 := (8, [some (.inr (.inr (.inr (2, 0, b)))), some (.inl (iZ (x)))], [], h)) (by decide) rfl ?_
    refine Ev.sts 2 (c' := (18, [some (.inr (.inr (.inr (2, 0, b)))), some (.inl (iZ (x)))], [.inl (iZ (0))], h)) rfl ?_
    rw [show x % (([5] : List Int).length : Int) = 0 from Int.emod_one x] at q
    exact Ev.ret rfl q
  · skip
    refine Ev.sts 1 (c' := (1, [some (.inr (.inr (.inr (2, 0, b)))), some (.inl (iZ (x)))], [.inr (.inr (.inr (2, 0, b)))], h)) rfl ?_
    refine Ev.gv (w := (iZ (M.length))) rfl m1 ?_
    refine Ev.sts 1 (c' := (5, [some (.inr (.inr (.inr (2, 0, b)))), some (.inl (iZ (x)))], [.inl (iZ (1)), .inl (iZ (M.length))], h)) rfl ?_
    refine Ev.brT (p := (iZ (1)) ≤ (iZ (M.length))) (c1 := (12, [some (.inr (.inr (.inr (2, 0, b)))), some (.inl (iZ (x)))], [], h)) (c2 := (8, [some (.inr (.inr (.inr (2, 0, b)))), some (.inl (iZ (x)))], [], h)) ((iZ_le ⟨by omega, by omega⟩ ⟨by omega, by omega⟩).mpr (by omega)) rfl ?_
    refine Ev.sts 2 (c' := (14, [some (.inr (.inr (.inr (2, 0, b)))), some (.inl (iZ (x)))], [.inr (.inr (.inr (2, 0, b))), .inl (iZ (x))], h)) rfl ?_
    refine Ev.gv (w := (iZ (M.length))) rfl m1 ?_
    refine Ev.pv (p := (iZ (M.length)) = 0) (v := .inl ((iZ (x)) - (iZ (x)) / (iZ (M.length)) * (iZ (M.length)))) (w := .inl (iZ (x % M.length))) (iZ_n0 (by omega) (by omega)) rfl (congrArg vI (iZ_rem (by omega) (by omega) (by omega) (by omega))) ?_
    exact Ev.ret rfl (q)

theorem sp_allowanceIn {d b : Nat} {x : Int} {M : List Int} {h : PH} (sh : Sh h) (hb : b = 13 ∨ b = 68) (mo : moC h b M) (hM : 1 ≤ M.length ∧ M.length ≤ 8) (hx : 0 ≤ x ∧ x < 100000) : Rv (d + 1) 84 [.inr (.inr (.inr (2, 0, b))), .inl (iZ (x))] h (some (.inl (iZ (M.getD (x % M.length).toNat 0)))) h := Rv.of fun Q q => by
  rcases mo with ⟨m1, m2⟩ | ⟨m1, m2⟩
  · subst m2
    refine Ev.sts 1 (c' := (1, [some (.inr (.inr (.inr (2, 0, b)))), some (.inl (iZ (x)))], [.inr (.inr (.inr (2, 0, b)))], h)) rfl ?_
    refine Ev.gv (w := (iZ (0))) rfl m1 ?_
    refine Ev.sts 1 (c' := (5, [some (.inr (.inr (.inr (2, 0, b)))), some (.inl (iZ (x)))], [.inl (iZ (1)), .inl (iZ (0))], h)) rfl ?_
    refine Ev.brF (p := (iZ (1)) ≤ (iZ (0))) (c1 := (12, [some (.inr (.inr (.inr (2, 0, b)))), some (.inl (iZ (x)))], [], h)) (c2 := (8, [some (.inr (.inr (.inr (2, 0, b)))), some (.inl (iZ (x)))], [], h)) (by decide) rfl ?_
    refine Ev.sts 2 (c' := (24, [some (.inr (.inr (.inr (2, 0, b)))), some (.inl (iZ (x)))], [.inl (iZ (5))], h)) rfl ?_
    have e : ([5] : List Int).getD (x % (([5] : List Int).length : Int)).toNat 0 = 5 := by rw [show x % (([5] : List Int).length : Int) = 0 from Int.emod_one x]; rfl
    rw [e] at q
    exact Ev.ret rfl q
  · have mo : moC h b M := Or.inr ⟨m1, m2⟩
    have e1 := Int.emod_nonneg x (show (M.length : Int) ≠ 0 by omega)
    have e2 := Int.emod_lt_of_pos x (show 0 < (M.length : Int) by omega)
    refine Ev.sts 1 (c' := (1, [some (.inr (.inr (.inr (2, 0, b)))), some (.inl (iZ (x)))], [.inr (.inr (.inr (2, 0, b)))], h)) rfl ?_
    refine Ev.gv (w := (iZ (M.length))) rfl m1 ?_
    refine Ev.sts 1 (c' := (5, [some (.inr (.inr (.inr (2, 0, b)))), some (.inl (iZ (x)))], [.inl (iZ (1)), .inl (iZ (M.length))], h)) rfl ?_
    refine Ev.brT (p := (iZ (1)) ≤ (iZ (M.length))) (c1 := (12, [some (.inr (.inr (.inr (2, 0, b)))), some (.inl (iZ (x)))], [], h)) (c2 := (8, [some (.inr (.inr (.inr (2, 0, b)))), some (.inl (iZ (x)))], [], h)) ((iZ_le ⟨by omega, by omega⟩ ⟨by omega, by omega⟩).mpr (by omega)) rfl ?_
    refine Ev.sts 1 (c' := (13, [some (.inr (.inr (.inr (2, 0, b)))), some (.inl (iZ (x)))], [.inr (.inr (.inr (2, 0, b)))], h)) rfl ?_
    refine Ev.gfr (r := (20, 8, (b + 1))) rfl (sh_b0 sh hb) ?_
    refine Ev.sts 2 (c' := (18, [some (.inr (.inr (.inr (2, 0, b)))), some (.inl (iZ (x)))], [.inl (iZ (x)), .inr (.inr (.inr (2, 0, b))), .inr (.inr (.inr (20, 8, (b + 1))))], h)) rfl ?_
    refine Ev.callv (a := [.inr (.inr (.inr (2, 0, b))), .inl (iZ (x))]) rfl (sp_phaseIn mo hM hx) ?_
    refine Ev.callv (a := [.inr (.inr (.inr (20, 8, (b + 1)))), .inl (iZ (x % (M.length)))]) rfl (sp_at (k := (x % M.length).toNat) (by omega) (by omega) (by omega) (m2 _ (by omega))) ?_
    exact Ev.ret rfl (q)

theorem cx_phase {d b n : Nat} {u : Q5} {S : Sta} {h : PH} (I : CI h S b n u) (W : WN S) : Rv (d + 1) 34 [.inr (.inr (.inr (1, 0, 1)))] h (some (.inl (iZ (phB (bkS S) (ntS S))))) h := Rv.of fun Q q => by
  have sh := ci_sh I
  have hb := ci_b I
  have W0 := W
  obtain ⟨⟨w1, w2, w3, w4, w5, w6⟩, w7, w8, w9, w10, w11, w12, w13, w14, w15, w16, w17, w18⟩ := W0
  refine Ev.sts 1 (c' := (1, [some (.inr (.inr (.inr (1, 0, 1))))], [.inr (.inr (.inr (1, 0, 1)))], h)) rfl ?_
  refine Ev.gfr (r := (2, 0, b)) rfl (ci_17 I) ?_
  refine Ev.sts 1 (c' := (5, [some (.inr (.inr (.inr (1, 0, 1))))], [.inr (.inr (.inr (1, 0, 1))), .inr (.inr (.inr (2, 0, b)))], h)) rfl ?_
  refine Ev.gv (w := (iZ (ntS S))) rfl (ci_nt I) ?_
  refine Ev.callv (a := [.inr (.inr (.inr (2, 0, b))), .inl (iZ (ntS S))]) rfl (sp_phaseIn (ci_bk I).1 ⟨w1, w2⟩ ⟨by omega, by omega⟩) ?_
  exact Ev.ret rfl (q)

theorem cx_allowance {d b n : Nat} {u : Q5} {S : Sta} {h : PH} (I : CI h S b n u) (W : WN S) : Rv (d + 2) 35 [.inr (.inr (.inr (1, 0, 1)))] h (some (.inl (iZ (alB (bkS S) (ntS S))))) h := Rv.of fun Q q => by
  have sh := ci_sh I
  have hb := ci_b I
  have W0 := W
  obtain ⟨⟨w1, w2, w3, w4, w5, w6⟩, w7, w8, w9, w10, w11, w12, w13, w14, w15, w16, w17, w18⟩ := W0
  refine Ev.sts 1 (c' := (1, [some (.inr (.inr (.inr (1, 0, 1))))], [.inr (.inr (.inr (1, 0, 1)))], h)) rfl ?_
  refine Ev.gfr (r := (2, 0, b)) rfl (ci_17 I) ?_
  refine Ev.sts 1 (c' := (5, [some (.inr (.inr (.inr (1, 0, 1))))], [.inr (.inr (.inr (1, 0, 1))), .inr (.inr (.inr (2, 0, b)))], h)) rfl ?_
  refine Ev.gv (w := (iZ (ntS S))) rfl (ci_nt I) ?_
  refine Ev.callv (a := [.inr (.inr (.inr (2, 0, b))), .inl (iZ (ntS S))]) rfl (sp_allowanceIn sh hb (ci_bk I).1 ⟨w1, w2⟩ ⟨by omega, by omega⟩) ?_
  exact Ev.ret rfl (q)

/-- which flocks take a comma: bits from place k on -/
def jR : List (List Cmd) → Ctx → Nat → Int32 → Int32 → Prop
  | [], _, _, tk, tk1 => tk1 = tk
  | l :: F, x, k, tk, tk1 => ∃ v, evs l x tk [] [v] ∧ jR F x (k + 1) (tk ||| (v <<< (iZ k &&& 31))) tk1
theorem drop_getD {α : Type} (d : α) (l : List α) (k : Nat) (hk : k < l.length) : l.drop k = l.getD k d :: l.drop (k + 1) := drop_get d l k hk
/-- what judging changes -/
def fj (b : Nat) (h h' : PH) : Prop := h'.2 = h.2 ∧ (∀ a, a ≠ b + 5 → a ≠ b + 8 → a ≠ 28 → h'.1 a = h.1 a) ∧ (∀ k, k ≠ 4 → h'.1 (b + 5) k = h.1 (b + 5) k) ∧ (∀ k, k ≠ 4 → h'.1 28 k = h.1 28 k)
theorem fj_fp {b : Nat} {h h' : PH} (hb : b = 13 ∨ b = 68) (f : fp b h h') : fj b h h' := ⟨f.1, fun a h1 h2 _ => f.2.1 a h1 h2, f.2.2, fun k _ => by rw [f.2.1 28 (by omega) (by omega)]⟩
theorem fj_trans {b : Nat} {h h1 h2 : PH} (a : fj b h h1) (c : fj b h1 h2) : fj b h h2 := ⟨c.1.trans a.1, fun x p1 p2 p3 => (c.2.1 x p1 p2 p3).trans (a.2.1 x p1 p2 p3), fun k hk => (c.2.2.1 k hk).trans (a.2.2.1 k hk), fun k hk => (c.2.2.2 k hk).trans (a.2.2.2 k hk)⟩
theorem fj_tk {b : Nat} {h : PH} {v : Int32} (hb : b = 13 ∨ b = 68) : fj b h (setI h 28 4 v) := ⟨rfl, fun a _ _ h1 => setI_oth h1, fun k hk => setI_ne (by omega), fun k hk => setI_ne (by omega)⟩
theorem pgC_fj {h h' : PH} {b k : Nat} {l : List Cmd} (hb : b = 13 ∨ b = 68) (f : fj b h h') (p : pgC h b k l) : pgC h' b k l := by
  intro j hj
  obtain ⟨p1, p2⟩ := p j hj
  exact ⟨by rw [f.1]; exact p1, by rw [f.2.1 (b + 7) (by omega) (by omega) (by omega)]; exact p2⟩
theorem tsC_fj {h h' : PH} {b f : Nat} {l : List Cmd} (hb : b = 13 ∨ b = 68) (e : fj b h h') (p : tsC h b f l) : tsC h' b f l := by
  obtain ⟨k, p1, p2, p3, p4⟩ := p
  exact ⟨k, p1, by rw [e.2.1 (b + 2) (by omega) (by omega) (by omega)]; exact p2, by rw [e.2.1 (b + 3) (by omega) (by omega) (by omega)]; exact p3, pgC_fj hb e p4⟩
theorem sp_judge_lp {d b : Nat} {x : Ctx} {tk1 : Int32} {F : List (List Cmd)} {Q : Rs → PH → Prop} (hb : b = 13 ∨ b = 68) (hF8 : F.length ≤ 8) (n : Nat) : ∀ (h : PH) (k : Nat) (tk : Int32), Sh h → F.length < k + n → h.1 b 6 = iZ F.length → (∀ f, f < F.length → tsC h b f (F.getD f [])) → proC h x tk → jR (F.drop k) x k tk tk1 → (∀ h1, proC h1 x tk1 → fj b h h1 → Q (.inl none) h1) → k ≤ F.length → Ev (d + 4) 85 (7, [some (.inr (.inr (.inr (2, 0, b)))), some (.inr (.inr (.inr (3, 0, 28)))), some (.inl (iZ (k)))], [], h) Q := by
  induction n with
  | zero => intro h k tk sh hk hF ts px jr q hkl; omega
  | succ n ih =>
    intro h k tk sh hk hF ts px jr q hkl
    refine Ev.sts 2 (c' := (9, [some (.inr (.inr (.inr (2, 0, b)))), some (.inr (.inr (.inr (3, 0, 28)))), some (.inl (iZ (k)))], [.inr (.inr (.inr (2, 0, b))), .inl (iZ (k))], h)) rfl ?_
    refine Ev.gv (w := (iZ (F.length))) rfl hF ?_
    refine Ev.brc (p := (iZ (F.length)) ≤ (iZ (k))) (q := ((F.length : Int)) ≤ k) (c1 := (56, [some (.inr (.inr (.inr (2, 0, b)))), some (.inr (.inr (.inr (3, 0, 28)))), some (.inl (iZ (k)))], [], h)) (c2 := (15, [some (.inr (.inr (.inr (2, 0, b)))), some (.inr (.inr (.inr (3, 0, 28)))), some (.inl (iZ (k)))], [], h)) rfl (iZ_le ⟨by omega, by omega⟩ ⟨by omega, by omega⟩) (fun c0 => ?_) (fun c0 => ?_)
    · rw [List.drop_eq_nil_of_le (show F.length ≤ k by omega)] at jr
      cases jr
      exact Ev.ret rfl (q h px ⟨rfl, fun _ _ _ _ => rfl, fun _ _ => rfl, fun _ _ => rfl⟩)
    · have e0 := drop_getD ([] : List Cmd) F k (by omega)
      rw [e0] at jr
      obtain ⟨v, ev, jr⟩ := jr
      obtain ⟨kk, t1, t2, t3, t4⟩ := ts k (by omega)
      refine Ev.sts 2 (c' := (17, [some (.inr (.inr (.inr (2, 0, b)))), some (.inr (.inr (.inr (3, 0, 28)))), some (.inl (iZ (k)))], [.inr (.inr (.inr (3, 0, 28))), .inr (.inr (.inr (3, 0, 28)))], h)) rfl ?_
      refine Ev.gv (w := tk) rfl px.2.2.2.2 ?_
      refine Ev.sts 1 (c' := (21, [some (.inr (.inr (.inr (2, 0, b)))), some (.inr (.inr (.inr (3, 0, 28)))), some (.inl (iZ (k)))], [.inr (.inr (.inr (2, 0, b))), .inl (tk), .inr (.inr (.inr (3, 0, 28)))], h)) rfl ?_
      refine Ev.gfr (r := (5, 0, (b + 5))) rfl (sh_b4 sh hb) ?_
      refine Ev.sts 1 (c' := (25, [some (.inr (.inr (.inr (2, 0, b)))), some (.inr (.inr (.inr (3, 0, 28)))), some (.inl (iZ (k)))], [.inr (.inr (.inr (2, 0, b))), .inr (.inr (.inr (5, 0, (b + 5)))), .inl (tk), .inr (.inr (.inr (3, 0, 28)))], h)) rfl ?_
      refine Ev.gfr (r := (20, 8, (b + 2))) rfl (sh_b1 sh hb) ?_
      refine Ev.sts 1 (c' := (29, [some (.inr (.inr (.inr (2, 0, b)))), some (.inr (.inr (.inr (3, 0, 28)))), some (.inl (iZ (k)))], [.inl (iZ (k)), .inr (.inr (.inr (20, 8, (b + 2)))), .inr (.inr (.inr (5, 0, (b + 5)))), .inl (tk), .inr (.inr (.inr (3, 0, 28)))], h)) rfl ?_
      refine Ev.callv (a := [.inr (.inr (.inr (20, 8, (b + 2)))), .inl (iZ (k))]) rfl (sp_at (k := k) (by omega) (by omega) (by omega) t2) ?_
      refine Ev.sts 1 (c' := (33, [some (.inr (.inr (.inr (2, 0, b)))), some (.inr (.inr (.inr (3, 0, 28)))), some (.inl (iZ (k)))], [.inr (.inr (.inr (2, 0, b))), .inl (iZ (kk)), .inr (.inr (.inr (5, 0, (b + 5)))), .inl (tk), .inr (.inr (.inr (3, 0, 28)))], h)) rfl ?_
      refine Ev.gfr (r := (20, 8, (b + 3))) rfl (sh_b2 sh hb) ?_
      refine Ev.sts 1 (c' := (37, [some (.inr (.inr (.inr (2, 0, b)))), some (.inr (.inr (.inr (3, 0, 28)))), some (.inl (iZ (k)))], [.inl (iZ (k)), .inr (.inr (.inr (20, 8, (b + 3)))), .inl (iZ (kk)), .inr (.inr (.inr (5, 0, (b + 5)))), .inl (tk), .inr (.inr (.inr (3, 0, 28)))], h)) rfl ?_
      refine Ev.callv (a := [.inr (.inr (.inr (20, 8, (b + 3)))), .inl (iZ (k))]) rfl (sp_at (k := k) (by omega) (by omega) (by omega) t3) ?_
      refine Ev.sts 1 (c' := (41, [some (.inr (.inr (.inr (2, 0, b)))), some (.inr (.inr (.inr (3, 0, 28)))), some (.inl (iZ (k)))], [.inr (.inr (.inr (3, 0, 28))), .inl (iZ (((kk + (F.getD k []).length : Nat) : Int))), .inl (iZ (kk)), .inr (.inr (.inr (5, 0, (b + 5)))), .inl (tk), .inr (.inr (.inr (3, 0, 28)))], h)) rfl ?_
      refine Ev.callw (a := [.inr (.inr (.inr (5, 0, (b + 5)))), .inl (iZ (kk)), .inl (iZ (((kk + (F.getD k []).length : Nat) : Int))), .inr (.inr (.inr (3, 0, 28)))]) rfl (sp_run sh hb rfl t1 t4 px ev (fun h1 f1 => ?_))
      refine Ev.sts 4 (c' := (50, [some (.inr (.inr (.inr (2, 0, b)))), some (.inr (.inr (.inr (3, 0, 28)))), some (.inl (iZ (k)))], [], (setI h1 28 4 ((tk ||| (v <<< ((iZ (k)) &&& 31))))))) rfl ?_
      refine Ev.stc (c1 := (53, [some (.inr (.inr (.inr (2, 0, b)))), some (.inr (.inr (.inr (3, 0, 28)))), some (.inl ((iZ (k)) + (iZ (1))))], [], (setI h1 28 4 ((tk ||| (v <<< ((iZ (k)) &&& 31))))))) (c2 := (53, [some (.inr (.inr (.inr (2, 0, b)))), some (.inr (.inr (.inr (3, 0, 28)))), some (.inl (iZ (k + 1)))], [], (setI h1 28 4 ((tk ||| (v <<< ((iZ (k)) &&& 31))))))) rfl (by rw [iZ_add]) ?_
      refine Ev.sts 1 (c' := (7, [some (.inr (.inr (.inr (2, 0, b)))), some (.inr (.inr (.inr (3, 0, 28)))), some (.inl (iZ (k + 1)))], [], (setI h1 28 4 ((tk ||| (v <<< ((iZ (k)) &&& 31))))))) rfl ?_
      have f2 : fj b h (setI h1 28 4 (tk ||| (v <<< (iZ k &&& 31)))) := fj_trans (fj_fp hb f1) (fj_tk hb)
      refine ih _ (k + 1) (tk ||| (v <<< (iZ k &&& 31))) (Sh_eq sh f2.1) (by omega) ((congrFun (f2.2.1 b (by omega) (by omega) (by omega)) 6).trans hF) (fun f hf => tsC_fj hb f2 (ts f hf)) ?_ jr (fun h2 p2 f3 => q h2 p2 (fj_trans f2 f3)) (by omega)
      exact ⟨(f2.2.2.2 0 (by omega)).trans px.1, (f2.2.2.2 1 (by omega)).trans px.2.1, (f2.2.2.2 2 (by omega)).trans px.2.2.1, (f2.2.2.2 3 (by omega)).trans px.2.2.2.1, setI_self _ _ _ _⟩

theorem sp_judge {d b : Nat} {x : Ctx} {tk tk1 : Int32} {F : List (List Cmd)} {h : PH} {Q : Rs → PH → Prop} (sh : Sh h) (hb : b = 13 ∨ b = 68) (hF8 : F.length ≤ 8) (hF : h.1 b 6 = iZ F.length) (ts : ∀ f, f < F.length → tsC h b f (F.getD f [])) (px : proC h x tk) (jr : jR F x 0 (iZ 0) tk1) (q : ∀ h1, proC h1 x tk1 → fj b h h1 → Q (.inl none) h1) : Rn (d + 4) 85 [.inr (.inr (.inr (2, 0, b))), .inr (.inr (.inr (3, 0, 28)))] h Q := by
  refine Ev.sts 5 (c' := (7, [some (.inr (.inr (.inr (2, 0, b)))), some (.inr (.inr (.inr (3, 0, 28)))), some (.inl (iZ (0)))], [], (setI h 28 4 ((iZ (0)))))) rfl ?_
  refine sp_judge_lp hb hF8 (F.length + 1) _ 0 (iZ 0) (Sh_eq sh rfl) (by omega) ((setI_ne (b := b) (j := 6) (by omega)).trans hF) (fun f hf => tsC_fj hb (fj_tk hb) (ts f hf)) ?_ jr (fun h2 p2 f3 => q h2 p2 (fj_trans (fj_tk hb) f3)) (by omega)
  exact ⟨(setI_ne (by omega)).trans px.1, (setI_ne (by omega)).trans px.2.1, (setI_ne (by omega)).trans px.2.2.1, (setI_ne (by omega)).trans px.2.2.2.1, setI_self _ _ _ _⟩

theorem sp_valueFor {d b ga tl kk : Nat} {x : Ctx} {tk v : Int32} {l : List Cmd} {h : PH} {Q : Rs → PH → Prop} (sh : Sh h) (hb : b = 13 ∨ b = 68) (ht : h.2.2.1 ga 4 = (40, 0, 21 + tl)) (t1 : kk + l.length ≤ 400) (t2 : h.1 ga 5 = iZ kk) (t3 : h.1 ga 6 = iZ ((kk + l.length : Nat) : Int)) (t4 : pgC h b kk l) (px : proC h x tk) (ev : (tl = 0 ∧ v = iZ 1) ∨ (tl ≠ 0 ∧ evs l x tk [] [v])) (q : ∀ h1, fp b h h1 → Q (.inl (some (.inl v))) h1) : Rn (d + 4) 86 [.inr (.inr (.inr (2, 0, b))), .inr (.inr (.inr (4, 0, ga))), .inr (.inr (.inr (3, 0, 28)))] h Q := by
  refine Ev.sts 1 (c' := (1, [some (.inr (.inr (.inr (2, 0, b)))), some (.inr (.inr (.inr (4, 0, ga)))), some (.inr (.inr (.inr (3, 0, 28))))], [.inr (.inr (.inr (4, 0, ga)))], h)) rfl ?_
  refine Ev.gfr (r := (40, 0, 21 + tl)) rfl ht ?_
  refine Ev.sts 1 (c' := (7, [some (.inr (.inr (.inr (2, 0, b)))), some (.inr (.inr (.inr (4, 0, ga)))), some (.inr (.inr (.inr (3, 0, 28))))], [.inr (.inr (.inr (40, 0, 21))), .inr (.inr (.inr (40, 0, 21 + tl)))], h)) rfl ?_
  refine Ev.br (p := ¬ 21 + tl = 21) (c1 := (14, [some (.inr (.inr (.inr (2, 0, b)))), some (.inr (.inr (.inr (4, 0, ga)))), some (.inr (.inr (.inr (3, 0, 28))))], [], h)) (c2 := (10, [some (.inr (.inr (.inr (2, 0, b)))), some (.inr (.inr (.inr (4, 0, ga)))), some (.inr (.inr (.inr (3, 0, 28))))], [], h)) rfl (fun c0 => ?_) (fun c0 => ?_)
  · refine Ev.sts 1 (c' := (15, [some (.inr (.inr (.inr (2, 0, b)))), some (.inr (.inr (.inr (4, 0, ga)))), some (.inr (.inr (.inr (3, 0, 28))))], [.inr (.inr (.inr (2, 0, b)))], h)) rfl ?_
    refine Ev.gfr (r := (5, 0, (b + 5))) rfl (sh_b4 sh hb) ?_
    refine Ev.sts 1 (c' := (19, [some (.inr (.inr (.inr (2, 0, b)))), some (.inr (.inr (.inr (4, 0, ga)))), some (.inr (.inr (.inr (3, 0, 28))))], [.inr (.inr (.inr (4, 0, ga))), .inr (.inr (.inr (5, 0, (b + 5))))], h)) rfl ?_
    refine Ev.gv (w := (iZ (kk))) rfl t2 ?_
    refine Ev.sts 1 (c' := (23, [some (.inr (.inr (.inr (2, 0, b)))), some (.inr (.inr (.inr (4, 0, ga)))), some (.inr (.inr (.inr (3, 0, 28))))], [.inr (.inr (.inr (4, 0, ga))), .inl (iZ (kk)), .inr (.inr (.inr (5, 0, (b + 5))))], h)) rfl ?_
    refine Ev.gv (w := (iZ (((kk + l.length : Nat) : Int)))) rfl t3 ?_
    refine Ev.sts 1 (c' := (27, [some (.inr (.inr (.inr (2, 0, b)))), some (.inr (.inr (.inr (4, 0, ga)))), some (.inr (.inr (.inr (3, 0, 28))))], [.inr (.inr (.inr (3, 0, 28))), .inl (iZ (((kk + l.length : Nat) : Int))), .inl (iZ (kk)), .inr (.inr (.inr (5, 0, (b + 5))))], h)) rfl ?_
    refine Ev.callw (a := [.inr (.inr (.inr (5, 0, (b + 5)))), .inl (iZ (kk)), .inl (iZ (((kk + l.length : Nat) : Int))), .inr (.inr (.inr (3, 0, 28)))]) rfl (sp_run sh hb rfl t1 t4 px (ev.elim (fun e => absurd e.1 (by omega)) (fun e => e.2)) (fun h1 f1 => ?_))
    exact Ev.ret rfl (q h1 f1)
  · refine Ev.sts 2 (c' := (30, [some (.inr (.inr (.inr (2, 0, b)))), some (.inr (.inr (.inr (4, 0, ga)))), some (.inr (.inr (.inr (3, 0, 28))))], [.inl (iZ (1))], h)) rfl ?_
    have e : v = iZ 1 := by
      rcases ev with ⟨-, e1⟩ | e1
      · exact e1
      · exact absurd e1.1 (by omega)
    rw [e] at q
    exact Ev.ret rfl (q h (fp_refl b h))

