/-! The reference: its row of open windows. -/
theorem setR_self (h : PH) (a k : Nat) (v : VR) : (setR h a k v).2.2.1 a k = v := by
  show (if a = a ∧ k = k then v else h.2.2.1 a k) = v
  rw [if_pos ⟨rfl, rfl⟩]
theorem setR_ne {h : PH} {a k b j : Nat} {v : VR} (e : ¬ (b = a ∧ j = k)) : (setR h a k v).2.2.1 b j = h.2.2.1 b j := if_neg e
/-- a row of five -/
def rT (h : PH) (a j : Nat) (t : Tel) : Prop := h.1 a (5 * j + 0) = iZ t.1 ∧ h.1 a (5 * j + 1) = iZ t.2.1 ∧ h.1 a (5 * j + 2) = iZ t.2.2.1 ∧ h.1 a (5 * j + 3) = iZ t.2.2.2.1 ∧ h.1 a (5 * j + 4) = t.2.2.2.2
def aO (x N : Nat) : Prop := (x = 100 ∨ x = 101 ∨ 103 ≤ x) ∧ x < N
/-- the reference's open windows -/
def opM (h : PH) (M : List Tel) (no c : Nat) : Prop := h.1 83 30 = iZ M.length ∧ 5 * M.length ≤ no ∧ 160 ≤ no ∧ no ≤ 100000 ∧ h.2.2.1 83 29 = (20, no, c) ∧ aO c (hN h) ∧ ∀ j, j < M.length → rT h c j (M.getD j t0)
def tB (N : Int) (t : Tel) : Prop := t.1 < 6 ∧ wB N t.2
def tsB (N : Int) (M : List Tel) : Prop := ∀ j, j < M.length → tB N (M.getD j t0)
theorem mp_win0 {d no c w : Nat} {x : Int} {M : List Tel} {y : Tel} {h : PH} (op : opM h M no c) (hx : x = (w : Int)) (hw : w < M.length) (ey : M.getD w t0 = y) : Rv d 218 [.inr (.inr (.inr (11, 0, 83))), .inl (iZ (x)), .inl (iZ (0))] h (some (.inl (iZ y.1))) h := Rv.of fun Q q => by
  subst ey
  have o1 := op.2.1
  have o2 := op.2.2.2.1
  refine Ev.sts 1 (c' := (1, [some (.inr (.inr (.inr (11, 0, 83)))), some (.inl (iZ (x))), some (.inl (iZ (0)))], [.inr (.inr (.inr (11, 0, 83)))], h)) rfl ?_
  refine Ev.gfr (r := (20, no, c)) rfl op.2.2.2.2.1 ?_
  refine Ev.sts 2 (c' := (6, [some (.inr (.inr (.inr (11, 0, 83)))), some (.inl (iZ (x))), some (.inl (iZ (0)))], [.inl (iZ (x)), .inl (iZ (5)), .inr (.inr (.inr (20, no, c)))], h)) rfl ?_
  refine Ev.gv (w := (iZ (5 * x))) rfl (iZ_mul _ _) ?_
  refine Ev.sts 1 (c' := (8, [some (.inr (.inr (.inr (11, 0, 83)))), some (.inl (iZ (x))), some (.inl (iZ (0)))], [.inl (iZ (0)), .inl (iZ (5 * x)), .inr (.inr (.inr (20, no, c)))], h)) rfl ?_
  refine Ev.gv (w := (iZ ((5 * x) + 0))) rfl (iZ_add _ _) ?_
  refine Ev.ldv (j := (iZ ((5 * x) + 0))) (n := no) (w := .inl (iZ ((M.getD w t0).1))) (iZ_in (by omega) (by omega) (by omega)) rfl (by rw [iZ_ix (n := (5 * w) + 0) (by omega) (by omega)]; exact congrArg vI (op.2.2.2.2.2.2 w hw).1) ?_
  exact Ev.ret rfl (q)

theorem mp_win1 {d no c w : Nat} {x : Int} {M : List Tel} {y : Tel} {h : PH} (op : opM h M no c) (hx : x = (w : Int)) (hw : w < M.length) (ey : M.getD w t0 = y) : Rv d 218 [.inr (.inr (.inr (11, 0, 83))), .inl (iZ (x)), .inl (iZ (1))] h (some (.inl (iZ y.2.1))) h := Rv.of fun Q q => by
  subst ey
  have o1 := op.2.1
  have o2 := op.2.2.2.1
  refine Ev.sts 1 (c' := (1, [some (.inr (.inr (.inr (11, 0, 83)))), some (.inl (iZ (x))), some (.inl (iZ (1)))], [.inr (.inr (.inr (11, 0, 83)))], h)) rfl ?_
  refine Ev.gfr (r := (20, no, c)) rfl op.2.2.2.2.1 ?_
  refine Ev.sts 2 (c' := (6, [some (.inr (.inr (.inr (11, 0, 83)))), some (.inl (iZ (x))), some (.inl (iZ (1)))], [.inl (iZ (x)), .inl (iZ (5)), .inr (.inr (.inr (20, no, c)))], h)) rfl ?_
  refine Ev.gv (w := (iZ (5 * x))) rfl (iZ_mul _ _) ?_
  refine Ev.sts 1 (c' := (8, [some (.inr (.inr (.inr (11, 0, 83)))), some (.inl (iZ (x))), some (.inl (iZ (1)))], [.inl (iZ (1)), .inl (iZ (5 * x)), .inr (.inr (.inr (20, no, c)))], h)) rfl ?_
  refine Ev.gv (w := (iZ ((5 * x) + 1))) rfl (iZ_add _ _) ?_
  refine Ev.ldv (j := (iZ ((5 * x) + 1))) (n := no) (w := .inl (iZ ((M.getD w t0).2.1))) (iZ_in (by omega) (by omega) (by omega)) rfl (by rw [iZ_ix (n := (5 * w) + 1) (by omega) (by omega)]; exact congrArg vI (op.2.2.2.2.2.2 w hw).2.1) ?_
  exact Ev.ret rfl (q)

theorem mp_win2 {d no c w : Nat} {x : Int} {M : List Tel} {y : Tel} {h : PH} (op : opM h M no c) (hx : x = (w : Int)) (hw : w < M.length) (ey : M.getD w t0 = y) : Rv d 218 [.inr (.inr (.inr (11, 0, 83))), .inl (iZ (x)), .inl (iZ (2))] h (some (.inl (iZ y.2.2.1))) h := Rv.of fun Q q => by
  subst ey
  have o1 := op.2.1
  have o2 := op.2.2.2.1
  refine Ev.sts 1 (c' := (1, [some (.inr (.inr (.inr (11, 0, 83)))), some (.inl (iZ (x))), some (.inl (iZ (2)))], [.inr (.inr (.inr (11, 0, 83)))], h)) rfl ?_
  refine Ev.gfr (r := (20, no, c)) rfl op.2.2.2.2.1 ?_
  refine Ev.sts 2 (c' := (6, [some (.inr (.inr (.inr (11, 0, 83)))), some (.inl (iZ (x))), some (.inl (iZ (2)))], [.inl (iZ (x)), .inl (iZ (5)), .inr (.inr (.inr (20, no, c)))], h)) rfl ?_
  refine Ev.gv (w := (iZ (5 * x))) rfl (iZ_mul _ _) ?_
  refine Ev.sts 1 (c' := (8, [some (.inr (.inr (.inr (11, 0, 83)))), some (.inl (iZ (x))), some (.inl (iZ (2)))], [.inl (iZ (2)), .inl (iZ (5 * x)), .inr (.inr (.inr (20, no, c)))], h)) rfl ?_
  refine Ev.gv (w := (iZ ((5 * x) + 2))) rfl (iZ_add _ _) ?_
  refine Ev.ldv (j := (iZ ((5 * x) + 2))) (n := no) (w := .inl (iZ ((M.getD w t0).2.2.1))) (iZ_in (by omega) (by omega) (by omega)) rfl (by rw [iZ_ix (n := (5 * w) + 2) (by omega) (by omega)]; exact congrArg vI (op.2.2.2.2.2.2 w hw).2.2.1) ?_
  exact Ev.ret rfl (q)

theorem mp_win3 {d no c w : Nat} {x : Int} {M : List Tel} {y : Tel} {h : PH} (op : opM h M no c) (hx : x = (w : Int)) (hw : w < M.length) (ey : M.getD w t0 = y) : Rv d 218 [.inr (.inr (.inr (11, 0, 83))), .inl (iZ (x)), .inl (iZ (3))] h (some (.inl (iZ y.2.2.2.1))) h := Rv.of fun Q q => by
  subst ey
  have o1 := op.2.1
  have o2 := op.2.2.2.1
  refine Ev.sts 1 (c' := (1, [some (.inr (.inr (.inr (11, 0, 83)))), some (.inl (iZ (x))), some (.inl (iZ (3)))], [.inr (.inr (.inr (11, 0, 83)))], h)) rfl ?_
  refine Ev.gfr (r := (20, no, c)) rfl op.2.2.2.2.1 ?_
  refine Ev.sts 2 (c' := (6, [some (.inr (.inr (.inr (11, 0, 83)))), some (.inl (iZ (x))), some (.inl (iZ (3)))], [.inl (iZ (x)), .inl (iZ (5)), .inr (.inr (.inr (20, no, c)))], h)) rfl ?_
  refine Ev.gv (w := (iZ (5 * x))) rfl (iZ_mul _ _) ?_
  refine Ev.sts 1 (c' := (8, [some (.inr (.inr (.inr (11, 0, 83)))), some (.inl (iZ (x))), some (.inl (iZ (3)))], [.inl (iZ (3)), .inl (iZ (5 * x)), .inr (.inr (.inr (20, no, c)))], h)) rfl ?_
  refine Ev.gv (w := (iZ ((5 * x) + 3))) rfl (iZ_add _ _) ?_
  refine Ev.ldv (j := (iZ ((5 * x) + 3))) (n := no) (w := .inl (iZ ((M.getD w t0).2.2.2.1))) (iZ_in (by omega) (by omega) (by omega)) rfl (by rw [iZ_ix (n := (5 * w) + 3) (by omega) (by omega)]; exact congrArg vI (op.2.2.2.2.2.2 w hw).2.2.2.1) ?_
  exact Ev.ret rfl (q)

theorem mp_win4 {d no c w : Nat} {x : Int} {M : List Tel} {y : Tel} {h : PH} (op : opM h M no c) (hx : x = (w : Int)) (hw : w < M.length) (ey : M.getD w t0 = y) : Rv d 218 [.inr (.inr (.inr (11, 0, 83))), .inl (iZ (x)), .inl (iZ (4))] h (some (.inl (y.2.2.2.2))) h := Rv.of fun Q q => by
  subst ey
  have o1 := op.2.1
  have o2 := op.2.2.2.1
  refine Ev.sts 1 (c' := (1, [some (.inr (.inr (.inr (11, 0, 83)))), some (.inl (iZ (x))), some (.inl (iZ (4)))], [.inr (.inr (.inr (11, 0, 83)))], h)) rfl ?_
  refine Ev.gfr (r := (20, no, c)) rfl op.2.2.2.2.1 ?_
  refine Ev.sts 2 (c' := (6, [some (.inr (.inr (.inr (11, 0, 83)))), some (.inl (iZ (x))), some (.inl (iZ (4)))], [.inl (iZ (x)), .inl (iZ (5)), .inr (.inr (.inr (20, no, c)))], h)) rfl ?_
  refine Ev.gv (w := (iZ (5 * x))) rfl (iZ_mul _ _) ?_
  refine Ev.sts 1 (c' := (8, [some (.inr (.inr (.inr (11, 0, 83)))), some (.inl (iZ (x))), some (.inl (iZ (4)))], [.inl (iZ (4)), .inl (iZ (5 * x)), .inr (.inr (.inr (20, no, c)))], h)) rfl ?_
  refine Ev.gv (w := (iZ ((5 * x) + 4))) rfl (iZ_add _ _) ?_
  refine Ev.ldv (j := (iZ ((5 * x) + 4))) (n := no) (w := .inl ((M.getD w t0).2.2.2.2)) (iZ_in (by omega) (by omega) (by omega)) rfl (by rw [iZ_ix (n := (5 * w) + 4) (by omega) (by omega)]; exact congrArg vI (op.2.2.2.2.2.2 w hw).2.2.2.2) ?_
  exact Ev.ret rfl (q)

theorem mp_longer {d a c : Nat} {h : PH} (ha : a ≤ 50000) : Rv d 223 [.inr (.inr (.inr (20, a, c)))] h (some (.inr (.inr (.inr (20, 2 * a, hN h))))) (cpyI (grow h (2 * a)) c 0 (hN h) 0 a) := Rv.of fun Q q => by
  refine Ev.sts 2 (c' := (2, [some (.inr (.inr (.inr (20, a, c)))), none], [.inr (.inr (.inr (20, a, c))), .inl (iZ (2))], h)) rfl ?_
  refine Ev.gv (w := (iZ (a))) rfl (iZ_nat _) ?_
  refine Ev.gv (w := (iZ (2 * a))) rfl (iZ_mul _ _) ?_
  refine Ev.pc (p := iZ (2 * a) < 0 ∨ 100000 < (iZ (2 * a)).toNatClampNeg) (c1 := (6, [some (.inr (.inr (.inr (20, a, c)))), none], [.inr (.inr (.inr ((20, (iZ (2 * a)).toNatClampNeg, hN h))))], (grow h (iZ (2 * a)).toNatClampNeg))) (c2 := (6, [some (.inr (.inr (.inr (20, a, c)))), none], [.inr (.inr (.inr (20, (2 * a), (hN h))))], (grow h (2 * a)))) (by rw [iZ_ix (z := (2 * a : Int)) (n := 2 * a) (by omega) (by omega), iZ_l0, iZ_lt ⟨by omega, by omega⟩ ⟨by omega, by omega⟩]; omega) rfl (by rw [iZ_ix (z := (2 * a : Int)) (n := 2 * a) (by omega) (by omega)]) ?_
  refine Ev.sts 6 (c' := (12, [some (.inr (.inr (.inr (20, a, c)))), some (.inr (.inr (.inr (20, (2 * a), (hN h)))))], [.inr (.inr (.inr (20, a, c))), .inl (iZ (0)), .inr (.inr (.inr (20, (2 * a), (hN h)))), .inl (iZ (0)), .inr (.inr (.inr (20, a, c)))], (grow h (2 * a)))) rfl ?_
  refine Ev.gv (w := (iZ (a))) rfl (iZ_nat _) ?_
  refine Ev.pc (p := (iZ (0)) < 0 ∨ (iZ (0)) < 0 ∨ (iZ (a)) < 0 ∨ a < ((iZ (0))).toNatClampNeg + ((iZ (a))).toNatClampNeg ∨ (2 * a) < ((iZ (0))).toNatClampNeg + ((iZ (a))).toNatClampNeg) (c1 := (16, [some (.inr (.inr (.inr (20, a, c)))), some (.inr (.inr (.inr (20, (2 * a), (hN h)))))], [], (cpyI (grow h (2 * a)) c ((iZ (0))).toNatClampNeg ((hN h)) ((iZ (0))).toNatClampNeg ((iZ (a))).toNatClampNeg))) (c2 := (16, [some (.inr (.inr (.inr (20, a, c)))), some (.inr (.inr (.inr (20, (2 * a), (hN h)))))], [], (cpyI (grow h (2 * a)) c 0 (hN h) 0 a))) (cpy_in (s := 0) (d := 0) (k := a) (by omega) (by omega) (by omega) (by omega) (by omega) (by omega) (by omega)) rfl (by rw [cpy_c (s := 0) (d := 0) (k := a) (by omega) (by omega) (by omega) (by omega) (by omega) (by omega)]) ?_
  refine Ev.sts 1 (c' := (17, [some (.inr (.inr (.inr (20, a, c)))), some (.inr (.inr (.inr (20, (2 * a), (hN h)))))], [.inr (.inr (.inr (20, (2 * a), (hN h))))], (cpyI (grow h (2 * a)) c 0 (hN h) 0 a))) rfl ?_
  exact Ev.ret rfl (q)

/-- what the reference's windows change, and what they take -/
def fm (h h' : PH) (c c' : Nat) (no no' : Nat) : Prop := h'.2.1 = h.2.1 ∧ (∀ a k, ¬ (a = 83 ∧ k = 29) → h'.2.2.1 a k = h.2.2.1 a k) ∧ (∀ a, a ≠ 83 → a ≠ c → a < hN h → h'.1 a = h.1 a) ∧ (∀ k, k ≠ 30 → h'.1 83 k = h.1 83 k) ∧ hN h ≤ hN h' ∧ no ≤ no' ∧ hN h' + no ≤ hN h + no' ∧ hS h' + 2 * no ≤ hS h + 2 * no' ∧ (c' = c ∨ hN h ≤ c')
theorem fm_refl (h : PH) (c no : Nat) : fm h h c c no no := ⟨rfl, fun _ _ _ => rfl, fun _ _ _ _ => rfl, fun _ _ => rfl, Nat.le_refl _, Nat.le_refl _, Nat.le_refl _, Nat.le_refl _, Or.inl rfl⟩
theorem fm_trans {h h1 h2 : PH} {c c1 c2 no n1 n2 : Nat} (a : fm h h1 c c1 no n1) (b : fm h1 h2 c1 c2 n1 n2) : fm h h2 c c2 no n2 := by
  obtain ⟨a1, a2, a3, a4, a5, a6, a7, a8, a9⟩ := a
  obtain ⟨b1, b2, b3, b4, b5, b6, b7, b8, b9⟩ := b
  exact ⟨b1.trans a1, fun x k p => (b2 x k p).trans (a2 x k p), fun x p1 p2 p3 => (b3 x p1 (ne_tr p2 a9 p3) (by omega)).trans (a3 x p1 p2 p3), fun k hk => (b4 k hk).trans (a4 k hk), by omega, by omega, by omega, by omega, or_tr a9 b9 a5⟩
theorem Sh_fm {h h' : PH} {c c' no no' : Nat} (s : Sh h) (f : fm h h' c c' no no') : Sh h' := by
  intro t ht
  have h1 : ∀ t ∈ shL, ¬ (t.1 = 83 ∧ t.2.1 = 29) := by decide
  rw [f.2.1 t.1 t.2.1 (h1 t ht)]
  exact s t ht
/-- the row with a place made free, and filled -/
def insH (h : PH) (c w l : Nat) (g s e n v : Int32) : PH := (setI (setI (setI (setI (setI (setI (cpyI h c (5 * w) c (5 * (w + 1)) (5 * (l - w))) 83 30 ((iZ (l + 1)))) c (5 * w + 0) (g)) c ((5 * w) + 1) (s)) c ((5 * w) + 2) (e)) c ((5 * w) + 3) (n)) c ((5 * w) + 4) (v))
theorem insH_c {h : PH} {c w l j : Nat} {g s e n v : Int32} (hc : c ≠ 83) (hw : w ≤ l) : (insH h c w l g s e n v).1 c j = if j = 5 * w + 0 then g else if j = 5 * w + 1 then s else if j = 5 * w + 2 then e else if j = 5 * w + 3 then n else if j = 5 * w + 4 then v else if 5 * (w + 1) ≤ j ∧ j < 5 * (w + 1) + 5 * (l - w) then h.1 c (5 * w + (j - 5 * (w + 1))) else h.1 c j := by
  unfold insH
  by_cases c4 : j = 5 * w + 4
  · subst c4
    rw [if_neg (by omega), if_neg (by omega), if_neg (by omega), if_neg (by omega), if_pos rfl]
    exact setI_self _ _ _ _
  · rw [setI_ne (fun z => c4 z.2), if_neg c4]
    by_cases c3 : j = 5 * w + 3
    · subst c3
      rw [if_neg (by omega), if_neg (by omega), if_neg (by omega), if_pos rfl]
      exact setI_self _ _ _ _
    · rw [setI_ne (fun z => c3 z.2), if_neg c3]
      by_cases c2 : j = 5 * w + 2
      · subst c2
        rw [if_neg (by omega), if_neg (by omega), if_pos rfl]
        exact setI_self _ _ _ _
      · rw [setI_ne (fun z => c2 z.2), if_neg c2]
        by_cases c1 : j = 5 * w + 1
        · subst c1
          rw [if_neg (by omega), if_pos rfl]
          exact setI_self _ _ _ _
        · rw [setI_ne (fun z => c1 z.2), if_neg c1]
          by_cases c0 : j = 5 * w + 0
          · subst c0
            rw [if_pos rfl]
            exact setI_self _ _ _ _
          · rw [setI_ne (fun z => c0 z.2), if_neg c0, setI_oth hc]
            show (if c = c ∧ 5 * (w + 1) ≤ j ∧ j < 5 * (w + 1) + 5 * (l - w) then h.1 c (5 * w + (j - 5 * (w + 1))) else h.1 c j) = _
            by_cases z : 5 * (w + 1) ≤ j ∧ j < 5 * (w + 1) + 5 * (l - w)
            · rw [if_pos ⟨rfl, z⟩, if_pos z]
            · rw [if_neg (fun y => z y.2), if_neg z]
theorem ins_ok {h : PH} {M : List Tel} {no c w g : Nat} {s e n : Int} {v : Int32} (op : opM h M no c) (hw : w ≤ M.length) (ho : 5 * (M.length + 1) ≤ no) : opM (insH h c w M.length (iZ g) (iZ s) (iZ e) (iZ n) v) (M.take w ++ (g, s, e, n, v) :: M.drop w) no c ∧ fm h (insH h c w M.length (iZ g) (iZ s) (iZ e) (iZ n) v) c c no no := by
  obtain ⟨p1, p2, p3, p4, p5, p6, p7⟩ := op
  have hc : c ≠ 83 := by unfold aO at p6; omega
  have hl : (M.take w ++ ((g, s, e, n, v) : Tel) :: M.drop w).length = M.length + 1 := ins_len _ _ _ hw
  refine ⟨⟨?_, by rw [hl]; omega, p3, p4, p5, p6, fun j hj => ?_⟩, rfl, fun _ _ _ => rfl, fun a a1 a2 _ => ?_, fun k hk => ?_, Nat.le_refl _, Nat.le_refl _, Nat.le_refl _, Nat.le_refl _, Or.inl rfl⟩
  · rw [hl]
    unfold insH
    rw [setI_oth hc.symm, setI_oth hc.symm, setI_oth hc.symm, setI_oth hc.symm, setI_oth hc.symm]
    exact setI_self _ _ _ _
  · rw [hl] at hj
    rw [ins_get t0 _ M w hw j]
    unfold rT
    rw [insH_c hc hw, insH_c hc hw, insH_c hc hw, insH_c hc hw, insH_c hc hw]
    by_cases z1 : j < w
    · rw [if_pos z1]
      have q := p7 j (by omega)
      rw [if_neg (by omega), if_neg (by omega), if_neg (by omega), if_neg (by omega), if_neg (by omega), if_neg (by omega), if_neg (by omega), if_neg (by omega), if_neg (by omega), if_neg (by omega), if_neg (by omega), if_neg (by omega), if_neg (by omega), if_neg (by omega), if_neg (by omega), if_neg (by omega), if_neg (by omega), if_neg (by omega), if_neg (by omega), if_neg (by omega), if_neg (by omega), if_neg (by omega), if_neg (by omega), if_neg (by omega), if_neg (by omega), if_neg (by omega), if_neg (by omega), if_neg (by omega), if_neg (by omega), if_neg (by omega)]
      exact q
    · by_cases z2 : j = w
      · subst z2
        have ej : (if j < j then M.getD j t0 else if j = j then ((g, s, e, n, v) : Tel) else M.getD (j - 1) t0) = (g, s, e, n, v) := by rw [if_neg z1, if_pos rfl]
        rw [ej]
        refine ⟨if_pos rfl, ?_, ?_, ?_, ?_⟩
        · rw [if_neg (by omega), if_pos rfl]
        · rw [if_neg (by omega), if_neg (by omega), if_pos rfl]
        · rw [if_neg (by omega), if_neg (by omega), if_neg (by omega), if_pos rfl]
        · rw [if_neg (by omega), if_neg (by omega), if_neg (by omega), if_neg (by omega), if_pos rfl]
      · rw [if_neg z1, if_neg z2]
        obtain ⟨q0, q1, q2, q3, q4⟩ := p7 (j - 1) (by omega)
        refine ⟨?_, ?_, ?_, ?_, ?_⟩
        · rw [if_neg (by omega), if_neg (by omega), if_neg (by omega), if_neg (by omega), if_neg (by omega), if_pos (by omega), show 5 * w + (5 * j + 0 - 5 * (w + 1)) = 5 * (j - 1) + 0 by omega]; exact q0
        · rw [if_neg (by omega), if_neg (by omega), if_neg (by omega), if_neg (by omega), if_neg (by omega), if_pos (by omega), show 5 * w + (5 * j + 1 - 5 * (w + 1)) = 5 * (j - 1) + 1 by omega]; exact q1
        · rw [if_neg (by omega), if_neg (by omega), if_neg (by omega), if_neg (by omega), if_neg (by omega), if_pos (by omega), show 5 * w + (5 * j + 2 - 5 * (w + 1)) = 5 * (j - 1) + 2 by omega]; exact q2
        · rw [if_neg (by omega), if_neg (by omega), if_neg (by omega), if_neg (by omega), if_neg (by omega), if_pos (by omega), show 5 * w + (5 * j + 3 - 5 * (w + 1)) = 5 * (j - 1) + 3 by omega]; exact q3
        · rw [if_neg (by omega), if_neg (by omega), if_neg (by omega), if_neg (by omega), if_neg (by omega), if_pos (by omega), show 5 * w + (5 * j + 4 - 5 * (w + 1)) = 5 * (j - 1) + 4 by omega]; exact q4
  · unfold insH
    rw [setI_oth a2, setI_oth a2, setI_oth a2, setI_oth a2, setI_oth a2, setI_oth a1, cpy_oth a2]
  · unfold insH
    rw [setI_oth hc.symm, setI_oth hc.symm, setI_oth hc.symm, setI_oth hc.symm, setI_oth hc.symm, setI_ne (by omega), cpy_oth hc.symm]
/-- the row made longer -/
def lonH (h : PH) (c no : Nat) : PH := setR (cpyI (grow h (2 * no)) c 0 (hN h) 0 no) 83 29 (20, 2 * no, hN h)
theorem lon_ok {h : PH} {M : List Tel} {no c : Nat} (op : opM h M no c) (hno : no ≤ 50000) (hh : 103 ≤ hN h) : opM (lonH h c no) M (2 * no) (hN h) ∧ fm h (lonH h c no) c (hN h) no (2 * no) := by
  obtain ⟨p1, p2, p3, p4, p5, p6, p7⟩ := op
  have hc : c < hN h := p6.2
  have e1 : ∀ a, a ≠ hN h → (lonH h c no).1 a = h.1 a := fun a ha => cpy_oth (h := grow h (2 * no)) ha
  have e2 : ∀ j, j < no → (lonH h c no).1 (hN h) j = h.1 c j := fun j hj => cpy_at (h := grow h (2 * no)) hj
  have e3 : hN (lonH h c no) = hN h + 1 := rfl
  have e4 : hS (lonH h c no) = hS h + 2 * no := rfl
  refine ⟨⟨?_, by omega, by omega, by omega, ?_, ⟨Or.inr (Or.inr hh), by omega⟩, fun j hj => ?_⟩, rfl, fun a k z => ?_, fun a _ _ a3 => e1 a (by omega), fun k _ => by rw [e1 83 (by omega)], by omega, by omega, by omega, by omega, Or.inr (Nat.le_refl _)⟩
  · rw [e1 83 (by omega)]; exact p1
  · exact setR_self _ _ _ _
  · obtain ⟨q0, q1, q2, q3, q4⟩ := p7 j hj
    refine ⟨?_, ?_, ?_, ?_, ?_⟩
    · rw [e2 _ (by omega)]; exact q0
    · rw [e2 _ (by omega)]; exact q1
    · rw [e2 _ (by omega)]; exact q2
    · rw [e2 _ (by omega)]; exact q3
    · rw [e2 _ (by omega)]; exact q4
  · show (if a = 83 ∧ k = 29 then ((20, 2 * no, hN h) : VR) else h.2.2.1 a k) = _
    rw [if_neg z]
theorem mp_ins27 {d no c w g : Nat} {x s e n : Int} {v : Int32} {M : List Tel} {h : PH} {Q : Rs → PH → Prop} (op : opM h M no c) (hx : x = (w : Int)) (hw : w ≤ M.length) (ho : 5 * (M.length + 1) ≤ no) (q : ∀ h1, opM h1 (M.take w ++ (g, s, e, n, v) :: M.drop w) no c → fm h h1 c c no no → Q (.inl none) h1) : Ev d 222 (27, [some (.inr (.inr (.inr (11, 0, 83)))), some (.inl (iZ (x))), some (.inl (iZ (g))), some (.inl (iZ (s))), some (.inl (iZ (e))), some (.inl (iZ (n))), some (.inl (v))], [], h) Q := by
  have o1 := op.2.1
  have o2 := op.2.2.1
  have o3 := op.2.2.2.1
  have hc : c ≠ 83 := by have := op.2.2.2.2.2.1; unfold aO at this; omega
  refine Ev.sts 1 (c' := (28, [some (.inr (.inr (.inr (11, 0, 83)))), some (.inl (iZ (x))), some (.inl (iZ (g))), some (.inl (iZ (s))), some (.inl (iZ (e))), some (.inl (iZ (n))), some (.inl (v))], [.inr (.inr (.inr (11, 0, 83)))], h)) rfl ?_
  refine Ev.gfr (r := (20, no, c)) rfl op.2.2.2.2.1 ?_
  refine Ev.sts 2 (c' := (33, [some (.inr (.inr (.inr (11, 0, 83)))), some (.inl (iZ (x))), some (.inl (iZ (g))), some (.inl (iZ (s))), some (.inl (iZ (e))), some (.inl (iZ (n))), some (.inl (v))], [.inl (iZ (x)), .inl (iZ (5)), .inr (.inr (.inr (20, no, c)))], h)) rfl ?_
  refine Ev.gv (w := (iZ (5 * x))) rfl (iZ_mul _ _) ?_
  refine Ev.sts 1 (c' := (35, [some (.inr (.inr (.inr (11, 0, 83)))), some (.inl (iZ (x))), some (.inl (iZ (g))), some (.inl (iZ (s))), some (.inl (iZ (e))), some (.inl (iZ (n))), some (.inl (v))], [.inr (.inr (.inr (11, 0, 83))), .inl (iZ (5 * x)), .inr (.inr (.inr (20, no, c)))], h)) rfl ?_
  refine Ev.gfr (r := (20, no, c)) rfl op.2.2.2.2.1 ?_
  refine Ev.sts 3 (c' := (41, [some (.inr (.inr (.inr (11, 0, 83)))), some (.inl (iZ (x))), some (.inl (iZ (g))), some (.inl (iZ (s))), some (.inl (iZ (e))), some (.inl (iZ (n))), some (.inl (v))], [.inl (iZ (1)), .inl (iZ (x)), .inl (iZ (5)), .inr (.inr (.inr (20, no, c))), .inl (iZ (5 * x)), .inr (.inr (.inr (20, no, c)))], h)) rfl ?_
  refine Ev.gv (w := (iZ (x + 1))) rfl (iZ_add _ _) ?_
  refine Ev.gv (w := (iZ (5 * (x + 1)))) rfl (iZ_mul _ _) ?_
  refine Ev.sts 2 (c' := (45, [some (.inr (.inr (.inr (11, 0, 83)))), some (.inl (iZ (x))), some (.inl (iZ (g))), some (.inl (iZ (s))), some (.inl (iZ (e))), some (.inl (iZ (n))), some (.inl (v))], [.inr (.inr (.inr (11, 0, 83))), .inl (iZ (5)), .inl (iZ (5 * (x + 1))), .inr (.inr (.inr (20, no, c))), .inl (iZ (5 * x)), .inr (.inr (.inr (20, no, c)))], h)) rfl ?_
  refine Ev.gv (w := (iZ (M.length))) rfl op.1 ?_
  refine Ev.sts 1 (c' := (49, [some (.inr (.inr (.inr (11, 0, 83)))), some (.inl (iZ (x))), some (.inl (iZ (g))), some (.inl (iZ (s))), some (.inl (iZ (e))), some (.inl (iZ (n))), some (.inl (v))], [.inl (iZ (x)), .inl (iZ (M.length)), .inl (iZ (5)), .inl (iZ (5 * (x + 1))), .inr (.inr (.inr (20, no, c))), .inl (iZ (5 * x)), .inr (.inr (.inr (20, no, c)))], h)) rfl ?_
  refine Ev.gv (w := (iZ (M.length - x))) rfl (iZ_sub _ _) ?_
  refine Ev.gv (w := (iZ (5 * (M.length - x)))) rfl (iZ_mul _ _) ?_
  refine Ev.pc (p := (iZ (5 * x)) < 0 ∨ (iZ (5 * (x + 1))) < 0 ∨ (iZ (5 * (M.length - x))) < 0 ∨ no < ((iZ (5 * x))).toNatClampNeg + ((iZ (5 * (M.length - x)))).toNatClampNeg ∨ no < ((iZ (5 * (x + 1)))).toNatClampNeg + ((iZ (5 * (M.length - x)))).toNatClampNeg) (c1 := (54, [some (.inr (.inr (.inr (11, 0, 83)))), some (.inl (iZ (x))), some (.inl (iZ (g))), some (.inl (iZ (s))), some (.inl (iZ (e))), some (.inl (iZ (n))), some (.inl (v))], [], (cpyI h c ((iZ (5 * x))).toNatClampNeg c ((iZ (5 * (x + 1)))).toNatClampNeg ((iZ (5 * (M.length - x)))).toNatClampNeg))) (c2 := (54, [some (.inr (.inr (.inr (11, 0, 83)))), some (.inl (iZ (x))), some (.inl (iZ (g))), some (.inl (iZ (s))), some (.inl (iZ (e))), some (.inl (iZ (n))), some (.inl (v))], [], (cpyI h c (5 * w) c (5 * (w + 1)) (5 * (M.length - w))))) (cpy_in (s := 5 * w) (d := 5 * (w + 1)) (k := 5 * (M.length - w)) (by omega) (by omega) (by omega) (by omega) (by omega) (by omega) (by omega)) rfl (by rw [cpy_c (s := 5 * w) (d := 5 * (w + 1)) (k := 5 * (M.length - w)) (by omega) (by omega) (by omega) (by omega) (by omega) (by omega)]) ?_
  refine Ev.sts 2 (c' := (56, [some (.inr (.inr (.inr (11, 0, 83)))), some (.inl (iZ (x))), some (.inl (iZ (g))), some (.inl (iZ (s))), some (.inl (iZ (e))), some (.inl (iZ (n))), some (.inl (v))], [.inr (.inr (.inr (11, 0, 83))), .inr (.inr (.inr (11, 0, 83)))], (cpyI h c (5 * w) c (5 * (w + 1)) (5 * (M.length - w))))) rfl ?_
  refine Ev.gv (w := (iZ (M.length))) rfl ((congrFun (cpy_oth (x := 83) (by omega)) 30).trans op.1) ?_
  refine Ev.sts 1 (c' := (60, [some (.inr (.inr (.inr (11, 0, 83)))), some (.inl (iZ (x))), some (.inl (iZ (g))), some (.inl (iZ (s))), some (.inl (iZ (e))), some (.inl (iZ (n))), some (.inl (v))], [.inl (iZ (1)), .inl (iZ (M.length)), .inr (.inr (.inr (11, 0, 83)))], (cpyI h c (5 * w) c (5 * (w + 1)) (5 * (M.length - w))))) rfl ?_
  refine Ev.gv (w := (iZ (M.length + 1))) rfl (iZ_add _ _) ?_
  refine Ev.sts 2 (c' := (65, [some (.inr (.inr (.inr (11, 0, 83)))), some (.inl (iZ (x))), some (.inl (iZ (g))), some (.inl (iZ (s))), some (.inl (iZ (e))), some (.inl (iZ (n))), some (.inl (v))], [.inr (.inr (.inr (11, 0, 83)))], (setI (cpyI h c (5 * w) c (5 * (w + 1)) (5 * (M.length - w))) 83 30 ((iZ (M.length + 1)))))) rfl ?_
  refine Ev.gfr (r := (20, no, c)) rfl op.2.2.2.2.1 ?_
  refine Ev.sts 2 (c' := (70, [some (.inr (.inr (.inr (11, 0, 83)))), some (.inl (iZ (x))), some (.inl (iZ (g))), some (.inl (iZ (s))), some (.inl (iZ (e))), some (.inl (iZ (n))), some (.inl (v))], [.inl (iZ (x)), .inl (iZ (5)), .inr (.inr (.inr (20, no, c)))], (setI (cpyI h c (5 * w) c (5 * (w + 1)) (5 * (M.length - w))) 83 30 ((iZ (M.length + 1)))))) rfl ?_
  refine Ev.gv (w := (iZ (5 * x))) rfl (iZ_mul _ _) ?_
  refine Ev.sts 1 (c' := (72, [some (.inr (.inr (.inr (11, 0, 83)))), some (.inl (iZ (x))), some (.inl (iZ (g))), some (.inl (iZ (s))), some (.inl (iZ (e))), some (.inl (iZ (n))), some (.inl (v))], [.inl (iZ (0)), .inl (iZ (5 * x)), .inr (.inr (.inr (20, no, c)))], (setI (cpyI h c (5 * w) c (5 * (w + 1)) (5 * (M.length - w))) 83 30 ((iZ (M.length + 1)))))) rfl ?_
  refine Ev.gv (w := (iZ ((5 * x) + 0))) rfl (iZ_add _ _) ?_
  refine Ev.sts 1 (c' := (74, [some (.inr (.inr (.inr (11, 0, 83)))), some (.inl (iZ (x))), some (.inl (iZ (g))), some (.inl (iZ (s))), some (.inl (iZ (e))), some (.inl (iZ (n))), some (.inl (v))], [.inl (iZ (g)), .inl (iZ ((5 * x) + 0)), .inr (.inr (.inr (20, no, c)))], (setI (cpyI h c (5 * w) c (5 * (w + 1)) (5 * (M.length - w))) 83 30 ((iZ (M.length + 1)))))) rfl ?_
  refine Ev.sto (j := (iZ ((5 * x) + 0))) (n := no) (h2 := (setI (setI (cpyI h c (5 * w) c (5 * (w + 1)) (5 * (M.length - w))) 83 30 ((iZ (M.length + 1)))) c (5 * w + 0) ((iZ (g))))) (iZ_in (by omega) (by omega) (by omega)) rfl (by rw [iZ_ix (n := 5 * w + 0) (by omega) (by omega)]) ?_
  refine Ev.sts 1 (c' := (76, [some (.inr (.inr (.inr (11, 0, 83)))), some (.inl (iZ (x))), some (.inl (iZ (g))), some (.inl (iZ (s))), some (.inl (iZ (e))), some (.inl (iZ (n))), some (.inl (v))], [.inr (.inr (.inr (11, 0, 83)))], (setI (setI (cpyI h c (5 * w) c (5 * (w + 1)) (5 * (M.length - w))) 83 30 ((iZ (M.length + 1)))) c (5 * w + 0) ((iZ (g)))))) rfl ?_
  refine Ev.gfr (r := (20, no, c)) rfl op.2.2.2.2.1 ?_
  refine Ev.sts 2 (c' := (81, [some (.inr (.inr (.inr (11, 0, 83)))), some (.inl (iZ (x))), some (.inl (iZ (g))), some (.inl (iZ (s))), some (.inl (iZ (e))), some (.inl (iZ (n))), some (.inl (v))], [.inl (iZ (x)), .inl (iZ (5)), .inr (.inr (.inr (20, no, c)))], (setI (setI (cpyI h c (5 * w) c (5 * (w + 1)) (5 * (M.length - w))) 83 30 ((iZ (M.length + 1)))) c (5 * w + 0) ((iZ (g)))))) rfl ?_
  refine Ev.gv (w := (iZ (5 * x))) rfl (iZ_mul _ _) ?_
  refine Ev.sts 1 (c' := (83, [some (.inr (.inr (.inr (11, 0, 83)))), some (.inl (iZ (x))), some (.inl (iZ (g))), some (.inl (iZ (s))), some (.inl (iZ (e))), some (.inl (iZ (n))), some (.inl (v))], [.inl (iZ (1)), .inl (iZ (5 * x)), .inr (.inr (.inr (20, no, c)))], (setI (setI (cpyI h c (5 * w) c (5 * (w + 1)) (5 * (M.length - w))) 83 30 ((iZ (M.length + 1)))) c (5 * w + 0) ((iZ (g)))))) rfl ?_
  refine Ev.gv (w := (iZ ((5 * x) + 1))) rfl (iZ_add _ _) ?_
  refine Ev.sts 1 (c' := (85, [some (.inr (.inr (.inr (11, 0, 83)))), some (.inl (iZ (x))), some (.inl (iZ (g))), some (.inl (iZ (s))), some (.inl (iZ (e))), some (.inl (iZ (n))), some (.inl (v))], [.inl (iZ (s)), .inl (iZ ((5 * x) + 1)), .inr (.inr (.inr (20, no, c)))], (setI (setI (cpyI h c (5 * w) c (5 * (w + 1)) (5 * (M.length - w))) 83 30 ((iZ (M.length + 1)))) c (5 * w + 0) ((iZ (g)))))) rfl ?_
  refine Ev.sto (j := (iZ ((5 * x) + 1))) (n := no) (h2 := (setI (setI (setI (cpyI h c (5 * w) c (5 * (w + 1)) (5 * (M.length - w))) 83 30 ((iZ (M.length + 1)))) c (5 * w + 0) ((iZ (g)))) c ((5 * w) + 1) ((iZ (s))))) (iZ_in (by omega) (by omega) (by omega)) rfl (by rw [iZ_ix (n := (5 * w) + 1) (by omega) (by omega)]) ?_
  refine Ev.sts 1 (c' := (87, [some (.inr (.inr (.inr (11, 0, 83)))), some (.inl (iZ (x))), some (.inl (iZ (g))), some (.inl (iZ (s))), some (.inl (iZ (e))), some (.inl (iZ (n))), some (.inl (v))], [.inr (.inr (.inr (11, 0, 83)))], (setI (setI (setI (cpyI h c (5 * w) c (5 * (w + 1)) (5 * (M.length - w))) 83 30 ((iZ (M.length + 1)))) c (5 * w + 0) ((iZ (g)))) c ((5 * w) + 1) ((iZ (s)))))) rfl ?_
  refine Ev.gfr (r := (20, no, c)) rfl op.2.2.2.2.1 ?_
  refine Ev.sts 2 (c' := (92, [some (.inr (.inr (.inr (11, 0, 83)))), some (.inl (iZ (x))), some (.inl (iZ (g))), some (.inl (iZ (s))), some (.inl (iZ (e))), some (.inl (iZ (n))), some (.inl (v))], [.inl (iZ (x)), .inl (iZ (5)), .inr (.inr (.inr (20, no, c)))], (setI (setI (setI (cpyI h c (5 * w) c (5 * (w + 1)) (5 * (M.length - w))) 83 30 ((iZ (M.length + 1)))) c (5 * w + 0) ((iZ (g)))) c ((5 * w) + 1) ((iZ (s)))))) rfl ?_
  refine Ev.gv (w := (iZ (5 * x))) rfl (iZ_mul _ _) ?_
  refine Ev.sts 1 (c' := (94, [some (.inr (.inr (.inr (11, 0, 83)))), some (.inl (iZ (x))), some (.inl (iZ (g))), some (.inl (iZ (s))), some (.inl (iZ (e))), some (.inl (iZ (n))), some (.inl (v))], [.inl (iZ (2)), .inl (iZ (5 * x)), .inr (.inr (.inr (20, no, c)))], (setI (setI (setI (cpyI h c (5 * w) c (5 * (w + 1)) (5 * (M.length - w))) 83 30 ((iZ (M.length + 1)))) c (5 * w + 0) ((iZ (g)))) c ((5 * w) + 1) ((iZ (s)))))) rfl ?_
  refine Ev.gv (w := (iZ ((5 * x) + 2))) rfl (iZ_add _ _) ?_
  refine Ev.sts 1 (c' := (97, [some (.inr (.inr (.inr (11, 0, 83)))), some (.inl (iZ (x))), some (.inl (iZ (g))), some (.inl (iZ (s))), some (.inl (iZ (e))), some (.inl (iZ (n))), some (.inl (v))], [.inl (iZ (e)), .inl (iZ ((5 * x) + 2)), .inr (.inr (.inr (20, no, c)))], (setI (setI (setI (cpyI h c (5 * w) c (5 * (w + 1)) (5 * (M.length - w))) 83 30 ((iZ (M.length + 1)))) c (5 * w + 0) ((iZ (g)))) c ((5 * w) + 1) ((iZ (s)))))) rfl ?_
  refine Ev.sto (j := (iZ ((5 * x) + 2))) (n := no) (h2 := (setI (setI (setI (setI (cpyI h c (5 * w) c (5 * (w + 1)) (5 * (M.length - w))) 83 30 ((iZ (M.length + 1)))) c (5 * w + 0) ((iZ (g)))) c ((5 * w) + 1) ((iZ (s)))) c ((5 * w) + 2) ((iZ (e))))) (iZ_in (by omega) (by omega) (by omega)) rfl (by rw [iZ_ix (n := (5 * w) + 2) (by omega) (by omega)]) ?_
  refine Ev.sts 1 (c' := (99, [some (.inr (.inr (.inr (11, 0, 83)))), some (.inl (iZ (x))), some (.inl (iZ (g))), some (.inl (iZ (s))), some (.inl (iZ (e))), some (.inl (iZ (n))), some (.inl (v))], [.inr (.inr (.inr (11, 0, 83)))], (setI (setI (setI (setI (cpyI h c (5 * w) c (5 * (w + 1)) (5 * (M.length - w))) 83 30 ((iZ (M.length + 1)))) c (5 * w + 0) ((iZ (g)))) c ((5 * w) + 1) ((iZ (s)))) c ((5 * w) + 2) ((iZ (e)))))) rfl ?_
  refine Ev.gfr (r := (20, no, c)) rfl op.2.2.2.2.1 ?_
  refine Ev.sts 2 (c' := (104, [some (.inr (.inr (.inr (11, 0, 83)))), some (.inl (iZ (x))), some (.inl (iZ (g))), some (.inl (iZ (s))), some (.inl (iZ (e))), some (.inl (iZ (n))), some (.inl (v))], [.inl (iZ (x)), .inl (iZ (5)), .inr (.inr (.inr (20, no, c)))], (setI (setI (setI (setI (cpyI h c (5 * w) c (5 * (w + 1)) (5 * (M.length - w))) 83 30 ((iZ (M.length + 1)))) c (5 * w + 0) ((iZ (g)))) c ((5 * w) + 1) ((iZ (s)))) c ((5 * w) + 2) ((iZ (e)))))) rfl ?_
  refine Ev.gv (w := (iZ (5 * x))) rfl (iZ_mul _ _) ?_
  refine Ev.sts 1 (c' := (106, [some (.inr (.inr (.inr (11, 0, 83)))), some (.inl (iZ (x))), some (.inl (iZ (g))), some (.inl (iZ (s))), some (.inl (iZ (e))), some (.inl (iZ (n))), some (.inl (v))], [.inl (iZ (3)), .inl (iZ (5 * x)), .inr (.inr (.inr (20, no, c)))], (setI (setI (setI (setI (cpyI h c (5 * w) c (5 * (w + 1)) (5 * (M.length - w))) 83 30 ((iZ (M.length + 1)))) c (5 * w + 0) ((iZ (g)))) c ((5 * w) + 1) ((iZ (s)))) c ((5 * w) + 2) ((iZ (e)))))) rfl ?_
  refine Ev.gv (w := (iZ ((5 * x) + 3))) rfl (iZ_add _ _) ?_
  refine Ev.sts 1 (c' := (109, [some (.inr (.inr (.inr (11, 0, 83)))), some (.inl (iZ (x))), some (.inl (iZ (g))), some (.inl (iZ (s))), some (.inl (iZ (e))), some (.inl (iZ (n))), some (.inl (v))], [.inl (iZ (n)), .inl (iZ ((5 * x) + 3)), .inr (.inr (.inr (20, no, c)))], (setI (setI (setI (setI (cpyI h c (5 * w) c (5 * (w + 1)) (5 * (M.length - w))) 83 30 ((iZ (M.length + 1)))) c (5 * w + 0) ((iZ (g)))) c ((5 * w) + 1) ((iZ (s)))) c ((5 * w) + 2) ((iZ (e)))))) rfl ?_
  refine Ev.sto (j := (iZ ((5 * x) + 3))) (n := no) (h2 := (setI (setI (setI (setI (setI (cpyI h c (5 * w) c (5 * (w + 1)) (5 * (M.length - w))) 83 30 ((iZ (M.length + 1)))) c (5 * w + 0) ((iZ (g)))) c ((5 * w) + 1) ((iZ (s)))) c ((5 * w) + 2) ((iZ (e)))) c ((5 * w) + 3) ((iZ (n))))) (iZ_in (by omega) (by omega) (by omega)) rfl (by rw [iZ_ix (n := (5 * w) + 3) (by omega) (by omega)]) ?_
  refine Ev.sts 1 (c' := (111, [some (.inr (.inr (.inr (11, 0, 83)))), some (.inl (iZ (x))), some (.inl (iZ (g))), some (.inl (iZ (s))), some (.inl (iZ (e))), some (.inl (iZ (n))), some (.inl (v))], [.inr (.inr (.inr (11, 0, 83)))], (setI (setI (setI (setI (setI (cpyI h c (5 * w) c (5 * (w + 1)) (5 * (M.length - w))) 83 30 ((iZ (M.length + 1)))) c (5 * w + 0) ((iZ (g)))) c ((5 * w) + 1) ((iZ (s)))) c ((5 * w) + 2) ((iZ (e)))) c ((5 * w) + 3) ((iZ (n)))))) rfl ?_
  refine Ev.gfr (r := (20, no, c)) rfl op.2.2.2.2.1 ?_
  refine Ev.sts 2 (c' := (116, [some (.inr (.inr (.inr (11, 0, 83)))), some (.inl (iZ (x))), some (.inl (iZ (g))), some (.inl (iZ (s))), some (.inl (iZ (e))), some (.inl (iZ (n))), some (.inl (v))], [.inl (iZ (x)), .inl (iZ (5)), .inr (.inr (.inr (20, no, c)))], (setI (setI (setI (setI (setI (cpyI h c (5 * w) c (5 * (w + 1)) (5 * (M.length - w))) 83 30 ((iZ (M.length + 1)))) c (5 * w + 0) ((iZ (g)))) c ((5 * w) + 1) ((iZ (s)))) c ((5 * w) + 2) ((iZ (e)))) c ((5 * w) + 3) ((iZ (n)))))) rfl ?_
  refine Ev.gv (w := (iZ (5 * x))) rfl (iZ_mul _ _) ?_
  refine Ev.sts 1 (c' := (118, [some (.inr (.inr (.inr (11, 0, 83)))), some (.inl (iZ (x))), some (.inl (iZ (g))), some (.inl (iZ (s))), some (.inl (iZ (e))), some (.inl (iZ (n))), some (.inl (v))], [.inl (iZ (4)), .inl (iZ (5 * x)), .inr (.inr (.inr (20, no, c)))], (setI (setI (setI (setI (setI (cpyI h c (5 * w) c (5 * (w + 1)) (5 * (M.length - w))) 83 30 ((iZ (M.length + 1)))) c (5 * w + 0) ((iZ (g)))) c ((5 * w) + 1) ((iZ (s)))) c ((5 * w) + 2) ((iZ (e)))) c ((5 * w) + 3) ((iZ (n)))))) rfl ?_
  refine Ev.gv (w := (iZ ((5 * x) + 4))) rfl (iZ_add _ _) ?_
  refine Ev.sts 1 (c' := (121, [some (.inr (.inr (.inr (11, 0, 83)))), some (.inl (iZ (x))), some (.inl (iZ (g))), some (.inl (iZ (s))), some (.inl (iZ (e))), some (.inl (iZ (n))), some (.inl (v))], [.inl (v), .inl (iZ ((5 * x) + 4)), .inr (.inr (.inr (20, no, c)))], (setI (setI (setI (setI (setI (cpyI h c (5 * w) c (5 * (w + 1)) (5 * (M.length - w))) 83 30 ((iZ (M.length + 1)))) c (5 * w + 0) ((iZ (g)))) c ((5 * w) + 1) ((iZ (s)))) c ((5 * w) + 2) ((iZ (e)))) c ((5 * w) + 3) ((iZ (n)))))) rfl ?_
  refine Ev.sto (j := (iZ ((5 * x) + 4))) (n := no) (h2 := (setI (setI (setI (setI (setI (setI (cpyI h c (5 * w) c (5 * (w + 1)) (5 * (M.length - w))) 83 30 ((iZ (M.length + 1)))) c (5 * w + 0) ((iZ (g)))) c ((5 * w) + 1) ((iZ (s)))) c ((5 * w) + 2) ((iZ (e)))) c ((5 * w) + 3) ((iZ (n)))) c ((5 * w) + 4) (v))) (iZ_in (by omega) (by omega) (by omega)) rfl (by rw [iZ_ix (n := (5 * w) + 4) (by omega) (by omega)]) ?_
  exact Ev.ret rfl (q _ (ins_ok op hw ho).1 (ins_ok op hw ho).2)

theorem mp_insert {d no c w g : Nat} {x s e n : Int} {v : Int32} {M : List Tel} {h : PH} {Q : Rs → PH → Prop} (op : opM h M no c) (hh : 103 ≤ hN h) (hM : M.length ≤ 9000) (hx : x = (w : Int)) (hw : w ≤ M.length) (q : ∀ h1 n1 c1, opM h1 (M.take w ++ (g, s, e, n, v) :: M.drop w) n1 c1 → fm h h1 c c1 no n1 → Q (.inl none) h1) : Rn (d + 1) 222 [.inr (.inr (.inr (11, 0, 83))), .inl (iZ (x)), .inl (iZ (g)), .inl (iZ (s)), .inl (iZ (e)), .inl (iZ (n)), .inl (v)] h Q := by
  have o1 := op.2.1
  have o2 := op.2.2.1
  have o3 := op.2.2.2.1
  have hc : c ≠ 83 := by have := op.2.2.2.2.2.1; unfold aO at this; omega
  refine Ev.sts 2 (c' := (2, [some (.inr (.inr (.inr (11, 0, 83)))), some (.inl (iZ (x))), some (.inl (iZ (g))), some (.inl (iZ (s))), some (.inl (iZ (e))), some (.inl (iZ (n))), some (.inl (v))], [.inr (.inr (.inr (11, 0, 83))), .inl (iZ (5))], h)) rfl ?_
  refine Ev.gv (w := (iZ (M.length))) rfl op.1 ?_
  refine Ev.sts 1 (c' := (6, [some (.inr (.inr (.inr (11, 0, 83)))), some (.inl (iZ (x))), some (.inl (iZ (g))), some (.inl (iZ (s))), some (.inl (iZ (e))), some (.inl (iZ (n))), some (.inl (v))], [.inl (iZ (1)), .inl (iZ (M.length)), .inl (iZ (5))], h)) rfl ?_
  refine Ev.gv (w := (iZ (M.length + 1))) rfl (iZ_add _ _) ?_
  refine Ev.gv (w := (iZ (5 * (M.length + 1)))) rfl (iZ_mul _ _) ?_
  refine Ev.sts 1 (c' := (9, [some (.inr (.inr (.inr (11, 0, 83)))), some (.inl (iZ (x))), some (.inl (iZ (g))), some (.inl (iZ (s))), some (.inl (iZ (e))), some (.inl (iZ (n))), some (.inl (v))], [.inr (.inr (.inr (11, 0, 83))), .inl (iZ (5 * (M.length + 1)))], h)) rfl ?_
  refine Ev.gfr (r := (20, no, c)) rfl op.2.2.2.2.1 ?_
  refine Ev.gv (w := (iZ (no))) rfl (iZ_nat _) ?_
  refine Ev.brc (p := (iZ (5 * (M.length + 1))) ≤ (iZ (no))) (q := ((5 * (M.length + 1) : Int)) ≤ no) (c1 := (27, [some (.inr (.inr (.inr (11, 0, 83)))), some (.inl (iZ (x))), some (.inl (iZ (g))), some (.inl (iZ (s))), some (.inl (iZ (e))), some (.inl (iZ (n))), some (.inl (v))], [], h)) (c2 := (16, [some (.inr (.inr (.inr (11, 0, 83)))), some (.inl (iZ (x))), some (.inl (iZ (g))), some (.inl (iZ (s))), some (.inl (iZ (e))), some (.inl (iZ (n))), some (.inl (v))], [], h)) rfl (iZ_le ⟨by omega, by omega⟩ ⟨by omega, by omega⟩) (fun c0 => ?_) (fun c0 => ?_)
  · exact mp_ins27 op hx hw (by omega) (fun h1 o1 f1 => q h1 no c o1 f1)
  · refine Ev.sts 2 (c' := (18, [some (.inr (.inr (.inr (11, 0, 83)))), some (.inl (iZ (x))), some (.inl (iZ (g))), some (.inl (iZ (s))), some (.inl (iZ (e))), some (.inl (iZ (n))), some (.inl (v))], [.inr (.inr (.inr (11, 0, 83))), .inr (.inr (.inr (11, 0, 83)))], h)) rfl ?_
    refine Ev.gfr (r := (20, no, c)) rfl op.2.2.2.2.1 ?_
    refine Ev.callv (a := [.inr (.inr (.inr (20, no, c)))]) rfl (mp_longer (by omega)) ?_
    refine Ev.sts 1 (c' := (27, [some (.inr (.inr (.inr (11, 0, 83)))), some (.inl (iZ (x))), some (.inl (iZ (g))), some (.inl (iZ (s))), some (.inl (iZ (e))), some (.inl (iZ (n))), some (.inl (v))], [], (setR (cpyI (grow h (2 * no)) c 0 (hN h) 0 no) 83 29 (20, (2 * no), (hN h))))) rfl ?_
    have lk := lon_ok op (by omega) hh
    exact mp_ins27 (h := lonH h c no) lk.1 hx hw (by omega) (fun h1 o1 f1 => q h1 _ _ o1 (fm_trans lk.2 f1))

def remH (h : PH) (c w l : Nat) : PH := (cpyI (setI h 83 30 ((iZ (l - 1)))) c (5 * (w + 1)) c (5 * w) (5 * ((l - 1) - w)))
theorem era_len {α : Type} (M : List α) (w : Nat) (hw : w < M.length) : (M.eraseIdx w).length = M.length - 1 := by
  rw [List.length_eraseIdx, if_pos hw]
theorem era_get {α : Type} (d : α) (M : List α) (w j : Nat) : (M.eraseIdx w).getD j d = if j < w then M.getD j d else M.getD (j + 1) d := by
  rw [List.getD_eq_getElem?_getD, List.getElem?_eraseIdx]
  split
  · rw [List.getD_eq_getElem?_getD]
  · rw [List.getD_eq_getElem?_getD]
theorem rem_ok {h : PH} {M : List Tel} {no c w : Nat} (op : opM h M no c) (hw : w < M.length) : opM (remH h c w M.length) (M.eraseIdx w) no c ∧ fm h (remH h c w M.length) c c no no := by
  obtain ⟨p1, p2, p3, p4, p5, p6, p7⟩ := op
  have hc : c ≠ 83 := by unfold aO at p6; omega
  have ec : ∀ j, (remH h c w M.length).1 c j = if 5 * w ≤ j ∧ j < 5 * w + 5 * (M.length - 1 - w) then h.1 c (5 * (w + 1) + (j - 5 * w)) else h.1 c j := by
    intro j
    unfold remH
    show (if c = c ∧ 5 * w ≤ j ∧ j < 5 * w + 5 * (M.length - 1 - w) then (setI h 83 30 _).1 c (5 * (w + 1) + (j - 5 * w)) else (setI h 83 30 _).1 c j) = _
    rw [setI_oth hc]
    by_cases z : 5 * w ≤ j ∧ j < 5 * w + 5 * (M.length - 1 - w)
    · rw [if_pos ⟨rfl, z⟩, if_pos z]
    · rw [if_neg (fun y => z y.2), if_neg z]
  refine ⟨⟨?_, by rw [era_len _ _ hw]; omega, p3, p4, p5, p6, fun j hj => ?_⟩, rfl, fun _ _ _ => rfl, fun a a1 a2 _ => ?_, fun k hk => ?_, Nat.le_refl _, Nat.le_refl _, Nat.le_refl _, Nat.le_refl _, Or.inl rfl⟩
  · rw [era_len _ _ hw]
    unfold remH
    rw [cpy_oth hc.symm, setI_self]
    congr 1; omega
  · rw [era_len _ _ hw] at hj
    rw [era_get]
    unfold rT
    rw [ec, ec, ec, ec, ec]
    by_cases z1 : j < w
    · rw [if_pos z1, if_neg (by omega), if_neg (by omega), if_neg (by omega), if_neg (by omega), if_neg (by omega)]
      exact p7 j (by omega)
    · rw [if_neg z1, if_pos (by omega), if_pos (by omega), if_pos (by omega), if_pos (by omega), if_pos (by omega)]
      have q := p7 (j + 1) (by omega)
      unfold rT at q
      rw [show 5 * (w + 1) + (5 * j + 0 - 5 * w) = 5 * (j + 1) + 0 by omega, show 5 * (w + 1) + (5 * j + 1 - 5 * w) = 5 * (j + 1) + 1 by omega, show 5 * (w + 1) + (5 * j + 2 - 5 * w) = 5 * (j + 1) + 2 by omega, show 5 * (w + 1) + (5 * j + 3 - 5 * w) = 5 * (j + 1) + 3 by omega, show 5 * (w + 1) + (5 * j + 4 - 5 * w) = 5 * (j + 1) + 4 by omega]
      exact q
  · unfold remH
    rw [cpy_oth a2, setI_oth a1]
  · unfold remH
    rw [cpy_oth hc.symm, setI_ne (by omega)]
theorem mp_remove {d no c w : Nat} {x : Int} {M : List Tel} {h : PH} {Q : Rs → PH → Prop} (op : opM h M no c) (hx : x = (w : Int)) (hw : w < M.length) (q : ∀ h1, opM h1 (M.eraseIdx w) no c → fm h h1 c c no no → Q (.inl none) h1) : Rn d 220 [.inr (.inr (.inr (11, 0, 83))), .inl (iZ (x))] h Q := by
  have o1 := op.2.1
  have o2 := op.2.2.1
  have o3 := op.2.2.2.1
  have hc : c ≠ 83 := by have := op.2.2.2.2.2.1; unfold aO at this; omega
  refine Ev.sts 2 (c' := (2, [some (.inr (.inr (.inr (11, 0, 83)))), some (.inl (iZ (x)))], [.inr (.inr (.inr (11, 0, 83))), .inr (.inr (.inr (11, 0, 83)))], h)) rfl ?_
  refine Ev.gv (w := (iZ (M.length))) rfl op.1 ?_
  refine Ev.sts 1 (c' := (6, [some (.inr (.inr (.inr (11, 0, 83)))), some (.inl (iZ (x)))], [.inl (iZ (1)), .inl (iZ (M.length)), .inr (.inr (.inr (11, 0, 83)))], h)) rfl ?_
  refine Ev.gv (w := (iZ (M.length - 1))) rfl (iZ_sub _ _) ?_
  refine Ev.sts 2 (c' := (11, [some (.inr (.inr (.inr (11, 0, 83)))), some (.inl (iZ (x)))], [.inr (.inr (.inr (11, 0, 83)))], (setI h 83 30 ((iZ (M.length - 1)))))) rfl ?_
  refine Ev.gfr (r := (20, no, c)) rfl op.2.2.2.2.1 ?_
  refine Ev.sts 3 (c' := (17, [some (.inr (.inr (.inr (11, 0, 83)))), some (.inl (iZ (x)))], [.inl (iZ (1)), .inl (iZ (x)), .inl (iZ (5)), .inr (.inr (.inr (20, no, c)))], (setI h 83 30 ((iZ (M.length - 1)))))) rfl ?_
  refine Ev.gv (w := (iZ (x + 1))) rfl (iZ_add _ _) ?_
  refine Ev.gv (w := (iZ (5 * (x + 1)))) rfl (iZ_mul _ _) ?_
  refine Ev.sts 1 (c' := (20, [some (.inr (.inr (.inr (11, 0, 83)))), some (.inl (iZ (x)))], [.inr (.inr (.inr (11, 0, 83))), .inl (iZ (5 * (x + 1))), .inr (.inr (.inr (20, no, c)))], (setI h 83 30 ((iZ (M.length - 1)))))) rfl ?_
  refine Ev.gfr (r := (20, no, c)) rfl op.2.2.2.2.1 ?_
  refine Ev.sts 2 (c' := (25, [some (.inr (.inr (.inr (11, 0, 83)))), some (.inl (iZ (x)))], [.inl (iZ (x)), .inl (iZ (5)), .inr (.inr (.inr (20, no, c))), .inl (iZ (5 * (x + 1))), .inr (.inr (.inr (20, no, c)))], (setI h 83 30 ((iZ (M.length - 1)))))) rfl ?_
  refine Ev.gv (w := (iZ (5 * x))) rfl (iZ_mul _ _) ?_
  refine Ev.sts 2 (c' := (28, [some (.inr (.inr (.inr (11, 0, 83)))), some (.inl (iZ (x)))], [.inr (.inr (.inr (11, 0, 83))), .inl (iZ (5)), .inl (iZ (5 * x)), .inr (.inr (.inr (20, no, c))), .inl (iZ (5 * (x + 1))), .inr (.inr (.inr (20, no, c)))], (setI h 83 30 ((iZ (M.length - 1)))))) rfl ?_
  refine Ev.gv (w := (iZ (M.length - 1))) rfl (setI_self _ _ _ _) ?_
  refine Ev.sts 1 (c' := (32, [some (.inr (.inr (.inr (11, 0, 83)))), some (.inl (iZ (x)))], [.inl (iZ (x)), .inl (iZ (M.length - 1)), .inl (iZ (5)), .inl (iZ (5 * x)), .inr (.inr (.inr (20, no, c))), .inl (iZ (5 * (x + 1))), .inr (.inr (.inr (20, no, c)))], (setI h 83 30 ((iZ (M.length - 1)))))) rfl ?_
  refine Ev.gv (w := (iZ ((M.length - 1) - x))) rfl (iZ_sub _ _) ?_
  refine Ev.gv (w := (iZ (5 * ((M.length - 1) - x)))) rfl (iZ_mul _ _) ?_
  refine Ev.pc (p := (iZ (5 * (x + 1))) < 0 ∨ (iZ (5 * x)) < 0 ∨ (iZ (5 * ((M.length - 1) - x))) < 0 ∨ no < ((iZ (5 * (x + 1)))).toNatClampNeg + ((iZ (5 * ((M.length - 1) - x)))).toNatClampNeg ∨ no < ((iZ (5 * x))).toNatClampNeg + ((iZ (5 * ((M.length - 1) - x)))).toNatClampNeg) (c1 := (37, [some (.inr (.inr (.inr (11, 0, 83)))), some (.inl (iZ (x)))], [], (cpyI (setI h 83 30 ((iZ (M.length - 1)))) c ((iZ (5 * (x + 1)))).toNatClampNeg c ((iZ (5 * x))).toNatClampNeg ((iZ (5 * ((M.length - 1) - x)))).toNatClampNeg))) (c2 := (37, [some (.inr (.inr (.inr (11, 0, 83)))), some (.inl (iZ (x)))], [], (cpyI (setI h 83 30 ((iZ (M.length - 1)))) c (5 * (w + 1)) c (5 * w) (5 * ((M.length - 1) - w))))) (cpy_in (s := 5 * (w + 1)) (d := 5 * w) (k := 5 * ((M.length - 1) - w)) (by omega) (by omega) (by omega) (by omega) (by omega) (by omega) (by omega)) rfl (by rw [cpy_c (s := 5 * (w + 1)) (d := 5 * w) (k := 5 * ((M.length - 1) - w)) (by omega) (by omega) (by omega) (by omega) (by omega) (by omega)]) ?_
  exact Ev.ret rfl (q _ (rem_ok op hw).1 (rem_ok op hw).2)

/-- where a window of goose g with start s stands, or would stand -/
def plM : List Tel → Nat → Int → Nat
  | [], _, _ => 0
  | t :: M, g, s => if t.1 < g ∨ (t.1 = g ∧ t.2.1 < s) then plM M g s + 1 else 0
theorem plM_le (M : List Tel) (g : Nat) (s : Int) : plM M g s ≤ M.length := by
  induction M with
  | nil => exact Nat.le_refl _
  | cons t M ih =>
    show (if t.1 < g ∨ (t.1 = g ∧ t.2.1 < s) then plM M g s + 1 else 0) ≤ M.length + 1
    split <;> omega
def fndM (M : List Tel) (g : Nat) (s : Int) : Int := if plM M g s < M.length ∧ (M.getD (plM M g s) t0).1 = g ∧ (M.getD (plM M g s) t0).2.1 = s then (plM M g s : Int) else -(plM M g s : Int) - 1
theorem mp_fl_lp {d no c g : Nat} {s N : Int} {M : List Tel} {h : PH} {Q : Rs → PH → Prop} (op : opM h M no c) (hn : tsB N M) (hs : -2147483648 ≤ s ∧ s < 2147483648) (hg : g < 6) (m : Nat) : ∀ (k : Nat), k ≤ M.length → M.length < k + m → (Ev (d + 1) 221 (46, [some (.inr (.inr (.inr (11, 0, 83)))), some (.inl (iZ (g))), some (.inl (iZ (s))), some (.inl (iZ ((k + plM (M.drop k) g s : Nat))))], [], h) Q) → Ev (d + 1) 221 (2, [some (.inr (.inr (.inr (11, 0, 83)))), some (.inl (iZ (g))), some (.inl (iZ (s))), some (.inl (iZ (k)))], [], h) Q := by
  have o1 := op.2.1
  have o2 := op.2.2.1
  have o3 := op.2.2.2.1
  have hc : c ≠ 83 := by have := op.2.2.2.2.2.1; unfold aO at this; omega
  induction m with
  | zero => intro k h1 h2 q; omega
  | succ m ih =>
    intro k h1 h2 q
    refine Ev.sts 2 (c' := (4, [some (.inr (.inr (.inr (11, 0, 83)))), some (.inl (iZ (g))), some (.inl (iZ (s))), some (.inl (iZ (k)))], [.inr (.inr (.inr (11, 0, 83))), .inl (iZ (k))], h)) rfl ?_
    refine Ev.gv (w := (iZ (M.length))) rfl op.1 ?_
    refine Ev.brc (p := (iZ (M.length)) ≤ (iZ (k))) (q := ((M.length : Int)) ≤ k) (c1 := (46, [some (.inr (.inr (.inr (11, 0, 83)))), some (.inl (iZ (g))), some (.inl (iZ (s))), some (.inl (iZ (k)))], [], h)) (c2 := (10, [some (.inr (.inr (.inr (11, 0, 83)))), some (.inl (iZ (g))), some (.inl (iZ (s))), some (.inl (iZ (k)))], [], h)) rfl (iZ_le ⟨by omega, by omega⟩ ⟨by omega, by omega⟩) (fun c0 => ?_) (fun c0 => ?_)
    · rw [List.drop_eq_nil_of_le (show M.length ≤ k by omega)] at q
      exact q
    · obtain ⟨b0, b1, b2, b3, b4, b5, b6⟩ := hn k (by omega)
      have e0 := drop_getD t0 M k (by omega)
      refine Ev.sts 3 (c' := (13, [some (.inr (.inr (.inr (11, 0, 83)))), some (.inl (iZ (g))), some (.inl (iZ (s))), some (.inl (iZ (k)))], [.inl (iZ (0)), .inl (iZ (k)), .inr (.inr (.inr (11, 0, 83)))], h)) rfl ?_
      refine Ev.callv (a := [.inr (.inr (.inr (11, 0, 83))), .inl (iZ (k)), .inl (iZ (0))]) rfl (mp_win0 (w := k) op (by omega) (by omega) rfl) ?_
      refine Ev.sts 1 (c' := (17, [some (.inr (.inr (.inr (11, 0, 83)))), some (.inl (iZ (g))), some (.inl (iZ (s))), some (.inl (iZ (k)))], [.inl (iZ (g)), .inl (iZ ((M.getD k t0).1))], h)) rfl ?_
      refine Ev.brc (p := (iZ ((M.getD k t0).1)) < (iZ (g))) (q := (((M.getD k t0).1 : Int)) < g) (c1 := (40, [some (.inr (.inr (.inr (11, 0, 83)))), some (.inl (iZ (g))), some (.inl (iZ (s))), some (.inl (iZ (k)))], [], h)) (c2 := (20, [some (.inr (.inr (.inr (11, 0, 83)))), some (.inl (iZ (g))), some (.inl (iZ (s))), some (.inl (iZ (k)))], [], h)) rfl (iZ_lt ⟨by omega, by omega⟩ ⟨by omega, by omega⟩) (fun c1 => ?_) (fun c1 => ?_)
      · refine Ev.stc (c1 := (43, [some (.inr (.inr (.inr (11, 0, 83)))), some (.inl (iZ (g))), some (.inl (iZ (s))), some (.inl ((iZ (k)) + (iZ (1))))], [], h)) (c2 := (43, [some (.inr (.inr (.inr (11, 0, 83)))), some (.inl (iZ (g))), some (.inl (iZ (s))), some (.inl (iZ (k + 1)))], [], h)) rfl (by rw [iZ_add]) ?_
        refine Ev.sts 1 (c' := (2, [some (.inr (.inr (.inr (11, 0, 83)))), some (.inl (iZ (g))), some (.inl (iZ (s))), some (.inl (iZ (k + 1)))], [], h)) rfl ?_
        refine ih (k + 1) (by omega) (by omega) ?_
        rw [e0, show plM (M.getD k t0 :: M.drop (k + 1)) g s = plM (M.drop (k + 1)) g s + 1 from if_pos (by omega)] at q
        rw [show ((k + 1 + plM (M.drop (k + 1)) g s : Nat)) = k + (plM (M.drop (k + 1)) g s + 1) by omega]
        exact q
      · refine Ev.sts 3 (c' := (23, [some (.inr (.inr (.inr (11, 0, 83)))), some (.inl (iZ (g))), some (.inl (iZ (s))), some (.inl (iZ (k)))], [.inl (iZ (0)), .inl (iZ (k)), .inr (.inr (.inr (11, 0, 83)))], h)) rfl ?_
        refine Ev.callv (a := [.inr (.inr (.inr (11, 0, 83))), .inl (iZ (k)), .inl (iZ (0))]) rfl (mp_win0 (w := k) op (by omega) (by omega) rfl) ?_
        refine Ev.sts 1 (c' := (27, [some (.inr (.inr (.inr (11, 0, 83)))), some (.inl (iZ (g))), some (.inl (iZ (s))), some (.inl (iZ (k)))], [.inl (iZ (g)), .inl (iZ ((M.getD k t0).1))], h)) rfl ?_
        refine Ev.brc (p := ¬ (iZ ((M.getD k t0).1)) = (iZ (g))) (q := ¬ (((M.getD k t0).1 : Int)) = g) (c1 := (46, [some (.inr (.inr (.inr (11, 0, 83)))), some (.inl (iZ (g))), some (.inl (iZ (s))), some (.inl (iZ (k)))], [], h)) (c2 := (30, [some (.inr (.inr (.inr (11, 0, 83)))), some (.inl (iZ (g))), some (.inl (iZ (s))), some (.inl (iZ (k)))], [], h)) rfl (not_congr (iZ_eq ⟨by omega, by omega⟩ ⟨by omega, by omega⟩)) (fun c2 => ?_) (fun c2 => ?_)
        · rw [e0, show plM (M.getD k t0 :: M.drop (k + 1)) g s = 0 from if_neg (by omega)] at q
          exact q
        · refine Ev.sts 3 (c' := (33, [some (.inr (.inr (.inr (11, 0, 83)))), some (.inl (iZ (g))), some (.inl (iZ (s))), some (.inl (iZ (k)))], [.inl (iZ (1)), .inl (iZ (k)), .inr (.inr (.inr (11, 0, 83)))], h)) rfl ?_
          refine Ev.callv (a := [.inr (.inr (.inr (11, 0, 83))), .inl (iZ (k)), .inl (iZ (1))]) rfl (mp_win1 (w := k) op (by omega) (by omega) rfl) ?_
          refine Ev.sts 1 (c' := (37, [some (.inr (.inr (.inr (11, 0, 83)))), some (.inl (iZ (g))), some (.inl (iZ (s))), some (.inl (iZ (k)))], [.inl (iZ (s)), .inl (iZ ((M.getD k t0).2.1))], h)) rfl ?_
          refine Ev.brc (p := (iZ (s)) ≤ (iZ ((M.getD k t0).2.1))) (q := ((s : Int)) ≤ ((M.getD k t0).2.1)) (c1 := (46, [some (.inr (.inr (.inr (11, 0, 83)))), some (.inl (iZ (g))), some (.inl (iZ (s))), some (.inl (iZ (k)))], [], h)) (c2 := (40, [some (.inr (.inr (.inr (11, 0, 83)))), some (.inl (iZ (g))), some (.inl (iZ (s))), some (.inl (iZ (k)))], [], h)) rfl (iZ_le ⟨by omega, by omega⟩ ⟨by omega, by omega⟩) (fun c3 => ?_) (fun c3 => ?_)
          · rw [e0, show plM (M.getD k t0 :: M.drop (k + 1)) g s = 0 from if_neg (by omega)] at q
            exact q
          · refine Ev.stc (c1 := (43, [some (.inr (.inr (.inr (11, 0, 83)))), some (.inl (iZ (g))), some (.inl (iZ (s))), some (.inl ((iZ (k)) + (iZ (1))))], [], h)) (c2 := (43, [some (.inr (.inr (.inr (11, 0, 83)))), some (.inl (iZ (g))), some (.inl (iZ (s))), some (.inl (iZ (k + 1)))], [], h)) rfl (by rw [iZ_add]) ?_
            refine Ev.sts 1 (c' := (2, [some (.inr (.inr (.inr (11, 0, 83)))), some (.inl (iZ (g))), some (.inl (iZ (s))), some (.inl (iZ (k + 1)))], [], h)) rfl ?_
            refine ih (k + 1) (by omega) (by omega) ?_
            rw [e0, show plM (M.getD k t0 :: M.drop (k + 1)) g s = plM (M.drop (k + 1)) g s + 1 from if_pos (by omega)] at q
            rw [show ((k + 1 + plM (M.drop (k + 1)) g s : Nat)) = k + (plM (M.drop (k + 1)) g s + 1) by omega]
            exact q

theorem mp_find {d no c g : Nat} {s N : Int} {M : List Tel} {h : PH} (op : opM h M no c) (hn : tsB N M) (hs : -2147483648 ≤ s ∧ s < 2147483648) (hg : g < 6) : Rv (d + 1) 221 [.inr (.inr (.inr (11, 0, 83))), .inl (iZ (g)), .inl (iZ (s))] h (some (.inl (iZ (fndM M g s)))) h := Rv.of fun Q q => by
  have o1 := op.2.1
  have o2 := op.2.2.1
  have o3 := op.2.2.2.1
  have hc : c ≠ 83 := by have := op.2.2.2.2.2.1; unfold aO at this; omega
  have hp := plM_le M g s
  refine Ev.sts 2 (c' := (2, [some (.inr (.inr (.inr (11, 0, 83)))), some (.inl (iZ (g))), some (.inl (iZ (s))), some (.inl (iZ (0)))], [], h)) rfl ?_
  refine mp_fl_lp op hn hs hg (M.length + 1) 0 (by omega) (by omega) ?_
  rw [List.drop_zero, Nat.zero_add]
  refine Ev.sts 2 (c' := (48, [some (.inr (.inr (.inr (11, 0, 83)))), some (.inl (iZ (g))), some (.inl (iZ (s))), some (.inl (iZ (plM M g s)))], [.inr (.inr (.inr (11, 0, 83))), .inl (iZ (plM M g s))], h)) rfl ?_
  refine Ev.gv (w := (iZ (M.length))) rfl op.1 ?_
  refine Ev.brc (p := (iZ (M.length)) ≤ (iZ (plM M g s))) (q := ((M.length : Int)) ≤ (plM M g s)) (c1 := (78, [some (.inr (.inr (.inr (11, 0, 83)))), some (.inl (iZ (g))), some (.inl (iZ (s))), some (.inl (iZ (plM M g s)))], [], h)) (c2 := (54, [some (.inr (.inr (.inr (11, 0, 83)))), some (.inl (iZ (g))), some (.inl (iZ (s))), some (.inl (iZ (plM M g s)))], [], h)) rfl (iZ_le ⟨by omega, by omega⟩ ⟨by omega, by omega⟩) (fun c0 => ?_) (fun c0 => ?_)
  · refine Ev.sts 1 (c' := (79, [some (.inr (.inr (.inr (11, 0, 83)))), some (.inl (iZ (g))), some (.inl (iZ (s))), some (.inl (iZ (plM M g s)))], [.inl (iZ (plM M g s))], h)) rfl ?_
    refine Ev.gv (w := (iZ (-(plM M g s)))) rfl (iZ_neg _) ?_
    refine Ev.sts 1 (c' := (81, [some (.inr (.inr (.inr (11, 0, 83)))), some (.inl (iZ (g))), some (.inl (iZ (s))), some (.inl (iZ (plM M g s)))], [.inl (iZ (1)), .inl (iZ (-(plM M g s)))], h)) rfl ?_
    refine Ev.gv (w := (iZ ((-(plM M g s)) - 1))) rfl (iZ_sub _ _) ?_
    rw [show fndM M g s = -(plM M g s : Int) - 1 from if_neg (fun z => by omega)] at q
    exact Ev.ret rfl q
  · obtain ⟨b0, b1, b2, b3, b4, b5, b6⟩ := hn (plM M g s) (by omega)
    refine Ev.sts 3 (c' := (57, [some (.inr (.inr (.inr (11, 0, 83)))), some (.inl (iZ (g))), some (.inl (iZ (s))), some (.inl (iZ (plM M g s)))], [.inl (iZ (0)), .inl (iZ (plM M g s)), .inr (.inr (.inr (11, 0, 83)))], h)) rfl ?_
    refine Ev.callv (a := [.inr (.inr (.inr (11, 0, 83))), .inl (iZ (plM M g s)), .inl (iZ (0))]) rfl (mp_win0 (w := plM M g s) op (by omega) (by omega) rfl) ?_
    refine Ev.sts 1 (c' := (61, [some (.inr (.inr (.inr (11, 0, 83)))), some (.inl (iZ (g))), some (.inl (iZ (s))), some (.inl (iZ (plM M g s)))], [.inl (iZ (g)), .inl (iZ ((M.getD (plM M g s) t0).1))], h)) rfl ?_
    refine Ev.brc (p := ¬ (iZ ((M.getD (plM M g s) t0).1)) = (iZ (g))) (q := ¬ (((M.getD (plM M g s) t0).1 : Int)) = g) (c1 := (78, [some (.inr (.inr (.inr (11, 0, 83)))), some (.inl (iZ (g))), some (.inl (iZ (s))), some (.inl (iZ (plM M g s)))], [], h)) (c2 := (64, [some (.inr (.inr (.inr (11, 0, 83)))), some (.inl (iZ (g))), some (.inl (iZ (s))), some (.inl (iZ (plM M g s)))], [], h)) rfl (not_congr (iZ_eq ⟨by omega, by omega⟩ ⟨by omega, by omega⟩)) (fun c1 => ?_) (fun c1 => ?_)
    · refine Ev.sts 1 (c' := (79, [some (.inr (.inr (.inr (11, 0, 83)))), some (.inl (iZ (g))), some (.inl (iZ (s))), some (.inl (iZ (plM M g s)))], [.inl (iZ (plM M g s))], h)) rfl ?_
      refine Ev.gv (w := (iZ (-(plM M g s)))) rfl (iZ_neg _) ?_
      refine Ev.sts 1 (c' := (81, [some (.inr (.inr (.inr (11, 0, 83)))), some (.inl (iZ (g))), some (.inl (iZ (s))), some (.inl (iZ (plM M g s)))], [.inl (iZ (1)), .inl (iZ (-(plM M g s)))], h)) rfl ?_
      refine Ev.gv (w := (iZ ((-(plM M g s)) - 1))) rfl (iZ_sub _ _) ?_
      rw [show fndM M g s = -(plM M g s : Int) - 1 from if_neg (fun z => by omega)] at q
      exact Ev.ret rfl q
    · refine Ev.sts 3 (c' := (67, [some (.inr (.inr (.inr (11, 0, 83)))), some (.inl (iZ (g))), some (.inl (iZ (s))), some (.inl (iZ (plM M g s)))], [.inl (iZ (1)), .inl (iZ (plM M g s)), .inr (.inr (.inr (11, 0, 83)))], h)) rfl ?_
      refine Ev.callv (a := [.inr (.inr (.inr (11, 0, 83))), .inl (iZ (plM M g s)), .inl (iZ (1))]) rfl (mp_win1 (w := plM M g s) op (by omega) (by omega) rfl) ?_
      refine Ev.sts 1 (c' := (71, [some (.inr (.inr (.inr (11, 0, 83)))), some (.inl (iZ (g))), some (.inl (iZ (s))), some (.inl (iZ (plM M g s)))], [.inl (iZ (s)), .inl (iZ ((M.getD (plM M g s) t0).2.1))], h)) rfl ?_
      refine Ev.brc (p := ¬ (iZ ((M.getD (plM M g s) t0).2.1)) = (iZ (s))) (q := ¬ (((M.getD (plM M g s) t0).2.1 : Int)) = s) (c1 := (78, [some (.inr (.inr (.inr (11, 0, 83)))), some (.inl (iZ (g))), some (.inl (iZ (s))), some (.inl (iZ (plM M g s)))], [], h)) (c2 := (74, [some (.inr (.inr (.inr (11, 0, 83)))), some (.inl (iZ (g))), some (.inl (iZ (s))), some (.inl (iZ (plM M g s)))], [], h)) rfl (not_congr (iZ_eq ⟨by omega, by omega⟩ ⟨by omega, by omega⟩)) (fun c2 => ?_) (fun c2 => ?_)
      · refine Ev.sts 1 (c' := (79, [some (.inr (.inr (.inr (11, 0, 83)))), some (.inl (iZ (g))), some (.inl (iZ (s))), some (.inl (iZ (plM M g s)))], [.inl (iZ (plM M g s))], h)) rfl ?_
        refine Ev.gv (w := (iZ (-(plM M g s)))) rfl (iZ_neg _) ?_
        refine Ev.sts 1 (c' := (81, [some (.inr (.inr (.inr (11, 0, 83)))), some (.inl (iZ (g))), some (.inl (iZ (s))), some (.inl (iZ (plM M g s)))], [.inl (iZ (1)), .inl (iZ (-(plM M g s)))], h)) rfl ?_
        refine Ev.gv (w := (iZ ((-(plM M g s)) - 1))) rfl (iZ_sub _ _) ?_
        rw [show fndM M g s = -(plM M g s : Int) - 1 from if_neg (fun z => by omega)] at q
        exact Ev.ret rfl q
      · refine Ev.sts 2 (c' := (82, [some (.inr (.inr (.inr (11, 0, 83)))), some (.inl (iZ (g))), some (.inl (iZ (s))), some (.inl (iZ (plM M g s)))], [.inl (iZ (plM M g s))], h)) rfl ?_
        rw [show fndM M g s = (plM M g s : Int) from if_pos ⟨by omega, by omega, by omega⟩] at q
        exact Ev.ret rfl q

