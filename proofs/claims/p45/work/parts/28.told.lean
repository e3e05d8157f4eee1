/-! What the class has told: rows that grow; windows that are over. -/
abbrev Tel : Type := Nat × Win
def t0 : Tel := (0, w0)
abbrev Q5 : Type := Nat × Nat × Nat × Nat × Nat
def nL : List Nat := [64, 128, 256, 512, 1024, 2048, 4096, 5040]
def qO (x N : Nat) : Prop := (63 ≤ x ∧ x ≤ 67 ∨ 83 ≤ x) ∧ x < N
def qD (q : Q5) (N : Nat) : Prop := qO q.1 N ∧ qO q.2.1 N ∧ qO q.2.2.1 N ∧ qO q.2.2.2.1 N ∧ qO q.2.2.2.2 N ∧ q.1 ≠ q.2.1 ∧ q.1 ≠ q.2.2.1 ∧ q.1 ≠ q.2.2.2.1 ∧ q.1 ≠ q.2.2.2.2 ∧ q.2.1 ≠ q.2.2.1 ∧ q.2.1 ≠ q.2.2.2.1 ∧ q.2.1 ≠ q.2.2.2.2 ∧ q.2.2.1 ≠ q.2.2.2.1 ∧ q.2.2.1 ≠ q.2.2.2.2 ∧ q.2.2.2.1 ≠ q.2.2.2.2
def qR (h : PH) (n : Nat) (q : Q5) : Prop := h.2.2.1 62 0 = (20, n, q.1) ∧ h.2.2.1 62 1 = (20, n, q.2.1) ∧ h.2.2.1 62 2 = (20, n, q.2.2.1) ∧ h.2.2.1 62 3 = (20, n, q.2.2.2.1) ∧ h.2.2.1 62 4 = (20, n, q.2.2.2.2)
def qT (h : PH) (q : Q5) (j : Nat) (t : Tel) : Prop := h.1 q.1 j = iZ t.1 ∧ h.1 q.2.1 j = iZ t.2.1 ∧ h.1 q.2.2.1 j = iZ t.2.2.1 ∧ h.1 q.2.2.2.1 j = iZ t.2.2.2.1 ∧ h.1 q.2.2.2.2 j = t.2.2.2.2
/-- the class's rows of what was told -/
def tlC (h : PH) (TL : List Tel) (n : Nat) (q : Q5) : Prop := h.1 62 5 = iZ TL.length ∧ TL.length ≤ n ∧ n ∈ nL ∧ qR h n q ∧ qD q (hN h) ∧ ∀ j, j < TL.length → qT h q j (TL.getD j t0)
def qN (q : Q5) (a : Nat) : Prop := a ≠ q.1 ∧ a ≠ q.2.1 ∧ a ≠ q.2.2.1 ∧ a ≠ q.2.2.2.1 ∧ a ≠ q.2.2.2.2
def qU (q q' : Q5) (N : Nat) : Prop := (q'.1 = q.1 ∨ N ≤ q'.1) ∧ (q'.2.1 = q.2.1 ∨ N ≤ q'.2.1) ∧ (q'.2.2.1 = q.2.2.1 ∨ N ≤ q'.2.2.1) ∧ (q'.2.2.2.1 = q.2.2.2.1 ∨ N ≤ q'.2.2.2.1) ∧ (q'.2.2.2.2 = q.2.2.2.2 ∨ N ≤ q'.2.2.2.2)
def FZ (P : Nat → Prop) (h h' : PH) : Prop := ∀ a, ¬ P a → a ≠ 62 → hN h' ≤ a → h'.1 a = h.1 a
/-- what a step of the class may change: cells of P, what was told; how much it takes -/
def FX (P : Nat → Prop) (h h' : PH) (q q' : Q5) (n n' : Nat) : Prop := (h'.2.1 = h.2.1 ∧ FZ P h h') ∧ (∀ a k, a ≠ 62 → h'.2.2.1 a k = h.2.2.1 a k) ∧ (∀ a, ¬ P a → a ≠ 62 → qN q a → a < hN h → h'.1 a = h.1 a) ∧ hN h ≤ hN h' ∧ n ≤ n' ∧ hN h' + n ≤ hN h + n' ∧ hS h' + 30 * n ≤ hS h + 30 * n' ∧ qU q q' (hN h)
def pF (_ : Nat) : Prop := False
theorem qU_refl (q : Q5) (N : Nat) : qU q q N := ⟨Or.inl rfl, Or.inl rfl, Or.inl rfl, Or.inl rfl, Or.inl rfl⟩
theorem FX_refl (P : Nat → Prop) (h : PH) (q : Q5) (n : Nat) : FX P h h q q n n := ⟨⟨rfl, fun _ _ _ _ => rfl⟩, fun _ _ _ => rfl, fun _ _ _ _ _ => rfl, Nat.le_refl _, Nat.le_refl _, Nat.le_refl _, Nat.le_refl _, qU_refl _ _⟩
theorem or_tr {a b c N M : Nat} (x : b = a ∨ N ≤ b) (y : c = b ∨ M ≤ c) (z : N ≤ M) : c = a ∨ N ≤ c := by omega
theorem ne_tr {x a b N : Nat} (c : x ≠ a) (h : b = a ∨ N ≤ b) (l : x < N) : x ≠ b := by omega
theorem FX_trans {P : Nat → Prop} {h h1 h2 : PH} {q q1 q2 : Q5} {n n1 n2 : Nat} (a : FX P h h1 q q1 n n1) (b : FX P h1 h2 q1 q2 n1 n2) : FX P h h2 q q2 n n2 := by
  obtain ⟨a1, a2, a3, a4, a5, a6, a7, a8, a9, a10, a11, a12⟩ := a
  obtain ⟨b1, b2, b3, b4, b5, b6, b7, b8, b9, b10, b11, b12⟩ := b
  refine ⟨⟨b1.1.trans a1.1, fun x p1 p2 p3 => (b1.2 x p1 p2 p3).trans (a1.2 x p1 p2 (Nat.le_trans b4 p3))⟩, fun x k hx => (b2 x k hx).trans (a2 x k hx), fun x p1 p2 p3 p4 => ?_, by omega, by omega, by omega, by omega, or_tr a8 b8 a4, or_tr a9 b9 a4, or_tr a10 b10 a4, or_tr a11 b11 a4, or_tr a12 b12 a4⟩
  obtain ⟨c1, c2, c3, c4, c5⟩ := p3
  exact (b3 x p1 p2 ⟨ne_tr c1 a8 p4, ne_tr c2 a9 p4, ne_tr c3 a10 p4, ne_tr c4 a11 p4, ne_tr c5 a12 p4⟩ (Nat.lt_of_lt_of_le p4 a4)).trans (a3 x p1 p2 ⟨c1, c2, c3, c4, c5⟩ p4)
theorem FX_mono {P P' : Nat → Prop} {h h1 : PH} {q q1 : Q5} {n n1 : Nat} (a : FX P h h1 q q1 n n1) (e : ∀ x, P x → P' x) : FX P' h h1 q q1 n n1 :=
  ⟨⟨a.1.1, fun x p1 => a.1.2 x (fun z => p1 (e x z))⟩, a.2.1, fun x p1 p2 p3 p4 => a.2.2.1 x (fun z => p1 (e x z)) p2 p3 p4, a.2.2.2⟩
def pW (g a : Nat) : Prop := 32 + 5 * g ≤ a ∧ a ≤ 36 + 5 * g
theorem FX_fw {g : Nat} {h h1 : PH} (f : fw g h h1) (q : Q5) (n : Nat) : FX (pW g) h h1 q q n n := by
  obtain ⟨f1, f2, f3⟩ := f
  refine ⟨⟨by rw [f1], fun a p _ _ => f2 a (by unfold pW at p; omega)⟩, fun _ _ _ => by rw [f1], fun a p _ _ _ => f2 a (by unfold pW at p; omega), ?_, Nat.le_refl _, ?_, ?_, qU_refl _ _⟩
  · unfold hN; rw [f1]; exact Nat.le_refl _
  · unfold hN; rw [f1]; exact Nat.le_refl _
  · unfold hS; rw [f1]; exact Nat.le_refl _
theorem Sh_FX {P : Nat → Prop} {h h' : PH} {q q' : Q5} {n n' : Nat} (s : Sh h) (f : FX P h h' q q' n n') : Sh h' := by
  intro t ht
  have h1 : ∀ t ∈ shL, t.1 ≠ 62 := by decide
  rw [f.2.1 t.1 t.2.1 (h1 t ht)]
  exact s t ht
theorem gooC_FX {P : Nat → Prop} {h h' : PH} {q q' : Q5} {n n' ga tl : Nat} {wd st : Int} (f : FX P h h' q q' n n') (hq : qD q (hN h)) (hp : ¬ P ga) (hga : ga < 31 ∨ 67 < ga ∧ ga < 83) (hh : 83 ≤ hN h) (go : gooC h ga wd st tl) : gooC h' ga wd st tl := by
  have e : h'.1 ga = h.1 ga := by
    obtain ⟨d1, d2, d3, d4, d5, -⟩ := hq
    unfold qO at d1 d2 d3 d4 d5
    exact f.2.2.1 ga hp (by omega) ⟨by omega, by omega, by omega, by omega, by omega⟩ (by omega)
  unfold gooC
  rw [e, f.2.1 ga 4 (by omega)]
  exact go
theorem cpy_oth {h : PH} {a sp b dp n x : Nat} (e : x ≠ b) : (cpyI h a sp b dp n).1 x = h.1 x := by
  funext j
  exact if_neg (fun z => e z.1)
theorem cpy_at {h : PH} {a b n j : Nat} (e : j < n) : (cpyI h a 0 b 0 n).1 b j = h.1 a j := by
  show (if b = b ∧ 0 ≤ j ∧ j < 0 + n then h.1 a (0 + (j - 0)) else h.1 b j) = _
  rw [if_pos ⟨rfl, by omega, by omega⟩, Nat.zero_add, Nat.sub_zero]
theorem iZ_cl0 : (iZ 0).toNatClampNeg = 0 := rfl
theorem sp_copyOf {d n m a : Nat} {x : Int} {h : PH} (hx : x = (m : Int)) (hn : n < m) (hm : m ≤ 100000) : Rv d 219 [.inr (.inr (.inr (20, n, a))), .inl (iZ (x))] h (some (.inr (.inr (.inr (20, m, hN h))))) (cpyI (grow h m) a 0 (hN h) 0 n) := Rv.of fun Q q => by
  refine Ev.sts 2 (c' := (2, [some (.inr (.inr (.inr (20, n, a)))), some (.inl (iZ (x))), none], [.inr (.inr (.inr (20, n, a))), .inl (iZ (x))], h)) rfl ?_
  refine Ev.gv (w := (iZ (n))) rfl (iZ_nat _) ?_
  refine Ev.brT (p := ¬ (iZ (x)) = (iZ (n))) (c1 := (14, [some (.inr (.inr (.inr (20, n, a)))), some (.inl (iZ (x))), none], [], h)) (c2 := (6, [some (.inr (.inr (.inr (20, n, a)))), some (.inl (iZ (x))), none], [], h)) ((not_congr (iZ_eq ⟨by omega, by omega⟩ ⟨by omega, by omega⟩)).mpr (by omega)) rfl ?_
  refine Ev.sts 1 (c' := (15, [some (.inr (.inr (.inr (20, n, a)))), some (.inl (iZ (x))), none], [.inl (iZ (x))], h)) rfl ?_
  refine Ev.pc (p := iZ x < 0 ∨ 100000 < (iZ x).toNatClampNeg) (c1 := (17, [some (.inr (.inr (.inr (20, n, a)))), some (.inl (iZ (x))), none], [.inr (.inr (.inr ((20, (iZ (x)).toNatClampNeg, hN h))))], (grow h (iZ (x)).toNatClampNeg))) (c2 := (17, [some (.inr (.inr (.inr (20, n, a)))), some (.inl (iZ (x))), none], [.inr (.inr (.inr (20, m, (hN h))))], (grow h m))) (by rw [iZ_ix hx (by omega), iZ_l0, iZ_lt ⟨by omega, by omega⟩ ⟨by omega, by omega⟩]; omega) rfl (by rw [iZ_ix hx (by omega)]) ?_
  refine Ev.sts 6 (c' := (23, [some (.inr (.inr (.inr (20, n, a)))), some (.inl (iZ (x))), some (.inr (.inr (.inr (20, m, (hN h)))))], [.inr (.inr (.inr (20, n, a))), .inl (iZ (0)), .inr (.inr (.inr (20, m, (hN h)))), .inl (iZ (0)), .inr (.inr (.inr (20, n, a)))], (grow h m))) rfl ?_
  refine Ev.gv (w := (iZ (n))) rfl (iZ_nat _) ?_
  refine Ev.sts 1 (c' := (25, [some (.inr (.inr (.inr (20, n, a)))), some (.inl (iZ (x))), some (.inr (.inr (.inr (20, m, (hN h)))))], [.inl (iZ (x)), .inl (iZ (n)), .inl (iZ (0)), .inr (.inr (.inr (20, m, (hN h)))), .inl (iZ (0)), .inr (.inr (.inr (20, n, a)))], (grow h m))) rfl ?_
  refine Ev.gv (w := (iZ (min n x))) rfl (iZ_min ⟨by omega, by omega⟩ ⟨by omega, by omega⟩) ?_
  have em : min (n : Int) x = (n : Int) := by omega
  refine Ev.pc (p := iZ (0) < 0 ∨ iZ (0) < 0 ∨ iZ (min n x) < 0 ∨ n < (iZ (0)).toNatClampNeg + (iZ (min n x)).toNatClampNeg ∨ m < (iZ (0)).toNatClampNeg + (iZ (min n x)).toNatClampNeg) (c1 := (31, [some (.inr (.inr (.inr (20, n, a)))), some (.inl (iZ (x))), some (.inr (.inr (.inr (20, m, (hN h)))))], [], (cpyI (grow h m) a (iZ (0)).toNatClampNeg (hN h) (iZ (0)).toNatClampNeg (iZ (min n x)).toNatClampNeg))) (c2 := (31, [some (.inr (.inr (.inr (20, n, a)))), some (.inl (iZ (x))), some (.inr (.inr (.inr (20, m, (hN h)))))], [], (cpyI (grow h m) a 0 (hN h) 0 n))) (by rw [em, iZ_cl0, iZ_ix (n := n) rfl (by omega), iZ_l0, iZ_lt ⟨by omega, by omega⟩ ⟨by omega, by omega⟩, iZ_lt ⟨by omega, by omega⟩ ⟨by omega, by omega⟩]; omega) rfl (by rw [em, iZ_cl0, iZ_ix (n := n) rfl (by omega)]) ?_
  refine Ev.sts 1 (c' := (32, [some (.inr (.inr (.inr (20, n, a)))), some (.inl (iZ (x))), some (.inr (.inr (.inr (20, m, (hN h)))))], [.inr (.inr (.inr (20, m, (hN h))))], (cpyI (grow h m) a 0 (hN h) 0 n))) rfl ?_
  exact Ev.ret rfl (q)

def grown (h : PH) (q : Q5) (n m : Nat) : PH := (setR (cpyI (grow (setR (cpyI (grow (setR (cpyI (grow (setR (cpyI (grow (setR (cpyI (grow h m) q.1 0 (hN h) 0 n) 62 0 (20, m, (hN h))) m) q.2.1 0 (hN h + 1) 0 n) 62 1 (20, m, (hN h + 1))) m) q.2.2.1 0 (hN h + 2) 0 n) 62 2 (20, m, (hN h + 2))) m) q.2.2.2.1 0 (hN h + 3) 0 n) 62 3 (20, m, (hN h + 3))) m) q.2.2.2.2 0 (hN h + 4) 0 n) 62 4 (20, m, (hN h + 4)))
theorem sp_grow {d n m : Nat} {q : Q5} {h : PH} {TL : List Tel} (ht : tlC h TL n q) (hn : 64 ≤ n) (hm : (m : Int) = min 5040 (n * 2)) (hm2 : n < m) : Rv (d + 1) 136 [.inr (.inr (.inr (8, 0, 62)))] h (none) (grown h q n m) := Rv.of fun Q kk => by
  refine Ev.sts 2 (c' := (4, [some (.inr (.inr (.inr (8, 0, 62)))), none], [.inr (.inr (.inr (8, 0, 62))), .inl (iZ (5040))], h)) rfl ?_
  refine Ev.gfr (r := (20, n, q.1)) rfl ht.2.2.2.1.1 ?_
  refine Ev.gv (w := (iZ (n))) rfl (iZ_nat _) ?_
  refine Ev.sts 1 (c' := (9, [some (.inr (.inr (.inr (8, 0, 62)))), none], [.inl (iZ (2)), .inl (iZ (n)), .inl (iZ (5040))], h)) rfl ?_
  refine Ev.gv (w := (iZ (n * 2))) rfl (iZ_mul _ _) ?_
  refine Ev.gv (w := (iZ (min 5040 (n * 2)))) rfl (iZ_min ⟨by omega, by omega⟩ ⟨by omega, by omega⟩) ?_
  refine Ev.sts 3 (c' := (16, [some (.inr (.inr (.inr (8, 0, 62)))), some (.inl (iZ (min 5040 (n * 2))))], [.inr (.inr (.inr (8, 0, 62))), .inl (iZ (min 5040 (n * 2)))], h)) rfl ?_
  refine Ev.gfr (r := (20, n, q.1)) rfl ht.2.2.2.1.1 ?_
  refine Ev.gv (w := (iZ (n))) rfl (iZ_nat _) ?_
  refine Ev.brF (p := (iZ (min 5040 (n * 2))) ≤ (iZ (n))) (c1 := (83, [some (.inr (.inr (.inr (8, 0, 62)))), some (.inl (iZ (min 5040 (n * 2))))], [], h)) (c2 := (23, [some (.inr (.inr (.inr (8, 0, 62)))), some (.inl (iZ (min 5040 (n * 2))))], [], h)) (fun c_ => absurd ((iZ_le ⟨by omega, by omega⟩ ⟨by omega, by omega⟩).mp c_) (by omega)) rfl ?_
  refine Ev.sts 2 (c' := (25, [some (.inr (.inr (.inr (8, 0, 62)))), some (.inl (iZ (min 5040 (n * 2))))], [.inr (.inr (.inr (8, 0, 62))), .inr (.inr (.inr (8, 0, 62)))], h)) rfl ?_
  refine Ev.gfr (r := (20, n, q.1)) rfl ht.2.2.2.1.1 ?_
  refine Ev.sts 1 (c' := (29, [some (.inr (.inr (.inr (8, 0, 62)))), some (.inl (iZ (min 5040 (n * 2))))], [.inl (iZ (min 5040 (n * 2))), .inr (.inr (.inr (20, n, q.1))), .inr (.inr (.inr (8, 0, 62)))], h)) rfl ?_
  refine Ev.callv (a := [.inr (.inr (.inr (20, n, q.1))), .inl (iZ (min 5040 (n * 2)))]) rfl (sp_copyOf (m := m) (by omega) (by omega) (by omega)) ?_
  refine Ev.sts 3 (c' := (37, [some (.inr (.inr (.inr (8, 0, 62)))), some (.inl (iZ (min 5040 (n * 2))))], [.inr (.inr (.inr (8, 0, 62))), .inr (.inr (.inr (8, 0, 62)))], (setR (cpyI (grow h m) q.1 0 (hN h) 0 n) 62 0 (20, m, (hN h))))) rfl ?_
  refine Ev.gfr (r := (20, n, q.2.1)) rfl ht.2.2.2.1.2.1 ?_
  refine Ev.sts 1 (c' := (41, [some (.inr (.inr (.inr (8, 0, 62)))), some (.inl (iZ (min 5040 (n * 2))))], [.inl (iZ (min 5040 (n * 2))), .inr (.inr (.inr (20, n, q.2.1))), .inr (.inr (.inr (8, 0, 62)))], (setR (cpyI (grow h m) q.1 0 (hN h) 0 n) 62 0 (20, m, (hN h))))) rfl ?_
  refine Ev.callv (a := [.inr (.inr (.inr (20, n, q.2.1))), .inl (iZ (min 5040 (n * 2)))]) rfl (sp_copyOf (m := m) (by omega) (by omega) (by omega)) ?_
  refine Ev.sts 3 (c' := (49, [some (.inr (.inr (.inr (8, 0, 62)))), some (.inl (iZ (min 5040 (n * 2))))], [.inr (.inr (.inr (8, 0, 62))), .inr (.inr (.inr (8, 0, 62)))], (setR (cpyI (grow (setR (cpyI (grow h m) q.1 0 (hN h) 0 n) 62 0 (20, m, (hN h))) m) q.2.1 0 (hN h + 1) 0 n) 62 1 (20, m, (hN h + 1))))) rfl ?_
  refine Ev.gfr (r := (20, n, q.2.2.1)) rfl ht.2.2.2.1.2.2.1 ?_
  refine Ev.sts 1 (c' := (53, [some (.inr (.inr (.inr (8, 0, 62)))), some (.inl (iZ (min 5040 (n * 2))))], [.inl (iZ (min 5040 (n * 2))), .inr (.inr (.inr (20, n, q.2.2.1))), .inr (.inr (.inr (8, 0, 62)))], (setR (cpyI (grow (setR (cpyI (grow h m) q.1 0 (hN h) 0 n) 62 0 (20, m, (hN h))) m) q.2.1 0 (hN h + 1) 0 n) 62 1 (20, m, (hN h + 1))))) rfl ?_
  refine Ev.callv (a := [.inr (.inr (.inr (20, n, q.2.2.1))), .inl (iZ (min 5040 (n * 2)))]) rfl (sp_copyOf (m := m) (by omega) (by omega) (by omega)) ?_
  refine Ev.sts 3 (c' := (61, [some (.inr (.inr (.inr (8, 0, 62)))), some (.inl (iZ (min 5040 (n * 2))))], [.inr (.inr (.inr (8, 0, 62))), .inr (.inr (.inr (8, 0, 62)))], (setR (cpyI (grow (setR (cpyI (grow (setR (cpyI (grow h m) q.1 0 (hN h) 0 n) 62 0 (20, m, (hN h))) m) q.2.1 0 (hN h + 1) 0 n) 62 1 (20, m, (hN h + 1))) m) q.2.2.1 0 (hN h + 2) 0 n) 62 2 (20, m, (hN h + 2))))) rfl ?_
  refine Ev.gfr (r := (20, n, q.2.2.2.1)) rfl ht.2.2.2.1.2.2.2.1 ?_
  refine Ev.sts 1 (c' := (65, [some (.inr (.inr (.inr (8, 0, 62)))), some (.inl (iZ (min 5040 (n * 2))))], [.inl (iZ (min 5040 (n * 2))), .inr (.inr (.inr (20, n, q.2.2.2.1))), .inr (.inr (.inr (8, 0, 62)))], (setR (cpyI (grow (setR (cpyI (grow (setR (cpyI (grow h m) q.1 0 (hN h) 0 n) 62 0 (20, m, (hN h))) m) q.2.1 0 (hN h + 1) 0 n) 62 1 (20, m, (hN h + 1))) m) q.2.2.1 0 (hN h + 2) 0 n) 62 2 (20, m, (hN h + 2))))) rfl ?_
  refine Ev.callv (a := [.inr (.inr (.inr (20, n, q.2.2.2.1))), .inl (iZ (min 5040 (n * 2)))]) rfl (sp_copyOf (m := m) (by omega) (by omega) (by omega)) ?_
  refine Ev.sts 3 (c' := (73, [some (.inr (.inr (.inr (8, 0, 62)))), some (.inl (iZ (min 5040 (n * 2))))], [.inr (.inr (.inr (8, 0, 62))), .inr (.inr (.inr (8, 0, 62)))], (setR (cpyI (grow (setR (cpyI (grow (setR (cpyI (grow (setR (cpyI (grow h m) q.1 0 (hN h) 0 n) 62 0 (20, m, (hN h))) m) q.2.1 0 (hN h + 1) 0 n) 62 1 (20, m, (hN h + 1))) m) q.2.2.1 0 (hN h + 2) 0 n) 62 2 (20, m, (hN h + 2))) m) q.2.2.2.1 0 (hN h + 3) 0 n) 62 3 (20, m, (hN h + 3))))) rfl ?_
  refine Ev.gfr (r := (20, n, q.2.2.2.2)) rfl ht.2.2.2.1.2.2.2.2 ?_
  refine Ev.sts 1 (c' := (77, [some (.inr (.inr (.inr (8, 0, 62)))), some (.inl (iZ (min 5040 (n * 2))))], [.inl (iZ (min 5040 (n * 2))), .inr (.inr (.inr (20, n, q.2.2.2.2))), .inr (.inr (.inr (8, 0, 62)))], (setR (cpyI (grow (setR (cpyI (grow (setR (cpyI (grow (setR (cpyI (grow h m) q.1 0 (hN h) 0 n) 62 0 (20, m, (hN h))) m) q.2.1 0 (hN h + 1) 0 n) 62 1 (20, m, (hN h + 1))) m) q.2.2.1 0 (hN h + 2) 0 n) 62 2 (20, m, (hN h + 2))) m) q.2.2.2.1 0 (hN h + 3) 0 n) 62 3 (20, m, (hN h + 3))))) rfl ?_
  refine Ev.callv (a := [.inr (.inr (.inr (20, n, q.2.2.2.2))), .inl (iZ (min 5040 (n * 2)))]) rfl (sp_copyOf (m := m) (by omega) (by omega) (by omega)) ?_
  refine Ev.sts 1 (c' := (83, [some (.inr (.inr (.inr (8, 0, 62)))), some (.inl (iZ (min 5040 (n * 2))))], [], (setR (cpyI (grow (setR (cpyI (grow (setR (cpyI (grow (setR (cpyI (grow (setR (cpyI (grow h m) q.1 0 (hN h) 0 n) 62 0 (20, m, (hN h))) m) q.2.1 0 (hN h + 1) 0 n) 62 1 (20, m, (hN h + 1))) m) q.2.2.1 0 (hN h + 2) 0 n) 62 2 (20, m, (hN h + 2))) m) q.2.2.2.1 0 (hN h + 3) 0 n) 62 3 (20, m, (hN h + 3))) m) q.2.2.2.2 0 (hN h + 4) 0 n) 62 4 (20, m, (hN h + 4))))) rfl ?_
  exact Ev.ret rfl (kk)

theorem nL_facts {n : Nat} (h : n ∈ nL) : 64 ≤ n ∧ n ≤ 5040 ∧ (n < 5040 → ∃ m : Nat, (m : Int) = min 5040 (n * 2) ∧ n < m ∧ m ∈ nL ∧ n + 5 ≤ m ∧ 5 * m + 30 * n ≤ 30 * m) := by
  have c : n = 64 ∨ n = 128 ∨ n = 256 ∨ n = 512 ∨ n = 1024 ∨ n = 2048 ∨ n = 4096 ∨ n = 5040 := by simpa [nL] using h
  rcases c with rfl | rfl | rfl | rfl | rfl | rfl | rfl | rfl
  · exact ⟨by omega, by omega, fun _ => ⟨128, by decide, by decide, by decide, by decide, by decide⟩⟩
  · exact ⟨by omega, by omega, fun _ => ⟨256, by decide, by decide, by decide, by decide, by decide⟩⟩
  · exact ⟨by omega, by omega, fun _ => ⟨512, by decide, by decide, by decide, by decide, by decide⟩⟩
  · exact ⟨by omega, by omega, fun _ => ⟨1024, by decide, by decide, by decide, by decide, by decide⟩⟩
  · exact ⟨by omega, by omega, fun _ => ⟨2048, by decide, by decide, by decide, by decide, by decide⟩⟩
  · exact ⟨by omega, by omega, fun _ => ⟨4096, by decide, by decide, by decide, by decide, by decide⟩⟩
  · exact ⟨by omega, by omega, fun _ => ⟨5040, by decide, by decide, by decide, by decide, by decide⟩⟩
  · exact ⟨by omega, by omega, fun z => absurd z (by omega)⟩
theorem setR_1 (h : PH) (a k : Nat) (v : VR) : (setR h a k v).1 = h.1 := rfl
theorem grown_oth {h : PH} {q : Q5} {n m a : Nat} (e : a < hN h ∨ hN h + 5 ≤ a) : (grown h q n m).1 a = h.1 a := by
  have g1 : ∀ (h : PH) (m : Nat), (grow h m).1 = h.1 := fun _ _ => rfl
  unfold grown
  rw [setR_1, cpy_oth (by omega), g1, setR_1, cpy_oth (by omega), g1, setR_1, cpy_oth (by omega), g1, setR_1, cpy_oth (by omega), g1, setR_1, cpy_oth (by omega), g1]
theorem grown_row {h : PH} {q : Q5} {n m j : Nat} (hq : qD q (hN h)) (hj : j < n) : (grown h q n m).1 (hN h) j = h.1 q.1 j ∧ (grown h q n m).1 (hN h + 1) j = h.1 q.2.1 j ∧ (grown h q n m).1 (hN h + 2) j = h.1 q.2.2.1 j ∧ (grown h q n m).1 (hN h + 3) j = h.1 q.2.2.2.1 j ∧ (grown h q n m).1 (hN h + 4) j = h.1 q.2.2.2.2 j := by
  obtain ⟨⟨-, d1⟩, ⟨-, d2⟩, ⟨-, d3⟩, ⟨-, d4⟩, ⟨-, d5⟩, -⟩ := hq
  have g0 : ∀ a, (grow h m).1 a = h.1 a := fun _ => rfl
  have g1 : ∀ (h : PH) (m : Nat), (grow h m).1 = h.1 := fun _ _ => rfl
  unfold grown
  refine ⟨?_, ?_, ?_, ?_, ?_⟩
  · rw [setR_1, cpy_oth (by omega), g1, setR_1, cpy_oth (by omega), g1, setR_1, cpy_oth (by omega), g1, setR_1, cpy_oth (by omega), g1, setR_1, cpy_at hj, g1]
  · rw [setR_1, cpy_oth (by omega), g1, setR_1, cpy_oth (by omega), g1, setR_1, cpy_oth (by omega), g1, setR_1, cpy_at hj, g1, setR_1, cpy_oth (by omega), g1]
  · rw [setR_1, cpy_oth (by omega), g1, setR_1, cpy_oth (by omega), g1, setR_1, cpy_at hj, g1, setR_1, cpy_oth (by omega), g1, setR_1, cpy_oth (by omega), g1]
  · rw [setR_1, cpy_oth (by omega), g1, setR_1, cpy_at hj, g1, setR_1, cpy_oth (by omega), g1, setR_1, cpy_oth (by omega), g1, setR_1, cpy_oth (by omega), g1]
  · rw [setR_1, cpy_at hj, g1, setR_1, cpy_oth (by omega), g1, setR_1, cpy_oth (by omega), g1, setR_1, cpy_oth (by omega), g1, setR_1, cpy_oth (by omega), g1]
theorem grown_ref {h : PH} {q : Q5} {n m : Nat} : (∀ a k, a ≠ 62 → (grown h q n m).2.2.1 a k = h.2.2.1 a k) ∧ qR (grown h q n m) m (hN h, hN h + 1, hN h + 2, hN h + 3, hN h + 4) := by
  refine ⟨fun a k e => ?_, rfl, rfl, rfl, rfl, rfl⟩
  have s1 : ∀ (h : PH) (k2 : Nat) (v : VR), (setR h 62 k2 v).2.2.1 a k = h.2.2.1 a k := fun h k2 v => if_neg (fun z => e z.1)
  unfold grown
  rw [s1]
  show (setR _ _ _ _).2.2.1 a k = _
  rw [s1]
  show (setR _ _ _ _).2.2.1 a k = _
  rw [s1]
  show (setR _ _ _ _).2.2.1 a k = _
  rw [s1]
  show (setR _ _ _ _).2.2.1 a k = _
  rw [s1]
  rfl
theorem grown_ok {h : PH} {q : Q5} {n m : Nat} {TL : List Tel} (ht : tlC h TL n q) (h1 : n < m) (h2 : m ∈ nL) (h3 : n + 5 ≤ m) (h4 : 5 * m + 30 * n ≤ 30 * m) (hh : 83 ≤ hN h) : tlC (grown h q n m) TL m (hN h, hN h + 1, hN h + 2, hN h + 3, hN h + 4) ∧ FX pF h (grown h q n m) q (hN h, hN h + 1, hN h + 2, hN h + 3, hN h + 4) n m := by
  obtain ⟨t1, t2, t3, t4, t5, t6⟩ := ht
  have gN : hN (grown h q n m) = hN h + 5 := rfl
  have gS : hS (grown h q n m) = hS h + m + m + m + m + m := rfl
  refine ⟨⟨?_, by omega, h2, grown_ref.2, ?_, ?_⟩, ⟨rfl, fun a _ _ e => grown_oth (.inr e)⟩, grown_ref.1, fun a _ _ _ e => grown_oth (.inl e), by omega, by omega, by omega, by omega, Or.inr (Nat.le_refl _), Or.inr (by show hN h ≤ hN h + 1; omega), Or.inr (by show hN h ≤ hN h + 2; omega), Or.inr (by show hN h ≤ hN h + 3; omega), Or.inr (by show hN h ≤ hN h + 4; omega)⟩
  · rw [grown_oth (by omega)]; exact t1
  · rw [gN]
    unfold qD qO
    dsimp only
    omega
  · intro j hj
    obtain ⟨r1, r2, r3, r4, r5⟩ := grown_row (n := n) (m := m) (j := j) t5 (by omega)
    obtain ⟨u1, u2, u3, u4, u5⟩ := t6 j hj
    exact ⟨r1.trans u1, r2.trans u2, r3.trans u3, r4.trans u4, r5.trans u5⟩
def addT (h : PH) (q : Q5) (l : Nat) (g s e c v : Int32) : PH := (setI (setI (setI (setI (setI (setI h q.1 l g) q.2.1 l s) q.2.2.1 l e) q.2.2.2.1 l c) q.2.2.2.2 l (v)) 62 5 ((iZ (l + 1))))
theorem addT_row {h : PH} {q : Q5} {l j : Nat} {g s e c v : Int32} (hq : qD q (hN h)) : (addT h q l g s e c v).1 q.1 j = (if j = l then g else h.1 q.1 j) ∧ (addT h q l g s e c v).1 q.2.1 j = (if j = l then s else h.1 q.2.1 j) ∧ (addT h q l g s e c v).1 q.2.2.1 j = (if j = l then e else h.1 q.2.2.1 j) ∧ (addT h q l g s e c v).1 q.2.2.2.1 j = (if j = l then c else h.1 q.2.2.2.1 j) ∧ (addT h q l g s e c v).1 q.2.2.2.2 j = (if j = l then v else h.1 q.2.2.2.2 j) := by
  obtain ⟨d1, d2, d3, d4, d5, e1, e2, e3, e4, e5, e6, e7, e8, e9, e10⟩ := hq
  unfold qO at d1 d2 d3 d4 d5
  have at1 : ∀ (h : PH) (a : Nat) (v : Int32), (setI h a l v).1 a j = if j = l then v else h.1 a j := by
    intro h a v
    by_cases z : j = l
    · rw [if_pos z, z, setI_self]
    · rw [if_neg z, setI_ne (fun y => z y.2)]
  unfold addT
  refine ⟨?_, ?_, ?_, ?_, ?_⟩
  · rw [setI_oth (by omega), setI_oth (by omega), setI_oth (by omega), setI_oth (by omega), setI_oth (by omega), at1]
  · rw [setI_oth (by omega), setI_oth (by omega), setI_oth (by omega), setI_oth (by omega), at1, setI_oth (by omega)]
  · rw [setI_oth (by omega), setI_oth (by omega), setI_oth (by omega), at1, setI_oth (by omega), setI_oth (by omega)]
  · rw [setI_oth (by omega), setI_oth (by omega), at1, setI_oth (by omega), setI_oth (by omega), setI_oth (by omega)]
  · rw [setI_oth (by omega), at1, setI_oth (by omega), setI_oth (by omega), setI_oth (by omega), setI_oth (by omega)]
theorem app_get {α : Type} (d x : α) (l : List α) (j : Nat) (hj : j < l.length + 1) : (l ++ [x]).getD j d = if j = l.length then x else l.getD j d := by
  by_cases z : j = l.length
  · rw [if_pos z, z, List.getD_eq_getElem?_getD, List.getElem?_append_right (Nat.le_refl _), Nat.sub_self]; rfl
  · rw [if_neg z, List.getD_eq_getElem?_getD, List.getD_eq_getElem?_getD, List.getElem?_append_left (by omega)]
theorem app_len {α : Type} (x : α) (l : List α) : (l ++ [x]).length = l.length + 1 := by rw [List.length_append]; rfl
theorem add_ok {h : PH} {q : Q5} {n g : Nat} {s e c : Int} {v : Int32} {TL : List Tel} (ht : tlC h TL n q) (hl : TL.length < n) : tlC (addT h q TL.length (iZ g) (iZ s) (iZ e) (iZ c) v) (TL ++ [(g, s, e, c, v)]) n q ∧ FX pF h (addT h q TL.length (iZ g) (iZ s) (iZ e) (iZ c) v) q q n n := by
  obtain ⟨t1, t2, t3, t4, t5, t6⟩ := ht
  refine ⟨⟨?_, by rw [app_len]; omega, t3, t4, t5, fun j hj => ?_⟩, ⟨rfl, fun a _ h62 e => ?_⟩, fun _ _ _ => rfl, fun a _ h62 hq _ => ?_, Nat.le_refl _, Nat.le_refl _, Nat.le_refl _, Nat.le_refl _, qU_refl _ _⟩
  · rw [app_len]
    exact setI_self _ _ _ _
  · rw [app_len] at hj
    obtain ⟨r1, r2, r3, r4, r5⟩ := addT_row (h := h) (q := q) (l := TL.length) (j := j) (g := iZ g) (s := iZ s) (e := iZ e) (c := iZ c) (v := v) t5
    rw [app_get _ _ _ _ hj]
    unfold qT
    rw [r1, r2, r3, r4, r5]
    by_cases z : j = TL.length
    · rw [if_pos z, if_pos z, if_pos z, if_pos z, if_pos z, if_pos z]
      exact ⟨rfl, rfl, rfl, rfl, rfl⟩
    · rw [if_neg z, if_neg z, if_neg z, if_neg z, if_neg z, if_neg z]
      exact t6 j (by omega)
  · obtain ⟨d1, d2, d3, d4, d5, -⟩ := t5
    unfold qO at d1 d2 d3 d4 d5
    replace e : hN h ≤ a := e
    unfold addT
    rw [setI_oth h62, setI_oth (by omega), setI_oth (by omega), setI_oth (by omega), setI_oth (by omega), setI_oth (by omega)]
  · obtain ⟨c1, c2, c3, c4, c5⟩ := hq
    unfold addT
    rw [setI_oth h62, setI_oth c5, setI_oth c4, setI_oth c3, setI_oth c2, setI_oth c1]
theorem sp_add34 {d n g : Nat} {s e c : Int} {v : Int32} {q : Q5} {h : PH} {TL : List Tel} {Q : Rs → PH → Prop} (ht : tlC h TL n q) (hl : TL.length < n) (qq : ∀ h1, tlC h1 (TL ++ [(g, s, e, c, v)]) n q → FX pF h h1 q q n n → Q (.inl none) h1) : Ev d 135 (34, [some (.inr (.inr (.inr (8, 0, 62)))), some (.inl (iZ (g))), some (.inl (iZ (s))), some (.inl (iZ (e))), some (.inl (iZ (c))), some (.inl (v))], [], h) Q := by
  have hn0 := nL_facts ht.2.2.1
  have hnl := ht.2.1
  obtain ⟨d1, d2, d3, d4, d5, e1, e2, e3, e4, e5, e6, e7, e8, e9, e10⟩ := ht.2.2.2.2.1
  unfold qO at d1 d2 d3 d4 d5
  refine Ev.sts 1 (c' := (35, [some (.inr (.inr (.inr (8, 0, 62)))), some (.inl (iZ (g))), some (.inl (iZ (s))), some (.inl (iZ (e))), some (.inl (iZ (c))), some (.inl (v))], [.inr (.inr (.inr (8, 0, 62)))], h)) rfl ?_
  refine Ev.gv (w := (iZ (TL.length))) rfl ht.1 ?_
  refine Ev.sts 1 (c' := (39, [some (.inr (.inr (.inr (8, 0, 62)))), some (.inl (iZ (g))), some (.inl (iZ (s))), some (.inl (iZ (e))), some (.inl (iZ (c))), some (.inl (v))], [.inr (.inr (.inr (8, 0, 62))), .inl (iZ (TL.length))], h)) rfl ?_
  refine Ev.gfr (r := (20, n, q.1)) rfl ht.2.2.2.1.1 ?_
  refine Ev.gv (w := (iZ (n))) rfl (iZ_nat _) ?_
  refine Ev.brF (p := (iZ (n)) ≤ (iZ (TL.length))) (c1 := (156, [some (.inr (.inr (.inr (8, 0, 62)))), some (.inl (iZ (g))), some (.inl (iZ (s))), some (.inl (iZ (e))), some (.inl (iZ (c))), some (.inl (v))], [], h)) (c2 := (46, [some (.inr (.inr (.inr (8, 0, 62)))), some (.inl (iZ (g))), some (.inl (iZ (s))), some (.inl (iZ (e))), some (.inl (iZ (c))), some (.inl (v))], [], h)) (fun c_ => absurd ((iZ_le ⟨by omega, by omega⟩ ⟨by omega, by omega⟩).mp c_) (by omega)) rfl ?_
  refine Ev.sts 1 (c' := (47, [some (.inr (.inr (.inr (8, 0, 62)))), some (.inl (iZ (g))), some (.inl (iZ (s))), some (.inl (iZ (e))), some (.inl (iZ (c))), some (.inl (v))], [.inr (.inr (.inr (8, 0, 62)))], h)) rfl ?_
  refine Ev.gv (w := (iZ (TL.length))) rfl ht.1 ?_
  refine Ev.sts 1 (c' := (51, [some (.inr (.inr (.inr (8, 0, 62)))), some (.inl (iZ (g))), some (.inl (iZ (s))), some (.inl (iZ (e))), some (.inl (iZ (c))), some (.inl (v))], [.inr (.inr (.inr (8, 0, 62))), .inl (iZ (TL.length))], h)) rfl ?_
  refine Ev.gfr (r := (20, n, q.2.1)) rfl ht.2.2.2.1.2.1 ?_
  refine Ev.gv (w := (iZ (n))) rfl (iZ_nat _) ?_
  refine Ev.brF (p := (iZ (n)) ≤ (iZ (TL.length))) (c1 := (156, [some (.inr (.inr (.inr (8, 0, 62)))), some (.inl (iZ (g))), some (.inl (iZ (s))), some (.inl (iZ (e))), some (.inl (iZ (c))), some (.inl (v))], [], h)) (c2 := (58, [some (.inr (.inr (.inr (8, 0, 62)))), some (.inl (iZ (g))), some (.inl (iZ (s))), some (.inl (iZ (e))), some (.inl (iZ (c))), some (.inl (v))], [], h)) (fun c_ => absurd ((iZ_le ⟨by omega, by omega⟩ ⟨by omega, by omega⟩).mp c_) (by omega)) rfl ?_
  refine Ev.sts 1 (c' := (59, [some (.inr (.inr (.inr (8, 0, 62)))), some (.inl (iZ (g))), some (.inl (iZ (s))), some (.inl (iZ (e))), some (.inl (iZ (c))), some (.inl (v))], [.inr (.inr (.inr (8, 0, 62)))], h)) rfl ?_
  refine Ev.gv (w := (iZ (TL.length))) rfl ht.1 ?_
  refine Ev.sts 1 (c' := (63, [some (.inr (.inr (.inr (8, 0, 62)))), some (.inl (iZ (g))), some (.inl (iZ (s))), some (.inl (iZ (e))), some (.inl (iZ (c))), some (.inl (v))], [.inr (.inr (.inr (8, 0, 62))), .inl (iZ (TL.length))], h)) rfl ?_
  refine Ev.gfr (r := (20, n, q.2.2.1)) rfl ht.2.2.2.1.2.2.1 ?_
  refine Ev.gv (w := (iZ (n))) rfl (iZ_nat _) ?_
  refine Ev.brF (p := (iZ (n)) ≤ (iZ (TL.length))) (c1 := (156, [some (.inr (.inr (.inr (8, 0, 62)))), some (.inl (iZ (g))), some (.inl (iZ (s))), some (.inl (iZ (e))), some (.inl (iZ (c))), some (.inl (v))], [], h)) (c2 := (70, [some (.inr (.inr (.inr (8, 0, 62)))), some (.inl (iZ (g))), some (.inl (iZ (s))), some (.inl (iZ (e))), some (.inl (iZ (c))), some (.inl (v))], [], h)) (fun c_ => absurd ((iZ_le ⟨by omega, by omega⟩ ⟨by omega, by omega⟩).mp c_) (by omega)) rfl ?_
  refine Ev.sts 1 (c' := (71, [some (.inr (.inr (.inr (8, 0, 62)))), some (.inl (iZ (g))), some (.inl (iZ (s))), some (.inl (iZ (e))), some (.inl (iZ (c))), some (.inl (v))], [.inr (.inr (.inr (8, 0, 62)))], h)) rfl ?_
  refine Ev.gv (w := (iZ (TL.length))) rfl ht.1 ?_
  refine Ev.sts 1 (c' := (75, [some (.inr (.inr (.inr (8, 0, 62)))), some (.inl (iZ (g))), some (.inl (iZ (s))), some (.inl (iZ (e))), some (.inl (iZ (c))), some (.inl (v))], [.inr (.inr (.inr (8, 0, 62))), .inl (iZ (TL.length))], h)) rfl ?_
  refine Ev.gfr (r := (20, n, q.2.2.2.1)) rfl ht.2.2.2.1.2.2.2.1 ?_
  refine Ev.gv (w := (iZ (n))) rfl (iZ_nat _) ?_
  refine Ev.brF (p := (iZ (n)) ≤ (iZ (TL.length))) (c1 := (156, [some (.inr (.inr (.inr (8, 0, 62)))), some (.inl (iZ (g))), some (.inl (iZ (s))), some (.inl (iZ (e))), some (.inl (iZ (c))), some (.inl (v))], [], h)) (c2 := (82, [some (.inr (.inr (.inr (8, 0, 62)))), some (.inl (iZ (g))), some (.inl (iZ (s))), some (.inl (iZ (e))), some (.inl (iZ (c))), some (.inl (v))], [], h)) (fun c_ => absurd ((iZ_le ⟨by omega, by omega⟩ ⟨by omega, by omega⟩).mp c_) (by omega)) rfl ?_
  refine Ev.sts 1 (c' := (83, [some (.inr (.inr (.inr (8, 0, 62)))), some (.inl (iZ (g))), some (.inl (iZ (s))), some (.inl (iZ (e))), some (.inl (iZ (c))), some (.inl (v))], [.inr (.inr (.inr (8, 0, 62)))], h)) rfl ?_
  refine Ev.gv (w := (iZ (TL.length))) rfl ht.1 ?_
  refine Ev.sts 1 (c' := (87, [some (.inr (.inr (.inr (8, 0, 62)))), some (.inl (iZ (g))), some (.inl (iZ (s))), some (.inl (iZ (e))), some (.inl (iZ (c))), some (.inl (v))], [.inr (.inr (.inr (8, 0, 62))), .inl (iZ (TL.length))], h)) rfl ?_
  refine Ev.gfr (r := (20, n, q.2.2.2.2)) rfl ht.2.2.2.1.2.2.2.2 ?_
  refine Ev.gv (w := (iZ (n))) rfl (iZ_nat _) ?_
  refine Ev.brF (p := (iZ (n)) ≤ (iZ (TL.length))) (c1 := (156, [some (.inr (.inr (.inr (8, 0, 62)))), some (.inl (iZ (g))), some (.inl (iZ (s))), some (.inl (iZ (e))), some (.inl (iZ (c))), some (.inl (v))], [], h)) (c2 := (94, [some (.inr (.inr (.inr (8, 0, 62)))), some (.inl (iZ (g))), some (.inl (iZ (s))), some (.inl (iZ (e))), some (.inl (iZ (c))), some (.inl (v))], [], h)) (fun c_ => absurd ((iZ_le ⟨by omega, by omega⟩ ⟨by omega, by omega⟩).mp c_) (by omega)) rfl ?_
  refine Ev.sts 1 (c' := (95, [some (.inr (.inr (.inr (8, 0, 62)))), some (.inl (iZ (g))), some (.inl (iZ (s))), some (.inl (iZ (e))), some (.inl (iZ (c))), some (.inl (v))], [.inr (.inr (.inr (8, 0, 62)))], h)) rfl ?_
  refine Ev.gfr (r := (20, n, q.1)) rfl ht.2.2.2.1.1 ?_
  refine Ev.sts 1 (c' := (99, [some (.inr (.inr (.inr (8, 0, 62)))), some (.inl (iZ (g))), some (.inl (iZ (s))), some (.inl (iZ (e))), some (.inl (iZ (c))), some (.inl (v))], [.inr (.inr (.inr (8, 0, 62))), .inr (.inr (.inr (20, n, q.1)))], h)) rfl ?_
  refine Ev.gv (w := (iZ (TL.length))) rfl ht.1 ?_
  refine Ev.sts 1 (c' := (103, [some (.inr (.inr (.inr (8, 0, 62)))), some (.inl (iZ (g))), some (.inl (iZ (s))), some (.inl (iZ (e))), some (.inl (iZ (c))), some (.inl (v))], [.inl (iZ (g)), .inl (iZ (TL.length)), .inr (.inr (.inr (20, n, q.1)))], h)) rfl ?_
  refine Ev.sto (j := (iZ (TL.length))) (n := n) (h2 := (setI h q.1 TL.length ((iZ (g))))) (iZ_in (by omega) (by omega) (by omega)) rfl (by rw [iZ_ix (n := TL.length) (by omega) (by omega)]) ?_
  refine Ev.sts 1 (c' := (105, [some (.inr (.inr (.inr (8, 0, 62)))), some (.inl (iZ (g))), some (.inl (iZ (s))), some (.inl (iZ (e))), some (.inl (iZ (c))), some (.inl (v))], [.inr (.inr (.inr (8, 0, 62)))], (setI h q.1 TL.length ((iZ (g)))))) rfl ?_
  refine Ev.gfr (r := (20, n, q.2.1)) rfl ht.2.2.2.1.2.1 ?_
  refine Ev.sts 1 (c' := (109, [some (.inr (.inr (.inr (8, 0, 62)))), some (.inl (iZ (g))), some (.inl (iZ (s))), some (.inl (iZ (e))), some (.inl (iZ (c))), some (.inl (v))], [.inr (.inr (.inr (8, 0, 62))), .inr (.inr (.inr (20, n, q.2.1)))], (setI h q.1 TL.length ((iZ (g)))))) rfl ?_
  refine Ev.gv (w := (iZ (TL.length))) rfl (by rw [setI_oth (b := 62) (by omega)]; exact ht.1) ?_
  refine Ev.sts 1 (c' := (113, [some (.inr (.inr (.inr (8, 0, 62)))), some (.inl (iZ (g))), some (.inl (iZ (s))), some (.inl (iZ (e))), some (.inl (iZ (c))), some (.inl (v))], [.inl (iZ (s)), .inl (iZ (TL.length)), .inr (.inr (.inr (20, n, q.2.1)))], (setI h q.1 TL.length ((iZ (g)))))) rfl ?_
  refine Ev.sto (j := (iZ (TL.length))) (n := n) (h2 := (setI (setI h q.1 TL.length ((iZ (g)))) q.2.1 TL.length ((iZ (s))))) (iZ_in (by omega) (by omega) (by omega)) rfl (by rw [iZ_ix (n := TL.length) (by omega) (by omega)]) ?_
  refine Ev.sts 1 (c' := (115, [some (.inr (.inr (.inr (8, 0, 62)))), some (.inl (iZ (g))), some (.inl (iZ (s))), some (.inl (iZ (e))), some (.inl (iZ (c))), some (.inl (v))], [.inr (.inr (.inr (8, 0, 62)))], (setI (setI h q.1 TL.length ((iZ (g)))) q.2.1 TL.length ((iZ (s)))))) rfl ?_
  refine Ev.gfr (r := (20, n, q.2.2.1)) rfl ht.2.2.2.1.2.2.1 ?_
  refine Ev.sts 1 (c' := (119, [some (.inr (.inr (.inr (8, 0, 62)))), some (.inl (iZ (g))), some (.inl (iZ (s))), some (.inl (iZ (e))), some (.inl (iZ (c))), some (.inl (v))], [.inr (.inr (.inr (8, 0, 62))), .inr (.inr (.inr (20, n, q.2.2.1)))], (setI (setI h q.1 TL.length ((iZ (g)))) q.2.1 TL.length ((iZ (s)))))) rfl ?_
  refine Ev.gv (w := (iZ (TL.length))) rfl (by rw [setI_oth (b := 62) (by omega), setI_oth (b := 62) (by omega)]; exact ht.1) ?_
  refine Ev.sts 1 (c' := (123, [some (.inr (.inr (.inr (8, 0, 62)))), some (.inl (iZ (g))), some (.inl (iZ (s))), some (.inl (iZ (e))), some (.inl (iZ (c))), some (.inl (v))], [.inl (iZ (e)), .inl (iZ (TL.length)), .inr (.inr (.inr (20, n, q.2.2.1)))], (setI (setI h q.1 TL.length ((iZ (g)))) q.2.1 TL.length ((iZ (s)))))) rfl ?_
  refine Ev.sto (j := (iZ (TL.length))) (n := n) (h2 := (setI (setI (setI h q.1 TL.length ((iZ (g)))) q.2.1 TL.length ((iZ (s)))) q.2.2.1 TL.length ((iZ (e))))) (iZ_in (by omega) (by omega) (by omega)) rfl (by rw [iZ_ix (n := TL.length) (by omega) (by omega)]) ?_
  refine Ev.sts 1 (c' := (125, [some (.inr (.inr (.inr (8, 0, 62)))), some (.inl (iZ (g))), some (.inl (iZ (s))), some (.inl (iZ (e))), some (.inl (iZ (c))), some (.inl (v))], [.inr (.inr (.inr (8, 0, 62)))], (setI (setI (setI h q.1 TL.length ((iZ (g)))) q.2.1 TL.length ((iZ (s)))) q.2.2.1 TL.length ((iZ (e)))))) rfl ?_
  refine Ev.gfr (r := (20, n, q.2.2.2.1)) rfl ht.2.2.2.1.2.2.2.1 ?_
  refine Ev.sts 1 (c' := (129, [some (.inr (.inr (.inr (8, 0, 62)))), some (.inl (iZ (g))), some (.inl (iZ (s))), some (.inl (iZ (e))), some (.inl (iZ (c))), some (.inl (v))], [.inr (.inr (.inr (8, 0, 62))), .inr (.inr (.inr (20, n, q.2.2.2.1)))], (setI (setI (setI h q.1 TL.length ((iZ (g)))) q.2.1 TL.length ((iZ (s)))) q.2.2.1 TL.length ((iZ (e)))))) rfl ?_
  refine Ev.gv (w := (iZ (TL.length))) rfl (by rw [setI_oth (b := 62) (by omega), setI_oth (b := 62) (by omega), setI_oth (b := 62) (by omega)]; exact ht.1) ?_
  refine Ev.sts 1 (c' := (134, [some (.inr (.inr (.inr (8, 0, 62)))), some (.inl (iZ (g))), some (.inl (iZ (s))), some (.inl (iZ (e))), some (.inl (iZ (c))), some (.inl (v))], [.inl (iZ (c)), .inl (iZ (TL.length)), .inr (.inr (.inr (20, n, q.2.2.2.1)))], (setI (setI (setI h q.1 TL.length ((iZ (g)))) q.2.1 TL.length ((iZ (s)))) q.2.2.1 TL.length ((iZ (e)))))) rfl ?_
  refine Ev.sto (j := (iZ (TL.length))) (n := n) (h2 := (setI (setI (setI (setI h q.1 TL.length ((iZ (g)))) q.2.1 TL.length ((iZ (s)))) q.2.2.1 TL.length ((iZ (e)))) q.2.2.2.1 TL.length ((iZ (c))))) (iZ_in (by omega) (by omega) (by omega)) rfl (by rw [iZ_ix (n := TL.length) (by omega) (by omega)]) ?_
  refine Ev.sts 1 (c' := (136, [some (.inr (.inr (.inr (8, 0, 62)))), some (.inl (iZ (g))), some (.inl (iZ (s))), some (.inl (iZ (e))), some (.inl (iZ (c))), some (.inl (v))], [.inr (.inr (.inr (8, 0, 62)))], (setI (setI (setI (setI h q.1 TL.length ((iZ (g)))) q.2.1 TL.length ((iZ (s)))) q.2.2.1 TL.length ((iZ (e)))) q.2.2.2.1 TL.length ((iZ (c)))))) rfl ?_
  refine Ev.gfr (r := (20, n, q.2.2.2.2)) rfl ht.2.2.2.1.2.2.2.2 ?_
  refine Ev.sts 1 (c' := (140, [some (.inr (.inr (.inr (8, 0, 62)))), some (.inl (iZ (g))), some (.inl (iZ (s))), some (.inl (iZ (e))), some (.inl (iZ (c))), some (.inl (v))], [.inr (.inr (.inr (8, 0, 62))), .inr (.inr (.inr (20, n, q.2.2.2.2)))], (setI (setI (setI (setI h q.1 TL.length ((iZ (g)))) q.2.1 TL.length ((iZ (s)))) q.2.2.1 TL.length ((iZ (e)))) q.2.2.2.1 TL.length ((iZ (c)))))) rfl ?_
  refine Ev.gv (w := (iZ (TL.length))) rfl (by rw [setI_oth (b := 62) (by omega), setI_oth (b := 62) (by omega), setI_oth (b := 62) (by omega), setI_oth (b := 62) (by omega)]; exact ht.1) ?_
  refine Ev.sts 1 (c' := (145, [some (.inr (.inr (.inr (8, 0, 62)))), some (.inl (iZ (g))), some (.inl (iZ (s))), some (.inl (iZ (e))), some (.inl (iZ (c))), some (.inl (v))], [.inl (v), .inl (iZ (TL.length)), .inr (.inr (.inr (20, n, q.2.2.2.2)))], (setI (setI (setI (setI h q.1 TL.length ((iZ (g)))) q.2.1 TL.length ((iZ (s)))) q.2.2.1 TL.length ((iZ (e)))) q.2.2.2.1 TL.length ((iZ (c)))))) rfl ?_
  refine Ev.sto (j := (iZ (TL.length))) (n := n) (h2 := (setI (setI (setI (setI (setI h q.1 TL.length ((iZ (g)))) q.2.1 TL.length ((iZ (s)))) q.2.2.1 TL.length ((iZ (e)))) q.2.2.2.1 TL.length ((iZ (c)))) q.2.2.2.2 TL.length (v))) (iZ_in (by omega) (by omega) (by omega)) rfl (by rw [iZ_ix (n := TL.length) (by omega) (by omega)]) ?_
  refine Ev.sts 2 (c' := (148, [some (.inr (.inr (.inr (8, 0, 62)))), some (.inl (iZ (g))), some (.inl (iZ (s))), some (.inl (iZ (e))), some (.inl (iZ (c))), some (.inl (v))], [.inr (.inr (.inr (8, 0, 62))), .inr (.inr (.inr (8, 0, 62)))], (setI (setI (setI (setI (setI h q.1 TL.length ((iZ (g)))) q.2.1 TL.length ((iZ (s)))) q.2.2.1 TL.length ((iZ (e)))) q.2.2.2.1 TL.length ((iZ (c)))) q.2.2.2.2 TL.length (v)))) rfl ?_
  refine Ev.gv (w := (iZ (TL.length))) rfl (by rw [setI_oth (b := 62) (by omega), setI_oth (b := 62) (by omega), setI_oth (b := 62) (by omega), setI_oth (b := 62) (by omega), setI_oth (b := 62) (by omega)]; exact ht.1) ?_
  refine Ev.sts 1 (c' := (152, [some (.inr (.inr (.inr (8, 0, 62)))), some (.inl (iZ (g))), some (.inl (iZ (s))), some (.inl (iZ (e))), some (.inl (iZ (c))), some (.inl (v))], [.inl (iZ (1)), .inl (iZ (TL.length)), .inr (.inr (.inr (8, 0, 62)))], (setI (setI (setI (setI (setI h q.1 TL.length ((iZ (g)))) q.2.1 TL.length ((iZ (s)))) q.2.2.1 TL.length ((iZ (e)))) q.2.2.2.1 TL.length ((iZ (c)))) q.2.2.2.2 TL.length (v)))) rfl ?_
  refine Ev.gv (w := (iZ (TL.length + 1))) rfl (iZ_add _ _) ?_
  refine Ev.sts 1 (c' := (156, [some (.inr (.inr (.inr (8, 0, 62)))), some (.inl (iZ (g))), some (.inl (iZ (s))), some (.inl (iZ (e))), some (.inl (iZ (c))), some (.inl (v))], [], (setI (setI (setI (setI (setI (setI h q.1 TL.length ((iZ (g)))) q.2.1 TL.length ((iZ (s)))) q.2.2.1 TL.length ((iZ (e)))) q.2.2.2.1 TL.length ((iZ (c)))) q.2.2.2.2 TL.length (v)) 62 5 ((iZ (TL.length + 1)))))) rfl ?_
  exact Ev.ret rfl (qq _ (add_ok ht hl).1 (add_ok ht hl).2)

theorem sp_add {d n g : Nat} {s e c : Int} {v : Int32} {q : Q5} {h : PH} {TL : List Tel} {Q : Rs → PH → Prop} (ht : tlC h TL n q) (hh : 83 ≤ hN h) (hl : TL.length < 5040) (qq : ∀ h1 n1 q1, tlC h1 (TL ++ [(g, s, e, c, v)]) n1 q1 → FX pF h h1 q q1 n n1 → Q (.inl none) h1) : Rn (d + 2) 135 [.inr (.inr (.inr (8, 0, 62))), .inl (iZ (g)), .inl (iZ (s)), .inl (iZ (e)), .inl (iZ (c)), .inl (v)] h Q := by
  have hn0 := nL_facts ht.2.2.1
  have hnl := ht.2.1
  obtain ⟨d1, d2, d3, d4, d5, e1, e2, e3, e4, e5, e6, e7, e8, e9, e10⟩ := ht.2.2.2.2.1
  unfold qO at d1 d2 d3 d4 d5
  refine Ev.sts 1 (c' := (1, [some (.inr (.inr (.inr (8, 0, 62)))), some (.inl (iZ (g))), some (.inl (iZ (s))), some (.inl (iZ (e))), some (.inl (iZ (c))), some (.inl (v))], [.inr (.inr (.inr (8, 0, 62)))], h)) rfl ?_
  refine Ev.gv (w := (iZ (TL.length))) rfl ht.1 ?_
  refine Ev.brF (p := (iZ (TL.length)) < (iZ (0))) (c1 := (17, [some (.inr (.inr (.inr (8, 0, 62)))), some (.inl (iZ (g))), some (.inl (iZ (s))), some (.inl (iZ (e))), some (.inl (iZ (c))), some (.inl (v))], [], h)) (c2 := (7, [some (.inr (.inr (.inr (8, 0, 62)))), some (.inl (iZ (g))), some (.inl (iZ (s))), some (.inl (iZ (e))), some (.inl (iZ (c))), some (.inl (v))], [], h)) (fun c_ => absurd ((iZ_lt ⟨by omega, by omega⟩ ⟨by omega, by omega⟩).mp c_) (by omega)) rfl ?_
  refine Ev.sts 1 (c' := (8, [some (.inr (.inr (.inr (8, 0, 62)))), some (.inl (iZ (g))), some (.inl (iZ (s))), some (.inl (iZ (e))), some (.inl (iZ (c))), some (.inl (v))], [.inr (.inr (.inr (8, 0, 62)))], h)) rfl ?_
  refine Ev.gv (w := (iZ (TL.length))) rfl ht.1 ?_
  refine Ev.sts 1 (c' := (14, [some (.inr (.inr (.inr (8, 0, 62)))), some (.inl (iZ (g))), some (.inl (iZ (s))), some (.inl (iZ (e))), some (.inl (iZ (c))), some (.inl (v))], [.inl (iZ (5040)), .inl (iZ (TL.length))], h)) rfl ?_
  refine Ev.brT (p := (iZ (TL.length)) < (iZ (5040))) (c1 := (18, [some (.inr (.inr (.inr (8, 0, 62)))), some (.inl (iZ (g))), some (.inl (iZ (s))), some (.inl (iZ (e))), some (.inl (iZ (c))), some (.inl (v))], [], h)) (c2 := (17, [some (.inr (.inr (.inr (8, 0, 62)))), some (.inl (iZ (g))), some (.inl (iZ (s))), some (.inl (iZ (e))), some (.inl (iZ (c))), some (.inl (v))], [], h)) ((iZ_lt ⟨by omega, by omega⟩ ⟨by omega, by omega⟩).mpr (by omega)) rfl ?_
  refine Ev.sts 1 (c' := (19, [some (.inr (.inr (.inr (8, 0, 62)))), some (.inl (iZ (g))), some (.inl (iZ (s))), some (.inl (iZ (e))), some (.inl (iZ (c))), some (.inl (v))], [.inr (.inr (.inr (8, 0, 62)))], h)) rfl ?_
  refine Ev.gv (w := (iZ (TL.length))) rfl ht.1 ?_
  refine Ev.sts 1 (c' := (23, [some (.inr (.inr (.inr (8, 0, 62)))), some (.inl (iZ (g))), some (.inl (iZ (s))), some (.inl (iZ (e))), some (.inl (iZ (c))), some (.inl (v))], [.inr (.inr (.inr (8, 0, 62))), .inl (iZ (TL.length))], h)) rfl ?_
  refine Ev.gfr (r := (20, n, q.1)) rfl ht.2.2.2.1.1 ?_
  refine Ev.gv (w := (iZ (n))) rfl (iZ_nat _) ?_
  refine Ev.brc (p := (iZ (TL.length)) < (iZ (n))) (q := ((TL.length : Int)) < n) (c1 := (34, [some (.inr (.inr (.inr (8, 0, 62)))), some (.inl (iZ (g))), some (.inl (iZ (s))), some (.inl (iZ (e))), some (.inl (iZ (c))), some (.inl (v))], [], h)) (c2 := (30, [some (.inr (.inr (.inr (8, 0, 62)))), some (.inl (iZ (g))), some (.inl (iZ (s))), some (.inl (iZ (e))), some (.inl (iZ (c))), some (.inl (v))], [], h)) rfl (iZ_lt ⟨by omega, by omega⟩ ⟨by omega, by omega⟩) (fun c0 => ?_) (fun c0 => ?_)
  · exact sp_add34 ht (by omega) (fun h1 t1 f1 => qq h1 n q t1 f1)
  · obtain ⟨m, hm1, hm2, hm3, hm4, hm5⟩ := hn0.2.2 (by omega)
    have gk := grown_ok ht hm2 hm3 hm4 hm5 hh
    refine Ev.sts 1 (c' := (31, [some (.inr (.inr (.inr (8, 0, 62)))), some (.inl (iZ (g))), some (.inl (iZ (s))), some (.inl (iZ (e))), some (.inl (iZ (c))), some (.inl (v))], [.inr (.inr (.inr (8, 0, 62)))], h)) rfl ?_
    refine Ev.callv (a := [.inr (.inr (.inr (8, 0, 62)))]) rfl (sp_grow ht (by omega) hm1 hm2) ?_
    exact sp_add34 gk.1 (by omega) (fun h1 t1 f1 => qq h1 m _ t1 (FX_trans gk.2 f1))

