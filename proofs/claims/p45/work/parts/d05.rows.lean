/-! The stream by hand in the heap: rows of windows; one more, one less, one put. -/
/-- a row of ints of length l shows w -/
def wRw (h : PH) (l a : Nat) (w : Wn) : Prop := l = 3 + w.2.2.2.length ∧ h.1 a 0 = iZ (w.1 : Int) ∧ h.1 a 1 = iZ w.2.1 ∧ h.1 a 2 = iZ w.2.2.1 ∧ ∀ k, k < w.2.2.2.length → h.1 a (3 + k) = iZ ((w.2.2.2.getD k 0 : Nat) : Int)
/-- rows of the hand's: made behind sm, none of the class's -/
def pI (sm : Nat) (u : Q5) (N a : Nat) : Prop := sm + 5 < a ∧ a < N ∧ qN u a
/-- a row of windows -/
def oWs (h : PH) (sm : Nat) (u : Q5) (oa : Nat) (fl fr : Nat → Nat) (L : List Wn) : Prop := ∀ j, j < L.length → h.2.2.1 oa j = (20, fl j, fr j) ∧ pI sm u (hN h) (fr j) ∧ wRw h (fl j) (fr j) (L.getD j wn0)
/-- what a step by hand may change: ints of sm and sm + 5, references of sm and oa -/
def SI (sm oa : Nat) (h h1 : PH) : Prop := (∀ a, a < hN h → a ≠ sm → a ≠ sm + 5 → h1.1 a = h.1 a) ∧ (∀ a, a < hN h → a ≠ sm → a ≠ oa → h1.2.2.1 a = h.2.2.1 a) ∧ (∀ a, hN h1 ≤ a → h1.1 a = h.1 a) ∧ hN h ≤ hN h1
theorem SI_r (sm oa : Nat) (h : PH) : SI sm oa h h := ⟨fun _ _ _ _ => rfl, fun _ _ _ _ => rfl, fun _ _ => rfl, Nat.le_refl _⟩
theorem SI_t {sm oa ob : Nat} {h h1 h2 : PH} (a : SI sm oa h h1) (b : SI sm ob h1 h2) (c : ob = oa ∨ hN h ≤ ob ∨ ob = sm) : SI sm oa h h2 := by
  obtain ⟨a1, a2, a3, a4⟩ := a
  obtain ⟨b1, b2, b3, b4⟩ := b
  exact ⟨fun x x1 x2 x3 => (b1 x (by omega) x2 x3).trans (a1 x x1 x2 x3), fun x x1 x2 x3 => (b2 x (by omega) x2 (by omega)).trans (a2 x x1 x2 x3), fun x hx => (b3 x hx).trans (a3 x (by omega)), by omega⟩
theorem SI_n {sm oa : Nat} {h h1 : PH} (a : SI sm sm h h1) : SI sm oa h h1 := ⟨a.1, fun x x1 x2 _ => a.2.1 x x1 x2 x2, a.2.2⟩
theorem wRw_e {h h1 : PH} {l a : Nat} {w : Wn} (e : h1.1 a = h.1 a) (x : wRw h l a w) : wRw h1 l a w := by unfold wRw; rw [e]; exact x
theorem oWs_SI {h h1 : PH} {sm oa ob : Nat} {u : Q5} {fl fr : Nat → Nat} {L : List Wn} (s : SI sm ob h h1) (h1o : oa < hN h) (h2o : oa ≠ sm) (h3o : oa ≠ ob) (o : oWs h sm u oa fl fr L) : oWs h1 sm u oa fl fr L := by
  intro j hj
  obtain ⟨o1, ⟨p1, p2, p3⟩, o3⟩ := o j hj
  exact ⟨by rw [s.2.1 oa h1o h2o h3o]; exact o1, ⟨p1, Nat.lt_of_lt_of_le p2 s.2.2.2, p3⟩, wRw_e (s.1 _ p2 (by omega) (by omega)) o3⟩
/-- one new row of references -/
def nwR (h h1 : PH) (n : Nat) : Prop := h1.1 = h.1 ∧ (∀ a, a ≠ hN h → h1.2.2.1 a = h.2.2.1 a) ∧ hN h1 = hN h + 1 ∧ hS h1 = hS h + n
theorem nwR_g (h : PH) (n : Nat) : nwR h (grow h n) n := ⟨rfl, fun _ _ => rfl, rfl, rfl⟩
theorem nwR_s {h h1 : PH} {n k : Nat} {v : VR} (x : nwR h h1 n) : nwR h (setR h1 (hN h) k v) n := ⟨x.1, fun a ha => (setR_oth ha).trans (x.2.1 a ha), x.2.2.1, x.2.2.2⟩
theorem nwR_SI {h h1 : PH} {n sm : Nat} (x : nwR h h1 n) : SI sm sm h h1 := ⟨fun _ _ _ _ => by rw [x.1], fun a a1 _ _ => x.2.1 a (by omega), fun _ _ => by rw [x.1], by have := x.2.2.1; omega⟩
theorem wi_10 {d n k l rl ra b : Nat} {fl fr : Nat → Nat} {h : PH} {Q : Rs → PH → Prop} (hn : n ≤ 5000) (hk : k ≤ n) (o : ∀ j, j < n → h.2.2.1 ra j = (20, fl j, fr j)) (q0 : n ≤ k → Q (.inl (some (.inr (.inr (.inr (28, (n + 1), b)))))) (setR h b n (20, l, rl))) (k1 : k < n → Ev d 177 (10, [some (.inr (.inr (.inr (28, n, ra)))), some (.inr (.inr (.inr (20, l, rl)))), some (.inr (.inr (.inr (28, (n + 1), b)))), some (.inl (iZ ((k : Int) + 1)))], [], (setR h b k (20, (fl k), (fr k)))) Q) : Ev d 177 (10, [some (.inr (.inr (.inr (28, n, ra)))), some (.inr (.inr (.inr (20, l, rl)))), some (.inr (.inr (.inr (28, (n + 1), b)))), some (.inl (iZ ((k : Int))))], [], h) Q := by
  refine Ev.sts 2 (c' := (12, [some (.inr (.inr (.inr (28, n, ra)))), some (.inr (.inr (.inr (20, l, rl)))), some (.inr (.inr (.inr (28, (n + 1), b)))), some (.inl (iZ ((k : Int))))], [.inr (.inr (.inr (28, n, ra))), .inl (iZ ((k : Int)))], h)) rfl ?_
  refine Ev.gv (w := (iZ (n))) rfl (iZ_nat _) ?_
  refine Ev.brc (p := (iZ (n)) ≤ (iZ ((k : Int)))) (q := ((n : Int)) ≤ (k : Int)) (c1 := (28, [some (.inr (.inr (.inr (28, n, ra)))), some (.inr (.inr (.inr (20, l, rl)))), some (.inr (.inr (.inr (28, (n + 1), b)))), some (.inl (iZ ((k : Int))))], [], h)) (c2 := (16, [some (.inr (.inr (.inr (28, n, ra)))), some (.inr (.inr (.inr (20, l, rl)))), some (.inr (.inr (.inr (28, (n + 1), b)))), some (.inl (iZ ((k : Int))))], [], h)) rfl (iZ_le ⟨by omega, by omega⟩ ⟨by omega, by omega⟩) (fun c0 => ?_) (fun c0 => ?_)
  · refine Ev.sts 2 (c' := (30, [some (.inr (.inr (.inr (28, n, ra)))), some (.inr (.inr (.inr (20, l, rl)))), some (.inr (.inr (.inr (28, (n + 1), b)))), some (.inl (iZ ((k : Int))))], [.inr (.inr (.inr (28, n, ra))), .inr (.inr (.inr (28, (n + 1), b)))], h)) rfl ?_
    refine Ev.gv (w := (iZ (n))) rfl (iZ_nat _) ?_
    refine Ev.sts 1 (c' := (32, [some (.inr (.inr (.inr (28, n, ra)))), some (.inr (.inr (.inr (20, l, rl)))), some (.inr (.inr (.inr (28, (n + 1), b)))), some (.inl (iZ ((k : Int))))], [.inr (.inr (.inr (20, l, rl))), .inl (iZ (n)), .inr (.inr (.inr (28, (n + 1), b)))], h)) rfl ?_
    refine Ev.sto (j := (iZ (n))) (n := (n + 1)) (h2 := (setR h b n (20, l, rl))) (iZ_in (by omega) (by omega) (by omega)) rfl (by rw [iZ_ix (n := n) (by omega) (by omega)]) ?_
    refine Ev.sts 1 (c' := (34, [some (.inr (.inr (.inr (28, n, ra)))), some (.inr (.inr (.inr (20, l, rl)))), some (.inr (.inr (.inr (28, (n + 1), b)))), some (.inl (iZ ((k : Int))))], [.inr (.inr (.inr (28, (n + 1), b)))], (setR h b n (20, l, rl)))) rfl ?_
    exact Ev.ret rfl (q0 (by omega))
  · refine Ev.sts 4 (c' := (20, [some (.inr (.inr (.inr (28, n, ra)))), some (.inr (.inr (.inr (20, l, rl)))), some (.inr (.inr (.inr (28, (n + 1), b)))), some (.inl (iZ ((k : Int))))], [.inl (iZ ((k : Int))), .inr (.inr (.inr (28, n, ra))), .inl (iZ ((k : Int))), .inr (.inr (.inr (28, (n + 1), b)))], h)) rfl ?_
    refine Ev.ldv (j := (iZ ((k : Int)))) (n := n) (w := .inr (.inr (.inr (20, (fl k), (fr k))))) (iZ_in (by omega) (by omega) (by omega)) rfl (by rw [iZ_ix (n := k) (by omega) (by omega)]; exact congrArg vR (o k (by omega))) ?_
    refine Ev.sto (j := (iZ ((k : Int)))) (n := (n + 1)) (h2 := (setR h b k (20, (fl k), (fr k)))) (iZ_in (by omega) (by omega) (by omega)) rfl (by rw [iZ_ix (n := k) (by omega) (by omega)]) ?_
    refine Ev.stc (c1 := (25, [some (.inr (.inr (.inr (28, n, ra)))), some (.inr (.inr (.inr (20, l, rl)))), some (.inr (.inr (.inr (28, (n + 1), b)))), some (.inl ((iZ ((k : Int))) + (iZ (1))))], [], (setR h b k (20, (fl k), (fr k))))) (c2 := (25, [some (.inr (.inr (.inr (28, n, ra)))), some (.inr (.inr (.inr (20, l, rl)))), some (.inr (.inr (.inr (28, (n + 1), b)))), some (.inl (iZ (((k : Int)) + 1)))], [], (setR h b k (20, (fl k), (fr k))))) rfl (by rw [iZ_add]) ?_
    refine Ev.sts 1 (c' := (10, [some (.inr (.inr (.inr (28, n, ra)))), some (.inr (.inr (.inr (20, l, rl)))), some (.inr (.inr (.inr (28, (n + 1), b)))), some (.inl (iZ (((k : Int)) + 1)))], [], (setR h b k (20, (fl k), (fr k))))) rfl ?_
    exact k1 (by omega)

theorem wi_0 {d n l rl ra : Nat} {h : PH} {Q : Rs → PH → Prop} (hn : n ≤ 5000) (k1 : Ev d 177 (10, [some (.inr (.inr (.inr (28, n, ra)))), some (.inr (.inr (.inr (20, l, rl)))), some (.inr (.inr (.inr (28, (n + 1), (hN h))))), some (.inl (iZ (0)))], [], (grow h (n + 1))) Q) : Rn d 177 [.inr (.inr (.inr (28, n, ra))), .inr (.inr (.inr (20, l, rl)))] h Q := by
  refine Ev.sts 1 (c' := (1, [some (.inr (.inr (.inr (28, n, ra)))), some (.inr (.inr (.inr (20, l, rl)))), none, none], [.inr (.inr (.inr (28, n, ra)))], h)) rfl ?_
  refine Ev.gv (w := (iZ (n))) rfl (iZ_nat _) ?_
  refine Ev.sts 1 (c' := (3, [some (.inr (.inr (.inr (28, n, ra)))), some (.inr (.inr (.inr (20, l, rl)))), none, none], [.inl (iZ (1)), .inl (iZ (n))], h)) rfl ?_
  refine Ev.gv (w := (iZ (n + 1))) rfl (iZ_add _ _) ?_
  refine Ev.pc (p := (iZ (n + 1)) < 0 ∨ 100000 < ((iZ (n + 1))).toNatClampNeg) (c1 := (7, [some (.inr (.inr (.inr (28, n, ra)))), some (.inr (.inr (.inr (20, l, rl)))), none, none], [.inr (.inr (.inr (28, ((iZ (n + 1))).toNatClampNeg, (hN h))))], (grow h (((iZ (n + 1))).toNatClampNeg)))) (c2 := (7, [some (.inr (.inr (.inr (28, n, ra)))), some (.inr (.inr (.inr (20, l, rl)))), none, none], [.inr (.inr (.inr (28, (n + 1), (hN h))))], (grow h (n + 1)))) (nwa_in (by omega) (by omega)) rfl (by rw [iZ_ix (n := n + 1) (by omega) (by omega)]) ?_
  refine Ev.sts 3 (c' := (10, [some (.inr (.inr (.inr (28, n, ra)))), some (.inr (.inr (.inr (20, l, rl)))), some (.inr (.inr (.inr (28, (n + 1), (hN h))))), some (.inl (iZ (0)))], [], (grow h (n + 1)))) rfl ?_
  exact k1

theorem wi_lp {d n l rl ra b : Nat} {fl fr : Nat → Nat} {h0 : PH} {Q : Rs → PH → Prop} (hn : n ≤ 5000) (hb : b = hN h0) (hra : ra < b) (q : ∀ h1, nwR h0 h1 (n + 1) → (∀ j, j < n → h1.2.2.1 b j = (20, fl j, fr j)) → h1.2.2.1 b n = (20, l, rl) → Q (.inl (some (.inr (.inr (.inr (28, (n + 1), b)))))) h1) (m : Nat) : ∀ (k : Nat) (h : PH), k + m = n → nwR h0 h (n + 1) → (∀ j, j < n → h.2.2.1 ra j = (20, fl j, fr j)) → (∀ j, j < k → h.2.2.1 b j = (20, fl j, fr j)) → Ev d 177 (10, [some (.inr (.inr (.inr (28, n, ra)))), some (.inr (.inr (.inr (20, l, rl)))), some (.inr (.inr (.inr (28, (n + 1), b)))), some (.inl (iZ ((k : Int))))], [], h) Q := by
  induction m with
  | zero =>
    intro k h hk x o w
    subst hb
    refine wi_10 (d := d) hn (by omega) o (fun _ => q _ (nwR_s x) (fun j hj => (setR_ne (by omega)).trans (w j (by omega))) (setR_self _ _ _ _)) (fun c => by omega)
  | succ m ih =>
    intro k h hk x o w
    subst hb
    refine wi_10 (d := d) hn (by omega) o (fun c => by omega) (fun c => ?_)
    exact ih (k + 1) _ (by omega) (nwR_s x) (fun j hj => (setR_ne (by omega)).trans (o j hj)) (fun j hj => by
      by_cases e : j = k
      · rw [e]; exact setR_self _ _ _ _
      · exact (setR_ne (by omega)).trans (w j (by omega)))
theorem ls_with {d n l rl ra : Nat} {fl fr : Nat → Nat} {h : PH} {Q : Rs → PH → Prop} (hn : n ≤ 5000) (hra : ra < hN h) (o : ∀ j, j < n → h.2.2.1 ra j = (20, fl j, fr j)) (q : ∀ h1, nwR h h1 (n + 1) → (∀ j, j < n → h1.2.2.1 (hN h) j = (20, fl j, fr j)) → h1.2.2.1 (hN h) n = (20, l, rl) → Q (.inl (some (.inr (.inr (.inr (28, n + 1, hN h)))))) h1) : Rn d 177 [.inr (.inr (.inr (28, n, ra))), .inr (.inr (.inr (20, l, rl)))] h Q :=
  wi_0 (d := d) hn (wi_lp hn rfl hra q n 0 _ (by omega) (nwR_g h (n + 1)) o (fun j hj => absurd hj (Nat.not_lt_zero _)))
theorem wo_10 {d n m k p ra b : Nat} {fl fr : Nat → Nat} {h : PH} {Q : Rs → PH → Prop} (hn : n ≤ 5000) (hm : n = m + 1) (hp : p < n) (hk : k ≤ m) (o : ∀ j, j < n → h.2.2.1 ra j = (20, fl j, fr j)) (q0 : m ≤ k → Q (.inl (some (.inr (.inr (.inr (28, m, b)))))) h) (k1 : k < m → k < p → Ev d 178 (10, [some (.inr (.inr (.inr (28, n, ra)))), some (.inl (iZ ((p : Int)))), some (.inr (.inr (.inr (28, m, b)))), some (.inl (iZ ((k : Int) + 1)))], [], (setR h b k (20, (fl k), (fr k)))) Q) (k2 : k < m → ¬ k < p → Ev d 178 (10, [some (.inr (.inr (.inr (28, n, ra)))), some (.inl (iZ ((p : Int)))), some (.inr (.inr (.inr (28, m, b)))), some (.inl (iZ ((k : Int) + 1)))], [], (setR h b k (20, (fl (k + 1)), (fr (k + 1))))) Q) : Ev d 178 (10, [some (.inr (.inr (.inr (28, n, ra)))), some (.inl (iZ ((p : Int)))), some (.inr (.inr (.inr (28, m, b)))), some (.inl (iZ ((k : Int))))], [], h) Q := by
  refine Ev.sts 2 (c' := (12, [some (.inr (.inr (.inr (28, n, ra)))), some (.inl (iZ ((p : Int)))), some (.inr (.inr (.inr (28, m, b)))), some (.inl (iZ ((k : Int))))], [.inr (.inr (.inr (28, m, b))), .inl (iZ ((k : Int)))], h)) rfl ?_
  refine Ev.gv (w := (iZ (m))) rfl (iZ_nat _) ?_
  refine Ev.brc (p := (iZ (m)) ≤ (iZ ((k : Int)))) (q := ((m : Int)) ≤ (k : Int)) (c1 := (39, [some (.inr (.inr (.inr (28, n, ra)))), some (.inl (iZ ((p : Int)))), some (.inr (.inr (.inr (28, m, b)))), some (.inl (iZ ((k : Int))))], [], h)) (c2 := (16, [some (.inr (.inr (.inr (28, n, ra)))), some (.inl (iZ ((p : Int)))), some (.inr (.inr (.inr (28, m, b)))), some (.inl (iZ ((k : Int))))], [], h)) rfl (iZ_le ⟨by omega, by omega⟩ ⟨by omega, by omega⟩) (fun c0 => ?_) (fun c0 => ?_)
  · refine Ev.sts 1 (c' := (40, [some (.inr (.inr (.inr (28, n, ra)))), some (.inl (iZ ((p : Int)))), some (.inr (.inr (.inr (28, m, b)))), some (.inl (iZ ((k : Int))))], [.inr (.inr (.inr (28, m, b)))], h)) rfl ?_
    exact Ev.ret rfl (q0 (by omega))
  · refine Ev.sts 5 (c' := (21, [some (.inr (.inr (.inr (28, n, ra)))), some (.inl (iZ ((p : Int)))), some (.inr (.inr (.inr (28, m, b)))), some (.inl (iZ ((k : Int))))], [.inl (iZ ((p : Int))), .inl (iZ ((k : Int))), .inr (.inr (.inr (28, n, ra))), .inl (iZ ((k : Int))), .inr (.inr (.inr (28, m, b)))], h)) rfl ?_
    refine Ev.brc (p := (iZ ((p : Int))) ≤ (iZ ((k : Int)))) (q := (((p : Int) : Int)) ≤ (k : Int)) (c1 := (28, [some (.inr (.inr (.inr (28, n, ra)))), some (.inl (iZ ((p : Int)))), some (.inr (.inr (.inr (28, m, b)))), some (.inl (iZ ((k : Int))))], [.inr (.inr (.inr (28, n, ra))), .inl (iZ ((k : Int))), .inr (.inr (.inr (28, m, b)))], h)) (c2 := (24, [some (.inr (.inr (.inr (28, n, ra)))), some (.inl (iZ ((p : Int)))), some (.inr (.inr (.inr (28, m, b)))), some (.inl (iZ ((k : Int))))], [.inr (.inr (.inr (28, n, ra))), .inl (iZ ((k : Int))), .inr (.inr (.inr (28, m, b)))], h)) rfl (iZ_le ⟨by omega, by omega⟩ ⟨by omega, by omega⟩) (fun c1 => ?_) (fun c1 => ?_)
    · refine Ev.sts 2 (c' := (30, [some (.inr (.inr (.inr (28, n, ra)))), some (.inl (iZ ((p : Int)))), some (.inr (.inr (.inr (28, m, b)))), some (.inl (iZ ((k : Int))))], [.inl (iZ (1)), .inl (iZ ((k : Int))), .inr (.inr (.inr (28, n, ra))), .inl (iZ ((k : Int))), .inr (.inr (.inr (28, m, b)))], h)) rfl ?_
      refine Ev.gv (w := (iZ (((k : Int)) + 1))) rfl (iZ_add _ _) ?_
      refine Ev.ldv (j := (iZ (((k : Int)) + 1))) (n := n) (w := .inr (.inr (.inr (20, (fl (k + 1)), (fr (k + 1)))))) (iZ_in (by omega) (by omega) (by omega)) rfl (by rw [iZ_ix (n := k + 1) (by omega) (by omega)]; exact congrArg vR (o (k + 1) (by omega))) ?_
      refine Ev.sto (j := (iZ ((k : Int)))) (n := m) (h2 := (setR h b k (20, (fl (k + 1)), (fr (k + 1))))) (iZ_in (by omega) (by omega) (by omega)) rfl (by rw [iZ_ix (n := k) (by omega) (by omega)]) ?_
      refine Ev.stc (c1 := (36, [some (.inr (.inr (.inr (28, n, ra)))), some (.inl (iZ ((p : Int)))), some (.inr (.inr (.inr (28, m, b)))), some (.inl ((iZ ((k : Int))) + (iZ (1))))], [], (setR h b k (20, (fl (k + 1)), (fr (k + 1)))))) (c2 := (36, [some (.inr (.inr (.inr (28, n, ra)))), some (.inl (iZ ((p : Int)))), some (.inr (.inr (.inr (28, m, b)))), some (.inl (iZ (((k : Int)) + 1)))], [], (setR h b k (20, (fl (k + 1)), (fr (k + 1)))))) rfl (by rw [iZ_add]) ?_
      refine Ev.sts 1 (c' := (10, [some (.inr (.inr (.inr (28, n, ra)))), some (.inl (iZ ((p : Int)))), some (.inr (.inr (.inr (28, m, b)))), some (.inl (iZ (((k : Int)) + 1)))], [], (setR h b k (20, (fl (k + 1)), (fr (k + 1)))))) rfl ?_
      exact k2 (by omega) (by omega)
    · refine Ev.sts 2 (c' := (31, [some (.inr (.inr (.inr (28, n, ra)))), some (.inl (iZ ((p : Int)))), some (.inr (.inr (.inr (28, m, b)))), some (.inl (iZ ((k : Int))))], [.inl (iZ ((k : Int))), .inr (.inr (.inr (28, n, ra))), .inl (iZ ((k : Int))), .inr (.inr (.inr (28, m, b)))], h)) rfl ?_
      refine Ev.ldv (j := (iZ ((k : Int)))) (n := n) (w := .inr (.inr (.inr (20, (fl k), (fr k))))) (iZ_in (by omega) (by omega) (by omega)) rfl (by rw [iZ_ix (n := k) (by omega) (by omega)]; exact congrArg vR (o k (by omega))) ?_
      refine Ev.sto (j := (iZ ((k : Int)))) (n := m) (h2 := (setR h b k (20, (fl k), (fr k)))) (iZ_in (by omega) (by omega) (by omega)) rfl (by rw [iZ_ix (n := k) (by omega) (by omega)]) ?_
      refine Ev.stc (c1 := (36, [some (.inr (.inr (.inr (28, n, ra)))), some (.inl (iZ ((p : Int)))), some (.inr (.inr (.inr (28, m, b)))), some (.inl ((iZ ((k : Int))) + (iZ (1))))], [], (setR h b k (20, (fl k), (fr k))))) (c2 := (36, [some (.inr (.inr (.inr (28, n, ra)))), some (.inl (iZ ((p : Int)))), some (.inr (.inr (.inr (28, m, b)))), some (.inl (iZ (((k : Int)) + 1)))], [], (setR h b k (20, (fl k), (fr k))))) rfl (by rw [iZ_add]) ?_
      refine Ev.sts 1 (c' := (10, [some (.inr (.inr (.inr (28, n, ra)))), some (.inl (iZ ((p : Int)))), some (.inr (.inr (.inr (28, m, b)))), some (.inl (iZ (((k : Int)) + 1)))], [], (setR h b k (20, (fl k), (fr k))))) rfl ?_
      exact k1 (by omega) (by omega)

theorem wo_0 {d n m p ra : Nat} {h : PH} {Q : Rs → PH → Prop} (hn : n ≤ 5000) (hm : n = m + 1) (k1 : Ev d 178 (10, [some (.inr (.inr (.inr (28, n, ra)))), some (.inl (iZ ((p : Int)))), some (.inr (.inr (.inr (28, m, (hN h))))), some (.inl (iZ (0)))], [], (grow h m)) Q) : Rn d 178 [.inr (.inr (.inr (28, n, ra))), .inl (iZ ((p : Int)))] h Q := by
  refine Ev.sts 1 (c' := (1, [some (.inr (.inr (.inr (28, n, ra)))), some (.inl (iZ ((p : Int)))), none, none], [.inr (.inr (.inr (28, n, ra)))], h)) rfl ?_
  refine Ev.gv (w := (iZ (n))) rfl (iZ_nat _) ?_
  refine Ev.sts 1 (c' := (3, [some (.inr (.inr (.inr (28, n, ra)))), some (.inl (iZ ((p : Int)))), none, none], [.inl (iZ (1)), .inl (iZ (n))], h)) rfl ?_
  refine Ev.gv (w := (iZ (n - 1))) rfl (iZ_sub _ _) ?_
  refine Ev.pc (p := (iZ (n - 1)) < 0 ∨ 100000 < ((iZ (n - 1))).toNatClampNeg) (c1 := (7, [some (.inr (.inr (.inr (28, n, ra)))), some (.inl (iZ ((p : Int)))), none, none], [.inr (.inr (.inr (28, ((iZ (n - 1))).toNatClampNeg, (hN h))))], (grow h (((iZ (n - 1))).toNatClampNeg)))) (c2 := (7, [some (.inr (.inr (.inr (28, n, ra)))), some (.inl (iZ ((p : Int)))), none, none], [.inr (.inr (.inr (28, m, (hN h))))], (grow h m))) (nwa_in (by omega) (by omega)) rfl (by rw [iZ_ix (n := m) (by omega) (by omega)]) ?_
  refine Ev.sts 3 (c' := (10, [some (.inr (.inr (.inr (28, n, ra)))), some (.inl (iZ ((p : Int)))), some (.inr (.inr (.inr (28, m, (hN h))))), some (.inl (iZ (0)))], [], (grow h m))) rfl ?_
  exact k1

/-- the place in the longer row -/
def skp (p j : Nat) : Nat := if j < p then j else j + 1
theorem skp_1 {p j : Nat} (h : j < p) : skp p j = j := if_pos h
theorem skp_2 {p j : Nat} (h : ¬ j < p) : skp p j = j + 1 := if_neg h
theorem wo_lp {d n m p ra b : Nat} {fl fr : Nat → Nat} {h0 : PH} {Q : Rs → PH → Prop} (hn : n ≤ 5000) (hm : n = m + 1) (hp : p < n) (hb : b = hN h0) (hra : ra < b) (q : ∀ h1, nwR h0 h1 m → (∀ j, j < m → h1.2.2.1 b j = (20, fl (skp p j), fr (skp p j))) → Q (.inl (some (.inr (.inr (.inr (28, m, b)))))) h1) (i : Nat) : ∀ (k : Nat) (h : PH), k + i = m → nwR h0 h m → (∀ j, j < n → h.2.2.1 ra j = (20, fl j, fr j)) → (∀ j, j < k → h.2.2.1 b j = (20, fl (skp p j), fr (skp p j))) → Ev d 178 (10, [some (.inr (.inr (.inr (28, n, ra)))), some (.inl (iZ ((p : Int)))), some (.inr (.inr (.inr (28, m, b)))), some (.inl (iZ ((k : Int))))], [], h) Q := by
  induction i with
  | zero =>
    intro k h hk x o w
    refine wo_10 (d := d) hn hm hp (by omega) o (fun _ => q _ x (fun j hj => w j (by omega))) (fun c => by omega) (fun c => by omega)
  | succ i ih =>
    intro k h hk x o w
    subst hb
    refine wo_10 (d := d) hn hm hp (by omega) o (fun c => by omega) (fun c1 c => ?_) (fun c1 c => ?_)
    · exact ih (k + 1) _ (by omega) (nwR_s x) (fun j hj => (setR_ne (by omega)).trans (o j hj)) (fun j hj => by
        by_cases e : j = k
        · rw [e, skp_1 c]; exact setR_self _ _ _ _
        · exact (setR_ne (by omega)).trans (w j (by omega)))
    · exact ih (k + 1) _ (by omega) (nwR_s x) (fun j hj => (setR_ne (by omega)).trans (o j hj)) (fun j hj => by
        by_cases e : j = k
        · rw [e, skp_2 c]; exact setR_self _ _ _ _
        · exact (setR_ne (by omega)).trans (w j (by omega)))
theorem ls_without {d n m p ra : Nat} {fl fr : Nat → Nat} {h : PH} {Q : Rs → PH → Prop} (hn : n ≤ 5000) (hm : n = m + 1) (hp : p < n) (hra : ra < hN h) (o : ∀ j, j < n → h.2.2.1 ra j = (20, fl j, fr j)) (q : ∀ h1, nwR h h1 m → (∀ j, j < m → h1.2.2.1 (hN h) j = (20, fl (skp p j), fr (skp p j))) → Q (.inl (some (.inr (.inr (.inr (28, m, hN h)))))) h1) : Rn d 178 [.inr (.inr (.inr (28, n, ra))), .inl (iZ (p : Int))] h Q :=
  wo_0 (d := d) hn hm (wo_lp hn hm hp rfl hra q m 0 _ (by omega) (nwR_g h m) o (fun j hj => absurd hj (Nat.not_lt_zero _)))
theorem pu_2 {d sm k wl wr oa : Nat} {u : Q5} {w : Wn} {L : List Wn} {x3 x4 : Option VV} {fl fr : Nat → Nat} {h : PH} {Q : Rs → PH → Prop} (hn : L.length ≤ 5000) (hk : k ≤ L.length) (e3 : h.2.2.1 sm 3 = (28, L.length, oa)) (o : oWs h sm u oa fl fr L) (hw : wRw h wl wr w) (hB : ∀ j, (L.getD j wn0).1 < 6 ∧ 0 ≤ (L.getD j wn0).2.1 ∧ (L.getD j wn0).2.1 ≤ 1200) (wB : w.1 < 6 ∧ 0 ≤ w.2.1 ∧ w.2.1 ≤ 1200) (k1 : k < L.length → ((L.getD k wn0).1 < w.1 ∨ ((L.getD k wn0).1 = w.1 ∧ (L.getD k wn0).2.1 < w.2.1)) → Ev d 181 (2, [some (.inr (.inr (.inr (12, 0, sm)))), some (.inr (.inr (.inr (20, wl, wr)))), some (.inl (iZ ((k : Int) + 1))), x3, x4], [], h) Q) (k2 : (k = L.length ∨ ¬ ((L.getD k wn0).1 < w.1 ∨ ((L.getD k wn0).1 = w.1 ∧ (L.getD k wn0).2.1 < w.2.1))) → Ev d 181 (59, [some (.inr (.inr (.inr (12, 0, sm)))), some (.inr (.inr (.inr (20, wl, wr)))), some (.inl (iZ ((k : Int)))), x3, x4], [], h) Q) : Ev d 181 (2, [some (.inr (.inr (.inr (12, 0, sm)))), some (.inr (.inr (.inr (20, wl, wr)))), some (.inl (iZ ((k : Int)))), x3, x4], [], h) Q := by
  have bk := hB k
  have lk : k < L.length → fl k = 3 + (L.getD k wn0).2.2.2.length := fun z => (o k z).2.2.1
  have lw := hw.1
  refine Ev.sts 2 (c' := (4, [some (.inr (.inr (.inr (12, 0, sm)))), some (.inr (.inr (.inr (20, wl, wr)))), some (.inl (iZ ((k : Int)))), x3, x4], [.inr (.inr (.inr (12, 0, sm))), .inl (iZ ((k : Int)))], h)) rfl ?_
  refine Ev.gfr (r := (28, L.length, oa)) rfl e3 ?_
  refine Ev.gv (w := (iZ (L.length))) rfl (iZ_nat _) ?_
  refine Ev.brc (p := (iZ (L.length)) ≤ (iZ ((k : Int)))) (q := ((L.length : Int)) ≤ (k : Int)) (c1 := (59, [some (.inr (.inr (.inr (12, 0, sm)))), some (.inr (.inr (.inr (20, wl, wr)))), some (.inl (iZ ((k : Int)))), x3, x4], [], h)) (c2 := (11, [some (.inr (.inr (.inr (12, 0, sm)))), some (.inr (.inr (.inr (20, wl, wr)))), some (.inl (iZ ((k : Int)))), x3, x4], [], h)) rfl (iZ_le ⟨by omega, by omega⟩ ⟨by omega, by omega⟩) (fun c0 => ?_) (fun c0 => ?_)
  · exact k2 (by omega)
  · refine Ev.sts 1 (c' := (12, [some (.inr (.inr (.inr (12, 0, sm)))), some (.inr (.inr (.inr (20, wl, wr)))), some (.inl (iZ ((k : Int)))), x3, x4], [.inr (.inr (.inr (12, 0, sm)))], h)) rfl ?_
    refine Ev.gfr (r := (28, L.length, oa)) rfl e3 ?_
    refine Ev.sts 1 (c' := (16, [some (.inr (.inr (.inr (12, 0, sm)))), some (.inr (.inr (.inr (20, wl, wr)))), some (.inl (iZ ((k : Int)))), x3, x4], [.inl (iZ ((k : Int))), .inr (.inr (.inr (28, L.length, oa)))], h)) rfl ?_
    refine Ev.ldv (j := (iZ ((k : Int)))) (n := L.length) (w := .inr (.inr (.inr (20, (fl k), (fr k))))) (iZ_in (by omega) (by omega) (by omega)) rfl (by rw [iZ_ix (n := k) (by omega) (by omega)]; exact congrArg vR (o k (by omega)).1) ?_
    refine Ev.sts 1 (c' := (18, [some (.inr (.inr (.inr (12, 0, sm)))), some (.inr (.inr (.inr (20, wl, wr)))), some (.inl (iZ ((k : Int)))), x3, x4], [.inl (iZ (0)), .inr (.inr (.inr (20, (fl k), (fr k))))], h)) rfl ?_
    refine Ev.ldv (j := (iZ (0))) (n := (fl k)) (w := .inl (iZ (((L.getD k wn0).1 : Int)))) (iZ_in (by omega) (by omega) (by omega)) rfl (congrArg vI (o k (by omega)).2.2.2.1) ?_
    refine Ev.sts 2 (c' := (21, [some (.inr (.inr (.inr (12, 0, sm)))), some (.inr (.inr (.inr (20, wl, wr)))), some (.inl (iZ ((k : Int)))), x3, x4], [.inl (iZ (0)), .inr (.inr (.inr (20, wl, wr))), .inl (iZ (((L.getD k wn0).1 : Int)))], h)) rfl ?_
    refine Ev.ldv (j := (iZ (0))) (n := wl) (w := .inl (iZ ((w.1 : Int)))) (iZ_in (by omega) (by omega) (by omega)) rfl (congrArg vI hw.2.1) ?_
    refine Ev.brc (p := (iZ (((L.getD k wn0).1 : Int))) < (iZ ((w.1 : Int)))) (q := ((((L.getD k wn0).1 : Int) : Int)) < (w.1 : Int)) (c1 := (53, [some (.inr (.inr (.inr (12, 0, sm)))), some (.inr (.inr (.inr (20, wl, wr)))), some (.inl (iZ ((k : Int)))), x3, x4], [], h)) (c2 := (25, [some (.inr (.inr (.inr (12, 0, sm)))), some (.inr (.inr (.inr (20, wl, wr)))), some (.inl (iZ ((k : Int)))), x3, x4], [], h)) rfl (iZ_lt ⟨by omega, by omega⟩ ⟨by omega, by omega⟩) (fun c1 => ?_) (fun c1 => ?_)
    · refine Ev.stc (c1 := (56, [some (.inr (.inr (.inr (12, 0, sm)))), some (.inr (.inr (.inr (20, wl, wr)))), some (.inl ((iZ ((k : Int))) + (iZ (1)))), x3, x4], [], h)) (c2 := (56, [some (.inr (.inr (.inr (12, 0, sm)))), some (.inr (.inr (.inr (20, wl, wr)))), some (.inl (iZ (((k : Int)) + 1))), x3, x4], [], h)) rfl (by rw [iZ_add]) ?_
      refine Ev.sts 1 (c' := (2, [some (.inr (.inr (.inr (12, 0, sm)))), some (.inr (.inr (.inr (20, wl, wr)))), some (.inl (iZ (((k : Int)) + 1))), x3, x4], [], h)) rfl ?_
      exact k1 (by omega) (by omega)
    · refine Ev.sts 1 (c' := (26, [some (.inr (.inr (.inr (12, 0, sm)))), some (.inr (.inr (.inr (20, wl, wr)))), some (.inl (iZ ((k : Int)))), x3, x4], [.inr (.inr (.inr (12, 0, sm)))], h)) rfl ?_
      refine Ev.gfr (r := (28, L.length, oa)) rfl e3 ?_
      refine Ev.sts 1 (c' := (30, [some (.inr (.inr (.inr (12, 0, sm)))), some (.inr (.inr (.inr (20, wl, wr)))), some (.inl (iZ ((k : Int)))), x3, x4], [.inl (iZ ((k : Int))), .inr (.inr (.inr (28, L.length, oa)))], h)) rfl ?_
      refine Ev.ldv (j := (iZ ((k : Int)))) (n := L.length) (w := .inr (.inr (.inr (20, (fl k), (fr k))))) (iZ_in (by omega) (by omega) (by omega)) rfl (by rw [iZ_ix (n := k) (by omega) (by omega)]; exact congrArg vR (o k (by omega)).1) ?_
      refine Ev.sts 1 (c' := (32, [some (.inr (.inr (.inr (12, 0, sm)))), some (.inr (.inr (.inr (20, wl, wr)))), some (.inl (iZ ((k : Int)))), x3, x4], [.inl (iZ (0)), .inr (.inr (.inr (20, (fl k), (fr k))))], h)) rfl ?_
      refine Ev.ldv (j := (iZ (0))) (n := (fl k)) (w := .inl (iZ (((L.getD k wn0).1 : Int)))) (iZ_in (by omega) (by omega) (by omega)) rfl (congrArg vI (o k (by omega)).2.2.2.1) ?_
      refine Ev.sts 2 (c' := (35, [some (.inr (.inr (.inr (12, 0, sm)))), some (.inr (.inr (.inr (20, wl, wr)))), some (.inl (iZ ((k : Int)))), x3, x4], [.inl (iZ (0)), .inr (.inr (.inr (20, wl, wr))), .inl (iZ (((L.getD k wn0).1 : Int)))], h)) rfl ?_
      refine Ev.ldv (j := (iZ (0))) (n := wl) (w := .inl (iZ ((w.1 : Int)))) (iZ_in (by omega) (by omega) (by omega)) rfl (congrArg vI hw.2.1) ?_
      refine Ev.brc (p := ¬ (iZ (((L.getD k wn0).1 : Int))) = (iZ ((w.1 : Int)))) (q := ¬ ((((L.getD k wn0).1 : Int) : Int)) = (w.1 : Int)) (c1 := (59, [some (.inr (.inr (.inr (12, 0, sm)))), some (.inr (.inr (.inr (20, wl, wr)))), some (.inl (iZ ((k : Int)))), x3, x4], [], h)) (c2 := (39, [some (.inr (.inr (.inr (12, 0, sm)))), some (.inr (.inr (.inr (20, wl, wr)))), some (.inl (iZ ((k : Int)))), x3, x4], [], h)) rfl (not_congr (iZ_eq ⟨by omega, by omega⟩ ⟨by omega, by omega⟩)) (fun c2 => ?_) (fun c2 => ?_)
      · exact k2 (by omega)
      · refine Ev.sts 1 (c' := (40, [some (.inr (.inr (.inr (12, 0, sm)))), some (.inr (.inr (.inr (20, wl, wr)))), some (.inl (iZ ((k : Int)))), x3, x4], [.inr (.inr (.inr (12, 0, sm)))], h)) rfl ?_
        refine Ev.gfr (r := (28, L.length, oa)) rfl e3 ?_
        refine Ev.sts 1 (c' := (44, [some (.inr (.inr (.inr (12, 0, sm)))), some (.inr (.inr (.inr (20, wl, wr)))), some (.inl (iZ ((k : Int)))), x3, x4], [.inl (iZ ((k : Int))), .inr (.inr (.inr (28, L.length, oa)))], h)) rfl ?_
        refine Ev.ldv (j := (iZ ((k : Int)))) (n := L.length) (w := .inr (.inr (.inr (20, (fl k), (fr k))))) (iZ_in (by omega) (by omega) (by omega)) rfl (by rw [iZ_ix (n := k) (by omega) (by omega)]; exact congrArg vR (o k (by omega)).1) ?_
        refine Ev.sts 1 (c' := (46, [some (.inr (.inr (.inr (12, 0, sm)))), some (.inr (.inr (.inr (20, wl, wr)))), some (.inl (iZ ((k : Int)))), x3, x4], [.inl (iZ (1)), .inr (.inr (.inr (20, (fl k), (fr k))))], h)) rfl ?_
        refine Ev.ldv (j := (iZ (1))) (n := (fl k)) (w := .inl (iZ ((L.getD k wn0).2.1))) (iZ_in (by omega) (by omega) (by omega)) rfl (congrArg vI (o k (by omega)).2.2.2.2.1) ?_
        refine Ev.sts 2 (c' := (49, [some (.inr (.inr (.inr (12, 0, sm)))), some (.inr (.inr (.inr (20, wl, wr)))), some (.inl (iZ ((k : Int)))), x3, x4], [.inl (iZ (1)), .inr (.inr (.inr (20, wl, wr))), .inl (iZ ((L.getD k wn0).2.1))], h)) rfl ?_
        refine Ev.ldv (j := (iZ (1))) (n := wl) (w := .inl (iZ (w.2.1))) (iZ_in (by omega) (by omega) (by omega)) rfl (congrArg vI hw.2.2.1) ?_
        refine Ev.brc (p := (iZ (w.2.1)) ≤ (iZ ((L.getD k wn0).2.1))) (q := ((w.2.1 : Int)) ≤ ((L.getD k wn0).2.1)) (c1 := (59, [some (.inr (.inr (.inr (12, 0, sm)))), some (.inr (.inr (.inr (20, wl, wr)))), some (.inl (iZ ((k : Int)))), x3, x4], [], h)) (c2 := (53, [some (.inr (.inr (.inr (12, 0, sm)))), some (.inr (.inr (.inr (20, wl, wr)))), some (.inl (iZ ((k : Int)))), x3, x4], [], h)) rfl (iZ_le ⟨by omega, by omega⟩ ⟨by omega, by omega⟩) (fun c3 => ?_) (fun c3 => ?_)
        · exact k2 (by omega)
        · refine Ev.stc (c1 := (56, [some (.inr (.inr (.inr (12, 0, sm)))), some (.inr (.inr (.inr (20, wl, wr)))), some (.inl ((iZ ((k : Int))) + (iZ (1)))), x3, x4], [], h)) (c2 := (56, [some (.inr (.inr (.inr (12, 0, sm)))), some (.inr (.inr (.inr (20, wl, wr)))), some (.inl (iZ (((k : Int)) + 1))), x3, x4], [], h)) rfl (by rw [iZ_add]) ?_
          refine Ev.sts 1 (c' := (2, [some (.inr (.inr (.inr (12, 0, sm)))), some (.inr (.inr (.inr (20, wl, wr)))), some (.inl (iZ (((k : Int)) + 1))), x3, x4], [], h)) rfl ?_
          exact k1 (by omega) (by omega)

theorem pu_59 {d sm p wl wr oa : Nat} {L : List Wn} {x3 x4 : Option VV} {h : PH} {Q : Rs → PH → Prop} (hn : L.length ≤ 5000) (e3 : h.2.2.1 sm 3 = (28, L.length, oa)) (k1 : Ev d 181 (73, [some (.inr (.inr (.inr (12, 0, sm)))), some (.inr (.inr (.inr (20, wl, wr)))), some (.inl (iZ ((p : Int)))), some (.inr (.inr (.inr (28, (L.length + 1), (hN h))))), some (.inl (iZ (0)))], [], (grow h (L.length + 1))) Q) : Ev d 181 (59, [some (.inr (.inr (.inr (12, 0, sm)))), some (.inr (.inr (.inr (20, wl, wr)))), some (.inl (iZ ((p : Int)))), x3, x4], [], h) Q := by
  refine Ev.sts 1 (c' := (60, [some (.inr (.inr (.inr (12, 0, sm)))), some (.inr (.inr (.inr (20, wl, wr)))), some (.inl (iZ ((p : Int)))), x3, x4], [.inr (.inr (.inr (12, 0, sm)))], h)) rfl ?_
  refine Ev.gfr (r := (28, L.length, oa)) rfl e3 ?_
  refine Ev.gv (w := (iZ (L.length))) rfl (iZ_nat _) ?_
  refine Ev.sts 1 (c' := (65, [some (.inr (.inr (.inr (12, 0, sm)))), some (.inr (.inr (.inr (20, wl, wr)))), some (.inl (iZ ((p : Int)))), x3, x4], [.inl (iZ (1)), .inl (iZ (L.length))], h)) rfl ?_
  refine Ev.gv (w := (iZ (L.length + 1))) rfl (iZ_add _ _) ?_
  refine Ev.pc (p := (iZ (L.length + 1)) < 0 ∨ 100000 < ((iZ (L.length + 1))).toNatClampNeg) (c1 := (69, [some (.inr (.inr (.inr (12, 0, sm)))), some (.inr (.inr (.inr (20, wl, wr)))), some (.inl (iZ ((p : Int)))), x3, x4], [.inr (.inr (.inr (28, ((iZ (L.length + 1))).toNatClampNeg, (hN h))))], (grow h (((iZ (L.length + 1))).toNatClampNeg)))) (c2 := (69, [some (.inr (.inr (.inr (12, 0, sm)))), some (.inr (.inr (.inr (20, wl, wr)))), some (.inl (iZ ((p : Int)))), x3, x4], [.inr (.inr (.inr (28, (L.length + 1), (hN h))))], (grow h (L.length + 1)))) (nwa_in (by omega) (by omega)) rfl (by rw [iZ_ix (n := L.length + 1) (by omega) (by omega)]) ?_
  refine Ev.sts 3 (c' := (73, [some (.inr (.inr (.inr (12, 0, sm)))), some (.inr (.inr (.inr (20, wl, wr)))), some (.inl (iZ ((p : Int)))), some (.inr (.inr (.inr (28, (L.length + 1), (hN h))))), some (.inl (iZ (0)))], [], (grow h (L.length + 1)))) rfl ?_
  exact k1

theorem pu_73 {d sm k p wl wr oa b : Nat} {L : List Wn} {fl fr : Nat → Nat} {h : PH} {Q : Rs → PH → Prop} (hn : L.length ≤ 5000) (hp : p ≤ L.length) (hk : k ≤ L.length + 1) (e3 : h.2.2.1 sm 3 = (28, L.length, oa)) (o : ∀ j, j < L.length → h.2.2.1 oa j = (20, fl j, fr j)) (q0 : k = L.length + 1 → Q (.inl none) (setR h sm 3 (28, (L.length + 1), b))) (k1 : k < p → Ev d 181 (73, [some (.inr (.inr (.inr (12, 0, sm)))), some (.inr (.inr (.inr (20, wl, wr)))), some (.inl (iZ ((p : Int)))), some (.inr (.inr (.inr (28, (L.length + 1), b)))), some (.inl (iZ ((k : Int) + 1)))], [], (setR h b k (20, (fl k), (fr k)))) Q) (k2 : k = p → Ev d 181 (73, [some (.inr (.inr (.inr (12, 0, sm)))), some (.inr (.inr (.inr (20, wl, wr)))), some (.inl (iZ ((p : Int)))), some (.inr (.inr (.inr (28, (L.length + 1), b)))), some (.inl (iZ ((k : Int) + 1)))], [], (setR h b k (20, wl, wr))) Q) (k3 : p < k ∧ k ≤ L.length → Ev d 181 (73, [some (.inr (.inr (.inr (12, 0, sm)))), some (.inr (.inr (.inr (20, wl, wr)))), some (.inl (iZ ((p : Int)))), some (.inr (.inr (.inr (28, (L.length + 1), b)))), some (.inl (iZ ((k : Int) + 1)))], [], (setR h b k (20, (fl (k - 1)), (fr (k - 1))))) Q) : Ev d 181 (73, [some (.inr (.inr (.inr (12, 0, sm)))), some (.inr (.inr (.inr (20, wl, wr)))), some (.inl (iZ ((p : Int)))), some (.inr (.inr (.inr (28, (L.length + 1), b)))), some (.inl (iZ ((k : Int))))], [], h) Q := by
  refine Ev.sts 2 (c' := (76, [some (.inr (.inr (.inr (12, 0, sm)))), some (.inr (.inr (.inr (20, wl, wr)))), some (.inl (iZ ((p : Int)))), some (.inr (.inr (.inr (28, (L.length + 1), b)))), some (.inl (iZ ((k : Int))))], [.inr (.inr (.inr (28, (L.length + 1), b))), .inl (iZ ((k : Int)))], h)) rfl ?_
  refine Ev.gv (w := (iZ ((L.length + 1)))) rfl (iZ_nat _) ?_
  refine Ev.brc (p := (iZ ((L.length + 1))) ≤ (iZ ((k : Int)))) (q := (((L.length + 1) : Int)) ≤ (k : Int)) (c1 := (125, [some (.inr (.inr (.inr (12, 0, sm)))), some (.inr (.inr (.inr (20, wl, wr)))), some (.inl (iZ ((p : Int)))), some (.inr (.inr (.inr (28, (L.length + 1), b)))), some (.inl (iZ ((k : Int))))], [], h)) (c2 := (80, [some (.inr (.inr (.inr (12, 0, sm)))), some (.inr (.inr (.inr (20, wl, wr)))), some (.inl (iZ ((p : Int)))), some (.inr (.inr (.inr (28, (L.length + 1), b)))), some (.inl (iZ ((k : Int))))], [], h)) rfl (iZ_le ⟨by omega, by omega⟩ ⟨by omega, by omega⟩) (fun c0 => ?_) (fun c0 => ?_)
  · refine Ev.sts 3 (c' := (130, [some (.inr (.inr (.inr (12, 0, sm)))), some (.inr (.inr (.inr (20, wl, wr)))), some (.inl (iZ ((p : Int)))), some (.inr (.inr (.inr (28, (L.length + 1), b)))), some (.inl (iZ ((k : Int))))], [], (setR h sm 3 (28, (L.length + 1), b)))) rfl ?_
    exact Ev.ret rfl (q0 (by omega))
  · refine Ev.sts 4 (c' := (86, [some (.inr (.inr (.inr (12, 0, sm)))), some (.inr (.inr (.inr (20, wl, wr)))), some (.inl (iZ ((p : Int)))), some (.inr (.inr (.inr (28, (L.length + 1), b)))), some (.inl (iZ ((k : Int))))], [.inl (iZ ((p : Int))), .inl (iZ ((k : Int))), .inl (iZ ((k : Int))), .inr (.inr (.inr (28, (L.length + 1), b)))], h)) rfl ?_
    refine Ev.brc (p := (iZ ((p : Int))) ≤ (iZ ((k : Int)))) (q := (((p : Int) : Int)) ≤ (k : Int)) (c1 := (99, [some (.inr (.inr (.inr (12, 0, sm)))), some (.inr (.inr (.inr (20, wl, wr)))), some (.inl (iZ ((p : Int)))), some (.inr (.inr (.inr (28, (L.length + 1), b)))), some (.inl (iZ ((k : Int))))], [.inl (iZ ((k : Int))), .inr (.inr (.inr (28, (L.length + 1), b)))], h)) (c2 := (89, [some (.inr (.inr (.inr (12, 0, sm)))), some (.inr (.inr (.inr (20, wl, wr)))), some (.inl (iZ ((p : Int)))), some (.inr (.inr (.inr (28, (L.length + 1), b)))), some (.inl (iZ ((k : Int))))], [.inl (iZ ((k : Int))), .inr (.inr (.inr (28, (L.length + 1), b)))], h)) rfl (iZ_le ⟨by omega, by omega⟩ ⟨by omega, by omega⟩) (fun c1 => ?_) (fun c1 => ?_)
    · refine Ev.sts 2 (c' := (102, [some (.inr (.inr (.inr (12, 0, sm)))), some (.inr (.inr (.inr (20, wl, wr)))), some (.inl (iZ ((p : Int)))), some (.inr (.inr (.inr (28, (L.length + 1), b)))), some (.inl (iZ ((k : Int))))], [.inl (iZ ((p : Int))), .inl (iZ ((k : Int))), .inl (iZ ((k : Int))), .inr (.inr (.inr (28, (L.length + 1), b)))], h)) rfl ?_
      refine Ev.brc (p := ¬ (iZ ((k : Int))) = (iZ ((p : Int)))) (q := ¬ (((k : Int) : Int)) = (p : Int)) (c1 := (109, [some (.inr (.inr (.inr (12, 0, sm)))), some (.inr (.inr (.inr (20, wl, wr)))), some (.inl (iZ ((p : Int)))), some (.inr (.inr (.inr (28, (L.length + 1), b)))), some (.inl (iZ ((k : Int))))], [.inl (iZ ((k : Int))), .inr (.inr (.inr (28, (L.length + 1), b)))], h)) (c2 := (105, [some (.inr (.inr (.inr (12, 0, sm)))), some (.inr (.inr (.inr (20, wl, wr)))), some (.inl (iZ ((p : Int)))), some (.inr (.inr (.inr (28, (L.length + 1), b)))), some (.inl (iZ ((k : Int))))], [.inl (iZ ((k : Int))), .inr (.inr (.inr (28, (L.length + 1), b)))], h)) rfl (not_congr (iZ_eq ⟨by omega, by omega⟩ ⟨by omega, by omega⟩)) (fun c2 => ?_) (fun c2 => ?_)
      · refine Ev.sts 1 (c' := (110, [some (.inr (.inr (.inr (12, 0, sm)))), some (.inr (.inr (.inr (20, wl, wr)))), some (.inl (iZ ((p : Int)))), some (.inr (.inr (.inr (28, (L.length + 1), b)))), some (.inl (iZ ((k : Int))))], [.inr (.inr (.inr (12, 0, sm))), .inl (iZ ((k : Int))), .inr (.inr (.inr (28, (L.length + 1), b)))], h)) rfl ?_
        refine Ev.gfr (r := (28, L.length, oa)) rfl e3 ?_
        refine Ev.sts 2 (c' := (116, [some (.inr (.inr (.inr (12, 0, sm)))), some (.inr (.inr (.inr (20, wl, wr)))), some (.inl (iZ ((p : Int)))), some (.inr (.inr (.inr (28, (L.length + 1), b)))), some (.inl (iZ ((k : Int))))], [.inl (iZ (1)), .inl (iZ ((k : Int))), .inr (.inr (.inr (28, L.length, oa))), .inl (iZ ((k : Int))), .inr (.inr (.inr (28, (L.length + 1), b)))], h)) rfl ?_
        refine Ev.gv (w := (iZ (((k : Int)) - 1))) rfl (iZ_sub _ _) ?_
        refine Ev.ldv (j := (iZ (((k : Int)) - 1))) (n := L.length) (w := .inr (.inr (.inr (20, (fl (k - 1)), (fr (k - 1)))))) (iZ_in (by omega) (by omega) (by omega)) rfl (by rw [iZ_ix (n := k - 1) (by omega) (by omega)]; exact congrArg vR (o (k - 1) (by omega))) ?_
        refine Ev.sto (j := (iZ ((k : Int)))) (n := (L.length + 1)) (h2 := (setR h b k (20, (fl (k - 1)), (fr (k - 1))))) (iZ_in (by omega) (by omega) (by omega)) rfl (by rw [iZ_ix (n := k) (by omega) (by omega)]) ?_
        refine Ev.stc (c1 := (122, [some (.inr (.inr (.inr (12, 0, sm)))), some (.inr (.inr (.inr (20, wl, wr)))), some (.inl (iZ ((p : Int)))), some (.inr (.inr (.inr (28, (L.length + 1), b)))), some (.inl ((iZ ((k : Int))) + (iZ (1))))], [], (setR h b k (20, (fl (k - 1)), (fr (k - 1)))))) (c2 := (122, [some (.inr (.inr (.inr (12, 0, sm)))), some (.inr (.inr (.inr (20, wl, wr)))), some (.inl (iZ ((p : Int)))), some (.inr (.inr (.inr (28, (L.length + 1), b)))), some (.inl (iZ (((k : Int)) + 1)))], [], (setR h b k (20, (fl (k - 1)), (fr (k - 1)))))) rfl (by rw [iZ_add]) ?_
        refine Ev.sts 1 (c' := (73, [some (.inr (.inr (.inr (12, 0, sm)))), some (.inr (.inr (.inr (20, wl, wr)))), some (.inl (iZ ((p : Int)))), some (.inr (.inr (.inr (28, (L.length + 1), b)))), some (.inl (iZ (((k : Int)) + 1)))], [], (setR h b k (20, (fl (k - 1)), (fr (k - 1)))))) rfl ?_
        exact k3 (by omega)
      · refine Ev.sts 2 (c' := (118, [some (.inr (.inr (.inr (12, 0, sm)))), some (.inr (.inr (.inr (20, wl, wr)))), some (.inl (iZ ((p : Int)))), some (.inr (.inr (.inr (28, (L.length + 1), b)))), some (.inl (iZ ((k : Int))))], [.inr (.inr (.inr (20, wl, wr))), .inl (iZ ((k : Int))), .inr (.inr (.inr (28, (L.length + 1), b)))], h)) rfl ?_
        refine Ev.sto (j := (iZ ((k : Int)))) (n := (L.length + 1)) (h2 := (setR h b k (20, wl, wr))) (iZ_in (by omega) (by omega) (by omega)) rfl (by rw [iZ_ix (n := k) (by omega) (by omega)]) ?_
        refine Ev.stc (c1 := (122, [some (.inr (.inr (.inr (12, 0, sm)))), some (.inr (.inr (.inr (20, wl, wr)))), some (.inl (iZ ((p : Int)))), some (.inr (.inr (.inr (28, (L.length + 1), b)))), some (.inl ((iZ ((k : Int))) + (iZ (1))))], [], (setR h b k (20, wl, wr)))) (c2 := (122, [some (.inr (.inr (.inr (12, 0, sm)))), some (.inr (.inr (.inr (20, wl, wr)))), some (.inl (iZ ((p : Int)))), some (.inr (.inr (.inr (28, (L.length + 1), b)))), some (.inl (iZ (((k : Int)) + 1)))], [], (setR h b k (20, wl, wr)))) rfl (by rw [iZ_add]) ?_
        refine Ev.sts 1 (c' := (73, [some (.inr (.inr (.inr (12, 0, sm)))), some (.inr (.inr (.inr (20, wl, wr)))), some (.inl (iZ ((p : Int)))), some (.inr (.inr (.inr (28, (L.length + 1), b)))), some (.inl (iZ (((k : Int)) + 1)))], [], (setR h b k (20, wl, wr)))) rfl ?_
        exact k2 (by omega)
    · refine Ev.sts 1 (c' := (90, [some (.inr (.inr (.inr (12, 0, sm)))), some (.inr (.inr (.inr (20, wl, wr)))), some (.inl (iZ ((p : Int)))), some (.inr (.inr (.inr (28, (L.length + 1), b)))), some (.inl (iZ ((k : Int))))], [.inr (.inr (.inr (12, 0, sm))), .inl (iZ ((k : Int))), .inr (.inr (.inr (28, (L.length + 1), b)))], h)) rfl ?_
      refine Ev.gfr (r := (28, L.length, oa)) rfl e3 ?_
      refine Ev.sts 1 (c' := (95, [some (.inr (.inr (.inr (12, 0, sm)))), some (.inr (.inr (.inr (20, wl, wr)))), some (.inl (iZ ((p : Int)))), some (.inr (.inr (.inr (28, (L.length + 1), b)))), some (.inl (iZ ((k : Int))))], [.inl (iZ ((k : Int))), .inr (.inr (.inr (28, L.length, oa))), .inl (iZ ((k : Int))), .inr (.inr (.inr (28, (L.length + 1), b)))], h)) rfl ?_
      refine Ev.ldv (j := (iZ ((k : Int)))) (n := L.length) (w := .inr (.inr (.inr (20, (fl k), (fr k))))) (iZ_in (by omega) (by omega) (by omega)) rfl (by rw [iZ_ix (n := k) (by omega) (by omega)]; exact congrArg vR (o k (by omega))) ?_
      refine Ev.sts 1 (c' := (118, [some (.inr (.inr (.inr (12, 0, sm)))), some (.inr (.inr (.inr (20, wl, wr)))), some (.inl (iZ ((p : Int)))), some (.inr (.inr (.inr (28, (L.length + 1), b)))), some (.inl (iZ ((k : Int))))], [.inr (.inr (.inr (20, (fl k), (fr k)))), .inl (iZ ((k : Int))), .inr (.inr (.inr (28, (L.length + 1), b)))], h)) rfl ?_
      refine Ev.sto (j := (iZ ((k : Int)))) (n := (L.length + 1)) (h2 := (setR h b k (20, (fl k), (fr k)))) (iZ_in (by omega) (by omega) (by omega)) rfl (by rw [iZ_ix (n := k) (by omega) (by omega)]) ?_
      refine Ev.stc (c1 := (122, [some (.inr (.inr (.inr (12, 0, sm)))), some (.inr (.inr (.inr (20, wl, wr)))), some (.inl (iZ ((p : Int)))), some (.inr (.inr (.inr (28, (L.length + 1), b)))), some (.inl ((iZ ((k : Int))) + (iZ (1))))], [], (setR h b k (20, (fl k), (fr k))))) (c2 := (122, [some (.inr (.inr (.inr (12, 0, sm)))), some (.inr (.inr (.inr (20, wl, wr)))), some (.inl (iZ ((p : Int)))), some (.inr (.inr (.inr (28, (L.length + 1), b)))), some (.inl (iZ (((k : Int)) + 1)))], [], (setR h b k (20, (fl k), (fr k))))) rfl (by rw [iZ_add]) ?_
      refine Ev.sts 1 (c' := (73, [some (.inr (.inr (.inr (12, 0, sm)))), some (.inr (.inr (.inr (20, wl, wr)))), some (.inl (iZ ((p : Int)))), some (.inr (.inr (.inr (28, (L.length + 1), b)))), some (.inl (iZ (((k : Int)) + 1)))], [], (setR h b k (20, (fl k), (fr k))))) rfl ?_
      exact k1 (by omega)

/-- what stands at j when w is put at p -/
def ptf (p x : Nat) (f : Nat → Nat) (j : Nat) : Nat := if j < p then f j else if j = p then x else f (j - 1)
theorem ptf_1 {p x j : Nat} {f : Nat → Nat} (h : j < p) : ptf p x f j = f j := if_pos h
theorem ptf_2 {p x : Nat} {f : Nat → Nat} : ptf p x f p = x := (if_neg (Nat.lt_irrefl _)).trans (if_pos rfl)
theorem ptf_3 {p x j : Nat} {f : Nat → Nat} (h : p < j) : ptf p x f j = f (j - 1) := (if_neg (by omega)).trans (if_neg (by omega))
theorem pu_lp2 {d sm p wl wr oa b : Nat} {L : List Wn} {fl fr : Nat → Nat} {h0 : PH} {Q : Rs → PH → Prop} (hn : L.length ≤ 5000) (hp : p ≤ L.length) (hb : b = hN h0) (hoa : oa < b) (hsm : sm < b) (q : ∀ h1, nwR h0 h1 (L.length + 1) → (∀ j, j < L.length + 1 → h1.2.2.1 b j = (20, ptf p wl fl j, ptf p wr fr j)) → Q (.inl none) (setR h1 sm 3 (28, (L.length + 1), b))) (i : Nat) : ∀ (k : Nat) (h : PH), k + i = L.length + 1 → nwR h0 h (L.length + 1) → h.2.2.1 sm 3 = (28, L.length, oa) → (∀ j, j < L.length → h.2.2.1 oa j = (20, fl j, fr j)) → (∀ j, j < k → h.2.2.1 b j = (20, ptf p wl fl j, ptf p wr fr j)) → Ev d 181 (73, [some (.inr (.inr (.inr (12, 0, sm)))), some (.inr (.inr (.inr (20, wl, wr)))), some (.inl (iZ ((p : Int)))), some (.inr (.inr (.inr (28, (L.length + 1), b)))), some (.inl (iZ ((k : Int))))], [], h) Q := by
  induction i with
  | zero =>
    intro k h hk x e3 o w
    refine pu_73 (d := d) hn hp (by omega) e3 o (fun _ => q _ x (fun j hj => w j (by omega))) (fun c => by omega) (fun c => by omega) (fun c => by omega)
  | succ i ih =>
    intro k h hk x e3 o w
    have st : ∀ v, v = (20, ptf p wl fl k, ptf p wr fr k) → Ev d 181 (73, [some (.inr (.inr (.inr (12, 0, sm)))), some (.inr (.inr (.inr (20, wl, wr)))), some (.inl (iZ ((p : Int)))), some (.inr (.inr (.inr (28, (L.length + 1), b)))), some (.inl (iZ ((k : Int) + 1)))], [], (setR h b k v)) Q := fun v hv =>
      ih (k + 1) _ (by omega) (by rw [hb]; exact nwR_s x) ((setR_ne (by omega)).trans e3) (fun j hj => (setR_ne (by omega)).trans (o j hj)) (fun j hj => by
        by_cases e : j = k
        · rw [e]; exact (setR_self _ _ _ _).trans hv
        · exact (setR_ne (by omega)).trans (w j (by omega)))
    refine pu_73 (d := d) hn hp (by omega) e3 o (fun c => by omega) (fun c => st _ ?_) (fun c => st _ ?_) (fun c => st _ ?_)
    · rw [ptf_1 c, ptf_1 c]
    · rw [c, ptf_2, ptf_2]
    · rw [ptf_3 c.1, ptf_3 c.1]
theorem pu_lp1 {d sm wl wr oa : Nat} {u : Q5} {w : Wn} {L : List Wn} {x3 x4 : Option VV} {fl fr : Nat → Nat} {h : PH} {Q : Rs → PH → Prop} (hn : L.length ≤ 5000) (e3 : h.2.2.1 sm 3 = (28, L.length, oa)) (o : oWs h sm u oa fl fr L) (hw : wRw h wl wr w) (hB : ∀ j, (L.getD j wn0).1 < 6 ∧ 0 ≤ (L.getD j wn0).2.1 ∧ (L.getD j wn0).2.1 ≤ 1200) (wB : w.1 < 6 ∧ 0 ≤ w.2.1 ∧ w.2.1 ≤ 1200) (kk : Ev d 181 (59, [some (.inr (.inr (.inr (12, 0, sm)))), some (.inr (.inr (.inr (20, wl, wr)))), some (.inl (iZ ((plL L w.1 w.2.1 : Int)))), x3, x4], [], h) Q) (i : Nat) : ∀ (k : Nat), k + i = L.length → (∀ j, j < k → ((L.getD j wn0).1 < w.1 ∨ ((L.getD j wn0).1 = w.1 ∧ (L.getD j wn0).2.1 < w.2.1))) → Ev d 181 (2, [some (.inr (.inr (.inr (12, 0, sm)))), some (.inr (.inr (.inr (20, wl, wr)))), some (.inl (iZ ((k : Int)))), x3, x4], [], h) Q := by
  induction i with
  | zero =>
    intro k hk a
    refine pu_2 (d := d) hn (by omega) e3 o hw hB wB (fun c => by omega) (fun c => ?_)
    rw [plL_eq (by omega) a c] at kk
    exact kk
  | succ i ih =>
    intro k hk a
    refine pu_2 (d := d) hn (by omega) e3 o hw hB wB (fun c1 c => ih (k + 1) (by omega) (fun j hj => ?_)) (fun c => ?_)
    · by_cases e : j = k
      · rw [e]; exact c
      · exact a j (by omega)
    · rw [plL_eq (by omega) a c] at kk
      exact kk
theorem ls_put {d sm wl wr oa : Nat} {u : Q5} {w : Wn} {L : List Wn} {fl fr : Nat → Nat} {h : PH} {Q : Rs → PH → Prop} (hn : L.length ≤ 5000) (e3 : h.2.2.1 sm 3 = (28, L.length, oa)) (hoa : oa < hN h) (hsm : sm + 5 < hN h) (o : oWs h sm u oa fl fr L) (hw : wRw h wl wr w) (pw : pI sm u (hN h) wr) (hB : ∀ j, (L.getD j wn0).1 < 6 ∧ 0 ≤ (L.getD j wn0).2.1 ∧ (L.getD j wn0).2.1 ≤ 1200) (wB : w.1 < 6 ∧ 0 ≤ w.2.1 ∧ w.2.1 ≤ 1200) (q : ∀ h1 fl1 fr1, SI sm sm h h1 → (∀ k, k ≠ 3 → h1.2.2.1 sm k = h.2.2.1 sm k) → h1.1 = h.1 → h1.2.2.1 sm 3 = (28, (putL L w).length, hN h) → oWs h1 sm u (hN h) fl1 fr1 (putL L w) → hN h1 = hN h + 1 → hS h1 = hS h + (L.length + 1) → Q (.inl none) h1) : Rn d 181 [.inr (.inr (.inr (12, 0, sm))), .inr (.inr (.inr (20, wl, wr)))] h Q := by
  refine Ev.sts 2 (c' := (2, [some (.inr (.inr (.inr (12, 0, sm)))), some (.inr (.inr (.inr (20, wl, wr)))), some (.inl (iZ (0))), none, none], [], h)) rfl ?_
  refine pu_lp1 (d := d) hn e3 o hw hB wB ?_ L.length 0 (by omega) (fun j hj => absurd hj (Nat.not_lt_zero _))
  have pl := plL_le L w.1 w.2.1
  refine pu_59 (d := d) hn e3 ?_
  refine pu_lp2 hn pl rfl hoa (by omega) (fun h1 x y => ?_) (L.length + 1) 0 _ (by omega) (nwR_g h (L.length + 1)) e3 (fun j hj => (o j hj).1) (fun j hj => absurd hj (Nat.not_lt_zero _))
  have x1 := x.2.2.1
  have S : SI sm sm h (setR h1 sm 3 (28, (L.length + 1), hN h)) := by
    have s := nwR_SI (sm := sm) x
    exact ⟨s.1, fun a a1 a2 a3 => (setR_oth a2).trans (s.2.1 a a1 a2 a3), s.2.2⟩
  refine q _ (ptf (plL L w.1 w.2.1) wl fl) (ptf (plL L w.1 w.2.1) wr fr) S (fun k hk => (setR_ne (fun z => hk z.2)).trans (by rw [x.2.1 sm (by omega)])) x.1 ?_ ?_ x1 x.2.2.2
  · rw [putL_len]; exact setR_self _ _ _ _
  · intro j hj
    rw [putL_len] at hj
    have n1 : hN (setR h1 sm 3 (28, (L.length + 1), hN h)) = hN h + 1 := x1
    have i1 : (setR h1 sm 3 (28, (L.length + 1), hN h)).1 = h.1 := x.1
    refine ⟨(setR_ne (by omega)).trans (y j hj), ?_, ?_⟩
    · rw [n1]
      rcases Nat.lt_trichotomy j (plL L w.1 w.2.1) with c | c | c
      · rw [ptf_1 c]
        obtain ⟨p1, p2, p3⟩ := (o j (by omega)).2.1
        exact ⟨p1, by omega, p3⟩
      · rw [c, ptf_2]
        obtain ⟨p1, p2, p3⟩ := pw
        exact ⟨p1, by omega, p3⟩
      · rw [ptf_3 c]
        obtain ⟨p1, p2, p3⟩ := (o (j - 1) (by omega)).2.1
        exact ⟨p1, by omega, p3⟩
    · rw [putL_get]
      unfold wRw
      rw [i1]
      rcases Nat.lt_trichotomy j (plL L w.1 w.2.1) with c | c | c
      · rw [ptf_1 c, ptf_1 c, if_pos c]
        exact (o j (by omega)).2.2
      · rw [c, ptf_2, ptf_2, if_neg (Nat.lt_irrefl _), if_pos rfl]
        exact hw
      · rw [ptf_3 c, ptf_3 c, if_neg (by omega), if_neg (by omega)]
        exact (o (j - 1) (by omega)).2.2
