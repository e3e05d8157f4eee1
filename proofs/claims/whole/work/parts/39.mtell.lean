/-! The reference: what it tells. -/
abbrev Y4 : Type := Nat × Nat × Nat × Nat
/-- the reference's rows: open windows (places, number), tellings (places, number) -/
def tmM (h : PH) (T : List Tel) (nt t : Nat) : Prop := h.1 83 32 = iZ T.length ∧ 5 * T.length ≤ nt ∧ 160 ≤ nt ∧ nt ≤ 100000 ∧ h.2.2.1 83 31 = (20, nt, t) ∧ aO t (hN h) ∧ ∀ j, j < T.length → rT h t j (T.getD j t0)
/-- what a step of the reference may change; how much it takes -/
def FM (P : Nat → Prop) (h h' : PH) (y y' : Y4) : Prop := h'.2.1 = h.2.1 ∧ (∀ a k, ¬ (a = 83 ∧ (k = 29 ∨ k = 31)) → h'.2.2.1 a k = h.2.2.1 a k) ∧ (∀ a, ¬ P a → a ≠ y.2.1 → a ≠ y.2.2.2 → a < hN h → h'.1 a = h.1 a) ∧ hN h ≤ hN h' ∧ y.1 ≤ y'.1 ∧ y.2.2.1 ≤ y'.2.2.1 ∧ hN h' + y.1 + y.2.2.1 ≤ hN h + y'.1 + y'.2.2.1 ∧ hS h' + 2 * y.1 + 2 * y.2.2.1 ≤ hS h + 2 * y'.1 + 2 * y'.2.2.1 ∧ (y'.2.1 = y.2.1 ∨ hN h ≤ y'.2.1) ∧ (y'.2.2.2 = y.2.2.2 ∨ hN h ≤ y'.2.2.2)
theorem FM_refl (P : Nat → Prop) (h : PH) (y : Y4) : FM P h h y y := ⟨rfl, fun _ _ _ => rfl, fun _ _ _ _ _ => rfl, Nat.le_refl _, Nat.le_refl _, Nat.le_refl _, Nat.le_refl _, Nat.le_refl _, Or.inl rfl, Or.inl rfl⟩
theorem FM_trans {P : Nat → Prop} {h h1 h2 : PH} {y y1 y2 : Y4} (a : FM P h h1 y y1) (b : FM P h1 h2 y1 y2) : FM P h h2 y y2 := by
  obtain ⟨a1, a2, a3, a4, a5, a6, a7, a8, a9, a10⟩ := a
  obtain ⟨b1, b2, b3, b4, b5, b6, b7, b8, b9, b10⟩ := b
  exact ⟨b1.trans a1, fun x k p => (b2 x k p).trans (a2 x k p), fun x p1 p2 p3 p4 => (b3 x p1 (ne_tr p2 a9 p4) (ne_tr p3 a10 p4) (by omega)).trans (a3 x p1 p2 p3 p4), by omega, by omega, by omega, by omega, by omega, or_tr a9 b9 a4, or_tr a10 b10 a4⟩
theorem FM_mono {P P' : Nat → Prop} {h h1 : PH} {y y1 : Y4} (a : FM P h h1 y y1) (e : ∀ x, P x → P' x) : FM P' h h1 y y1 :=
  ⟨a.1, a.2.1, fun x p1 p2 p3 p4 => a.2.2.1 x (fun z => p1 (e x z)) p2 p3 p4, a.2.2.2⟩
theorem FM_of {P : Nat → Prop} {h h' : PH} {y : Y4} (e2 : h'.2 = h.2) (e : ∀ a, ¬ P a → h'.1 a = h.1 a) : FM P h h' y y := by
  refine ⟨by rw [e2], fun _ _ _ => by rw [e2], fun a p _ _ _ => e a p, ?_, Nat.le_refl _, Nat.le_refl _, ?_, ?_, Or.inl rfl, Or.inl rfl⟩
  · unfold hN; rw [e2]; exact Nat.le_refl _
  · unfold hN; rw [e2]; exact Nat.le_refl _
  · unfold hS; rw [e2]; exact Nat.le_refl _
def p83 (a : Nat) : Prop := a = 83
def F83 (h h' : PH) : Prop := ∀ k, k ≠ 30 → k ≠ 32 → h'.1 83 k = h.1 83 k
theorem F83_t {h h1 h2 : PH} (a : F83 h h1) (b : F83 h1 h2) : F83 h h2 := fun k p q => (b k p q).trans (a k p q)
theorem FM_fm {h h1 : PH} {no c n1 c1 nt t : Nat} (f : fm h h1 c c1 no n1) : FM p83 h h1 (no, c, nt, t) (n1, c1, nt, t) := by
  obtain ⟨a1, a2, a3, a4, a5, a6, a7, a8, a9⟩ := f
  exact ⟨a1, fun a k z => a2 a k (fun y => z ⟨y.1, Or.inl y.2⟩), fun a p q _ r => a3 a p q r, a5, a6, Nat.le_refl _, by show hN h1 + no + nt ≤ hN h + n1 + nt; omega, by show hS h1 + 2 * no + 2 * nt ≤ hS h + 2 * n1 + 2 * nt; omega, a9, Or.inl rfl⟩
theorem Sh_FM {P : Nat → Prop} {h h' : PH} {y y' : Y4} (s : Sh h) (f : FM P h h' y y') : Sh h' := by
  intro t ht
  have h1 : ∀ t ∈ shL, ¬ (t.1 = 83 ∧ (t.2.1 = 29 ∨ t.2.1 = 31)) := by decide
  rw [f.2.1 t.1 t.2.1 (h1 t ht)]
  exact s t ht
/-- tellings stay when the open windows' row changes -/
theorem tmM_fm {h h1 : PH} {T : List Tel} {nt t no c n1 c1 : Nat} (tm : tmM h T nt t) (f : fm h h1 c c1 no n1) (ne : t ≠ c) : tmM h1 T nt t := by
  obtain ⟨t1, t2, t3, t4, t5, t6, t7⟩ := tm
  obtain ⟨a1, a2, a3, a4, a5, -⟩ := f
  have e : h1.1 t = h.1 t := a3 t (by unfold aO at t6; omega) ne t6.2
  refine ⟨(a4 32 (by omega)).trans t1, t2, t3, t4, (a2 83 31 (by omega)).trans t5, ⟨t6.1, by have := t6.2; omega⟩, fun j hj => ?_⟩
  unfold rT
  rw [e]
  exact t7 j hj
/-- the tellings' row made longer -/
def lotH (h : PH) (t nt : Nat) : PH := setR (cpyI (grow h (2 * nt)) t 0 (hN h) 0 nt) 83 31 (20, 2 * nt, hN h)
theorem opM_eq {h h1 : PH} {M : List Tel} {no c : Nat} (op : opM h M no c) (e30 : h1.1 83 30 = h.1 83 30) (e29 : h1.2.2.1 83 29 = h.2.2.1 83 29) (ec : h1.1 c = h.1 c) (en : hN h ≤ hN h1) : opM h1 M no c := by
  obtain ⟨p1, p2, p3, p4, p5, p6, p7⟩ := op
  refine ⟨e30.trans p1, p2, p3, p4, e29.trans p5, ⟨p6.1, by have := p6.2; omega⟩, fun j hj => ?_⟩
  unfold rT
  rw [ec]
  exact p7 j hj
theorem lot_ok {h : PH} {M T : List Tel} {no c nt t : Nat} (op : opM h M no c) (tm : tmM h T nt t) (hnt : nt ≤ 50000) (hh : 103 ≤ hN h) (ne : t ≠ c) : opM (lotH h t nt) M no c ∧ tmM (lotH h t nt) T (2 * nt) (hN h) ∧ FM p83 h (lotH h t nt) (no, c, nt, t) (no, c, 2 * nt, hN h) ∧ hN h ≠ c ∧ F83 h (lotH h t nt) := by
  obtain ⟨t1, t2, t3, t4, t5, t6, t7⟩ := tm
  have ht : t < hN h := t6.2
  have hc : c < hN h := op.2.2.2.2.2.1.2
  have e1 : ∀ a, a ≠ hN h → (lotH h t nt).1 a = h.1 a := fun a ha => cpy_oth (h := grow h (2 * nt)) ha
  have e2 : ∀ j, j < nt → (lotH h t nt).1 (hN h) j = h.1 t j := fun j hj => cpy_at (h := grow h (2 * nt)) hj
  have e3 : hN (lotH h t nt) = hN h + 1 := rfl
  have e4 : hS (lotH h t nt) = hS h + 2 * nt := rfl
  refine ⟨opM_eq op (by rw [e1 83 (by omega)]) (setR_ne (by omega)) (e1 c (by omega)) (by omega), ⟨?_, by omega, by omega, by omega, setR_self _ _ _ _, ⟨Or.inr (Or.inr hh), by omega⟩, fun j hj => ?_⟩, ⟨rfl, fun a k z => setR_ne (fun y => z ⟨y.1, Or.inr y.2⟩), fun a _ _ _ a3 => e1 a (by omega), by omega, Nat.le_refl _, by show nt ≤ 2 * nt; omega, by show hN (lotH h t nt) + no + nt ≤ hN h + no + 2 * nt; omega, by show hS (lotH h t nt) + 2 * no + 2 * nt ≤ hS h + 2 * no + 2 * (2 * nt); omega, Or.inl rfl, Or.inr (Nat.le_refl _)⟩, by omega, fun k _ _ => by rw [e1 83 (by omega)]⟩
  · rw [e1 83 (by omega)]; exact t1
  · obtain ⟨q0, q1, q2, q3, q4⟩ := t7 j hj
    refine ⟨?_, ?_, ?_, ?_, ?_⟩
    · rw [e2 _ (by omega)]; exact q0
    · rw [e2 _ (by omega)]; exact q1
    · rw [e2 _ (by omega)]; exact q2
    · rw [e2 _ (by omega)]; exact q3
    · rw [e2 _ (by omega)]; exact q4
/-- a row put behind the tellings -/
def putH (h : PH) (t l : Nat) (a b d e v : Int32) : PH := (setI (setI (setI (setI (setI (setI h t ((5 * l) + 0) (a)) t ((5 * l) + 1) (b)) t ((5 * l) + 2) (d)) t ((5 * l) + 3) (e)) t ((5 * l) + 4) (v)) 83 32 (iZ (l + 1)))
theorem FM_ofT {h h' : PH} {no c nt t : Nat} (e2 : h'.2 = h.2) (e : ∀ a, a ≠ 83 → a ≠ t → h'.1 a = h.1 a) : FM p83 h h' (no, c, nt, t) (no, c, nt, t) := by
  refine ⟨by rw [e2], fun _ _ _ => by rw [e2], fun a p _ q _ => e a p q, ?_, Nat.le_refl _, Nat.le_refl _, ?_, ?_, Or.inl rfl, Or.inl rfl⟩
  · unfold hN; rw [e2]; exact Nat.le_refl _
  · unfold hN; rw [e2]; exact Nat.le_refl _
  · unfold hS; rw [e2]; exact Nat.le_refl _
theorem put_ok {h : PH} {M T : List Tel} {no c nt t : Nat} (op : opM h M no c) (tm : tmM h T nt t) (ne : t ≠ c) (ho : 5 * (T.length + 1) ≤ nt) (x : Tel) : opM (putH h t T.length (iZ x.1) (iZ x.2.1) (iZ x.2.2.1) (iZ x.2.2.2.1) x.2.2.2.2) M no c ∧ tmM (putH h t T.length (iZ x.1) (iZ x.2.1) (iZ x.2.2.1) (iZ x.2.2.2.1) x.2.2.2.2) (T ++ [x]) nt t ∧ FM p83 h (putH h t T.length (iZ x.1) (iZ x.2.1) (iZ x.2.2.1) (iZ x.2.2.2.1) x.2.2.2.2) (no, c, nt, t) (no, c, nt, t) ∧ F83 h (putH h t T.length (iZ x.1) (iZ x.2.1) (iZ x.2.2.1) (iZ x.2.2.2.1) x.2.2.2.2) := by
  obtain ⟨t1, t2, t3, t4, t5, t6, t7⟩ := tm
  have ht83 : t ≠ 83 := by unfold aO at t6; omega
  have hc83 : c ≠ 83 := by have := op.2.2.2.2.2.1; unfold aO at this; omega
  have eo : ∀ a, a ≠ 83 → a ≠ t → (putH h t T.length (iZ x.1) (iZ x.2.1) (iZ x.2.2.1) (iZ x.2.2.2.1) x.2.2.2.2).1 a = h.1 a := by
    intro a a1 a2
    unfold putH
    rw [setI_oth a1, setI_oth a2, setI_oth a2, setI_oth a2, setI_oth a2, setI_oth a2]
  have e83 : ∀ k, k ≠ 32 → (putH h t T.length (iZ x.1) (iZ x.2.1) (iZ x.2.2.1) (iZ x.2.2.2.1) x.2.2.2.2).1 83 k = h.1 83 k := by
    intro k hk
    unfold putH
    rw [setI_ne (by omega), setI_oth ht83.symm, setI_oth ht83.symm, setI_oth ht83.symm, setI_oth ht83.symm, setI_oth ht83.symm]
  refine ⟨opM_eq op (e83 30 (by omega)) rfl (eo c hc83 (Ne.symm ne)) (Nat.le_refl _), ⟨?_, by rw [app_len]; omega, t3, t4, t5, t6, fun j hj => ?_⟩, FM_ofT rfl (fun a a1 a2 => eo a a1 a2), fun k _ k2 => e83 k k2⟩
  · rw [app_len]
    exact setI_self _ _ _ _
  · rw [app_len] at hj
    rw [app_get _ _ _ _ hj]
    unfold rT putH
    rw [setI_oth ht83]
    by_cases z : j = T.length
    · subst z
      rw [if_pos rfl]
      refine ⟨?_, ?_, ?_, ?_, ?_⟩
      · rw [setI_ne (by omega), setI_ne (by omega), setI_ne (by omega), setI_ne (by omega)]; exact setI_self _ _ _ _
      · rw [setI_ne (by omega), setI_ne (by omega), setI_ne (by omega)]; exact setI_self _ _ _ _
      · rw [setI_ne (by omega), setI_ne (by omega)]; exact setI_self _ _ _ _
      · rw [setI_ne (by omega)]; exact setI_self _ _ _ _
      · exact setI_self _ _ _ _
    · rw [if_neg z]
      have q := t7 j (by omega)
      unfold rT at q
      refine ⟨?_, ?_, ?_, ?_, ?_⟩
      · rw [setI_ne (by omega), setI_ne (by omega), setI_ne (by omega), setI_ne (by omega), setI_ne (by omega)]; exact q.1
      · rw [setI_ne (by omega), setI_ne (by omega), setI_ne (by omega), setI_ne (by omega), setI_ne (by omega)]; exact q.2.1
      · rw [setI_ne (by omega), setI_ne (by omega), setI_ne (by omega), setI_ne (by omega), setI_ne (by omega)]; exact q.2.2.1
      · rw [setI_ne (by omega), setI_ne (by omega), setI_ne (by omega), setI_ne (by omega), setI_ne (by omega)]; exact q.2.2.2.1
      · rw [setI_ne (by omega), setI_ne (by omega), setI_ne (by omega), setI_ne (by omega), setI_ne (by omega)]; exact q.2.2.2.2
theorem mp_t61 {d no c nt t w : Nat} {b4 : Int} {M T : List Tel} {a3 : Option VV} {h : PH} {Q : Rs → PH → Prop} (op : opM h M no c) (tm : tmM h T nt t) (ne : t ≠ c) (hw : w < M.length) (ho : 5 * (T.length + 1) ≤ nt) (q : ∀ h1, opM h1 M no c → tmM h1 (T ++ [M.getD w t0]) nt t → FM p83 h h1 (no, c, nt, t) (no, c, nt, t) → F83 h h1 → Ev (d + 1) 227 (103, [some (.inr (.inr (.inr (11, 0, 83)))), some (.inl (iZ (b4))), some (.inl (iZ (w))), some (.inl (iZ (5)))], [], h1) Q) : Ev (d + 1) 227 (61, [some (.inr (.inr (.inr (11, 0, 83)))), some (.inl (iZ (b4))), some (.inl (iZ (w))), a3], [], h) Q := by
  have o1 := op.2.1
  have o3 := op.2.2.2.1
  have o4 := tm.2.1
  have o5 := tm.2.2.2.1
  have ht83 : t ≠ 83 := by have := tm.2.2.2.2.2.1; unfold aO at this; omega
  have hc83 : c ≠ 83 := by have := op.2.2.2.2.2.1; unfold aO at this; omega
  refine Ev.sts 4 (c' := (65, [some (.inr (.inr (.inr (11, 0, 83)))), some (.inl (iZ (b4))), some (.inl (iZ (w))), some (.inl (iZ (0)))], [.inl (iZ (5)), .inl (iZ (0))], h)) rfl ?_
  refine Ev.brF (p := (iZ (5)) ≤ (iZ (0))) (c1 := (93, [some (.inr (.inr (.inr (11, 0, 83)))), some (.inl (iZ (b4))), some (.inl (iZ (w))), some (.inl (iZ (0)))], [], h)) (c2 := (68, [some (.inr (.inr (.inr (11, 0, 83)))), some (.inl (iZ (b4))), some (.inl (iZ (w))), some (.inl (iZ (0)))], [], h)) (by decide) rfl ?_
  refine Ev.sts 1 (c' := (69, [some (.inr (.inr (.inr (11, 0, 83)))), some (.inl (iZ (b4))), some (.inl (iZ (w))), some (.inl (iZ (0)))], [.inr (.inr (.inr (11, 0, 83)))], h)) rfl ?_
  refine Ev.gfr (r := (20, nt, t)) rfl tm.2.2.2.2.1 ?_
  refine Ev.sts 2 (c' := (74, [some (.inr (.inr (.inr (11, 0, 83)))), some (.inl (iZ (b4))), some (.inl (iZ (w))), some (.inl (iZ (0)))], [.inr (.inr (.inr (11, 0, 83))), .inl (iZ (5)), .inr (.inr (.inr (20, nt, t)))], h)) rfl ?_
  refine Ev.gv (w := (iZ (T.length))) rfl tm.1 ?_
  refine Ev.gv (w := (iZ (5 * T.length))) rfl (iZ_mul _ _) ?_
  refine Ev.sts 1 (c' := (79, [some (.inr (.inr (.inr (11, 0, 83)))), some (.inl (iZ (b4))), some (.inl (iZ (w))), some (.inl (iZ (0)))], [.inl (iZ (0)), .inl (iZ (5 * T.length)), .inr (.inr (.inr (20, nt, t)))], h)) rfl ?_
  refine Ev.gv (w := (iZ ((5 * T.length) + 0))) rfl (iZ_add _ _) ?_
  refine Ev.sts 3 (c' := (83, [some (.inr (.inr (.inr (11, 0, 83)))), some (.inl (iZ (b4))), some (.inl (iZ (w))), some (.inl (iZ (0)))], [.inl (iZ (0)), .inl (iZ (w)), .inr (.inr (.inr (11, 0, 83))), .inl (iZ ((5 * T.length) + 0)), .inr (.inr (.inr (20, nt, t)))], h)) rfl ?_
  refine Ev.callv (a := [.inr (.inr (.inr (11, 0, 83))), .inl (iZ (w)), .inl (iZ (0))]) rfl (mp_win0 (w := w) op (by omega) (by omega) rfl) ?_
  refine Ev.sto (j := (iZ ((5 * T.length) + 0))) (n := nt) (h2 := (setI h t ((5 * T.length) + 0) ((iZ ((M.getD w t0).1))))) (iZ_in (by omega) (by omega) (by omega)) rfl (by rw [iZ_ix (n := (5 * T.length) + 0) (by omega) (by omega)]) ?_
  refine Ev.stc (c1 := (90, [some (.inr (.inr (.inr (11, 0, 83)))), some (.inl (iZ (b4))), some (.inl (iZ (w))), some (.inl ((iZ (0)) + (iZ (1))))], [], (setI h t ((5 * T.length) + 0) ((iZ ((M.getD w t0).1)))))) (c2 := (90, [some (.inr (.inr (.inr (11, 0, 83)))), some (.inl (iZ (b4))), some (.inl (iZ (w))), some (.inl (iZ (1)))], [], (setI h t ((5 * T.length) + 0) ((iZ ((M.getD w t0).1)))))) rfl (by rw [iZ_add]; rfl) ?_
  refine Ev.sts 3 (c' := (65, [some (.inr (.inr (.inr (11, 0, 83)))), some (.inl (iZ (b4))), some (.inl (iZ (w))), some (.inl (iZ (1)))], [.inl (iZ (5)), .inl (iZ (1))], (setI h t ((5 * T.length) + 0) ((iZ ((M.getD w t0).1)))))) rfl ?_
  refine Ev.brF (p := (iZ (5)) ≤ (iZ (1))) (c1 := (93, [some (.inr (.inr (.inr (11, 0, 83)))), some (.inl (iZ (b4))), some (.inl (iZ (w))), some (.inl (iZ (1)))], [], (setI h t ((5 * T.length) + 0) ((iZ ((M.getD w t0).1)))))) (c2 := (68, [some (.inr (.inr (.inr (11, 0, 83)))), some (.inl (iZ (b4))), some (.inl (iZ (w))), some (.inl (iZ (1)))], [], (setI h t ((5 * T.length) + 0) ((iZ ((M.getD w t0).1)))))) (by decide) rfl ?_
  refine Ev.sts 1 (c' := (69, [some (.inr (.inr (.inr (11, 0, 83)))), some (.inl (iZ (b4))), some (.inl (iZ (w))), some (.inl (iZ (1)))], [.inr (.inr (.inr (11, 0, 83)))], (setI h t ((5 * T.length) + 0) ((iZ ((M.getD w t0).1)))))) rfl ?_
  refine Ev.gfr (r := (20, nt, t)) rfl tm.2.2.2.2.1 ?_
  refine Ev.sts 2 (c' := (74, [some (.inr (.inr (.inr (11, 0, 83)))), some (.inl (iZ (b4))), some (.inl (iZ (w))), some (.inl (iZ (1)))], [.inr (.inr (.inr (11, 0, 83))), .inl (iZ (5)), .inr (.inr (.inr (20, nt, t)))], (setI h t ((5 * T.length) + 0) ((iZ ((M.getD w t0).1)))))) rfl ?_
  refine Ev.gv (w := (iZ (T.length))) rfl (by rw [setI_oth (b := 83) ht83.symm]; exact tm.1) ?_
  refine Ev.gv (w := (iZ (5 * T.length))) rfl (iZ_mul _ _) ?_
  refine Ev.sts 1 (c' := (79, [some (.inr (.inr (.inr (11, 0, 83)))), some (.inl (iZ (b4))), some (.inl (iZ (w))), some (.inl (iZ (1)))], [.inl (iZ (1)), .inl (iZ (5 * T.length)), .inr (.inr (.inr (20, nt, t)))], (setI h t ((5 * T.length) + 0) ((iZ ((M.getD w t0).1)))))) rfl ?_
  refine Ev.gv (w := (iZ ((5 * T.length) + 1))) rfl (iZ_add _ _) ?_
  have op1 : opM (setI h t ((5 * T.length) + 0) ((iZ ((M.getD w t0).1)))) M no c := opM_eq op (setI_ne (fun z => ht83 z.1.symm)) rfl (setI_oth (Ne.symm ne)) (Nat.le_refl _)
  refine Ev.sts 3 (c' := (83, [some (.inr (.inr (.inr (11, 0, 83)))), some (.inl (iZ (b4))), some (.inl (iZ (w))), some (.inl (iZ (1)))], [.inl (iZ (1)), .inl (iZ (w)), .inr (.inr (.inr (11, 0, 83))), .inl (iZ ((5 * T.length) + 1)), .inr (.inr (.inr (20, nt, t)))], (setI h t ((5 * T.length) + 0) ((iZ ((M.getD w t0).1)))))) rfl ?_
  refine Ev.callv (a := [.inr (.inr (.inr (11, 0, 83))), .inl (iZ (w)), .inl (iZ (1))]) rfl (mp_win1 (w := w) op1 (by omega) (by omega) rfl) ?_
  refine Ev.sto (j := (iZ ((5 * T.length) + 1))) (n := nt) (h2 := (setI (setI h t ((5 * T.length) + 0) ((iZ ((M.getD w t0).1)))) t ((5 * T.length) + 1) ((iZ ((M.getD w t0).2.1))))) (iZ_in (by omega) (by omega) (by omega)) rfl (by rw [iZ_ix (n := (5 * T.length) + 1) (by omega) (by omega)]) ?_
  refine Ev.stc (c1 := (90, [some (.inr (.inr (.inr (11, 0, 83)))), some (.inl (iZ (b4))), some (.inl (iZ (w))), some (.inl ((iZ (1)) + (iZ (1))))], [], (setI (setI h t ((5 * T.length) + 0) ((iZ ((M.getD w t0).1)))) t ((5 * T.length) + 1) ((iZ ((M.getD w t0).2.1)))))) (c2 := (90, [some (.inr (.inr (.inr (11, 0, 83)))), some (.inl (iZ (b4))), some (.inl (iZ (w))), some (.inl (iZ (2)))], [], (setI (setI h t ((5 * T.length) + 0) ((iZ ((M.getD w t0).1)))) t ((5 * T.length) + 1) ((iZ ((M.getD w t0).2.1)))))) rfl (by rw [iZ_add]; rfl) ?_
  refine Ev.sts 3 (c' := (65, [some (.inr (.inr (.inr (11, 0, 83)))), some (.inl (iZ (b4))), some (.inl (iZ (w))), some (.inl (iZ (2)))], [.inl (iZ (5)), .inl (iZ (2))], (setI (setI h t ((5 * T.length) + 0) ((iZ ((M.getD w t0).1)))) t ((5 * T.length) + 1) ((iZ ((M.getD w t0).2.1)))))) rfl ?_
  refine Ev.brF (p := (iZ (5)) ≤ (iZ (2))) (c1 := (93, [some (.inr (.inr (.inr (11, 0, 83)))), some (.inl (iZ (b4))), some (.inl (iZ (w))), some (.inl (iZ (2)))], [], (setI (setI h t ((5 * T.length) + 0) ((iZ ((M.getD w t0).1)))) t ((5 * T.length) + 1) ((iZ ((M.getD w t0).2.1)))))) (c2 := (68, [some (.inr (.inr (.inr (11, 0, 83)))), some (.inl (iZ (b4))), some (.inl (iZ (w))), some (.inl (iZ (2)))], [], (setI (setI h t ((5 * T.length) + 0) ((iZ ((M.getD w t0).1)))) t ((5 * T.length) + 1) ((iZ ((M.getD w t0).2.1)))))) (by decide) rfl ?_
  refine Ev.sts 1 (c' := (69, [some (.inr (.inr (.inr (11, 0, 83)))), some (.inl (iZ (b4))), some (.inl (iZ (w))), some (.inl (iZ (2)))], [.inr (.inr (.inr (11, 0, 83)))], (setI (setI h t ((5 * T.length) + 0) ((iZ ((M.getD w t0).1)))) t ((5 * T.length) + 1) ((iZ ((M.getD w t0).2.1)))))) rfl ?_
  refine Ev.gfr (r := (20, nt, t)) rfl tm.2.2.2.2.1 ?_
  refine Ev.sts 2 (c' := (74, [some (.inr (.inr (.inr (11, 0, 83)))), some (.inl (iZ (b4))), some (.inl (iZ (w))), some (.inl (iZ (2)))], [.inr (.inr (.inr (11, 0, 83))), .inl (iZ (5)), .inr (.inr (.inr (20, nt, t)))], (setI (setI h t ((5 * T.length) + 0) ((iZ ((M.getD w t0).1)))) t ((5 * T.length) + 1) ((iZ ((M.getD w t0).2.1)))))) rfl ?_
  refine Ev.gv (w := (iZ (T.length))) rfl (by rw [setI_oth (b := 83) ht83.symm, setI_oth (b := 83) ht83.symm]; exact tm.1) ?_
  refine Ev.gv (w := (iZ (5 * T.length))) rfl (iZ_mul _ _) ?_
  refine Ev.sts 1 (c' := (79, [some (.inr (.inr (.inr (11, 0, 83)))), some (.inl (iZ (b4))), some (.inl (iZ (w))), some (.inl (iZ (2)))], [.inl (iZ (2)), .inl (iZ (5 * T.length)), .inr (.inr (.inr (20, nt, t)))], (setI (setI h t ((5 * T.length) + 0) ((iZ ((M.getD w t0).1)))) t ((5 * T.length) + 1) ((iZ ((M.getD w t0).2.1)))))) rfl ?_
  refine Ev.gv (w := (iZ ((5 * T.length) + 2))) rfl (iZ_add _ _) ?_
  have op2 : opM (setI (setI h t ((5 * T.length) + 0) ((iZ ((M.getD w t0).1)))) t ((5 * T.length) + 1) ((iZ ((M.getD w t0).2.1)))) M no c := opM_eq op1 (setI_ne (fun z => ht83 z.1.symm)) rfl (setI_oth (Ne.symm ne)) (Nat.le_refl _)
  refine Ev.sts 3 (c' := (83, [some (.inr (.inr (.inr (11, 0, 83)))), some (.inl (iZ (b4))), some (.inl (iZ (w))), some (.inl (iZ (2)))], [.inl (iZ (2)), .inl (iZ (w)), .inr (.inr (.inr (11, 0, 83))), .inl (iZ ((5 * T.length) + 2)), .inr (.inr (.inr (20, nt, t)))], (setI (setI h t ((5 * T.length) + 0) ((iZ ((M.getD w t0).1)))) t ((5 * T.length) + 1) ((iZ ((M.getD w t0).2.1)))))) rfl ?_
  refine Ev.callv (a := [.inr (.inr (.inr (11, 0, 83))), .inl (iZ (w)), .inl (iZ (2))]) rfl (mp_win2 (w := w) op2 (by omega) (by omega) rfl) ?_
  refine Ev.sto (j := (iZ ((5 * T.length) + 2))) (n := nt) (h2 := (setI (setI (setI h t ((5 * T.length) + 0) ((iZ ((M.getD w t0).1)))) t ((5 * T.length) + 1) ((iZ ((M.getD w t0).2.1)))) t ((5 * T.length) + 2) ((iZ ((M.getD w t0).2.2.1))))) (iZ_in (by omega) (by omega) (by omega)) rfl (by rw [iZ_ix (n := (5 * T.length) + 2) (by omega) (by omega)]) ?_
  refine Ev.stc (c1 := (90, [some (.inr (.inr (.inr (11, 0, 83)))), some (.inl (iZ (b4))), some (.inl (iZ (w))), some (.inl ((iZ (2)) + (iZ (1))))], [], (setI (setI (setI h t ((5 * T.length) + 0) ((iZ ((M.getD w t0).1)))) t ((5 * T.length) + 1) ((iZ ((M.getD w t0).2.1)))) t ((5 * T.length) + 2) ((iZ ((M.getD w t0).2.2.1)))))) (c2 := (90, [some (.inr (.inr (.inr (11, 0, 83)))), some (.inl (iZ (b4))), some (.inl (iZ (w))), some (.inl (iZ (3)))], [], (setI (setI (setI h t ((5 * T.length) + 0) ((iZ ((M.getD w t0).1)))) t ((5 * T.length) + 1) ((iZ ((M.getD w t0).2.1)))) t ((5 * T.length) + 2) ((iZ ((M.getD w t0).2.2.1)))))) rfl (by rw [iZ_add]; rfl) ?_
  refine Ev.sts 3 (c' := (65, [some (.inr (.inr (.inr (11, 0, 83)))), some (.inl (iZ (b4))), some (.inl (iZ (w))), some (.inl (iZ (3)))], [.inl (iZ (5)), .inl (iZ (3))], (setI (setI (setI h t ((5 * T.length) + 0) ((iZ ((M.getD w t0).1)))) t ((5 * T.length) + 1) ((iZ ((M.getD w t0).2.1)))) t ((5 * T.length) + 2) ((iZ ((M.getD w t0).2.2.1)))))) rfl ?_
  refine Ev.brF (p := (iZ (5)) ≤ (iZ (3))) (c1 := (93, [some (.inr (.inr (.inr (11, 0, 83)))), some (.inl (iZ (b4))), some (.inl (iZ (w))), some (.inl (iZ (3)))], [], (setI (setI (setI h t ((5 * T.length) + 0) ((iZ ((M.getD w t0).1)))) t ((5 * T.length) + 1) ((iZ ((M.getD w t0).2.1)))) t ((5 * T.length) + 2) ((iZ ((M.getD w t0).2.2.1)))))) (c2 := (68, [some (.inr (.inr (.inr (11, 0, 83)))), some (.inl (iZ (b4))), some (.inl (iZ (w))), some (.inl (iZ (3)))], [], (setI (setI (setI h t ((5 * T.length) + 0) ((iZ ((M.getD w t0).1)))) t ((5 * T.length) + 1) ((iZ ((M.getD w t0).2.1)))) t ((5 * T.length) + 2) ((iZ ((M.getD w t0).2.2.1)))))) (by decide) rfl ?_
  refine Ev.sts 1 (c' := (69, [some (.inr (.inr (.inr (11, 0, 83)))), some (.inl (iZ (b4))), some (.inl (iZ (w))), some (.inl (iZ (3)))], [.inr (.inr (.inr (11, 0, 83)))], (setI (setI (setI h t ((5 * T.length) + 0) ((iZ ((M.getD w t0).1)))) t ((5 * T.length) + 1) ((iZ ((M.getD w t0).2.1)))) t ((5 * T.length) + 2) ((iZ ((M.getD w t0).2.2.1)))))) rfl ?_
  refine Ev.gfr (r := (20, nt, t)) rfl tm.2.2.2.2.1 ?_
  refine Ev.sts 2 (c' := (74, [some (.inr (.inr (.inr (11, 0, 83)))), some (.inl (iZ (b4))), some (.inl (iZ (w))), some (.inl (iZ (3)))], [.inr (.inr (.inr (11, 0, 83))), .inl (iZ (5)), .inr (.inr (.inr (20, nt, t)))], (setI (setI (setI h t ((5 * T.length) + 0) ((iZ ((M.getD w t0).1)))) t ((5 * T.length) + 1) ((iZ ((M.getD w t0).2.1)))) t ((5 * T.length) + 2) ((iZ ((M.getD w t0).2.2.1)))))) rfl ?_
  refine Ev.gv (w := (iZ (T.length))) rfl (by rw [setI_oth (b := 83) ht83.symm, setI_oth (b := 83) ht83.symm, setI_oth (b := 83) ht83.symm]; exact tm.1) ?_
  refine Ev.gv (w := (iZ (5 * T.length))) rfl (iZ_mul _ _) ?_
  refine Ev.sts 1 (c' := (79, [some (.inr (.inr (.inr (11, 0, 83)))), some (.inl (iZ (b4))), some (.inl (iZ (w))), some (.inl (iZ (3)))], [.inl (iZ (3)), .inl (iZ (5 * T.length)), .inr (.inr (.inr (20, nt, t)))], (setI (setI (setI h t ((5 * T.length) + 0) ((iZ ((M.getD w t0).1)))) t ((5 * T.length) + 1) ((iZ ((M.getD w t0).2.1)))) t ((5 * T.length) + 2) ((iZ ((M.getD w t0).2.2.1)))))) rfl ?_
  refine Ev.gv (w := (iZ ((5 * T.length) + 3))) rfl (iZ_add _ _) ?_
  have op3 : opM (setI (setI (setI h t ((5 * T.length) + 0) ((iZ ((M.getD w t0).1)))) t ((5 * T.length) + 1) ((iZ ((M.getD w t0).2.1)))) t ((5 * T.length) + 2) ((iZ ((M.getD w t0).2.2.1)))) M no c := opM_eq op2 (setI_ne (fun z => ht83 z.1.symm)) rfl (setI_oth (Ne.symm ne)) (Nat.le_refl _)
  refine Ev.sts 3 (c' := (83, [some (.inr (.inr (.inr (11, 0, 83)))), some (.inl (iZ (b4))), some (.inl (iZ (w))), some (.inl (iZ (3)))], [.inl (iZ (3)), .inl (iZ (w)), .inr (.inr (.inr (11, 0, 83))), .inl (iZ ((5 * T.length) + 3)), .inr (.inr (.inr (20, nt, t)))], (setI (setI (setI h t ((5 * T.length) + 0) ((iZ ((M.getD w t0).1)))) t ((5 * T.length) + 1) ((iZ ((M.getD w t0).2.1)))) t ((5 * T.length) + 2) ((iZ ((M.getD w t0).2.2.1)))))) rfl ?_
  refine Ev.callv (a := [.inr (.inr (.inr (11, 0, 83))), .inl (iZ (w)), .inl (iZ (3))]) rfl (mp_win3 (w := w) op3 (by omega) (by omega) rfl) ?_
  refine Ev.sto (j := (iZ ((5 * T.length) + 3))) (n := nt) (h2 := (setI (setI (setI (setI h t ((5 * T.length) + 0) ((iZ ((M.getD w t0).1)))) t ((5 * T.length) + 1) ((iZ ((M.getD w t0).2.1)))) t ((5 * T.length) + 2) ((iZ ((M.getD w t0).2.2.1)))) t ((5 * T.length) + 3) ((iZ ((M.getD w t0).2.2.2.1))))) (iZ_in (by omega) (by omega) (by omega)) rfl (by rw [iZ_ix (n := (5 * T.length) + 3) (by omega) (by omega)]) ?_
  refine Ev.stc (c1 := (90, [some (.inr (.inr (.inr (11, 0, 83)))), some (.inl (iZ (b4))), some (.inl (iZ (w))), some (.inl ((iZ (3)) + (iZ (1))))], [], (setI (setI (setI (setI h t ((5 * T.length) + 0) ((iZ ((M.getD w t0).1)))) t ((5 * T.length) + 1) ((iZ ((M.getD w t0).2.1)))) t ((5 * T.length) + 2) ((iZ ((M.getD w t0).2.2.1)))) t ((5 * T.length) + 3) ((iZ ((M.getD w t0).2.2.2.1)))))) (c2 := (90, [some (.inr (.inr (.inr (11, 0, 83)))), some (.inl (iZ (b4))), some (.inl (iZ (w))), some (.inl (iZ (4)))], [], (setI (setI (setI (setI h t ((5 * T.length) + 0) ((iZ ((M.getD w t0).1)))) t ((5 * T.length) + 1) ((iZ ((M.getD w t0).2.1)))) t ((5 * T.length) + 2) ((iZ ((M.getD w t0).2.2.1)))) t ((5 * T.length) + 3) ((iZ ((M.getD w t0).2.2.2.1)))))) rfl (by rw [iZ_add]; rfl) ?_
  refine Ev.sts 3 (c' := (65, [some (.inr (.inr (.inr (11, 0, 83)))), some (.inl (iZ (b4))), some (.inl (iZ (w))), some (.inl (iZ (4)))], [.inl (iZ (5)), .inl (iZ (4))], (setI (setI (setI (setI h t ((5 * T.length) + 0) ((iZ ((M.getD w t0).1)))) t ((5 * T.length) + 1) ((iZ ((M.getD w t0).2.1)))) t ((5 * T.length) + 2) ((iZ ((M.getD w t0).2.2.1)))) t ((5 * T.length) + 3) ((iZ ((M.getD w t0).2.2.2.1)))))) rfl ?_
  refine Ev.brF (p := (iZ (5)) ≤ (iZ (4))) (c1 := (93, [some (.inr (.inr (.inr (11, 0, 83)))), some (.inl (iZ (b4))), some (.inl (iZ (w))), some (.inl (iZ (4)))], [], (setI (setI (setI (setI h t ((5 * T.length) + 0) ((iZ ((M.getD w t0).1)))) t ((5 * T.length) + 1) ((iZ ((M.getD w t0).2.1)))) t ((5 * T.length) + 2) ((iZ ((M.getD w t0).2.2.1)))) t ((5 * T.length) + 3) ((iZ ((M.getD w t0).2.2.2.1)))))) (c2 := (68, [some (.inr (.inr (.inr (11, 0, 83)))), some (.inl (iZ (b4))), some (.inl (iZ (w))), some (.inl (iZ (4)))], [], (setI (setI (setI (setI h t ((5 * T.length) + 0) ((iZ ((M.getD w t0).1)))) t ((5 * T.length) + 1) ((iZ ((M.getD w t0).2.1)))) t ((5 * T.length) + 2) ((iZ ((M.getD w t0).2.2.1)))) t ((5 * T.length) + 3) ((iZ ((M.getD w t0).2.2.2.1)))))) (by decide) rfl ?_
  refine Ev.sts 1 (c' := (69, [some (.inr (.inr (.inr (11, 0, 83)))), some (.inl (iZ (b4))), some (.inl (iZ (w))), some (.inl (iZ (4)))], [.inr (.inr (.inr (11, 0, 83)))], (setI (setI (setI (setI h t ((5 * T.length) + 0) ((iZ ((M.getD w t0).1)))) t ((5 * T.length) + 1) ((iZ ((M.getD w t0).2.1)))) t ((5 * T.length) + 2) ((iZ ((M.getD w t0).2.2.1)))) t ((5 * T.length) + 3) ((iZ ((M.getD w t0).2.2.2.1)))))) rfl ?_
  refine Ev.gfr (r := (20, nt, t)) rfl tm.2.2.2.2.1 ?_
  refine Ev.sts 2 (c' := (74, [some (.inr (.inr (.inr (11, 0, 83)))), some (.inl (iZ (b4))), some (.inl (iZ (w))), some (.inl (iZ (4)))], [.inr (.inr (.inr (11, 0, 83))), .inl (iZ (5)), .inr (.inr (.inr (20, nt, t)))], (setI (setI (setI (setI h t ((5 * T.length) + 0) ((iZ ((M.getD w t0).1)))) t ((5 * T.length) + 1) ((iZ ((M.getD w t0).2.1)))) t ((5 * T.length) + 2) ((iZ ((M.getD w t0).2.2.1)))) t ((5 * T.length) + 3) ((iZ ((M.getD w t0).2.2.2.1)))))) rfl ?_
  refine Ev.gv (w := (iZ (T.length))) rfl (by rw [setI_oth (b := 83) ht83.symm, setI_oth (b := 83) ht83.symm, setI_oth (b := 83) ht83.symm, setI_oth (b := 83) ht83.symm]; exact tm.1) ?_
  refine Ev.gv (w := (iZ (5 * T.length))) rfl (iZ_mul _ _) ?_
  refine Ev.sts 1 (c' := (79, [some (.inr (.inr (.inr (11, 0, 83)))), some (.inl (iZ (b4))), some (.inl (iZ (w))), some (.inl (iZ (4)))], [.inl (iZ (4)), .inl (iZ (5 * T.length)), .inr (.inr (.inr (20, nt, t)))], (setI (setI (setI (setI h t ((5 * T.length) + 0) ((iZ ((M.getD w t0).1)))) t ((5 * T.length) + 1) ((iZ ((M.getD w t0).2.1)))) t ((5 * T.length) + 2) ((iZ ((M.getD w t0).2.2.1)))) t ((5 * T.length) + 3) ((iZ ((M.getD w t0).2.2.2.1)))))) rfl ?_
  refine Ev.gv (w := (iZ ((5 * T.length) + 4))) rfl (iZ_add _ _) ?_
  have op4 : opM (setI (setI (setI (setI h t ((5 * T.length) + 0) ((iZ ((M.getD w t0).1)))) t ((5 * T.length) + 1) ((iZ ((M.getD w t0).2.1)))) t ((5 * T.length) + 2) ((iZ ((M.getD w t0).2.2.1)))) t ((5 * T.length) + 3) ((iZ ((M.getD w t0).2.2.2.1)))) M no c := opM_eq op3 (setI_ne (fun z => ht83 z.1.symm)) rfl (setI_oth (Ne.symm ne)) (Nat.le_refl _)
  refine Ev.sts 3 (c' := (83, [some (.inr (.inr (.inr (11, 0, 83)))), some (.inl (iZ (b4))), some (.inl (iZ (w))), some (.inl (iZ (4)))], [.inl (iZ (4)), .inl (iZ (w)), .inr (.inr (.inr (11, 0, 83))), .inl (iZ ((5 * T.length) + 4)), .inr (.inr (.inr (20, nt, t)))], (setI (setI (setI (setI h t ((5 * T.length) + 0) ((iZ ((M.getD w t0).1)))) t ((5 * T.length) + 1) ((iZ ((M.getD w t0).2.1)))) t ((5 * T.length) + 2) ((iZ ((M.getD w t0).2.2.1)))) t ((5 * T.length) + 3) ((iZ ((M.getD w t0).2.2.2.1)))))) rfl ?_
  refine Ev.callv (a := [.inr (.inr (.inr (11, 0, 83))), .inl (iZ (w)), .inl (iZ (4))]) rfl (mp_win4 (w := w) op4 (by omega) (by omega) rfl) ?_
  refine Ev.sto (j := (iZ ((5 * T.length) + 4))) (n := nt) (h2 := (setI (setI (setI (setI (setI h t ((5 * T.length) + 0) ((iZ ((M.getD w t0).1)))) t ((5 * T.length) + 1) ((iZ ((M.getD w t0).2.1)))) t ((5 * T.length) + 2) ((iZ ((M.getD w t0).2.2.1)))) t ((5 * T.length) + 3) ((iZ ((M.getD w t0).2.2.2.1)))) t ((5 * T.length) + 4) ((M.getD w t0).2.2.2.2))) (iZ_in (by omega) (by omega) (by omega)) rfl (by rw [iZ_ix (n := (5 * T.length) + 4) (by omega) (by omega)]) ?_
  refine Ev.stc (c1 := (90, [some (.inr (.inr (.inr (11, 0, 83)))), some (.inl (iZ (b4))), some (.inl (iZ (w))), some (.inl ((iZ (4)) + (iZ (1))))], [], (setI (setI (setI (setI (setI h t ((5 * T.length) + 0) ((iZ ((M.getD w t0).1)))) t ((5 * T.length) + 1) ((iZ ((M.getD w t0).2.1)))) t ((5 * T.length) + 2) ((iZ ((M.getD w t0).2.2.1)))) t ((5 * T.length) + 3) ((iZ ((M.getD w t0).2.2.2.1)))) t ((5 * T.length) + 4) ((M.getD w t0).2.2.2.2)))) (c2 := (90, [some (.inr (.inr (.inr (11, 0, 83)))), some (.inl (iZ (b4))), some (.inl (iZ (w))), some (.inl (iZ (5)))], [], (setI (setI (setI (setI (setI h t ((5 * T.length) + 0) ((iZ ((M.getD w t0).1)))) t ((5 * T.length) + 1) ((iZ ((M.getD w t0).2.1)))) t ((5 * T.length) + 2) ((iZ ((M.getD w t0).2.2.1)))) t ((5 * T.length) + 3) ((iZ ((M.getD w t0).2.2.2.1)))) t ((5 * T.length) + 4) ((M.getD w t0).2.2.2.2)))) rfl (by rw [iZ_add]; rfl) ?_
  refine Ev.sts 3 (c' := (65, [some (.inr (.inr (.inr (11, 0, 83)))), some (.inl (iZ (b4))), some (.inl (iZ (w))), some (.inl (iZ (5)))], [.inl (iZ (5)), .inl (iZ (5))], (setI (setI (setI (setI (setI h t ((5 * T.length) + 0) ((iZ ((M.getD w t0).1)))) t ((5 * T.length) + 1) ((iZ ((M.getD w t0).2.1)))) t ((5 * T.length) + 2) ((iZ ((M.getD w t0).2.2.1)))) t ((5 * T.length) + 3) ((iZ ((M.getD w t0).2.2.2.1)))) t ((5 * T.length) + 4) ((M.getD w t0).2.2.2.2)))) rfl ?_
  refine Ev.brT (p := (iZ (5)) ≤ (iZ (5))) (c1 := (93, [some (.inr (.inr (.inr (11, 0, 83)))), some (.inl (iZ (b4))), some (.inl (iZ (w))), some (.inl (iZ (5)))], [], (setI (setI (setI (setI (setI h t ((5 * T.length) + 0) ((iZ ((M.getD w t0).1)))) t ((5 * T.length) + 1) ((iZ ((M.getD w t0).2.1)))) t ((5 * T.length) + 2) ((iZ ((M.getD w t0).2.2.1)))) t ((5 * T.length) + 3) ((iZ ((M.getD w t0).2.2.2.1)))) t ((5 * T.length) + 4) ((M.getD w t0).2.2.2.2)))) (c2 := (68, [some (.inr (.inr (.inr (11, 0, 83)))), some (.inl (iZ (b4))), some (.inl (iZ (w))), some (.inl (iZ (5)))], [], (setI (setI (setI (setI (setI h t ((5 * T.length) + 0) ((iZ ((M.getD w t0).1)))) t ((5 * T.length) + 1) ((iZ ((M.getD w t0).2.1)))) t ((5 * T.length) + 2) ((iZ ((M.getD w t0).2.2.1)))) t ((5 * T.length) + 3) ((iZ ((M.getD w t0).2.2.2.1)))) t ((5 * T.length) + 4) ((M.getD w t0).2.2.2.2)))) (by decide) rfl ?_
  refine Ev.sts 2 (c' := (95, [some (.inr (.inr (.inr (11, 0, 83)))), some (.inl (iZ (b4))), some (.inl (iZ (w))), some (.inl (iZ (5)))], [.inr (.inr (.inr (11, 0, 83))), .inr (.inr (.inr (11, 0, 83)))], (setI (setI (setI (setI (setI h t ((5 * T.length) + 0) ((iZ ((M.getD w t0).1)))) t ((5 * T.length) + 1) ((iZ ((M.getD w t0).2.1)))) t ((5 * T.length) + 2) ((iZ ((M.getD w t0).2.2.1)))) t ((5 * T.length) + 3) ((iZ ((M.getD w t0).2.2.2.1)))) t ((5 * T.length) + 4) ((M.getD w t0).2.2.2.2)))) rfl ?_
  refine Ev.gv (w := (iZ (T.length))) rfl (by rw [setI_oth (b := 83) ht83.symm, setI_oth (b := 83) ht83.symm, setI_oth (b := 83) ht83.symm, setI_oth (b := 83) ht83.symm, setI_oth (b := 83) ht83.symm]; exact tm.1) ?_
  refine Ev.sts 1 (c' := (99, [some (.inr (.inr (.inr (11, 0, 83)))), some (.inl (iZ (b4))), some (.inl (iZ (w))), some (.inl (iZ (5)))], [.inl (iZ (1)), .inl (iZ (T.length)), .inr (.inr (.inr (11, 0, 83)))], (setI (setI (setI (setI (setI h t ((5 * T.length) + 0) ((iZ ((M.getD w t0).1)))) t ((5 * T.length) + 1) ((iZ ((M.getD w t0).2.1)))) t ((5 * T.length) + 2) ((iZ ((M.getD w t0).2.2.1)))) t ((5 * T.length) + 3) ((iZ ((M.getD w t0).2.2.2.1)))) t ((5 * T.length) + 4) ((M.getD w t0).2.2.2.2)))) rfl ?_
  refine Ev.gv (w := (iZ (T.length + 1))) rfl (iZ_add _ _) ?_
  refine Ev.sts 1 (c' := (103, [some (.inr (.inr (.inr (11, 0, 83)))), some (.inl (iZ (b4))), some (.inl (iZ (w))), some (.inl (iZ (5)))], [], (setI (setI (setI (setI (setI (setI h t ((5 * T.length) + 0) ((iZ ((M.getD w t0).1)))) t ((5 * T.length) + 1) ((iZ ((M.getD w t0).2.1)))) t ((5 * T.length) + 2) ((iZ ((M.getD w t0).2.2.1)))) t ((5 * T.length) + 3) ((iZ ((M.getD w t0).2.2.2.1)))) t ((5 * T.length) + 4) ((M.getD w t0).2.2.2.2)) 83 32 ((iZ (T.length + 1)))))) rfl ?_
  have po := put_ok op tm ne ho (M.getD w t0)
  exact q _ po.1 po.2.1 po.2.2.1 po.2.2.2

def kpM (M : List Tel) (m : Int) : List Tel := M.filter (fun t => decide (m < t.2.2.1))
def gnM (M : List Tel) (m : Int) : List Tel := M.filter (fun t => decide (t.2.2.1 ≤ m))
theorem kpM_y {t : Tel} {M : List Tel} {m : Int} (c : m < t.2.2.1) : kpM (t :: M) m = t :: kpM M m := List.filter_cons_of_pos (decide_eq_true c)
theorem kpM_n {t : Tel} {M : List Tel} {m : Int} (c : ¬ m < t.2.2.1) : kpM (t :: M) m = kpM M m := List.filter_cons_of_neg (by rw [decide_eq_true_eq]; exact c)
theorem gnM_y {t : Tel} {M : List Tel} {m : Int} (c : t.2.2.1 ≤ m) : gnM (t :: M) m = t :: gnM M m := List.filter_cons_of_pos (decide_eq_true c)
theorem gnM_n {t : Tel} {M : List Tel} {m : Int} (c : ¬ t.2.2.1 ≤ m) : gnM (t :: M) m = gnM M m := List.filter_cons_of_neg (by rw [decide_eq_true_eq]; exact c)
theorem mid_get {α : Type} (d x : α) (A R : List α) : (A ++ x :: R).getD A.length d = x := by
  rw [List.getD_eq_getElem?_getD, List.getElem?_append_right (Nat.le_refl _), Nat.sub_self]; rfl
theorem mid_era {α : Type} (x : α) (A R : List α) : (A ++ x :: R).eraseIdx A.length = A ++ R := by
  rw [List.eraseIdx_append_of_length_le (Nat.le_refl _), Nat.sub_self]; rfl
theorem mid_len {α : Type} (x : α) (A R : List α) : (A ++ x :: R).length = A.length + R.length + 1 := by
  rw [List.length_append, List.length_cons]; omega
theorem mp_tl_lp {d no c : Nat} {b4 m : Int} {Q : Rs → PH → Prop} (hm : 0 ≤ m ∧ m < 3000) (R : List Tel) : ∀ (h : PH) (A T : List Tel) (nt t : Nat) (a3 : Option VV), Sh h → opM h (A ++ R) no c → tmM h T nt t → t ≠ c → h.1 83 27 = iZ m → 103 ≤ hN h → (∀ y ∈ R, 0 ≤ y.2.2.1 ∧ y.2.2.1 < 1300) → T.length + R.length ≤ 5040 → (∀ h1 nt1 t1, opM h1 (A ++ kpM R m) no c → tmM h1 (T ++ gnM R m) nt1 t1 → t1 ≠ c → FM p83 h h1 (no, c, nt, t) (no, c, nt1, t1) → F83 h h1 → Q (.inl (some (.inl (iZ ((T ++ gnM R m).length - b4))))) h1) → Ev (d + 1) 227 (7, [some (.inr (.inr (.inr (11, 0, 83)))), some (.inl (iZ (b4))), some (.inl (iZ (A.length))), a3], [], h) Q := by
  induction R with
  | nil =>
    intro h A T nt t a3 sh op tm ne hm0 hh hR hl q
    have o1 := op.2.1
    have o3 := op.2.2.2.1
    have hAl : (A ++ ([] : List Tel)).length = A.length := by rw [List.append_nil]
    have hTl : (T ++ gnM [] m) = T := List.append_nil T
    rw [hTl] at q
    refine Ev.sts 2 (c' := (9, [some (.inr (.inr (.inr (11, 0, 83)))), some (.inl (iZ (b4))), some (.inl (iZ (A.length))), a3], [.inr (.inr (.inr (11, 0, 83))), .inl (iZ (A.length))], h)) rfl ?_
    refine Ev.gv (w := (iZ ((A ++ ([] : List Tel)).length))) rfl op.1 ?_
    refine Ev.brT (p := (iZ ((A ++ ([] : List Tel)).length)) ≤ (iZ (A.length))) (c1 := (111, [some (.inr (.inr (.inr (11, 0, 83)))), some (.inl (iZ (b4))), some (.inl (iZ (A.length))), a3], [], h)) (c2 := (15, [some (.inr (.inr (.inr (11, 0, 83)))), some (.inl (iZ (b4))), some (.inl (iZ (A.length))), a3], [], h)) ((iZ_le ⟨by omega, by omega⟩ ⟨by omega, by omega⟩).mpr (by rw [List.append_nil]; omega)) rfl ?_
    refine Ev.sts 1 (c' := (112, [some (.inr (.inr (.inr (11, 0, 83)))), some (.inl (iZ (b4))), some (.inl (iZ (A.length))), a3], [.inr (.inr (.inr (11, 0, 83)))], h)) rfl ?_
    refine Ev.gv (w := (iZ (T.length))) rfl tm.1 ?_
    refine Ev.sts 1 (c' := (116, [some (.inr (.inr (.inr (11, 0, 83)))), some (.inl (iZ (b4))), some (.inl (iZ (A.length))), a3], [.inl (iZ (b4)), .inl (iZ (T.length))], h)) rfl ?_
    refine Ev.gv (w := (iZ (T.length - b4))) rfl (iZ_sub _ _) ?_
    exact Ev.ret rfl (q h nt t op tm ne (FM_refl _ _ _) (fun _ _ _ => rfl))
  | cons x R ih =>
    intro h A T nt t a3 sh op tm ne hm0 hh hR hl q
    have hxb := hR x (List.mem_cons_self ..)
    have hml := mid_len x A R
    replace hl : T.length + (R.length + 1) ≤ 5040 := hl
    have o1 := op.2.1
    have o3 := op.2.2.2.1
    have o4 := tm.2.1
    have o5 := tm.2.2.2.1
    have o6 := tm.2.2.1
    have ht83 : t ≠ 83 := by have := tm.2.2.2.2.2.1; unfold aO at this; omega
    have hc83 : c ≠ 83 := by have := op.2.2.2.2.2.1; unfold aO at this; omega
    have tail : ∀ h1 nt1 t1, ¬ m < x.2.2.1 → opM h1 (A ++ x :: R) no c → tmM h1 (T ++ [x]) nt1 t1 → FM p83 h h1 (no, c, nt, t) (no, c, nt1, t1) → t1 ≠ c → F83 h h1 → Ev (d + 1) 227 (103, [some (.inr (.inr (.inr (11, 0, 83)))), some (.inl (iZ (b4))), some (.inl (iZ (A.length))), some (.inl (iZ (5)))], [], h1) Q := by
      intro h1 nt1 t1 hxm op1 tm1 f1 ne1 g1
      refine Ev.sts 2 (c' := (105, [some (.inr (.inr (.inr (11, 0, 83)))), some (.inl (iZ (b4))), some (.inl (iZ (A.length))), some (.inl (iZ (5)))], [.inl (iZ (A.length)), .inr (.inr (.inr (11, 0, 83)))], h1)) rfl ?_
      refine Ev.callw (a := [.inr (.inr (.inr (11, 0, 83))), .inl (iZ (A.length))]) rfl (mp_remove (w := A.length) op1 rfl (by rw [mid_len]; omega) (fun h2 op2 f2 => ?_))
      refine Ev.sts 1 (c' := (7, [some (.inr (.inr (.inr (11, 0, 83)))), some (.inl (iZ (b4))), some (.inl (iZ (A.length))), some (.inl (iZ (5)))], [], h2)) rfl ?_
      rw [mid_era] at op2
      have eg : T ++ gnM (x :: R) m = (T ++ [x]) ++ gnM R m := by
        rw [gnM_y (by omega), List.append_assoc]; rfl
      have ek : A ++ kpM (x :: R) m = A ++ kpM R m := by rw [kpM_n (by omega)]
      rw [eg, ek] at q
      refine ih h2 A (T ++ [x]) nt1 t1 _ (Sh_fm (Sh_FM sh f1) f2) op2 (tmM_fm tm1 f2 ne1) ne1 ?_ (by have e1 := f1.2.2.2.1; have e2 := f2.2.2.2.2.1; replace e2 : hN h1 ≤ hN h2 := e2; omega) (fun y hy => hR y (List.mem_cons_of_mem _ hy)) (by rw [app_len]; omega) (fun h3 nt3 t3 op3 tm3 n3 f3 g3 => q h3 nt3 t3 op3 tm3 n3 (FM_trans f1 (FM_trans (FM_fm f2) f3)) (F83_t g1 (F83_t (fun k k1 _ => f2.2.2.2.1 k k1) g3)))
      · rw [f2.2.2.2.1 27 (by omega), g1 27 (by omega) (by omega)]; exact hm0
    refine Ev.sts 2 (c' := (9, [some (.inr (.inr (.inr (11, 0, 83)))), some (.inl (iZ (b4))), some (.inl (iZ (A.length))), a3], [.inr (.inr (.inr (11, 0, 83))), .inl (iZ (A.length))], h)) rfl ?_
    refine Ev.gv (w := (iZ ((A ++ x :: R).length))) rfl op.1 ?_
    refine Ev.brF (p := (iZ ((A ++ x :: R).length)) ≤ (iZ (A.length))) (c1 := (111, [some (.inr (.inr (.inr (11, 0, 83)))), some (.inl (iZ (b4))), some (.inl (iZ (A.length))), a3], [], h)) (c2 := (15, [some (.inr (.inr (.inr (11, 0, 83)))), some (.inl (iZ (b4))), some (.inl (iZ (A.length))), a3], [], h)) (fun c_ => absurd ((iZ_le ⟨by omega, by omega⟩ ⟨by omega, by omega⟩).mp c_) (by omega)) rfl ?_
    refine Ev.sts 3 (c' := (18, [some (.inr (.inr (.inr (11, 0, 83)))), some (.inl (iZ (b4))), some (.inl (iZ (A.length))), a3], [.inl (iZ (2)), .inl (iZ (A.length)), .inr (.inr (.inr (11, 0, 83)))], h)) rfl ?_
    refine Ev.callv (a := [.inr (.inr (.inr (11, 0, 83))), .inl (iZ (A.length)), .inl (iZ (2))]) rfl (mp_win2 (w := A.length) op rfl (by rw [mid_len]; omega) (mid_get t0 x A R)) ?_
    refine Ev.sts 1 (c' := (22, [some (.inr (.inr (.inr (11, 0, 83)))), some (.inl (iZ (b4))), some (.inl (iZ (A.length))), a3], [.inr (.inr (.inr (11, 0, 83))), .inl (iZ (x.2.2.1))], h)) rfl ?_
    refine Ev.gv (w := (iZ (m))) rfl hm0 ?_
    refine Ev.brc (p := (iZ (x.2.2.1)) ≤ (iZ (m))) (q := ((x.2.2.1 : Int)) ≤ m) (c1 := (34, [some (.inr (.inr (.inr (11, 0, 83)))), some (.inl (iZ (b4))), some (.inl (iZ (A.length))), a3], [], h)) (c2 := (28, [some (.inr (.inr (.inr (11, 0, 83)))), some (.inl (iZ (b4))), some (.inl (iZ (A.length))), a3], [], h)) rfl (iZ_le ⟨by omega, by omega⟩ ⟨by omega, by omega⟩) (fun c0 => ?_) (fun c0 => ?_)
    · refine Ev.sts 2 (c' := (36, [some (.inr (.inr (.inr (11, 0, 83)))), some (.inl (iZ (b4))), some (.inl (iZ (A.length))), a3], [.inr (.inr (.inr (11, 0, 83))), .inl (iZ (5))], h)) rfl ?_
      refine Ev.gv (w := (iZ (T.length))) rfl tm.1 ?_
      refine Ev.sts 1 (c' := (40, [some (.inr (.inr (.inr (11, 0, 83)))), some (.inl (iZ (b4))), some (.inl (iZ (A.length))), a3], [.inl (iZ (1)), .inl (iZ (T.length)), .inl (iZ (5))], h)) rfl ?_
      refine Ev.gv (w := (iZ (T.length + 1))) rfl (iZ_add _ _) ?_
      refine Ev.gv (w := (iZ (5 * (T.length + 1)))) rfl (iZ_mul _ _) ?_
      refine Ev.sts 1 (c' := (43, [some (.inr (.inr (.inr (11, 0, 83)))), some (.inl (iZ (b4))), some (.inl (iZ (A.length))), a3], [.inr (.inr (.inr (11, 0, 83))), .inl (iZ (5 * (T.length + 1)))], h)) rfl ?_
      refine Ev.gfr (r := (20, nt, t)) rfl tm.2.2.2.2.1 ?_
      refine Ev.gv (w := (iZ (nt))) rfl (iZ_nat _) ?_
      refine Ev.brc (p := (iZ (5 * (T.length + 1))) ≤ (iZ (nt))) (q := ((5 * (T.length + 1) : Int)) ≤ nt) (c1 := (61, [some (.inr (.inr (.inr (11, 0, 83)))), some (.inl (iZ (b4))), some (.inl (iZ (A.length))), a3], [], h)) (c2 := (50, [some (.inr (.inr (.inr (11, 0, 83)))), some (.inl (iZ (b4))), some (.inl (iZ (A.length))), a3], [], h)) rfl (iZ_le ⟨by omega, by omega⟩ ⟨by omega, by omega⟩) (fun c1 => ?_) (fun c1 => ?_)
      · refine mp_t61 op tm ne (by rw [mid_len]; omega) (by omega) (fun h1 op1 tm1 f1 g1 => ?_)
        rw [mid_get] at tm1
        exact tail h1 nt t (by omega) op1 tm1 f1 ne g1
      · refine Ev.sts 2 (c' := (52, [some (.inr (.inr (.inr (11, 0, 83)))), some (.inl (iZ (b4))), some (.inl (iZ (A.length))), a3], [.inr (.inr (.inr (11, 0, 83))), .inr (.inr (.inr (11, 0, 83)))], h)) rfl ?_
        refine Ev.gfr (r := (20, nt, t)) rfl tm.2.2.2.2.1 ?_
        refine Ev.callv (a := [.inr (.inr (.inr (20, nt, t)))]) rfl (mp_longer (by omega)) ?_
        refine Ev.sts 1 (c' := (61, [some (.inr (.inr (.inr (11, 0, 83)))), some (.inl (iZ (b4))), some (.inl (iZ (A.length))), a3], [], (setR (cpyI (grow h (2 * nt)) t 0 (hN h) 0 nt) 83 31 (20, (2 * nt), (hN h))))) rfl ?_
        have lk := lot_ok op tm (by omega) hh ne
        refine mp_t61 (h := lotH h t nt) lk.1 lk.2.1 lk.2.2.2.1 (by rw [mid_len]; omega) (by omega) (fun h1 op1 tm1 f1 g1 => ?_)
        rw [mid_get] at tm1
        exact tail h1 (2 * nt) (hN h) (by omega) op1 tm1 (FM_trans lk.2.2.1 f1) lk.2.2.2.1 (F83_t lk.2.2.2.2 g1)
    · refine Ev.stc (c1 := (31, [some (.inr (.inr (.inr (11, 0, 83)))), some (.inl (iZ (b4))), some (.inl ((iZ (A.length)) + (iZ (1)))), a3], [], h)) (c2 := (31, [some (.inr (.inr (.inr (11, 0, 83)))), some (.inl (iZ (b4))), some (.inl (iZ (A.length + 1))), a3], [], h)) rfl (by rw [iZ_add]) ?_
      refine Ev.sts 1 (c' := (7, [some (.inr (.inr (.inr (11, 0, 83)))), some (.inl (iZ (b4))), some (.inl (iZ (A.length + 1))), a3], [], h)) rfl ?_
      rw [show ((A.length : Int) + 1) = (((A ++ [x]).length : Nat) : Int) by rw [app_len]; omega]
      have eg : T ++ gnM (x :: R) m = T ++ gnM R m := by rw [gnM_n (by omega)]
      have ek : A ++ kpM (x :: R) m = (A ++ [x]) ++ kpM R m := by
        rw [kpM_y (by omega), List.append_assoc]; rfl
      rw [eg, ek] at q
      exact ih h (A ++ [x]) T nt t a3 sh (by rw [List.append_assoc]; exact op) tm ne hm0 hh (fun y hy => hR y (List.mem_cons_of_mem _ hy)) (by omega) (fun h1 nt1 t1 op1 tm1 n1 f1 g1 => q h1 nt1 t1 op1 tm1 n1 f1 g1)

theorem mp_tellAll {d no c nt t : Nat} {m : Int} {M T : List Tel} {h : PH} {Q : Rs → PH → Prop} (sh : Sh h) (op : opM h M no c) (tm : tmM h T nt t) (ne : t ≠ c) (hm0 : h.1 83 27 = iZ m) (hm : 0 ≤ m ∧ m < 3000) (hh : 103 ≤ hN h) (hR : ∀ y ∈ M, 0 ≤ y.2.2.1 ∧ y.2.2.1 < 1300) (hl : T.length + M.length ≤ 5040) (q : ∀ h1 nt1 t1, opM h1 (kpM M m) no c → tmM h1 (T ++ gnM M m) nt1 t1 → t1 ≠ c → FM p83 h h1 (no, c, nt, t) (no, c, nt1, t1) → F83 h h1 → Q (.inl (some (.inl (iZ ((T ++ gnM M m).length - T.length))))) h1) : Rn (d + 1) 227 [.inr (.inr (.inr (11, 0, 83)))] h Q := by
  refine Ev.sts 1 (c' := (1, [some (.inr (.inr (.inr (11, 0, 83)))), none, none, none], [.inr (.inr (.inr (11, 0, 83)))], h)) rfl ?_
  refine Ev.gv (w := (iZ (T.length))) rfl tm.1 ?_
  refine Ev.sts 3 (c' := (7, [some (.inr (.inr (.inr (11, 0, 83)))), some (.inl (iZ (T.length))), some (.inl (iZ (0))), none], [], h)) rfl ?_
  exact mp_tl_lp hm M h [] T nt t none sh op tm ne hm0 hh hR hl (fun h1 nt1 t1 op1 tm1 n1 f1 g1 => q h1 nt1 t1 op1 tm1 n1 f1 g1)

