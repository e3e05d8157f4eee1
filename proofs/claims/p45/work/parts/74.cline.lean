/-! The class reads lines: a flock, a goose, a line. -/
def moR (h : PH) (b : Nat) (M : List Int) : Prop := h.1 b 5 = iZ M.length ∧ M.length ≤ 8 ∧ ∀ j, j < M.length → h.1 (b + 1) j = iZ (M.getD j 0)
def tsR (h : PH) (b : Nat) (TS : List (Nat × Nat)) (n : Nat) : Prop := TS.length = n ∧ ∀ f, f < TS.length → h.1 (b + 2) f = iZ (TS.getD f (0, 0)).1 ∧ h.1 (b + 3) f = iZ (TS.getD f (0, 0)).2
def gcC (h : PH) (a : Nat) (g : Gc) : Prop := h.1 a 0 = iZ g.1 ∧ h.1 a 1 = iZ g.2.1 ∧ h.1 a 2 = iZ g.2.2.1 ∧ h.1 a 3 = iZ g.2.2.2.1 ∧ h.2.2.1 a 4 = (40, 0, 21 + g.2.2.2.2.1) ∧ h.1 a 5 = iZ g.2.2.2.2.2.1 ∧ h.1 a 6 = iZ g.2.2.2.2.2.2
def gxR (h : PH) (b : Nat) (X : List Gc) (n : Nat) : Prop := X.length = n ∧ ∀ j, j < X.length → gcC h (b + 9 + j) (X.getD j gc0)
/-- the class's reading at a line's begin -/
def LC (h : PH) (b : Nat) (T : List Tok) (p : Nat) (e : Nat × Nat) (M F G : List Int) (P : List Cmd) (TS : List (Nat × Nat)) (X : List Gc) : Prop := QC h b T p e F G P ∧ moR h b M ∧ tsR h b TS F.length ∧ gxR h b X G.length
/-- what reading a book changes -/
def fB (b : Nat) (h h' : PH) : Prop := h'.2.2.2 = h.2.2.2 ∧ (∀ a, a ≠ 2 → a ≠ 3 → a ≠ 12 → ¬ (b ≤ a ∧ a ≤ b + 14) → h'.1 a = h.1 a) ∧ (∀ k, k ≠ 5 → k ≠ 6 → h'.1 2 k = h.1 2 k) ∧ (∀ k, k ≠ 6 → h'.1 3 k = h.1 3 k) ∧ (∀ a, a ≠ 10 → a ≠ 11 → h'.2.1 a = h.2.1 a) ∧ (∀ a k, ¬ (a = 12 ∨ a = b + 6 ∨ (b + 9 ≤ a ∧ a ≤ b + 14)) → h'.2.2.1 a k = h.2.2.1 a k)
theorem fB_r (b : Nat) (h : PH) : fB b h h := ⟨rfl, fun _ _ _ _ _ => rfl, fun _ _ _ => rfl, fun _ _ => rfl, fun _ _ _ => rfl, fun _ _ _ => rfl⟩
theorem fB_t {b : Nat} {h h1 h2 : PH} (a : fB b h h1) (c : fB b h1 h2) : fB b h h2 := ⟨c.1.trans a.1, fun x x1 x2 x3 x4 => (c.2.1 x x1 x2 x3 x4).trans (a.2.1 x x1 x2 x3 x4), fun k k1 k2 => (c.2.2.1 k k1 k2).trans (a.2.2.1 k k1 k2), fun k k1 => (c.2.2.2.1 k k1).trans (a.2.2.2.1 k k1), fun x x1 x2 => (c.2.2.2.2.1 x x1 x2).trans (a.2.2.2.2.1 x x1 x2), fun x k x1 => (c.2.2.2.2.2 x k x1).trans (a.2.2.2.2.2 x k x1)⟩
theorem fB_O {b ga : Nat} {h h1 : PH} (hga : gaP b ga) (f : fO b ga h h1) : fB b h h1 := by
  unfold gaP at hga
  exact ⟨f.2.1, fun a a1 a2 a3 a4 => f.2.2.1 a a1 a2 (by omega) (by omega) (by omega), f.2.2.2.1, f.2.2.2.2.1, fun a _ _ => congrFun f.1 a, fun a k x => f.2.2.2.2.2.2 a k (by omega) (by omega)⟩
theorem fB_P {b : Nat} {h h1 : PH} (f : fPp b h h1) : fB b h h1 := fB_O (.inl rfl) (fO_P (ga := 12) f)
theorem mo_fO {b ga : Nat} {h h1 : PH} {M : List Int} (hb : b = 13 ∨ b = 68) (hga : gaP b ga) (m : moR h b M) (f : fO b ga h h1) : moR h1 b M := by
  unfold gaP at hga
  obtain ⟨m1, m2, m3⟩ := m
  exact ⟨by rw [f.2.2.1 b (by omega) (by omega) (by omega) (by omega) (by omega)]; exact m1, m2, fun j hj => by rw [f.2.2.1 (b + 1) (by omega) (by omega) (by omega) (by omega) (by omega)]; exact m3 j hj⟩
theorem ts_fO {b ga n : Nat} {h h1 : PH} {TS : List (Nat × Nat)} (hb : b = 13 ∨ b = 68) (hga : gaP b ga) (m : tsR h b TS n) (f : fO b ga h h1) : tsR h1 b TS n := by
  unfold gaP at hga
  obtain ⟨m1, m2⟩ := m
  exact ⟨m1, fun j hj => by rw [f.2.2.1 (b + 2) (by omega) (by omega) (by omega) (by omega) (by omega), f.2.2.1 (b + 3) (by omega) (by omega) (by omega) (by omega) (by omega)]; exact m2 j hj⟩
theorem gc_fO {b ga a : Nat} {h h1 : PH} {g : Gc} (ha : gaP b a) (hb : b = 13 ∨ b = 68) (hne : a ≠ ga) (c : gcC h a g) (f : fO b ga h h1) : gcC h1 a g := by
  unfold gaP at ha
  have e : h1.1 a = h.1 a := f.2.2.1 a (by omega) (by omega) (by omega) (by omega) hne
  unfold gcC
  rw [e, f.2.2.2.2.2.2 a 4 (by omega) (by omega)]
  exact c
theorem gx_fO {b ga n : Nat} {h h1 : PH} {X : List Gc} (hb : b = 13 ∨ b = 68) (hn : n ≤ 6) (hne : ga = 12 ∨ b + 9 + n ≤ ga) (m : gxR h b X n) (f : fO b ga h h1) : gxR h1 b X n := by
  obtain ⟨m1, m2⟩ := m
  exact ⟨m1, fun j hj => gc_fO (.inr (by omega)) hb (by omega) (m2 j hj) f⟩
/-- a flock is put into the class's book -/
def flH (h : PH) (b n : Nat) (w x y : Int) : PH := setI (setI (setI (setL h 10 n (lz w)) (b + 2) n (iZ x)) (b + 3) n (iZ y)) b 6 (iZ ((n : Int) + 1))
def goH (h : PH) (b n : Nat) (w : Int) : PH := setI (setL h 11 n (lz w)) b 7 (iZ ((n : Int) + 1))
theorem fB_fl {b n : Nat} {h : PH} {w x y : Int} (hb : b = 13 ∨ b = 68) : fB b h (flH h b n w x y) := by
  unfold flH
  refine ⟨rfl, fun a _ _ _ a4 => ?_, fun k _ _ => ?_, fun k _ => ?_, fun a a1 _ => ?_, fun _ _ _ => rfl⟩
  · rw [setI_oth (by omega), setI_oth (by omega), setI_oth (by omega)]; rfl
  · exact (setI_ne (by omega)).trans ((setI_ne (by omega)).trans (setI_ne (by omega)))
  · exact (setI_ne (by omega)).trans ((setI_ne (by omega)).trans (setI_ne (by omega)))
  · exact setL_oth (h := h) a1
theorem fB_go {b n : Nat} {h : PH} {w : Int} (hb : b = 13 ∨ b = 68) : fB b h (goH h b n w) := by
  unfold goH
  refine ⟨rfl, fun a _ _ _ a4 => ?_, fun k _ _ => ?_, fun k _ => ?_, fun a _ a1 => ?_, fun _ _ _ => rfl⟩
  · rw [setI_oth (by omega)]; rfl
  · exact setI_ne (by omega)
  · exact setI_ne (by omega)
  · exact setL_oth (h := h) a1
theorem LC_fl {h : PH} {b p x y : Nat} {w : Int} {T : List Tok} {e : Nat × Nat} {M F G : List Int} {P : List Cmd} {TS : List (Nat × Nat)} {X : List Gc} (l : LC h b T p e M F G P TS X) (hF : F.length < 8) (hw : 0 ≤ w ∧ w < 1099511627776) : LC (flH h b F.length w x y) b T p e M (F ++ [w]) G P (TS ++ [(x, y)]) X := by
  obtain ⟨q, ⟨m1, m2, m3⟩, ⟨t1, t2⟩, ⟨x1, x2⟩⟩ := l
  obtain ⟨q1, q2, q3, q4, q5, q6, q7, ⟨q8, q8a, q8b⟩, ⟨n1, n2, n3, n4, n5, n6⟩, ⟨r1, r2, r3⟩⟩ := q
  have cI : ∀ a k, a ≠ b + 2 → a ≠ b + 3 → ¬ (a = b ∧ k = 6) → (flH h b F.length w x y).1 a k = h.1 a k := fun a k a1 a2 a3 => (setI_ne a3).trans ((setI_ne (by omega)).trans (setI_ne (by omega)))
  have cL : ∀ a k, ¬ (a = 10 ∧ k = F.length) → (flH h b F.length w x y).2.1 a k = h.2.1 a k := fun a k a1 => setL_ne (h := h) a1
  refine ⟨⟨Sh_R2 q1 rfl, q2, q3, ⟨(cI _ _ (by omega) (by omega) (by omega)).trans q4.1, fun j hj => ?_⟩, q5, q6, (cI _ _ (by omega) (by omega) (by omega)).trans q7, ⟨(cI _ _ (by omega) (by omega) (by omega)).trans q8, q8a, fun z => (cI _ _ (by omega) (by omega) (by omega)).trans (q8b z)⟩, ⟨?_, by rw [app_len']; omega, fun j hj => ?_, (cI _ _ (by omega) (by omega) (by omega)).trans n4, n5, fun j hj => ⟨(cL _ _ (by omega)).trans (n6 j hj).1, (n6 j hj).2⟩⟩, ⟨(cI _ _ (by omega) (by omega) (by omega)).trans r1, r2, fun j hj => ⟨(r3 j hj).1, (cI _ _ (by omega) (by omega) (by omega)).trans (r3 j hj).2⟩⟩⟩, ⟨(cI _ _ (by omega) (by omega) (by omega)).trans m1, m2, fun j hj => (cI _ _ (by omega) (by omega) (by omega)).trans (m3 j hj)⟩, ⟨by rw [app_len', app_len', t1], fun j hj => ?_⟩, ⟨x1, fun j hj => ?_⟩⟩
  · obtain ⟨c1, c2, c3, c4⟩ := q4.2 j hj
    exact ⟨c1, (cI _ _ (by omega) (by omega) (by omega)).trans c2, (cI _ _ (by omega) (by omega) (by omega)).trans c3, (cL _ _ (by omega)).trans c4⟩
  · rw [app_len']; exact setI_self _ _ _ _
  · rw [app_len'] at hj
    rw [app_get' _ _ _ _ hj]
    by_cases c : j = F.length
    · rw [if_pos c, c]
      exact ⟨setL_self h 10 F.length (lz w), hw⟩
    · rw [if_neg c, cL 10 j (by omega)]
      exact n3 j (by omega)
  · rw [app_len'] at hj
    rw [app_get' _ _ _ _ hj]
    by_cases c : j = TS.length
    · rw [if_pos c, c, t1]
      exact ⟨(setI_ne (by omega)).trans ((setI_ne (by omega)).trans (setI_self _ _ _ _)), (setI_ne (by omega)).trans (setI_self _ _ _ _)⟩
    · rw [if_neg c]
      obtain ⟨c1, c2⟩ := t2 j (by omega)
      exact ⟨(setI_ne (by omega)).trans ((setI_ne (by omega)).trans ((setI_ne (by omega)).trans c1)), (setI_ne (by omega)).trans ((setI_ne (by omega)).trans ((setI_ne (by omega)).trans c2))⟩
  · obtain ⟨c0, c1, c2, c3, c4, c5, c6⟩ := x2 j hj
    exact ⟨(cI _ _ (by omega) (by omega) (by omega)).trans c0, (cI _ _ (by omega) (by omega) (by omega)).trans c1, (cI _ _ (by omega) (by omega) (by omega)).trans c2, (cI _ _ (by omega) (by omega) (by omega)).trans c3, c4, (cI _ _ (by omega) (by omega) (by omega)).trans c5, (cI _ _ (by omega) (by omega) (by omega)).trans c6⟩
theorem LC_go {h : PH} {b p : Nat} {w : Int} {g : Gc} {T : List Tok} {e : Nat × Nat} {M F G : List Int} {P : List Cmd} {TS : List (Nat × Nat)} {X : List Gc} (l : LC h b T p e M F G P TS X) (hG : G.length < 6) (hw : 0 ≤ w ∧ w < 1099511627776) (c : gcC h (b + 9 + G.length) g) : LC (goH h b G.length w) b T p e M F (G ++ [w]) P TS (X ++ [g]) := by
  obtain ⟨q, ⟨m1, m2, m3⟩, ⟨t1, t2⟩, ⟨x1, x2⟩⟩ := l
  obtain ⟨q1, q2, q3, q4, q5, q6, q7, ⟨q8, q8a, q8b⟩, ⟨n1, n2, n3, n4, n5, n6⟩, ⟨r1, r2, r3⟩⟩ := q
  have cI : ∀ a k, ¬ (a = b ∧ k = 7) → (goH h b G.length w).1 a k = h.1 a k := fun a k a3 => setI_ne a3
  have cL : ∀ a k, ¬ (a = 11 ∧ k = G.length) → (goH h b G.length w).2.1 a k = h.2.1 a k := fun a k a1 => setL_ne (h := h) a1
  refine ⟨⟨Sh_R2 q1 rfl, q2, q3, ⟨(cI _ _ (by omega)).trans q4.1, fun j hj => ?_⟩, q5, q6, (cI _ _ (by omega)).trans q7, ⟨(cI _ _ (by omega)).trans q8, q8a, fun z => (cI _ _ (by omega)).trans (q8b z)⟩, ⟨(cI _ _ (by omega)).trans n1, n2, fun j hj => ⟨(cL _ _ (by omega)).trans (n3 j hj).1, (n3 j hj).2⟩, ?_, by rw [app_len']; omega, fun j hj => ?_⟩, ⟨(cI _ _ (by omega)).trans r1, r2, fun j hj => ⟨(r3 j hj).1, (cI _ _ (by omega)).trans (r3 j hj).2⟩⟩⟩, ⟨(cI _ _ (by omega)).trans m1, m2, fun j hj => (cI _ _ (by omega)).trans (m3 j hj)⟩, ⟨t1, fun j hj => ⟨(cI _ _ (by omega)).trans (t2 j hj).1, (cI _ _ (by omega)).trans (t2 j hj).2⟩⟩, ⟨by rw [app_len', app_len', x1], fun j hj => ?_⟩⟩
  · obtain ⟨c1, c2, c3, c4⟩ := q4.2 j hj
    exact ⟨c1, (cI _ _ (by omega)).trans c2, (cI _ _ (by omega)).trans c3, (cL _ _ (by omega)).trans c4⟩
  · rw [app_len']; exact setI_self _ _ _ _
  · rw [app_len'] at hj
    rw [app_get' _ _ _ _ hj]
    by_cases c : j = G.length
    · rw [if_pos c, c]
      exact ⟨setL_self h 11 G.length (lz w), hw⟩
    · rw [if_neg c, cL 11 j (by omega)]
      exact n6 j (by omega)
  · rw [app_len'] at hj
    rw [app_get' _ _ _ _ hj]
    by_cases d : j = X.length
    · rw [if_pos d, d, x1]
      obtain ⟨c0, c1, c2, c3, c4, c5, c6⟩ := c
      exact ⟨(cI _ _ (by omega)).trans c0, (cI _ _ (by omega)).trans c1, (cI _ _ (by omega)).trans c2, (cI _ _ (by omega)).trans c3, c4, (cI _ _ (by omega)).trans c5, (cI _ _ (by omega)).trans c6⟩
    · rw [if_neg d]
      obtain ⟨c0, c1, c2, c3, c4, c5, c6⟩ := x2 j (by omega)
      exact ⟨(cI _ _ (by omega)).trans c0, (cI _ _ (by omega)).trans c1, (cI _ _ (by omega)).trans c2, (cI _ _ (by omega)).trans c3, c4, (cI _ _ (by omega)).trans c5, (cI _ _ (by omega)).trans c6⟩
theorem LC_fP {h h1 : PH} {b p p2 : Nat} {T : List Tok} {e e2 : Nat × Nat} {M F G : List Int} {P P2 : List Cmd} {TS : List (Nat × Nat)} {X : List Gc} (l : LC h b T p e M F G P TS X) (f : fPp b h h1) (q : QC h1 b T p2 e2 F G P2) : LC h1 b T p2 e2 M F G P2 TS X :=
  ⟨q, mo_fO (qc_b q) (.inl rfl) l.2.1 (fO_P (ga := 12) f), ts_fO (qc_b q) (.inl rfl) l.2.2.1 (fO_P (ga := 12) f), gx_fO (qc_b q) (qc_nm q).2.2.2.2.1 (.inl rfl) l.2.2.2 (fO_P (ga := 12) f)⟩
theorem LC_fO {h h1 : PH} {b ga p p2 : Nat} {T : List Tok} {e e2 : Nat × Nat} {M F G : List Int} {P P2 : List Cmd} {TS : List (Nat × Nat)} {X : List Gc} (hga : gaP b ga) (hg : ga = 12 ∨ b + 9 + G.length ≤ ga) (l : LC h b T p e M F G P TS X) (f : fO b ga h h1) (q : QC h1 b T p2 e2 F G P2) : LC h1 b T p2 e2 M F G P2 TS X :=
  ⟨q, mo_fO (qc_b q) hga l.2.1 f, ts_fO (qc_b q) hga l.2.2.1 f, gx_fO (qc_b q) (qc_nm q).2.2.2.2.1 hg l.2.2.2 f⟩
theorem tc_addFlock {d b n : Nat} {x y : Int} {h : PH} (sh : Sh h) (hb : b = 13 ∨ b = 68) (hn : h.1 b 6 = iZ n) (h8 : n < 8) : Rv d 89 [.inr (.inr (.inr (2, 0, b))), .inl (iZ (x)), .inl (iZ (y))] h (none) (setI (setI (setI h (b + 2) n (iZ x)) (b + 3) n (iZ y)) b 6 (iZ ((n : Int) + 1))) := Rv.of fun Q q => by
  refine Ev.sts 1 (c' := (1, [some (.inr (.inr (.inr (2, 0, b)))), some (.inl (iZ (x))), some (.inl (iZ (y)))], [.inr (.inr (.inr (2, 0, b)))], h)) rfl ?_
  refine Ev.gv (w := (iZ (n))) rfl hn ?_
  refine Ev.brF (p := (iZ (n)) < (iZ (0))) (c1 := (61, [some (.inr (.inr (.inr (2, 0, b)))), some (.inl (iZ (x))), some (.inl (iZ (y)))], [], h)) (c2 := (7, [some (.inr (.inr (.inr (2, 0, b)))), some (.inl (iZ (x))), some (.inl (iZ (y)))], [], h)) (fun c_ => absurd ((iZ_lt ⟨by omega, by omega⟩ ⟨by omega, by omega⟩).mp c_) (by omega)) rfl ?_
  refine Ev.sts 1 (c' := (8, [some (.inr (.inr (.inr (2, 0, b)))), some (.inl (iZ (x))), some (.inl (iZ (y)))], [.inr (.inr (.inr (2, 0, b)))], h)) rfl ?_
  refine Ev.gv (w := (iZ (n))) rfl hn ?_
  refine Ev.sts 1 (c' := (12, [some (.inr (.inr (.inr (2, 0, b)))), some (.inl (iZ (x))), some (.inl (iZ (y)))], [.inr (.inr (.inr (2, 0, b))), .inl (iZ (n))], h)) rfl ?_
  refine Ev.gfr (r := (20, 8, (b + 2))) rfl (sh_b1 (h := h) sh hb) ?_
  refine Ev.sts 1 (c' := (16, [some (.inr (.inr (.inr (2, 0, b)))), some (.inl (iZ (x))), some (.inl (iZ (y)))], [.inl (iZ (8)), .inl (iZ (n))], h)) rfl ?_
  refine Ev.brF (p := (iZ (8)) ≤ (iZ (n))) (c1 := (61, [some (.inr (.inr (.inr (2, 0, b)))), some (.inl (iZ (x))), some (.inl (iZ (y)))], [], h)) (c2 := (19, [some (.inr (.inr (.inr (2, 0, b)))), some (.inl (iZ (x))), some (.inl (iZ (y)))], [], h)) (fun c_ => absurd ((iZ_le ⟨by omega, by omega⟩ ⟨by omega, by omega⟩).mp c_) (by omega)) rfl ?_
  refine Ev.sts 1 (c' := (20, [some (.inr (.inr (.inr (2, 0, b)))), some (.inl (iZ (x))), some (.inl (iZ (y)))], [.inr (.inr (.inr (2, 0, b)))], h)) rfl ?_
  refine Ev.gv (w := (iZ (n))) rfl hn ?_
  refine Ev.sts 1 (c' := (24, [some (.inr (.inr (.inr (2, 0, b)))), some (.inl (iZ (x))), some (.inl (iZ (y)))], [.inr (.inr (.inr (2, 0, b))), .inl (iZ (n))], h)) rfl ?_
  refine Ev.gfr (r := (20, 8, (b + 3))) rfl (sh_b2 (h := h) sh hb) ?_
  refine Ev.sts 1 (c' := (28, [some (.inr (.inr (.inr (2, 0, b)))), some (.inl (iZ (x))), some (.inl (iZ (y)))], [.inl (iZ (8)), .inl (iZ (n))], h)) rfl ?_
  refine Ev.brF (p := (iZ (8)) ≤ (iZ (n))) (c1 := (61, [some (.inr (.inr (.inr (2, 0, b)))), some (.inl (iZ (x))), some (.inl (iZ (y)))], [], h)) (c2 := (31, [some (.inr (.inr (.inr (2, 0, b)))), some (.inl (iZ (x))), some (.inl (iZ (y)))], [], h)) (fun c_ => absurd ((iZ_le ⟨by omega, by omega⟩ ⟨by omega, by omega⟩).mp c_) (by omega)) rfl ?_
  refine Ev.sts 1 (c' := (32, [some (.inr (.inr (.inr (2, 0, b)))), some (.inl (iZ (x))), some (.inl (iZ (y)))], [.inr (.inr (.inr (2, 0, b)))], h)) rfl ?_
  refine Ev.gfr (r := (20, 8, (b + 2))) rfl (sh_b1 (h := h) sh hb) ?_
  refine Ev.sts 1 (c' := (36, [some (.inr (.inr (.inr (2, 0, b)))), some (.inl (iZ (x))), some (.inl (iZ (y)))], [.inr (.inr (.inr (2, 0, b))), .inr (.inr (.inr (20, 8, (b + 2))))], h)) rfl ?_
  refine Ev.gv (w := (iZ (n))) rfl hn ?_
  refine Ev.sts 1 (c' := (40, [some (.inr (.inr (.inr (2, 0, b)))), some (.inl (iZ (x))), some (.inl (iZ (y)))], [.inl (iZ (x)), .inl (iZ (n)), .inr (.inr (.inr (20, 8, (b + 2))))], h)) rfl ?_
  refine Ev.sto (j := (iZ (n))) (n := 8) (h2 := (setI h (b + 2) n ((iZ (x))))) (iZ_in (by omega) (by omega) (by omega)) rfl (by rw [iZ_ix (n := n) (by omega) (by omega)]) ?_
  refine Ev.sts 1 (c' := (42, [some (.inr (.inr (.inr (2, 0, b)))), some (.inl (iZ (x))), some (.inl (iZ (y)))], [.inr (.inr (.inr (2, 0, b)))], (setI h (b + 2) n ((iZ (x)))))) rfl ?_
  refine Ev.gfr (r := (20, 8, (b + 3))) rfl (sh_b2 (h := h) sh hb) ?_
  refine Ev.sts 1 (c' := (46, [some (.inr (.inr (.inr (2, 0, b)))), some (.inl (iZ (x))), some (.inl (iZ (y)))], [.inr (.inr (.inr (2, 0, b))), .inr (.inr (.inr (20, 8, (b + 3))))], (setI h (b + 2) n ((iZ (x)))))) rfl ?_
  refine Ev.gv (w := (iZ (n))) rfl ((setI_ne (a := b + 2) (b := b) (by omega)).trans hn) ?_
  refine Ev.sts 1 (c' := (50, [some (.inr (.inr (.inr (2, 0, b)))), some (.inl (iZ (x))), some (.inl (iZ (y)))], [.inl (iZ (y)), .inl (iZ (n)), .inr (.inr (.inr (20, 8, (b + 3))))], (setI h (b + 2) n ((iZ (x)))))) rfl ?_
  refine Ev.sto (j := (iZ (n))) (n := 8) (h2 := (setI (setI h (b + 2) n ((iZ (x)))) (b + 3) n ((iZ (y))))) (iZ_in (by omega) (by omega) (by omega)) rfl (by rw [iZ_ix (n := n) (by omega) (by omega)]) ?_
  refine Ev.sts 2 (c' := (53, [some (.inr (.inr (.inr (2, 0, b)))), some (.inl (iZ (x))), some (.inl (iZ (y)))], [.inr (.inr (.inr (2, 0, b))), .inr (.inr (.inr (2, 0, b)))], (setI (setI h (b + 2) n ((iZ (x)))) (b + 3) n ((iZ (y)))))) rfl ?_
  refine Ev.gv (w := (iZ (n))) rfl ((setI_ne (a := b + 3) (b := b) (by omega)).trans ((setI_ne (a := b + 2) (b := b) (by omega)).trans hn)) ?_
  refine Ev.sts 1 (c' := (57, [some (.inr (.inr (.inr (2, 0, b)))), some (.inl (iZ (x))), some (.inl (iZ (y)))], [.inl (iZ (1)), .inl (iZ (n)), .inr (.inr (.inr (2, 0, b)))], (setI (setI h (b + 2) n ((iZ (x)))) (b + 3) n ((iZ (y)))))) rfl ?_
  refine Ev.gv (w := (iZ (n + 1))) rfl (iZ_add _ _) ?_
  refine Ev.sts 1 (c' := (61, [some (.inr (.inr (.inr (2, 0, b)))), some (.inl (iZ (x))), some (.inl (iZ (y)))], [], (setI (setI (setI h (b + 2) n ((iZ (x)))) (b + 3) n ((iZ (y)))) b 6 ((iZ (n + 1)))))) rfl ?_
  exact Ev.ret rfl (q)

theorem tc_flock {d b p : Nat} {T : List Tok} {e : Nat × Nat} {M F G : List Int} {P : List Cmd} {TS : List (Nat × Nat)} {X : List Gc} {h : PH} {Q : Rs → PH → Prop} (l : LC h b T p e M F G P TS X) (hp : P.length ≤ p) (k1 : (flkF T p).1 = true → ∀ h1, LC h1 b T (flkF T p).2.1 (ntE e (flE T F G p (flkF T p).2.2.2.2.1)) M (if F.length < 8 then F ++ [tW T p] else F) G (P ++ (flkF T p).2.2.2.2.1.map (rsl T F)) (if F.length < 8 then TS ++ [(P.length, (P ++ (flkF T p).2.2.2.2.1.map (rsl T F)).length)] else TS) X → fB b h h1 → Q (.inl (some (.inl (iZ 1)))) h1) (k0 : (flkF T p).1 = false → ∀ h1 e1 F1 G1 P1, QC h1 b T (flkF T p).2.1 e1 F1 G1 P1 → fB b h h1 → Q (.inl (some (.inl (iZ 0)))) h1) : Rn (d + 44) 115 [.inr (.inr (.inr (7, 0, 2)))] h Q := by
  have q0 := l.1
  have sh := qc_sh q0
  have hb := qc_b q0
  have w0 := qc_w q0
  have p0 := qc_p q0
  have t0 := qc_tk q0
  have l1 := w0.2.1
  have fb1 := (qc_nm q0).2.1
  have fb2 := (qc_nm q0).2.2.2.2.1
  refine Ev.sts 1 (c' := (1, [some (.inr (.inr (.inr (7, 0, 2)))), none, none, none], [.inr (.inr (.inr (7, 0, 2)))], h)) rfl ?_
  refine Ev.gfr (r := (9, 0, 3)) rfl (sh_2_0 (h := h) sh) ?_
  refine Ev.callv (a := [.inr (.inr (.inr (9, 0, 3)))]) rfl (tc_word q0) ?_
  refine Ev.sts 2 (c' := (9, [some (.inr (.inr (.inr (7, 0, 2)))), some (.inr (.inl ((lz (tW T p))))), none, none], [.inr (.inr (.inr (7, 0, 2)))], h)) rfl ?_
  refine Ev.gfr (r := (2, 0, b)) rfl (qc_24 q0) ?_
  refine Ev.gfr (r := (5, 0, (b + 5))) rfl (sh_b4 (h := h) sh hb) ?_
  refine Ev.gv (w := (iZ (P.length))) rfl (qc_pr q0).1 ?_
  refine Ev.sts 3 (c' := (21, [some (.inr (.inr (.inr (7, 0, 2)))), some (.inr (.inl ((lz (tW T p))))), none, some (.inl (iZ (P.length)))], [.inr (.inr (.inr (7, 0, 2))), .inr (.inr (.inr (7, 0, 2)))], h)) rfl ?_
  refine Ev.gfr (r := (2, 0, b)) rfl (qc_24 q0) ?_
  refine Ev.gv (w := (iZ (F.length))) rfl (qc_nm q0).1 ?_
  refine Ev.sts 1 (c' := (29, [some (.inr (.inr (.inr (7, 0, 2)))), some (.inr (.inl ((lz (tW T p))))), none, some (.inl (iZ (P.length)))], [.inl (iZ (8)), .inl (iZ (F.length)), .inr (.inr (.inr (7, 0, 2)))], h)) rfl ?_
  refine Ev.brc (p := (iZ (F.length)) < (iZ (8))) (q := ((F.length : Int)) < 8) (c1 := (36, [some (.inr (.inr (.inr (7, 0, 2)))), some (.inr (.inl ((lz (tW T p))))), none, some (.inl (iZ (P.length)))], [.inr (.inr (.inr (7, 0, 2)))], h)) (c2 := (32, [some (.inr (.inr (.inr (7, 0, 2)))), some (.inr (.inl ((lz (tW T p))))), none, some (.inl (iZ (P.length)))], [.inr (.inr (.inr (7, 0, 2)))], h)) rfl (iZ_lt ⟨by omega, by omega⟩ ⟨by omega, by omega⟩) (fun c0 => ?_) (fun c0 => ?_)
  · refine Ev.sts 1 (c' := (37, [some (.inr (.inr (.inr (7, 0, 2)))), some (.inr (.inl ((lz (tW T p))))), none, some (.inl (iZ (P.length)))], [.inl (iZ (0)), .inr (.inr (.inr (7, 0, 2)))], h)) rfl ?_
    refine Ev.callw (a := [.inr (.inr (.inr (7, 0, 2))), .inl (iZ (0))]) rfl (tc_new0 (n := F.length) (m := 8) q0 (by omega) (fun ky1 h1 q1 f1 => ?_) (fun ky1 g1 e1 q1 f1 => ?_))
    · have z1 := qc_p q1
      refine Ev.brF (p := (iZ (1)) = (iZ (0))) (c1 := (64, [some (.inr (.inr (.inr (7, 0, 2)))), some (.inr (.inl ((lz (tW T p))))), none, some (.inl (iZ (P.length)))], [], h1)) (c2 := (43, [some (.inr (.inr (.inr (7, 0, 2)))), some (.inr (.inl ((lz (tW T p))))), none, some (.inl (iZ (P.length)))], [], h1)) (by decide) rfl ?_
      refine Ev.sts 1 (c' := (44, [some (.inr (.inr (.inr (7, 0, 2)))), some (.inr (.inl ((lz (tW T p))))), none, some (.inl (iZ (P.length)))], [.inr (.inr (.inr (7, 0, 2)))], h1)) rfl ?_
      refine Ev.gfr (r := (9, 0, 3)) rfl (sh_2_0 (h := h1) (qc_sh q1)) ?_
      refine Ev.sts 1 (c' := (50, [some (.inr (.inr (.inr (7, 0, 2)))), some (.inr (.inl ((lz (tW T p))))), none, some (.inl (iZ (P.length)))], [.inr (.inr (.inr (40, 0, 6))), .inr (.inr (.inr (9, 0, 3)))], h1)) rfl ?_
      refine Ev.callw (a := [.inr (.inr (.inr (9, 0, 3))), .inr (.inr (.inr (40, 0, 6)))]) rfl (tc_skip q1 (by first | decide | omega) (fun ky2 h2 q2 f2 => ?_) (fun ky2 => ?_))
      · have z2 := qc_p q2
        refine Ev.brF (p := (iZ (1)) = (iZ (0))) (c1 := (64, [some (.inr (.inr (.inr (7, 0, 2)))), some (.inr (.inl ((lz (tW T p))))), none, some (.inl (iZ (P.length)))], [], h2)) (c2 := (56, [some (.inr (.inr (.inr (7, 0, 2)))), some (.inr (.inl ((lz (tW T p))))), none, some (.inl (iZ (P.length)))], [], h2)) (by decide) rfl ?_
        refine Ev.sts 2 (c' := (58, [some (.inr (.inr (.inr (7, 0, 2)))), some (.inr (.inl ((lz (tW T p))))), none, some (.inl (iZ (P.length)))], [.inl (iZ (0)), .inr (.inr (.inr (7, 0, 2)))], h2)) rfl ?_
        refine Ev.callw (a := [.inr (.inr (.inr (7, 0, 2))), .inl (iZ (0))]) rfl ((tc_syT w0 6 (by decide) 0 (by decide)) _ (by omega) _ _ _ _ _ q2 (by first | omega | (simp only [List.length_append, List.length_cons, List.length_nil, List.length_map]; omega)) (fun r3 h3 q3 f3 => ?_) (fun r3 g3 e3 P3 q3 f3 => ?_))
        · obtain ⟨x3, y3, -⟩ := gd_syT w0 6 _ r3
          have z3 := qc_p q3
          refine Ev.brT (p := ¬ (iZ (1)) = (iZ (0))) (c1 := (66, [some (.inr (.inr (.inr (7, 0, 2)))), some (.inr (.inl ((lz (tW T p))))), none, some (.inl (iZ (P.length)))], [], h3)) (c2 := (64, [some (.inr (.inr (.inr (7, 0, 2)))), some (.inr (.inl ((lz (tW T p))))), none, some (.inl (iZ (P.length)))], [], h3)) (by decide) rfl ?_
          refine Ev.sts 1 (c' := (67, [some (.inr (.inr (.inr (7, 0, 2)))), some (.inr (.inl ((lz (tW T p))))), none, some (.inl (iZ (P.length)))], [.inr (.inr (.inr (7, 0, 2)))], h3)) rfl ?_
          refine Ev.gfr (r := (2, 0, b)) rfl (qc_24 q3) ?_
          refine Ev.gv (w := (iZ (F.length))) rfl (qc_nm q3).1 ?_
          refine Ev.brF (p := (iZ (F.length)) < (iZ (0))) (c1 := (122, [some (.inr (.inr (.inr (7, 0, 2)))), some (.inr (.inl ((lz (tW T p))))), none, some (.inl (iZ (P.length)))], [], h3)) (c2 := (76, [some (.inr (.inr (.inr (7, 0, 2)))), some (.inr (.inl ((lz (tW T p))))), none, some (.inl (iZ (P.length)))], [], h3)) (fun c_ => absurd ((iZ_lt ⟨by omega, by omega⟩ ⟨by omega, by omega⟩).mp c_) (by omega)) rfl ?_
          refine Ev.sts 1 (c' := (77, [some (.inr (.inr (.inr (7, 0, 2)))), some (.inr (.inl ((lz (tW T p))))), none, some (.inl (iZ (P.length)))], [.inr (.inr (.inr (7, 0, 2)))], h3)) rfl ?_
          refine Ev.gfr (r := (2, 0, b)) rfl (qc_24 q3) ?_
          refine Ev.gv (w := (iZ (F.length))) rfl (qc_nm q3).1 ?_
          refine Ev.sts 1 (c' := (84, [some (.inr (.inr (.inr (7, 0, 2)))), some (.inr (.inl ((lz (tW T p))))), none, some (.inl (iZ (P.length)))], [.inr (.inr (.inr (7, 0, 2))), .inl (iZ (F.length))], h3)) rfl ?_
          refine Ev.gfr (r := (21, 8, 10)) rfl (sh_2_1 (h := h3) (qc_sh q3)) ?_
          refine Ev.sts 1 (c' := (88, [some (.inr (.inr (.inr (7, 0, 2)))), some (.inr (.inl ((lz (tW T p))))), none, some (.inl (iZ (P.length)))], [.inl (iZ (8)), .inl (iZ (F.length))], h3)) rfl ?_
          refine Ev.brc (p := (iZ (8)) ≤ (iZ (F.length))) (q := ((8 : Int)) ≤ F.length) (c1 := (122, [some (.inr (.inr (.inr (7, 0, 2)))), some (.inr (.inl ((lz (tW T p))))), none, some (.inl (iZ (P.length)))], [], h3)) (c2 := (91, [some (.inr (.inr (.inr (7, 0, 2)))), some (.inr (.inl ((lz (tW T p))))), none, some (.inl (iZ (P.length)))], [], h3)) rfl (iZ_le ⟨by omega, by omega⟩ ⟨by omega, by omega⟩) (fun c1 => ?_) (fun c1 => ?_)
          · refine Ev.sts 1 (c' := (123, [some (.inr (.inr (.inr (7, 0, 2)))), some (.inr (.inl ((lz (tW T p))))), none, some (.inl (iZ (P.length)))], [.inl (iZ (1))], h3)) rfl ?_
            first | (exfalso; omega) | (have e1 : flkF T p = (true, (syT T 6 (p + 2)).2.1, (0, p, (syT T 6 (p + 2)).2.2, 0, 0, 0, 0, 0)) := (by unfold flkF; rw [if_pos (by assumption), if_pos (by assumption), show (syT T 6 (p + 2)).1 = true by assumption]); rw [e1] at k1; rw [if_neg (show ¬ F.length < 8 by omega), if_neg (show ¬ F.length < 8 by omega)] at k1; have e2 : ntE e (flE T F G p (syT T 6 (p + 2)).2.2) = ntE (ntE e (nwE T F G F.length 8 p)) (fb T F (syT T 6 (p + 2)).2.2) := (by unfold flE; rw [← ntE_as]); dsimp only at k1; rw [e2] at k1; exact Ev.ret rfl (k1 rfl _ (LC_fP l (fP_t (fP_t (fP_t (fP_r b h) f1) f2) f3) q3) (fB_P (fP_t (fP_t (fP_t (fP_r b h) f1) f2) f3))))
          · refine Ev.sts 1 (c' := (92, [some (.inr (.inr (.inr (7, 0, 2)))), some (.inr (.inl ((lz (tW T p))))), none, some (.inl (iZ (P.length)))], [.inr (.inr (.inr (7, 0, 2)))], h3)) rfl ?_
            refine Ev.gfr (r := (21, 8, 10)) rfl (sh_2_1 (h := h3) (qc_sh q3)) ?_
            refine Ev.sts 1 (c' := (96, [some (.inr (.inr (.inr (7, 0, 2)))), some (.inr (.inl ((lz (tW T p))))), none, some (.inl (iZ (P.length)))], [.inr (.inr (.inr (7, 0, 2))), .inr (.inr (.inr (21, 8, 10)))], h3)) rfl ?_
            refine Ev.gfr (r := (2, 0, b)) rfl (qc_24 q3) ?_
            refine Ev.gv (w := (iZ (F.length))) rfl (qc_nm q3).1 ?_
            refine Ev.sts 1 (c' := (103, [some (.inr (.inr (.inr (7, 0, 2)))), some (.inr (.inl ((lz (tW T p))))), none, some (.inl (iZ (P.length)))], [.inr (.inl ((lz (tW T p)))), .inl (iZ (F.length)), .inr (.inr (.inr (21, 8, 10)))], h3)) rfl ?_
            refine Ev.sto (j := (iZ (F.length))) (n := 8) (h2 := (setL h3 10 F.length ((lz (tW T p))))) (iZ_in (by omega) (by omega) (by omega)) rfl (by rw [iZ_ix (n := F.length) (by omega) (by omega)]) ?_
            refine Ev.sts 1 (c' := (105, [some (.inr (.inr (.inr (7, 0, 2)))), some (.inr (.inl ((lz (tW T p))))), none, some (.inl (iZ (P.length)))], [.inr (.inr (.inr (7, 0, 2)))], (setL h3 10 F.length ((lz (tW T p)))))) rfl ?_
            refine Ev.gfr (r := (2, 0, b)) rfl (show h3.2.2.1 2 4 = (2, 0, b) from qc_24 q3) ?_
            refine Ev.sts 2 (c' := (110, [some (.inr (.inr (.inr (7, 0, 2)))), some (.inr (.inl ((lz (tW T p))))), none, some (.inl (iZ (P.length)))], [.inr (.inr (.inr (7, 0, 2))), .inl (iZ (P.length)), .inr (.inr (.inr (2, 0, b)))], (setL h3 10 F.length ((lz (tW T p)))))) rfl ?_
            refine Ev.gfr (r := (2, 0, b)) rfl (show h3.2.2.1 2 4 = (2, 0, b) from qc_24 q3) ?_
            refine Ev.gfr (r := (5, 0, (b + 5))) rfl (sh_b4 (h := h3) (qc_sh q3) hb) ?_
            refine Ev.gv (w := (iZ ((P ++ (syT T 6 (p + 2)).2.2.map (rsl T F)).length))) rfl (show h3.1 (b + 5) 3 = iZ (P ++ (syT T 6 (p + 2)).2.2.map (rsl T F)).length from (qc_pr q3).1) ?_
            refine Ev.callv (a := [.inr (.inr (.inr (2, 0, b))), .inl (iZ (P.length)), .inl (iZ ((P ++ (syT T 6 (p + 2)).2.2.map (rsl T F)).length))]) rfl (tc_addFlock (n := F.length) (show Sh (setL h3 10 F.length ((lz (tW T p)))) from Sh_R2 (qc_sh q3) rfl) hb (show h3.1 b 6 = iZ F.length from (qc_nm q3).1) (by omega)) ?_
            refine Ev.sts 1 (c' := (123, [some (.inr (.inr (.inr (7, 0, 2)))), some (.inr (.inl ((lz (tW T p))))), none, some (.inl (iZ (P.length)))], [.inl (iZ (1))], (flH h3 b F.length (tW T p) P.length ((P ++ (syT T 6 (p + 2)).2.2.map (rsl T F)).length)))) rfl ?_
            have e1 : flkF T p = (true, (syT T 6 (p + 2)).2.1, (0, p, (syT T 6 (p + 2)).2.2, 0, 0, 0, 0, 0)) := (by unfold flkF; rw [if_pos (by assumption), if_pos (by assumption), show (syT T 6 (p + 2)).1 = true by assumption])
            rw [e1] at k1
            rw [if_pos (show F.length < 8 by omega), if_pos (show F.length < 8 by omega)] at k1
            have e2 : ntE e (flE T F G p (syT T 6 (p + 2)).2.2) = ntE (ntE e (nwE T F G F.length 8 p)) (fb T F (syT T 6 (p + 2)).2.2) := (by unfold flE; rw [← ntE_as])
            dsimp only at k1
            rw [e2] at k1
            exact Ev.ret rfl (k1 rfl _ (LC_fl (LC_fP l (fP_t (fP_t (fP_t (fP_r b h) f1) f2) f3) q3) (by omega) (tW_b w0 p)) (fB_t (fB_P (fP_t (fP_t (fP_t (fP_r b h) f1) f2) f3)) (fB_fl hb)))
        · refine Ev.brF (p := ¬ (iZ (0)) = (iZ (0))) (c1 := (66, [some (.inr (.inr (.inr (7, 0, 2)))), some (.inr (.inl ((lz (tW T p))))), none, some (.inl (iZ (P.length)))], [], g3)) (c2 := (64, [some (.inr (.inr (.inr (7, 0, 2)))), some (.inr (.inl ((lz (tW T p))))), none, some (.inl (iZ (P.length)))], [], g3)) (by decide) rfl ?_
          refine Ev.sts 1 (c' := (65, [some (.inr (.inr (.inr (7, 0, 2)))), some (.inr (.inl ((lz (tW T p))))), none, some (.inl (iZ (P.length)))], [.inl (iZ (0))], g3)) rfl ?_
          first | (have e1 : flkF T p = (false, p, l0) := (by unfold flkF; rw [if_neg (by assumption)]); rw [e1] at k0; exact Ev.ret rfl (k0 rfl _ _ _ _ _ q3 (fB_P (fP_t (fP_t (fP_t (fP_r b h) f1) f2) f3)))) | (have e1 : flkF T p = (false, p + 1, l0) := (by unfold flkF; rw [if_pos (by assumption), if_neg (by assumption)]); rw [e1] at k0; exact Ev.ret rfl (k0 rfl _ _ _ _ _ q3 (fB_P (fP_t (fP_t (fP_t (fP_r b h) f1) f2) f3)))) | (have e1 : flkF T p = (false, (syT T 6 (p + 2)).2.1, (0, p, (syT T 6 (p + 2)).2.2, 0, 0, 0, 0, 0)) := (by unfold flkF; rw [if_pos (by assumption), if_pos (by assumption), show (syT T 6 (p + 2)).1 = false by assumption]); rw [e1] at k0; exact Ev.ret rfl (k0 rfl _ _ _ _ _ q3 (fB_P (fP_t (fP_t (fP_t (fP_r b h) f1) f2) f3))))
      · refine Ev.brT (p := (iZ (0)) = (iZ (0))) (c1 := (64, [some (.inr (.inr (.inr (7, 0, 2)))), some (.inr (.inl ((lz (tW T p))))), none, some (.inl (iZ (P.length)))], [], h1)) (c2 := (56, [some (.inr (.inr (.inr (7, 0, 2)))), some (.inr (.inl ((lz (tW T p))))), none, some (.inl (iZ (P.length)))], [], h1)) (by decide) rfl ?_
        refine Ev.sts 1 (c' := (65, [some (.inr (.inr (.inr (7, 0, 2)))), some (.inr (.inl ((lz (tW T p))))), none, some (.inl (iZ (P.length)))], [.inl (iZ (0))], h1)) rfl ?_
        first | (have e1 : flkF T p = (false, p, l0) := (by unfold flkF; rw [if_neg (by assumption)]); rw [e1] at k0; exact Ev.ret rfl (k0 rfl _ _ _ _ _ q1 (fB_P (fP_t (fP_r b h) f1)))) | (have e1 : flkF T p = (false, p + 1, l0) := (by unfold flkF; rw [if_pos (by assumption), if_neg (by assumption)]); rw [e1] at k0; exact Ev.ret rfl (k0 rfl _ _ _ _ _ q1 (fB_P (fP_t (fP_r b h) f1)))) | (have e1 : flkF T p = (false, (syT T 6 (p + 2)).2.1, (0, p, (syT T 6 (p + 2)).2.2, 0, 0, 0, 0, 0)) := (by unfold flkF; rw [if_pos (by assumption), if_pos (by assumption), show (syT T 6 (p + 2)).1 = false by assumption]); rw [e1] at k0; exact Ev.ret rfl (k0 rfl _ _ _ _ _ q1 (fB_P (fP_t (fP_r b h) f1))))
    · refine Ev.brT (p := (iZ (0)) = (iZ (0))) (c1 := (64, [some (.inr (.inr (.inr (7, 0, 2)))), some (.inr (.inl ((lz (tW T p))))), none, some (.inl (iZ (P.length)))], [], g1)) (c2 := (43, [some (.inr (.inr (.inr (7, 0, 2)))), some (.inr (.inl ((lz (tW T p))))), none, some (.inl (iZ (P.length)))], [], g1)) (by decide) rfl ?_
      refine Ev.sts 1 (c' := (65, [some (.inr (.inr (.inr (7, 0, 2)))), some (.inr (.inl ((lz (tW T p))))), none, some (.inl (iZ (P.length)))], [.inl (iZ (0))], g1)) rfl ?_
      first | (have e1 : flkF T p = (false, p, l0) := (by unfold flkF; rw [if_neg (by assumption)]); rw [e1] at k0; exact Ev.ret rfl (k0 rfl _ _ _ _ _ q1 (fB_P (fP_t (fP_r b h) f1)))) | (have e1 : flkF T p = (false, p + 1, l0) := (by unfold flkF; rw [if_pos (by assumption), if_neg (by assumption)]); rw [e1] at k0; exact Ev.ret rfl (k0 rfl _ _ _ _ _ q1 (fB_P (fP_t (fP_r b h) f1)))) | (have e1 : flkF T p = (false, (syT T 6 (p + 2)).2.1, (0, p, (syT T 6 (p + 2)).2.2, 0, 0, 0, 0, 0)) := (by unfold flkF; rw [if_pos (by assumption), if_pos (by assumption), show (syT T 6 (p + 2)).1 = false by assumption]); rw [e1] at k0; exact Ev.ret rfl (k0 rfl _ _ _ _ _ q1 (fB_P (fP_t (fP_r b h) f1))))
  · refine Ev.sts 2 (c' := (37, [some (.inr (.inr (.inr (7, 0, 2)))), some (.inr (.inl ((lz (tW T p))))), none, some (.inl (iZ (P.length)))], [.inl (iZ (1)), .inr (.inr (.inr (7, 0, 2)))], h)) rfl ?_
    refine Ev.callw (a := [.inr (.inr (.inr (7, 0, 2))), .inl (iZ (1))]) rfl (tc_new1 (n := F.length) (m := 8) q0 (by omega) (fun ky4 h4 q4 f4 => ?_) (fun ky4 g4 e4 q4 f4 => ?_))
    · have z4 := qc_p q4
      refine Ev.brF (p := (iZ (1)) = (iZ (0))) (c1 := (64, [some (.inr (.inr (.inr (7, 0, 2)))), some (.inr (.inl ((lz (tW T p))))), none, some (.inl (iZ (P.length)))], [], h4)) (c2 := (43, [some (.inr (.inr (.inr (7, 0, 2)))), some (.inr (.inl ((lz (tW T p))))), none, some (.inl (iZ (P.length)))], [], h4)) (by decide) rfl ?_
      refine Ev.sts 1 (c' := (44, [some (.inr (.inr (.inr (7, 0, 2)))), some (.inr (.inl ((lz (tW T p))))), none, some (.inl (iZ (P.length)))], [.inr (.inr (.inr (7, 0, 2)))], h4)) rfl ?_
      refine Ev.gfr (r := (9, 0, 3)) rfl (sh_2_0 (h := h4) (qc_sh q4)) ?_
      refine Ev.sts 1 (c' := (50, [some (.inr (.inr (.inr (7, 0, 2)))), some (.inr (.inl ((lz (tW T p))))), none, some (.inl (iZ (P.length)))], [.inr (.inr (.inr (40, 0, 6))), .inr (.inr (.inr (9, 0, 3)))], h4)) rfl ?_
      refine Ev.callw (a := [.inr (.inr (.inr (9, 0, 3))), .inr (.inr (.inr (40, 0, 6)))]) rfl (tc_skip q4 (by first | decide | omega) (fun ky5 h5 q5 f5 => ?_) (fun ky5 => ?_))
      · have z5 := qc_p q5
        refine Ev.brF (p := (iZ (1)) = (iZ (0))) (c1 := (64, [some (.inr (.inr (.inr (7, 0, 2)))), some (.inr (.inl ((lz (tW T p))))), none, some (.inl (iZ (P.length)))], [], h5)) (c2 := (56, [some (.inr (.inr (.inr (7, 0, 2)))), some (.inr (.inl ((lz (tW T p))))), none, some (.inl (iZ (P.length)))], [], h5)) (by decide) rfl ?_
        refine Ev.sts 2 (c' := (58, [some (.inr (.inr (.inr (7, 0, 2)))), some (.inr (.inl ((lz (tW T p))))), none, some (.inl (iZ (P.length)))], [.inl (iZ (0)), .inr (.inr (.inr (7, 0, 2)))], h5)) rfl ?_
        refine Ev.callw (a := [.inr (.inr (.inr (7, 0, 2))), .inl (iZ (0))]) rfl ((tc_syT w0 6 (by decide) 0 (by decide)) _ (by omega) _ _ _ _ _ q5 (by first | omega | (simp only [List.length_append, List.length_cons, List.length_nil, List.length_map]; omega)) (fun r6 h6 q6 f6 => ?_) (fun r6 g6 e6 P6 q6 f6 => ?_))
        · obtain ⟨x6, y6, -⟩ := gd_syT w0 6 _ r6
          have z6 := qc_p q6
          refine Ev.brT (p := ¬ (iZ (1)) = (iZ (0))) (c1 := (66, [some (.inr (.inr (.inr (7, 0, 2)))), some (.inr (.inl ((lz (tW T p))))), none, some (.inl (iZ (P.length)))], [], h6)) (c2 := (64, [some (.inr (.inr (.inr (7, 0, 2)))), some (.inr (.inl ((lz (tW T p))))), none, some (.inl (iZ (P.length)))], [], h6)) (by decide) rfl ?_
          refine Ev.sts 1 (c' := (67, [some (.inr (.inr (.inr (7, 0, 2)))), some (.inr (.inl ((lz (tW T p))))), none, some (.inl (iZ (P.length)))], [.inr (.inr (.inr (7, 0, 2)))], h6)) rfl ?_
          refine Ev.gfr (r := (2, 0, b)) rfl (qc_24 q6) ?_
          refine Ev.gv (w := (iZ (F.length))) rfl (qc_nm q6).1 ?_
          refine Ev.brF (p := (iZ (F.length)) < (iZ (0))) (c1 := (122, [some (.inr (.inr (.inr (7, 0, 2)))), some (.inr (.inl ((lz (tW T p))))), none, some (.inl (iZ (P.length)))], [], h6)) (c2 := (76, [some (.inr (.inr (.inr (7, 0, 2)))), some (.inr (.inl ((lz (tW T p))))), none, some (.inl (iZ (P.length)))], [], h6)) (fun c_ => absurd ((iZ_lt ⟨by omega, by omega⟩ ⟨by omega, by omega⟩).mp c_) (by omega)) rfl ?_
          refine Ev.sts 1 (c' := (77, [some (.inr (.inr (.inr (7, 0, 2)))), some (.inr (.inl ((lz (tW T p))))), none, some (.inl (iZ (P.length)))], [.inr (.inr (.inr (7, 0, 2)))], h6)) rfl ?_
          refine Ev.gfr (r := (2, 0, b)) rfl (qc_24 q6) ?_
          refine Ev.gv (w := (iZ (F.length))) rfl (qc_nm q6).1 ?_
          refine Ev.sts 1 (c' := (84, [some (.inr (.inr (.inr (7, 0, 2)))), some (.inr (.inl ((lz (tW T p))))), none, some (.inl (iZ (P.length)))], [.inr (.inr (.inr (7, 0, 2))), .inl (iZ (F.length))], h6)) rfl ?_
          refine Ev.gfr (r := (21, 8, 10)) rfl (sh_2_1 (h := h6) (qc_sh q6)) ?_
          refine Ev.sts 1 (c' := (88, [some (.inr (.inr (.inr (7, 0, 2)))), some (.inr (.inl ((lz (tW T p))))), none, some (.inl (iZ (P.length)))], [.inl (iZ (8)), .inl (iZ (F.length))], h6)) rfl ?_
          refine Ev.brc (p := (iZ (8)) ≤ (iZ (F.length))) (q := ((8 : Int)) ≤ F.length) (c1 := (122, [some (.inr (.inr (.inr (7, 0, 2)))), some (.inr (.inl ((lz (tW T p))))), none, some (.inl (iZ (P.length)))], [], h6)) (c2 := (91, [some (.inr (.inr (.inr (7, 0, 2)))), some (.inr (.inl ((lz (tW T p))))), none, some (.inl (iZ (P.length)))], [], h6)) rfl (iZ_le ⟨by omega, by omega⟩ ⟨by omega, by omega⟩) (fun c1 => ?_) (fun c1 => ?_)
          · refine Ev.sts 1 (c' := (123, [some (.inr (.inr (.inr (7, 0, 2)))), some (.inr (.inl ((lz (tW T p))))), none, some (.inl (iZ (P.length)))], [.inl (iZ (1))], h6)) rfl ?_
            first | (exfalso; omega) | (have e1 : flkF T p = (true, (syT T 6 (p + 2)).2.1, (0, p, (syT T 6 (p + 2)).2.2, 0, 0, 0, 0, 0)) := (by unfold flkF; rw [if_pos (by assumption), if_pos (by assumption), show (syT T 6 (p + 2)).1 = true by assumption]); rw [e1] at k1; rw [if_neg (show ¬ F.length < 8 by omega), if_neg (show ¬ F.length < 8 by omega)] at k1; have e2 : ntE e (flE T F G p (syT T 6 (p + 2)).2.2) = ntE (ntE e (nwE T F G F.length 8 p)) (fb T F (syT T 6 (p + 2)).2.2) := (by unfold flE; rw [← ntE_as]); dsimp only at k1; rw [e2] at k1; exact Ev.ret rfl (k1 rfl _ (LC_fP l (fP_t (fP_t (fP_t (fP_r b h) f4) f5) f6) q6) (fB_P (fP_t (fP_t (fP_t (fP_r b h) f4) f5) f6))))
          · refine Ev.sts 1 (c' := (92, [some (.inr (.inr (.inr (7, 0, 2)))), some (.inr (.inl ((lz (tW T p))))), none, some (.inl (iZ (P.length)))], [.inr (.inr (.inr (7, 0, 2)))], h6)) rfl ?_
            refine Ev.gfr (r := (21, 8, 10)) rfl (sh_2_1 (h := h6) (qc_sh q6)) ?_
            refine Ev.sts 1 (c' := (96, [some (.inr (.inr (.inr (7, 0, 2)))), some (.inr (.inl ((lz (tW T p))))), none, some (.inl (iZ (P.length)))], [.inr (.inr (.inr (7, 0, 2))), .inr (.inr (.inr (21, 8, 10)))], h6)) rfl ?_
            refine Ev.gfr (r := (2, 0, b)) rfl (qc_24 q6) ?_
            refine Ev.gv (w := (iZ (F.length))) rfl (qc_nm q6).1 ?_
            refine Ev.sts 1 (c' := (103, [some (.inr (.inr (.inr (7, 0, 2)))), some (.inr (.inl ((lz (tW T p))))), none, some (.inl (iZ (P.length)))], [.inr (.inl ((lz (tW T p)))), .inl (iZ (F.length)), .inr (.inr (.inr (21, 8, 10)))], h6)) rfl ?_
            refine Ev.sto (j := (iZ (F.length))) (n := 8) (h2 := (setL h6 10 F.length ((lz (tW T p))))) (iZ_in (by omega) (by omega) (by omega)) rfl (by rw [iZ_ix (n := F.length) (by omega) (by omega)]) ?_
            refine Ev.sts 1 (c' := (105, [some (.inr (.inr (.inr (7, 0, 2)))), some (.inr (.inl ((lz (tW T p))))), none, some (.inl (iZ (P.length)))], [.inr (.inr (.inr (7, 0, 2)))], (setL h6 10 F.length ((lz (tW T p)))))) rfl ?_
            refine Ev.gfr (r := (2, 0, b)) rfl (show h6.2.2.1 2 4 = (2, 0, b) from qc_24 q6) ?_
            refine Ev.sts 2 (c' := (110, [some (.inr (.inr (.inr (7, 0, 2)))), some (.inr (.inl ((lz (tW T p))))), none, some (.inl (iZ (P.length)))], [.inr (.inr (.inr (7, 0, 2))), .inl (iZ (P.length)), .inr (.inr (.inr (2, 0, b)))], (setL h6 10 F.length ((lz (tW T p)))))) rfl ?_
            refine Ev.gfr (r := (2, 0, b)) rfl (show h6.2.2.1 2 4 = (2, 0, b) from qc_24 q6) ?_
            refine Ev.gfr (r := (5, 0, (b + 5))) rfl (sh_b4 (h := h6) (qc_sh q6) hb) ?_
            refine Ev.gv (w := (iZ ((P ++ (syT T 6 (p + 2)).2.2.map (rsl T F)).length))) rfl (show h6.1 (b + 5) 3 = iZ (P ++ (syT T 6 (p + 2)).2.2.map (rsl T F)).length from (qc_pr q6).1) ?_
            refine Ev.callv (a := [.inr (.inr (.inr (2, 0, b))), .inl (iZ (P.length)), .inl (iZ ((P ++ (syT T 6 (p + 2)).2.2.map (rsl T F)).length))]) rfl (tc_addFlock (n := F.length) (show Sh (setL h6 10 F.length ((lz (tW T p)))) from Sh_R2 (qc_sh q6) rfl) hb (show h6.1 b 6 = iZ F.length from (qc_nm q6).1) (by omega)) ?_
            refine Ev.sts 1 (c' := (123, [some (.inr (.inr (.inr (7, 0, 2)))), some (.inr (.inl ((lz (tW T p))))), none, some (.inl (iZ (P.length)))], [.inl (iZ (1))], (flH h6 b F.length (tW T p) P.length ((P ++ (syT T 6 (p + 2)).2.2.map (rsl T F)).length)))) rfl ?_
            have e1 : flkF T p = (true, (syT T 6 (p + 2)).2.1, (0, p, (syT T 6 (p + 2)).2.2, 0, 0, 0, 0, 0)) := (by unfold flkF; rw [if_pos (by assumption), if_pos (by assumption), show (syT T 6 (p + 2)).1 = true by assumption])
            rw [e1] at k1
            rw [if_pos (show F.length < 8 by omega), if_pos (show F.length < 8 by omega)] at k1
            have e2 : ntE e (flE T F G p (syT T 6 (p + 2)).2.2) = ntE (ntE e (nwE T F G F.length 8 p)) (fb T F (syT T 6 (p + 2)).2.2) := (by unfold flE; rw [← ntE_as])
            dsimp only at k1
            rw [e2] at k1
            exact Ev.ret rfl (k1 rfl _ (LC_fl (LC_fP l (fP_t (fP_t (fP_t (fP_r b h) f4) f5) f6) q6) (by omega) (tW_b w0 p)) (fB_t (fB_P (fP_t (fP_t (fP_t (fP_r b h) f4) f5) f6)) (fB_fl hb)))
        · refine Ev.brF (p := ¬ (iZ (0)) = (iZ (0))) (c1 := (66, [some (.inr (.inr (.inr (7, 0, 2)))), some (.inr (.inl ((lz (tW T p))))), none, some (.inl (iZ (P.length)))], [], g6)) (c2 := (64, [some (.inr (.inr (.inr (7, 0, 2)))), some (.inr (.inl ((lz (tW T p))))), none, some (.inl (iZ (P.length)))], [], g6)) (by decide) rfl ?_
          refine Ev.sts 1 (c' := (65, [some (.inr (.inr (.inr (7, 0, 2)))), some (.inr (.inl ((lz (tW T p))))), none, some (.inl (iZ (P.length)))], [.inl (iZ (0))], g6)) rfl ?_
          first | (have e1 : flkF T p = (false, p, l0) := (by unfold flkF; rw [if_neg (by assumption)]); rw [e1] at k0; exact Ev.ret rfl (k0 rfl _ _ _ _ _ q6 (fB_P (fP_t (fP_t (fP_t (fP_r b h) f4) f5) f6)))) | (have e1 : flkF T p = (false, p + 1, l0) := (by unfold flkF; rw [if_pos (by assumption), if_neg (by assumption)]); rw [e1] at k0; exact Ev.ret rfl (k0 rfl _ _ _ _ _ q6 (fB_P (fP_t (fP_t (fP_t (fP_r b h) f4) f5) f6)))) | (have e1 : flkF T p = (false, (syT T 6 (p + 2)).2.1, (0, p, (syT T 6 (p + 2)).2.2, 0, 0, 0, 0, 0)) := (by unfold flkF; rw [if_pos (by assumption), if_pos (by assumption), show (syT T 6 (p + 2)).1 = false by assumption]); rw [e1] at k0; exact Ev.ret rfl (k0 rfl _ _ _ _ _ q6 (fB_P (fP_t (fP_t (fP_t (fP_r b h) f4) f5) f6))))
      · refine Ev.brT (p := (iZ (0)) = (iZ (0))) (c1 := (64, [some (.inr (.inr (.inr (7, 0, 2)))), some (.inr (.inl ((lz (tW T p))))), none, some (.inl (iZ (P.length)))], [], h4)) (c2 := (56, [some (.inr (.inr (.inr (7, 0, 2)))), some (.inr (.inl ((lz (tW T p))))), none, some (.inl (iZ (P.length)))], [], h4)) (by decide) rfl ?_
        refine Ev.sts 1 (c' := (65, [some (.inr (.inr (.inr (7, 0, 2)))), some (.inr (.inl ((lz (tW T p))))), none, some (.inl (iZ (P.length)))], [.inl (iZ (0))], h4)) rfl ?_
        first | (have e1 : flkF T p = (false, p, l0) := (by unfold flkF; rw [if_neg (by assumption)]); rw [e1] at k0; exact Ev.ret rfl (k0 rfl _ _ _ _ _ q4 (fB_P (fP_t (fP_r b h) f4)))) | (have e1 : flkF T p = (false, p + 1, l0) := (by unfold flkF; rw [if_pos (by assumption), if_neg (by assumption)]); rw [e1] at k0; exact Ev.ret rfl (k0 rfl _ _ _ _ _ q4 (fB_P (fP_t (fP_r b h) f4)))) | (have e1 : flkF T p = (false, (syT T 6 (p + 2)).2.1, (0, p, (syT T 6 (p + 2)).2.2, 0, 0, 0, 0, 0)) := (by unfold flkF; rw [if_pos (by assumption), if_pos (by assumption), show (syT T 6 (p + 2)).1 = false by assumption]); rw [e1] at k0; exact Ev.ret rfl (k0 rfl _ _ _ _ _ q4 (fB_P (fP_t (fP_r b h) f4))))
    · refine Ev.brT (p := (iZ (0)) = (iZ (0))) (c1 := (64, [some (.inr (.inr (.inr (7, 0, 2)))), some (.inr (.inl ((lz (tW T p))))), none, some (.inl (iZ (P.length)))], [], g4)) (c2 := (43, [some (.inr (.inr (.inr (7, 0, 2)))), some (.inr (.inl ((lz (tW T p))))), none, some (.inl (iZ (P.length)))], [], g4)) (by decide) rfl ?_
      refine Ev.sts 1 (c' := (65, [some (.inr (.inr (.inr (7, 0, 2)))), some (.inr (.inl ((lz (tW T p))))), none, some (.inl (iZ (P.length)))], [.inl (iZ (0))], g4)) rfl ?_
      first | (have e1 : flkF T p = (false, p, l0) := (by unfold flkF; rw [if_neg (by assumption)]); rw [e1] at k0; exact Ev.ret rfl (k0 rfl _ _ _ _ _ q4 (fB_P (fP_t (fP_r b h) f4)))) | (have e1 : flkF T p = (false, p + 1, l0) := (by unfold flkF; rw [if_pos (by assumption), if_neg (by assumption)]); rw [e1] at k0; exact Ev.ret rfl (k0 rfl _ _ _ _ _ q4 (fB_P (fP_t (fP_r b h) f4)))) | (have e1 : flkF T p = (false, (syT T 6 (p + 2)).2.1, (0, p, (syT T 6 (p + 2)).2.2, 0, 0, 0, 0, 0)) := (by unfold flkF; rw [if_pos (by assumption), if_pos (by assumption), show (syT T 6 (p + 2)).1 = false by assumption]); rw [e1] at k0; exact Ev.ret rfl (k0 rfl _ _ _ _ _ q4 (fB_P (fP_t (fP_r b h) f4))))

