/-! The class reads a book: the state of the reading; its small methods. -/
def erC (h : PH) (e : Nat × Nat) : Prop := h.1 2 5 = iZ e.1 ∧ e.1 ≤ 9 ∧ (e.1 ≠ 0 → h.1 2 6 = iZ e.2)
def nmC (h : PH) (b : Nat) (F G : List Int) : Prop := h.1 b 6 = iZ F.length ∧ F.length ≤ 8 ∧ (∀ j, j < F.length → h.2.1 10 j = lz (F.getD j 0) ∧ 0 ≤ F.getD j 0 ∧ F.getD j 0 < 1099511627776) ∧ h.1 b 7 = iZ G.length ∧ G.length ≤ 6 ∧ (∀ j, j < G.length → h.2.1 11 j = lz (G.getD j 0) ∧ 0 ≤ G.getD j 0 ∧ G.getD j 0 < 1099511627776)
def prC (h : PH) (b : Nat) (P : List Cmd) : Prop := h.1 (b + 5) 3 = iZ P.length ∧ P.length ≤ 400 ∧ pgC h b 0 P
/-- the class reads at token p into book b: error e, names F and G, program P -/
def QC (h : PH) (b : Nat) (T : List Tok) (p : Nat) (e : Nat × Nat) (F G : List Int) (P : List Cmd) : Prop := Sh h ∧ (b = 13 ∨ b = 68) ∧ h.2.2.1 2 4 = (2, 0, b) ∧ tkC h T ∧ tkW T ∧ (p < T.length ∧ (e.1 ≠ 0 → e.2 < T.length)) ∧ h.1 3 6 = iZ p ∧ erC h e ∧ nmC h b F G ∧ prC h b P
theorem qc_sh {h : PH} {b p : Nat} {T : List Tok} {e : Nat × Nat} {F G : List Int} {P : List Cmd} (q : QC h b T p e F G P) : Sh h := q.1
theorem qc_b {h : PH} {b p : Nat} {T : List Tok} {e : Nat × Nat} {F G : List Int} {P : List Cmd} (q : QC h b T p e F G P) : b = 13 ∨ b = 68 := q.2.1
theorem qc_24 {h : PH} {b p : Nat} {T : List Tok} {e : Nat × Nat} {F G : List Int} {P : List Cmd} (q : QC h b T p e F G P) : h.2.2.1 2 4 = (2, 0, b) := q.2.2.1
theorem qc_tk {h : PH} {b p : Nat} {T : List Tok} {e : Nat × Nat} {F G : List Int} {P : List Cmd} (q : QC h b T p e F G P) : tkC h T := q.2.2.2.1
theorem qc_w {h : PH} {b p : Nat} {T : List Tok} {e : Nat × Nat} {F G : List Int} {P : List Cmd} (q : QC h b T p e F G P) : tkW T := q.2.2.2.2.1
theorem qc_p {h : PH} {b p : Nat} {T : List Tok} {e : Nat × Nat} {F G : List Int} {P : List Cmd} (q : QC h b T p e F G P) : p < T.length := q.2.2.2.2.2.1.1
theorem qc_el {h : PH} {b p : Nat} {T : List Tok} {e : Nat × Nat} {F G : List Int} {P : List Cmd} (q : QC h b T p e F G P) : e.1 ≠ 0 → e.2 < T.length := q.2.2.2.2.2.1.2
theorem qc_36 {h : PH} {b p : Nat} {T : List Tok} {e : Nat × Nat} {F G : List Int} {P : List Cmd} (q : QC h b T p e F G P) : h.1 3 6 = iZ p := q.2.2.2.2.2.2.1
theorem qc_er {h : PH} {b p : Nat} {T : List Tok} {e : Nat × Nat} {F G : List Int} {P : List Cmd} (q : QC h b T p e F G P) : erC h e := q.2.2.2.2.2.2.2.1
theorem qc_nm {h : PH} {b p : Nat} {T : List Tok} {e : Nat × Nat} {F G : List Int} {P : List Cmd} (q : QC h b T p e F G P) : nmC h b F G := q.2.2.2.2.2.2.2.2.1
theorem qc_pr {h : PH} {b p : Nat} {T : List Tok} {e : Nat × Nat} {F G : List Int} {P : List Cmd} (q : QC h b T p e F G P) : prC h b P := q.2.2.2.2.2.2.2.2.2
/-- what reading a test or a value changes: the place, the error, the program -/
def fPp (b : Nat) (h h' : PH) : Prop := h'.2.1 = h.2.1 ∧ h'.2.2.2 = h.2.2.2 ∧ (∀ a, a ≠ 2 → a ≠ 3 → a ≠ b + 5 → a ≠ b + 7 → h'.1 a = h.1 a) ∧ (∀ k, k ≠ 5 → k ≠ 6 → h'.1 2 k = h.1 2 k) ∧ (∀ k, k ≠ 6 → h'.1 3 k = h.1 3 k) ∧ (∀ k, k ≠ 3 → h'.1 (b + 5) k = h.1 (b + 5) k) ∧ (∀ a, a ≠ b + 6 → h'.2.2.1 a = h.2.2.1 a)
theorem fP_r (b : Nat) (h : PH) : fPp b h h := ⟨rfl, rfl, fun _ _ _ _ _ => rfl, fun _ _ _ => rfl, fun _ _ => rfl, fun _ _ => rfl, fun _ _ => rfl⟩
theorem fP_t {b : Nat} {h h1 h2 : PH} (a : fPp b h h1) (c : fPp b h1 h2) : fPp b h h2 := ⟨c.1.trans a.1, c.2.1.trans a.2.1, fun x x1 x2 x3 x4 => (c.2.2.1 x x1 x2 x3 x4).trans (a.2.2.1 x x1 x2 x3 x4), fun k k1 k2 => (c.2.2.2.1 k k1 k2).trans (a.2.2.2.1 k k1 k2), fun k k1 => (c.2.2.2.2.1 k k1).trans (a.2.2.2.2.1 k k1), fun k k1 => (c.2.2.2.2.2.1 k k1).trans (a.2.2.2.2.2.1 k k1), fun x x1 => (c.2.2.2.2.2.2 x x1).trans (a.2.2.2.2.2.2 x x1)⟩
theorem fP_h (b : Nat) (h : PH) (v : Int32) (hb : b = 13 ∨ b = 68) : fPp b h (setI h 3 6 v) := ⟨rfl, rfl, fun a _ a2 _ _ => setI_oth a2, fun k _ _ => setI_ne (by omega), fun k k1 => setI_ne (by omega), fun k k1 => setI_ne (by omega), fun _ _ => rfl⟩
theorem fP_e (b : Nat) (h : PH) (v w : Int32) (hb : b = 13 ∨ b = 68) : fPp b h (setI (setI h 2 5 v) 2 6 w) := ⟨rfl, rfl, fun a a1 _ _ _ => by rw [setI_oth a1, setI_oth a1], fun k k1 k2 => (setI_ne (by omega)).trans (setI_ne (by omega)), fun k k1 => (setI_ne (by omega)).trans (setI_ne (by omega)), fun k k1 => (setI_ne (by omega)).trans (setI_ne (by omega)), fun _ _ => rfl⟩
/-- a command is put into the class's program -/
def adP (h : PH) (b n kk : Nat) (v : Int) : PH := setI (setI (setR h (b + 6) n (40, 0, kk)) (b + 7) n (iZ v)) (b + 5) 3 (iZ ((n : Int) + 1))
theorem fP_a (b : Nat) (h : PH) (n kk : Nat) (v : Int) (hb : b = 13 ∨ b = 68) : fPp b h (adP h b n kk v) := by
  unfold adP
  refine ⟨rfl, rfl, fun a _ _ a3 a4 => ?_, fun k _ _ => ?_, fun k _ => ?_, fun k k1 => ?_, fun a a1 => ?_⟩
  · rw [setI_oth a3, setI_oth a4]; rfl
  · exact (setI_ne (by omega)).trans (setI_ne (by omega))
  · exact (setI_ne (by omega)).trans (setI_ne (by omega))
  · exact (setI_ne (by omega)).trans (setI_ne (by omega))
  · exact setR_oth a1
theorem QC_h {h : PH} {b p : Nat} {T : List Tok} {e : Nat × Nat} {F G : List Int} {P : List Cmd} (q : QC h b T p e F G P) (k : 2 ≤ tK T p) : QC (setI h 3 6 (iZ ((p : Int) + 1))) b T (p + 1) e F G P := by
  obtain ⟨q1, q2, q3, q4, q5, q6, q7, ⟨q8, q8a, q8b⟩, ⟨n1, n2, n3, n4, n5, n6⟩, ⟨r1, r2, r3⟩⟩ := q
  refine ⟨Sh_eq q1 rfl, q2, q3, ⟨(setI_ne (by omega)).trans q4.1, fun j hj => ?_⟩, q5, ⟨tK_in q5 k, q6.2⟩, setI_self _ _ _ _, ⟨(setI_ne (by omega)).trans q8, q8a, fun z => (setI_ne (by omega)).trans (q8b z)⟩, ⟨(setI_ne (by omega)).trans n1, n2, n3, (setI_ne (by omega)).trans n4, n5, n6⟩, ⟨(setI_ne (by omega)).trans r1, r2, fun j hj => ⟨(r3 j hj).1, (setI_ne (by omega)).trans (r3 j hj).2⟩⟩⟩
  obtain ⟨c1, c2, c3, c4⟩ := q4.2 j hj
  exact ⟨c1, (setI_ne (by omega)).trans c2, (setI_ne (by omega)).trans c3, c4⟩
theorem QC_e {h : PH} {b p n : Nat} {T : List Tok} {e : Nat × Nat} {F G : List Int} {P : List Cmd} (q : QC h b T p e F G P) (k : e.1 = 0) (hn : n ≤ 9) : QC (setI (setI h 2 5 (iZ n)) 2 6 (iZ p)) b T p (ntE e (n, p)) F G P := by
  obtain ⟨q1, q2, q3, q4, q5, q6, q7, ⟨q8, q8a, q8b⟩, ⟨n1, n2, n3, n4, n5, n6⟩, ⟨r1, r2, r3⟩⟩ := q
  have e0 : ntE e (n, p) = (n, p) := if_pos k
  rw [e0]
  refine ⟨Sh_eq q1 rfl, q2, q3, ⟨(setI_ne (by omega)).trans ((setI_ne (by omega)).trans q4.1), fun j hj => ?_⟩, q5, ⟨q6.1, fun _ => q6.1⟩, (setI_ne (by omega)).trans ((setI_ne (by omega)).trans q7), ⟨(setI_ne (by omega)).trans (setI_self _ _ _ _), hn, fun _ => setI_self _ _ _ _⟩, ⟨(setI_ne (by omega)).trans ((setI_ne (by omega)).trans n1), n2, n3, (setI_ne (by omega)).trans ((setI_ne (by omega)).trans n4), n5, n6⟩, ⟨(setI_ne (by omega)).trans ((setI_ne (by omega)).trans r1), r2, fun j hj => ⟨(r3 j hj).1, (setI_ne (by omega)).trans ((setI_ne (by omega)).trans (r3 j hj).2)⟩⟩⟩
  obtain ⟨c1, c2, c3, c4⟩ := q4.2 j hj
  exact ⟨c1, (setI_ne (by omega)).trans ((setI_ne (by omega)).trans c2), (setI_ne (by omega)).trans ((setI_ne (by omega)).trans c3), c4⟩
theorem app_len' {α : Type} (l : List α) (x : α) : (l ++ [x]).length = l.length + 1 := by rw [List.length_append]; rfl
theorem app_get' {α : Type} (d : α) (l : List α) (x : α) (j : Nat) (hj : j < l.length + 1) : (l ++ [x]).getD j d = if j = l.length then x else l.getD j d := by
  by_cases c : j = l.length
  · rw [if_pos c, c, List.getD_eq_getElem?_getD, List.getElem?_concat_length]; rfl
  · rw [if_neg c, List.getD_eq_getElem?_getD, List.getElem?_append_left (by omega), ← List.getD_eq_getElem?_getD]
theorem Sh_p6 {h : PH} {b k : Nat} {v : VR} (hb : b = 13 ∨ b = 68) (s : Sh h) : Sh (setR h (b + 6) k v) := by
  rcases hb with rfl | rfl
  · exact Sh_R s rfl
  · exact Sh_R s rfl
theorem prC_a {h : PH} {b n kk : Nat} {v : Int} {P : List Cmd} (hb : b = 13 ∨ b = 68) (hn : P.length = n) (h4 : n < 400) (r : prC h b P) : prC (adP h b n kk v) b (P ++ [(kk, v)]) := by
  subst hn
  obtain ⟨r1, r2, r3⟩ := r
  unfold adP
  refine ⟨?_, by rw [app_len']; omega, fun j hj => ?_⟩
  · rw [app_len']; exact setI_self _ _ _ _
  · rw [app_len'] at hj
    rw [app_get' _ _ _ _ hj, Nat.zero_add]
    by_cases c : j = P.length
    · rw [if_pos c, c]
      exact ⟨setR_self _ _ _ _, (setI_ne (by omega)).trans (setI_self _ _ _ _)⟩
    · rw [if_neg c]
      obtain ⟨c1, c2⟩ := r3 j (by omega)
      rw [Nat.zero_add] at c1 c2
      exact ⟨(setR_ne (by omega)).trans c1, (setI_ne (by omega)).trans ((setI_ne (by omega)).trans c2)⟩
theorem QC_a {h : PH} {b p n kk : Nat} {v : Int} {T : List Tok} {e : Nat × Nat} {F G : List Int} {P : List Cmd} (q : QC h b T p e F G P) (hn : P.length = n) (h4 : n < 400) : QC (adP h b n kk v) b T p e F G (P ++ [(kk, v)]) := by
  have pr := prC_a (kk := kk) (v := v) (qc_b q) hn h4 (qc_pr q)
  obtain ⟨q1, q2, q3, q4, q5, q6, q7, ⟨q8, q8a, q8b⟩, ⟨n1, n2, n3, n4, n5, n6⟩, -⟩ := q
  have fa := fP_a b h n kk v q2
  obtain ⟨f1, f2, f3, f4, f5, f6, f7⟩ := fa
  have t4 : tkC (adP h b n kk v) T := by
    refine ⟨by rw [f5 5 (by decide)]; exact q4.1, fun j hj => ?_⟩
    obtain ⟨c1, c2, c3, c4⟩ := q4.2 j hj
    exact ⟨by rw [f7 6 (by omega)]; exact c1, by rw [f3 7 (by omega) (by omega) (by omega) (by omega)]; exact c2, by rw [f3 8 (by omega) (by omega) (by omega) (by omega)]; exact c3, by rw [f1]; exact c4⟩
  exact ⟨Sh_eq (Sh_p6 q2 q1) rfl, q2, by rw [f7 2 (by omega)]; exact q3, t4, q5, q6, (setI_ne (by omega)).trans ((setI_ne (by omega)).trans q7), ⟨(setI_ne (by omega)).trans ((setI_ne (by omega)).trans q8), q8a, fun z => (setI_ne (by omega)).trans ((setI_ne (by omega)).trans (q8b z))⟩, ⟨by rw [f3 b (by omega) (by omega) (by omega) (by omega)]; exact n1, n2, n3, by rw [f3 b (by omega) (by omega) (by omega) (by omega)]; exact n4, n5, n6⟩, pr⟩
theorem tc_kind {d b p : Nat} {T : List Tok} {e : Nat × Nat} {F G : List Int} {P : List Cmd} {h : PH} (q0 : QC h b T p e F G P) : Rv d 148 [.inr (.inr (.inr (9, 0, 3)))] h (some (.inr (.inr (.inr (40, 0, tK T p))))) h := Rv.of fun Q q => by
  have sh := qc_sh q0
  have hb := qc_b q0
  have w0 := qc_w q0
  have p0 := qc_p q0
  have t0 := qc_tk q0
  have l1 := w0.2.1
  refine Ev.sts 1 (c' := (1, [some (.inr (.inr (.inr (9, 0, 3))))], [.inr (.inr (.inr (9, 0, 3)))], h)) rfl ?_
  refine Ev.gv (w := (iZ (p))) rfl (show h.1 3 6 = iZ p from qc_36 q0) ?_
  refine Ev.brF (p := (iZ (p)) < (iZ (0))) (c1 := (42, [some (.inr (.inr (.inr (9, 0, 3))))], [], h)) (c2 := (7, [some (.inr (.inr (.inr (9, 0, 3))))], [], h)) (fun c_ => absurd ((iZ_lt ⟨by omega, by omega⟩ ⟨by omega, by omega⟩).mp c_) (by omega)) rfl ?_
  refine Ev.sts 1 (c' := (8, [some (.inr (.inr (.inr (9, 0, 3))))], [.inr (.inr (.inr (9, 0, 3)))], h)) rfl ?_
  refine Ev.gv (w := (iZ (p))) rfl (show h.1 3 6 = iZ p from qc_36 q0) ?_
  refine Ev.sts 1 (c' := (12, [some (.inr (.inr (.inr (9, 0, 3))))], [.inr (.inr (.inr (9, 0, 3))), .inl (iZ (p))], h)) rfl ?_
  refine Ev.gv (w := (iZ (T.length))) rfl t0.1 ?_
  refine Ev.brF (p := (iZ (T.length)) ≤ (iZ (p))) (c1 := (42, [some (.inr (.inr (.inr (9, 0, 3))))], [], h)) (c2 := (18, [some (.inr (.inr (.inr (9, 0, 3))))], [], h)) (fun c_ => absurd ((iZ_le ⟨by omega, by omega⟩ ⟨by omega, by omega⟩).mp c_) (by omega)) rfl ?_
  refine Ev.sts 1 (c' := (19, [some (.inr (.inr (.inr (9, 0, 3))))], [.inr (.inr (.inr (9, 0, 3)))], h)) rfl ?_
  refine Ev.gv (w := (iZ (p))) rfl (show h.1 3 6 = iZ p from qc_36 q0) ?_
  refine Ev.sts 1 (c' := (23, [some (.inr (.inr (.inr (9, 0, 3))))], [.inr (.inr (.inr (9, 0, 3))), .inl (iZ (p))], h)) rfl ?_
  refine Ev.gfr (r := (23, 401, 6)) rfl (sh_3_1 sh) ?_
  refine Ev.sts 1 (c' := (27, [some (.inr (.inr (.inr (9, 0, 3))))], [.inl (iZ (401)), .inl (iZ (p))], h)) rfl ?_
  refine Ev.brF (p := (iZ (401)) ≤ (iZ (p))) (c1 := (42, [some (.inr (.inr (.inr (9, 0, 3))))], [], h)) (c2 := (30, [some (.inr (.inr (.inr (9, 0, 3))))], [], h)) (fun c_ => absurd ((iZ_le ⟨by omega, by omega⟩ ⟨by omega, by omega⟩).mp c_) (by omega)) rfl ?_
  refine Ev.sts 1 (c' := (31, [some (.inr (.inr (.inr (9, 0, 3))))], [.inr (.inr (.inr (9, 0, 3)))], h)) rfl ?_
  refine Ev.gfr (r := (23, 401, 6)) rfl (sh_3_1 sh) ?_
  refine Ev.sts 1 (c' := (35, [some (.inr (.inr (.inr (9, 0, 3))))], [.inr (.inr (.inr (9, 0, 3))), .inr (.inr (.inr (23, 401, 6)))], h)) rfl ?_
  refine Ev.gv (w := (iZ (p))) rfl (show h.1 3 6 = iZ p from qc_36 q0) ?_
  refine Ev.ldv (j := (iZ (p))) (n := 401) (w := .inr (.inr (.inr (40, 0, (tK T p))))) (iZ_in (by omega) (by omega) (by omega)) rfl (by rw [iZ_ix (n := p) (by omega) (by omega)]; exact congrArg vR (t0.2 p p0).1) ?_
  refine Ev.sts 1 (c' := (45, [some (.inr (.inr (.inr (9, 0, 3))))], [.inr (.inr (.inr (40, 0, (tK T p))))], h)) rfl ?_
  exact Ev.ret rfl (q)

theorem tc_number {d b p : Nat} {T : List Tok} {e : Nat × Nat} {F G : List Int} {P : List Cmd} {h : PH} (q0 : QC h b T p e F G P) : Rv d 147 [.inr (.inr (.inr (9, 0, 3)))] h (some (.inl (iZ (tN T p)))) h := Rv.of fun Q q => by
  have sh := qc_sh q0
  have hb := qc_b q0
  have w0 := qc_w q0
  have p0 := qc_p q0
  have t0 := qc_tk q0
  have l1 := w0.2.1
  refine Ev.sts 1 (c' := (1, [some (.inr (.inr (.inr (9, 0, 3))))], [.inr (.inr (.inr (9, 0, 3)))], h)) rfl ?_
  refine Ev.gv (w := (iZ (p))) rfl (show h.1 3 6 = iZ p from qc_36 q0) ?_
  refine Ev.brF (p := (iZ (p)) < (iZ (0))) (c1 := (31, [some (.inr (.inr (.inr (9, 0, 3))))], [], h)) (c2 := (7, [some (.inr (.inr (.inr (9, 0, 3))))], [], h)) (fun c_ => absurd ((iZ_lt ⟨by omega, by omega⟩ ⟨by omega, by omega⟩).mp c_) (by omega)) rfl ?_
  refine Ev.sts 1 (c' := (8, [some (.inr (.inr (.inr (9, 0, 3))))], [.inr (.inr (.inr (9, 0, 3)))], h)) rfl ?_
  refine Ev.gv (w := (iZ (p))) rfl (show h.1 3 6 = iZ p from qc_36 q0) ?_
  refine Ev.sts 1 (c' := (12, [some (.inr (.inr (.inr (9, 0, 3))))], [.inr (.inr (.inr (9, 0, 3))), .inl (iZ (p))], h)) rfl ?_
  refine Ev.gfr (r := (20, 401, 8)) rfl (sh_3_3 sh) ?_
  refine Ev.sts 1 (c' := (16, [some (.inr (.inr (.inr (9, 0, 3))))], [.inl (iZ (401)), .inl (iZ (p))], h)) rfl ?_
  refine Ev.brF (p := (iZ (401)) ≤ (iZ (p))) (c1 := (31, [some (.inr (.inr (.inr (9, 0, 3))))], [], h)) (c2 := (19, [some (.inr (.inr (.inr (9, 0, 3))))], [], h)) (fun c_ => absurd ((iZ_le ⟨by omega, by omega⟩ ⟨by omega, by omega⟩).mp c_) (by omega)) rfl ?_
  refine Ev.sts 1 (c' := (20, [some (.inr (.inr (.inr (9, 0, 3))))], [.inr (.inr (.inr (9, 0, 3)))], h)) rfl ?_
  refine Ev.gfr (r := (20, 401, 8)) rfl (sh_3_3 sh) ?_
  refine Ev.sts 1 (c' := (24, [some (.inr (.inr (.inr (9, 0, 3))))], [.inr (.inr (.inr (9, 0, 3))), .inr (.inr (.inr (20, 401, 8)))], h)) rfl ?_
  refine Ev.gv (w := (iZ (p))) rfl (show h.1 3 6 = iZ p from qc_36 q0) ?_
  refine Ev.ldv (j := (iZ (p))) (n := 401) (w := .inl (iZ (tN T p))) (iZ_in (by omega) (by omega) (by omega)) rfl (by rw [iZ_ix (n := p) (by omega) (by omega)]; exact congrArg vI (t0.2 p p0).2.2.1) ?_
  refine Ev.sts 1 (c' := (32, [some (.inr (.inr (.inr (9, 0, 3))))], [.inl (iZ (tN T p))], h)) rfl ?_
  exact Ev.ret rfl (q)

theorem tc_word {d b p : Nat} {T : List Tok} {e : Nat × Nat} {F G : List Int} {P : List Cmd} {h : PH} (q0 : QC h b T p e F G P) : Rv d 149 [.inr (.inr (.inr (9, 0, 3)))] h (some (.inr (.inl (lz (tW T p))))) h := Rv.of fun Q q => by
  have sh := qc_sh q0
  have hb := qc_b q0
  have w0 := qc_w q0
  have p0 := qc_p q0
  have t0 := qc_tk q0
  have l1 := w0.2.1
  refine Ev.sts 1 (c' := (1, [some (.inr (.inr (.inr (9, 0, 3))))], [.inr (.inr (.inr (9, 0, 3)))], h)) rfl ?_
  refine Ev.gv (w := (iZ (p))) rfl (show h.1 3 6 = iZ p from qc_36 q0) ?_
  refine Ev.brF (p := (iZ (p)) < (iZ (0))) (c1 := (31, [some (.inr (.inr (.inr (9, 0, 3))))], [], h)) (c2 := (7, [some (.inr (.inr (.inr (9, 0, 3))))], [], h)) (fun c_ => absurd ((iZ_lt ⟨by omega, by omega⟩ ⟨by omega, by omega⟩).mp c_) (by omega)) rfl ?_
  refine Ev.sts 1 (c' := (8, [some (.inr (.inr (.inr (9, 0, 3))))], [.inr (.inr (.inr (9, 0, 3)))], h)) rfl ?_
  refine Ev.gv (w := (iZ (p))) rfl (show h.1 3 6 = iZ p from qc_36 q0) ?_
  refine Ev.sts 1 (c' := (12, [some (.inr (.inr (.inr (9, 0, 3))))], [.inr (.inr (.inr (9, 0, 3))), .inl (iZ (p))], h)) rfl ?_
  refine Ev.gfr (r := (21, 401, 9)) rfl (sh_3_4 sh) ?_
  refine Ev.sts 1 (c' := (16, [some (.inr (.inr (.inr (9, 0, 3))))], [.inl (iZ (401)), .inl (iZ (p))], h)) rfl ?_
  refine Ev.brF (p := (iZ (401)) ≤ (iZ (p))) (c1 := (31, [some (.inr (.inr (.inr (9, 0, 3))))], [], h)) (c2 := (19, [some (.inr (.inr (.inr (9, 0, 3))))], [], h)) (fun c_ => absurd ((iZ_le ⟨by omega, by omega⟩ ⟨by omega, by omega⟩).mp c_) (by omega)) rfl ?_
  refine Ev.sts 1 (c' := (20, [some (.inr (.inr (.inr (9, 0, 3))))], [.inr (.inr (.inr (9, 0, 3)))], h)) rfl ?_
  refine Ev.gfr (r := (21, 401, 9)) rfl (sh_3_4 sh) ?_
  refine Ev.sts 1 (c' := (24, [some (.inr (.inr (.inr (9, 0, 3))))], [.inr (.inr (.inr (9, 0, 3))), .inr (.inr (.inr (21, 401, 9)))], h)) rfl ?_
  refine Ev.gv (w := (iZ (p))) rfl (show h.1 3 6 = iZ p from qc_36 q0) ?_
  refine Ev.ldv (j := (iZ (p))) (n := 401) (w := .inr (.inl (lz (tW T p)))) (iZ_in (by omega) (by omega) (by omega)) rfl (by rw [iZ_ix (n := p) (by omega) (by omega)]; exact congrArg vL (t0.2 p p0).2.2.2) ?_
  refine Ev.sts 1 (c' := (32, [some (.inr (.inr (.inr (9, 0, 3))))], [.inr (.inl (lz (tW T p)))], h)) rfl ?_
  exact Ev.ret rfl (q)

theorem tc_skip {d b p kk : Nat} {T : List Tok} {e : Nat × Nat} {F G : List Int} {P : List Cmd} {h : PH} {Q : Rs → PH → Prop} (q0 : QC h b T p e F G P) (hk : 2 ≤ kk) (k1 : tK T p = kk → ∀ h1, QC h1 b T (p + 1) e F G P → fPp b h h1 → Q (.inl (some (.inl (iZ 1)))) h1) (k0 : ¬ tK T p = kk → Q (.inl (some (.inl (iZ 0)))) h) : Rn d 146 [.inr (.inr (.inr (9, 0, 3))), .inr (.inr (.inr (40, 0, kk)))] h Q := by
  have sh := qc_sh q0
  have hb := qc_b q0
  have w0 := qc_w q0
  have p0 := qc_p q0
  have t0 := qc_tk q0
  have l1 := w0.2.1
  refine Ev.sts 1 (c' := (1, [some (.inr (.inr (.inr (9, 0, 3)))), some (.inr (.inr (.inr (40, 0, kk))))], [.inr (.inr (.inr (9, 0, 3)))], h)) rfl ?_
  refine Ev.gv (w := (iZ (p))) rfl (show h.1 3 6 = iZ p from qc_36 q0) ?_
  refine Ev.brF (p := (iZ (p)) < (iZ (0))) (c1 := (43, [some (.inr (.inr (.inr (9, 0, 3)))), some (.inr (.inr (.inr (40, 0, kk))))], [], h)) (c2 := (7, [some (.inr (.inr (.inr (9, 0, 3)))), some (.inr (.inr (.inr (40, 0, kk))))], [], h)) (fun c_ => absurd ((iZ_lt ⟨by omega, by omega⟩ ⟨by omega, by omega⟩).mp c_) (by omega)) rfl ?_
  refine Ev.sts 1 (c' := (8, [some (.inr (.inr (.inr (9, 0, 3)))), some (.inr (.inr (.inr (40, 0, kk))))], [.inr (.inr (.inr (9, 0, 3)))], h)) rfl ?_
  refine Ev.gv (w := (iZ (p))) rfl (show h.1 3 6 = iZ p from qc_36 q0) ?_
  refine Ev.sts 1 (c' := (12, [some (.inr (.inr (.inr (9, 0, 3)))), some (.inr (.inr (.inr (40, 0, kk))))], [.inr (.inr (.inr (9, 0, 3))), .inl (iZ (p))], h)) rfl ?_
  refine Ev.gv (w := (iZ (T.length))) rfl t0.1 ?_
  refine Ev.brF (p := (iZ (T.length)) ≤ (iZ (p))) (c1 := (43, [some (.inr (.inr (.inr (9, 0, 3)))), some (.inr (.inr (.inr (40, 0, kk))))], [], h)) (c2 := (18, [some (.inr (.inr (.inr (9, 0, 3)))), some (.inr (.inr (.inr (40, 0, kk))))], [], h)) (fun c_ => absurd ((iZ_le ⟨by omega, by omega⟩ ⟨by omega, by omega⟩).mp c_) (by omega)) rfl ?_
  refine Ev.sts 1 (c' := (19, [some (.inr (.inr (.inr (9, 0, 3)))), some (.inr (.inr (.inr (40, 0, kk))))], [.inr (.inr (.inr (9, 0, 3)))], h)) rfl ?_
  refine Ev.gv (w := (iZ (p))) rfl (show h.1 3 6 = iZ p from qc_36 q0) ?_
  refine Ev.sts 1 (c' := (23, [some (.inr (.inr (.inr (9, 0, 3)))), some (.inr (.inr (.inr (40, 0, kk))))], [.inr (.inr (.inr (9, 0, 3))), .inl (iZ (p))], h)) rfl ?_
  refine Ev.gfr (r := (23, 401, 6)) rfl (sh_3_1 sh) ?_
  refine Ev.sts 1 (c' := (27, [some (.inr (.inr (.inr (9, 0, 3)))), some (.inr (.inr (.inr (40, 0, kk))))], [.inl (iZ (401)), .inl (iZ (p))], h)) rfl ?_
  refine Ev.brF (p := (iZ (401)) ≤ (iZ (p))) (c1 := (43, [some (.inr (.inr (.inr (9, 0, 3)))), some (.inr (.inr (.inr (40, 0, kk))))], [], h)) (c2 := (30, [some (.inr (.inr (.inr (9, 0, 3)))), some (.inr (.inr (.inr (40, 0, kk))))], [], h)) (fun c_ => absurd ((iZ_le ⟨by omega, by omega⟩ ⟨by omega, by omega⟩).mp c_) (by omega)) rfl ?_
  refine Ev.sts 1 (c' := (31, [some (.inr (.inr (.inr (9, 0, 3)))), some (.inr (.inr (.inr (40, 0, kk))))], [.inr (.inr (.inr (9, 0, 3)))], h)) rfl ?_
  refine Ev.gfr (r := (23, 401, 6)) rfl (sh_3_1 sh) ?_
  refine Ev.sts 1 (c' := (35, [some (.inr (.inr (.inr (9, 0, 3)))), some (.inr (.inr (.inr (40, 0, kk))))], [.inr (.inr (.inr (9, 0, 3))), .inr (.inr (.inr (23, 401, 6)))], h)) rfl ?_
  refine Ev.gv (w := (iZ (p))) rfl (show h.1 3 6 = iZ p from qc_36 q0) ?_
  refine Ev.ldv (j := (iZ (p))) (n := 401) (w := .inr (.inr (.inr (40, 0, (tK T p))))) (iZ_in (by omega) (by omega) (by omega)) rfl (by rw [iZ_ix (n := p) (by omega) (by omega)]; exact congrArg vR (t0.2 p p0).1) ?_
  refine Ev.sts 1 (c' := (40, [some (.inr (.inr (.inr (9, 0, 3)))), some (.inr (.inr (.inr (40, 0, kk))))], [.inr (.inr (.inr (40, 0, kk))), .inr (.inr (.inr (40, 0, (tK T p))))], h)) rfl ?_
  refine Ev.br (p := (tK T p) = kk) (c1 := (45, [some (.inr (.inr (.inr (9, 0, 3)))), some (.inr (.inr (.inr (40, 0, kk))))], [], h)) (c2 := (43, [some (.inr (.inr (.inr (9, 0, 3)))), some (.inr (.inr (.inr (40, 0, kk))))], [], h)) rfl (fun c0 => ?_) (fun c0 => ?_)
  · refine Ev.sts 2 (c' := (47, [some (.inr (.inr (.inr (9, 0, 3)))), some (.inr (.inr (.inr (40, 0, kk))))], [.inr (.inr (.inr (9, 0, 3))), .inr (.inr (.inr (9, 0, 3)))], h)) rfl ?_
    refine Ev.gv (w := (iZ (p))) rfl (show h.1 3 6 = iZ p from qc_36 q0) ?_
    refine Ev.sts 1 (c' := (51, [some (.inr (.inr (.inr (9, 0, 3)))), some (.inr (.inr (.inr (40, 0, kk))))], [.inl (iZ (1)), .inl (iZ (p)), .inr (.inr (.inr (9, 0, 3)))], h)) rfl ?_
    refine Ev.gv (w := (iZ (p + 1))) rfl (iZ_add _ _) ?_
    refine Ev.sts 2 (c' := (56, [some (.inr (.inr (.inr (9, 0, 3)))), some (.inr (.inr (.inr (40, 0, kk))))], [.inl (iZ (1))], (setI h 3 6 ((iZ (p + 1)))))) rfl ?_
    exact Ev.ret rfl (k1 (by assumption) _ (QC_h q0 (by have : tK T p = kk := (by assumption); omega)) (fP_h b h _ hb))
  · refine Ev.sts 1 (c' := (44, [some (.inr (.inr (.inr (9, 0, 3)))), some (.inr (.inr (.inr (40, 0, kk))))], [.inl (iZ (0))], h)) rfl ?_
    exact Ev.ret rfl (k0 (by assumption))

theorem tc_note0 {d : Nat} {n : Int} {h : PH} : Rv d 113 [.inr (.inr (.inr (7, 0, 2))), .inl (iZ (0)), .inl (iZ (n))] h (none) h := Rv.of fun Q q => by
  refine Ev.sts 1 (c' := (1, [some (.inr (.inr (.inr (7, 0, 2)))), some (.inl (iZ (0))), some (.inl (iZ (n)))], [.inl (iZ (0))], h)) rfl ?_
  refine Ev.brT (p := (iZ (0)) = (iZ (0))) (c1 := (27, [some (.inr (.inr (.inr (7, 0, 2)))), some (.inl (iZ (0))), some (.inl (iZ (n)))], [], h)) (c2 := (4, [some (.inr (.inr (.inr (7, 0, 2)))), some (.inl (iZ (0))), some (.inl (iZ (n)))], [], h)) (by decide) rfl ?_
  exact Ev.ret rfl (q)

theorem tc_note1 {d b p n : Nat} {T : List Tok} {e : Nat × Nat} {F G : List Int} {P : List Cmd} {h : PH} {Q : Rs → PH → Prop} (q0 : QC h b T p e F G P) (hn : n ≤ 9) (q : ∀ h1, QC h1 b T p (ntE e (n, p)) F G P → fPp b h h1 → Q (.inl none) h1) : Rn d 113 [.inr (.inr (.inr (7, 0, 2))), .inl (iZ (1)), .inl (iZ (n))] h Q := by
  have sh := qc_sh q0
  have hb := qc_b q0
  have w0 := qc_w q0
  have p0 := qc_p q0
  have t0 := qc_tk q0
  have l1 := w0.2.1
  have e9 := (qc_er q0).2.1
  refine Ev.sts 1 (c' := (1, [some (.inr (.inr (.inr (7, 0, 2)))), some (.inl (iZ (1))), some (.inl (iZ (n)))], [.inl (iZ (1))], h)) rfl ?_
  refine Ev.brF (p := (iZ (1)) = (iZ (0))) (c1 := (27, [some (.inr (.inr (.inr (7, 0, 2)))), some (.inl (iZ (1))), some (.inl (iZ (n)))], [], h)) (c2 := (4, [some (.inr (.inr (.inr (7, 0, 2)))), some (.inl (iZ (1))), some (.inl (iZ (n)))], [], h)) (by decide) rfl ?_
  refine Ev.sts 1 (c' := (5, [some (.inr (.inr (.inr (7, 0, 2)))), some (.inl (iZ (1))), some (.inl (iZ (n)))], [.inr (.inr (.inr (7, 0, 2)))], h)) rfl ?_
  refine Ev.gv (w := (iZ (e.1))) rfl (qc_er q0).1 ?_
  refine Ev.brc (p := ¬ (iZ (e.1)) = (iZ (0))) (q := ¬ ((e.1 : Int)) = 0) (c1 := (27, [some (.inr (.inr (.inr (7, 0, 2)))), some (.inl (iZ (1))), some (.inl (iZ (n)))], [], h)) (c2 := (11, [some (.inr (.inr (.inr (7, 0, 2)))), some (.inl (iZ (1))), some (.inl (iZ (n)))], [], h)) rfl (not_congr (iZ_eq ⟨by omega, by omega⟩ ⟨by omega, by omega⟩)) (fun c0 => ?_) (fun c0 => ?_)
  · first | (have e1 : e.1 = 0 := (by omega); exact Ev.ret rfl (q _ (QC_e q0 e1 hn) (fP_e b h _ _ hb))) | (have e1 : ntE e (n, p) = e := if_neg (by omega); rw [e1] at q; exact Ev.ret rfl (q h q0 (fP_r b h)))
  · refine Ev.sts 5 (c' := (18, [some (.inr (.inr (.inr (7, 0, 2)))), some (.inl (iZ (1))), some (.inl (iZ (n)))], [.inr (.inr (.inr (7, 0, 2))), .inr (.inr (.inr (7, 0, 2)))], (setI h 2 5 ((iZ (n)))))) rfl ?_
    refine Ev.gfr (r := (9, 0, 3)) rfl (sh_2_0 sh) ?_
    refine Ev.gv (w := (iZ (p))) rfl (show h.1 3 6 = iZ p from qc_36 q0) ?_
    refine Ev.sts 1 (c' := (27, [some (.inr (.inr (.inr (7, 0, 2)))), some (.inl (iZ (1))), some (.inl (iZ (n)))], [], (setI (setI h 2 5 ((iZ (n)))) 2 6 ((iZ (p)))))) rfl ?_
    first | (have e1 : e.1 = 0 := (by omega); exact Ev.ret rfl (q _ (QC_e q0 e1 hn) (fP_e b h _ _ hb))) | (have e1 : ntE e (n, p) = e := if_neg (by omega); rw [e1] at q; exact Ev.ret rfl (q h q0 (fP_r b h)))

theorem tc_add {d b p kk : Nat} {T : List Tok} {e : Nat × Nat} {F G : List Int} {P : List Cmd} {h : PH} {v : Int} {Q : Rs → PH → Prop} (q0 : QC h b T p e F G P) (h4 : P.length < 400) (q : ∀ h1, QC h1 b T p e F G (P ++ [(kk, v)]) → fPp b h h1 → Q (.inl none) h1) : Rn d 102 [.inr (.inr (.inr (5, 0, (b + 5)))), .inr (.inr (.inr (40, 0, kk))), .inl (iZ (v))] h Q := by
  have sh := qc_sh q0
  have hb := qc_b q0
  have w0 := qc_w q0
  have p0 := qc_p q0
  have t0 := qc_tk q0
  have l1 := w0.2.1
  refine Ev.sts 1 (c' := (1, [some (.inr (.inr (.inr (5, 0, (b + 5))))), some (.inr (.inr (.inr (40, 0, kk)))), some (.inl (iZ (v)))], [.inr (.inr (.inr (5, 0, (b + 5))))], h)) rfl ?_
  refine Ev.gv (w := (iZ (P.length))) rfl (qc_pr q0).1 ?_
  refine Ev.brF (p := (iZ (P.length)) < (iZ (0))) (c1 := (61, [some (.inr (.inr (.inr (5, 0, (b + 5))))), some (.inr (.inr (.inr (40, 0, kk)))), some (.inl (iZ (v)))], [], h)) (c2 := (7, [some (.inr (.inr (.inr (5, 0, (b + 5))))), some (.inr (.inr (.inr (40, 0, kk)))), some (.inl (iZ (v)))], [], h)) (fun c_ => absurd ((iZ_lt ⟨by omega, by omega⟩ ⟨by omega, by omega⟩).mp c_) (by omega)) rfl ?_
  refine Ev.sts 1 (c' := (8, [some (.inr (.inr (.inr (5, 0, (b + 5))))), some (.inr (.inr (.inr (40, 0, kk)))), some (.inl (iZ (v)))], [.inr (.inr (.inr (5, 0, (b + 5))))], h)) rfl ?_
  refine Ev.gv (w := (iZ (P.length))) rfl (qc_pr q0).1 ?_
  refine Ev.sts 1 (c' := (12, [some (.inr (.inr (.inr (5, 0, (b + 5))))), some (.inr (.inr (.inr (40, 0, kk)))), some (.inl (iZ (v)))], [.inr (.inr (.inr (5, 0, (b + 5)))), .inl (iZ (P.length))], h)) rfl ?_
  refine Ev.gfr (r := (23, 400, (b + 6))) rfl (sh_p0 (h := h) sh hb) ?_
  refine Ev.sts 1 (c' := (16, [some (.inr (.inr (.inr (5, 0, (b + 5))))), some (.inr (.inr (.inr (40, 0, kk)))), some (.inl (iZ (v)))], [.inl (iZ (400)), .inl (iZ (P.length))], h)) rfl ?_
  refine Ev.brF (p := (iZ (400)) ≤ (iZ (P.length))) (c1 := (61, [some (.inr (.inr (.inr (5, 0, (b + 5))))), some (.inr (.inr (.inr (40, 0, kk)))), some (.inl (iZ (v)))], [], h)) (c2 := (19, [some (.inr (.inr (.inr (5, 0, (b + 5))))), some (.inr (.inr (.inr (40, 0, kk)))), some (.inl (iZ (v)))], [], h)) (fun c_ => absurd ((iZ_le ⟨by omega, by omega⟩ ⟨by omega, by omega⟩).mp c_) (by omega)) rfl ?_
  refine Ev.sts 1 (c' := (20, [some (.inr (.inr (.inr (5, 0, (b + 5))))), some (.inr (.inr (.inr (40, 0, kk)))), some (.inl (iZ (v)))], [.inr (.inr (.inr (5, 0, (b + 5))))], h)) rfl ?_
  refine Ev.gv (w := (iZ (P.length))) rfl (qc_pr q0).1 ?_
  refine Ev.sts 1 (c' := (24, [some (.inr (.inr (.inr (5, 0, (b + 5))))), some (.inr (.inr (.inr (40, 0, kk)))), some (.inl (iZ (v)))], [.inr (.inr (.inr (5, 0, (b + 5)))), .inl (iZ (P.length))], h)) rfl ?_
  refine Ev.gfr (r := (20, 400, (b + 7))) rfl (sh_p1 (h := h) sh hb) ?_
  refine Ev.sts 1 (c' := (28, [some (.inr (.inr (.inr (5, 0, (b + 5))))), some (.inr (.inr (.inr (40, 0, kk)))), some (.inl (iZ (v)))], [.inl (iZ (400)), .inl (iZ (P.length))], h)) rfl ?_
  refine Ev.brF (p := (iZ (400)) ≤ (iZ (P.length))) (c1 := (61, [some (.inr (.inr (.inr (5, 0, (b + 5))))), some (.inr (.inr (.inr (40, 0, kk)))), some (.inl (iZ (v)))], [], h)) (c2 := (31, [some (.inr (.inr (.inr (5, 0, (b + 5))))), some (.inr (.inr (.inr (40, 0, kk)))), some (.inl (iZ (v)))], [], h)) (fun c_ => absurd ((iZ_le ⟨by omega, by omega⟩ ⟨by omega, by omega⟩).mp c_) (by omega)) rfl ?_
  refine Ev.sts 1 (c' := (32, [some (.inr (.inr (.inr (5, 0, (b + 5))))), some (.inr (.inr (.inr (40, 0, kk)))), some (.inl (iZ (v)))], [.inr (.inr (.inr (5, 0, (b + 5))))], h)) rfl ?_
  refine Ev.gfr (r := (23, 400, (b + 6))) rfl (sh_p0 (h := h) sh hb) ?_
  refine Ev.sts 1 (c' := (36, [some (.inr (.inr (.inr (5, 0, (b + 5))))), some (.inr (.inr (.inr (40, 0, kk)))), some (.inl (iZ (v)))], [.inr (.inr (.inr (5, 0, (b + 5)))), .inr (.inr (.inr (23, 400, (b + 6))))], h)) rfl ?_
  refine Ev.gv (w := (iZ (P.length))) rfl (qc_pr q0).1 ?_
  refine Ev.sts 1 (c' := (40, [some (.inr (.inr (.inr (5, 0, (b + 5))))), some (.inr (.inr (.inr (40, 0, kk)))), some (.inl (iZ (v)))], [.inr (.inr (.inr (40, 0, kk))), .inl (iZ (P.length)), .inr (.inr (.inr (23, 400, (b + 6))))], h)) rfl ?_
  refine Ev.sto (j := (iZ (P.length))) (n := 400) (h2 := (setR h (b + 6) P.length (40, 0, kk))) (iZ_in (by omega) (by omega) (by omega)) rfl (by rw [iZ_ix (n := P.length) (by omega) (by omega)]) ?_
  refine Ev.sts 1 (c' := (42, [some (.inr (.inr (.inr (5, 0, (b + 5))))), some (.inr (.inr (.inr (40, 0, kk)))), some (.inl (iZ (v)))], [.inr (.inr (.inr (5, 0, (b + 5))))], (setR h (b + 6) P.length (40, 0, kk)))) rfl ?_
  refine Ev.gfr (r := (20, 400, (b + 7))) rfl ((setR_ne (h := h) (a := b + 6) (b := b + 5) (by omega)).trans (sh_p1 sh hb)) ?_
  refine Ev.sts 1 (c' := (46, [some (.inr (.inr (.inr (5, 0, (b + 5))))), some (.inr (.inr (.inr (40, 0, kk)))), some (.inl (iZ (v)))], [.inr (.inr (.inr (5, 0, (b + 5)))), .inr (.inr (.inr (20, 400, (b + 7))))], (setR h (b + 6) P.length (40, 0, kk)))) rfl ?_
  refine Ev.gv (w := (iZ (P.length))) rfl (show h.1 (b + 5) 3 = iZ P.length from (qc_pr q0).1) ?_
  refine Ev.sts 1 (c' := (50, [some (.inr (.inr (.inr (5, 0, (b + 5))))), some (.inr (.inr (.inr (40, 0, kk)))), some (.inl (iZ (v)))], [.inl (iZ (v)), .inl (iZ (P.length)), .inr (.inr (.inr (20, 400, (b + 7))))], (setR h (b + 6) P.length (40, 0, kk)))) rfl ?_
  refine Ev.sto (j := (iZ (P.length))) (n := 400) (h2 := (setI (setR h (b + 6) P.length (40, 0, kk)) (b + 7) P.length ((iZ (v))))) (iZ_in (by omega) (by omega) (by omega)) rfl (by rw [iZ_ix (n := P.length) (by omega) (by omega)]) ?_
  refine Ev.sts 2 (c' := (53, [some (.inr (.inr (.inr (5, 0, (b + 5))))), some (.inr (.inr (.inr (40, 0, kk)))), some (.inl (iZ (v)))], [.inr (.inr (.inr (5, 0, (b + 5)))), .inr (.inr (.inr (5, 0, (b + 5))))], (setI (setR h (b + 6) P.length (40, 0, kk)) (b + 7) P.length ((iZ (v)))))) rfl ?_
  refine Ev.gv (w := (iZ (P.length))) rfl ((setI_ne (a := b + 7) (b := b + 5) (by omega)).trans (show h.1 (b + 5) 3 = iZ P.length from (qc_pr q0).1)) ?_
  refine Ev.sts 1 (c' := (57, [some (.inr (.inr (.inr (5, 0, (b + 5))))), some (.inr (.inr (.inr (40, 0, kk)))), some (.inl (iZ (v)))], [.inl (iZ (1)), .inl (iZ (P.length)), .inr (.inr (.inr (5, 0, (b + 5))))], (setI (setR h (b + 6) P.length (40, 0, kk)) (b + 7) P.length ((iZ (v)))))) rfl ?_
  refine Ev.gv (w := (iZ (P.length + 1))) rfl (iZ_add _ _) ?_
  refine Ev.sts 1 (c' := (61, [some (.inr (.inr (.inr (5, 0, (b + 5))))), some (.inr (.inr (.inr (40, 0, kk)))), some (.inl (iZ (v)))], [], (setI (setI (setR h (b + 6) P.length (40, 0, kk)) (b + 7) P.length ((iZ (v)))) (b + 5) 3 ((iZ (P.length + 1)))))) rfl ?_
  exact Ev.ret rfl (q _ (QC_a q0 rfl h4) (fP_a b h _ kk v hb))

theorem tc_opd {d kk : Nat} {h : PH} {Q : Rs → PH → Prop} (k1 : opd kk = true → Q (.inl (some (.inl (iZ 1)))) h) (k0 : ¬ opd kk = true → Q (.inl (some (.inl (iZ 0)))) h) : Rn d 128 [.inr (.inr (.inr (40, 0, kk)))] h Q := by
  refine Ev.sts 2 (c' := (4, [some (.inr (.inr (.inr (40, 0, kk))))], [.inr (.inr (.inr (40, 0, 3))), .inr (.inr (.inr (40, 0, kk)))], h)) rfl ?_
  refine Ev.br (p := kk = 3) (c1 := (35, [some (.inr (.inr (.inr (40, 0, kk))))], [], h)) (c2 := (7, [some (.inr (.inr (.inr (40, 0, kk))))], [], h)) rfl (fun c0 => ?_) (fun c0 => ?_)
  · refine Ev.sts 2 (c' := (40, [some (.inr (.inr (.inr (40, 0, kk))))], [.inl (iZ (1))], h)) rfl ?_
    exact Ev.ret rfl (k1 (opd_t.mpr (by omega)))
  · refine Ev.sts 2 (c' := (11, [some (.inr (.inr (.inr (40, 0, kk))))], [.inr (.inr (.inr (40, 0, 11))), .inr (.inr (.inr (40, 0, kk)))], h)) rfl ?_
    refine Ev.br (p := kk = 11) (c1 := (35, [some (.inr (.inr (.inr (40, 0, kk))))], [], h)) (c2 := (14, [some (.inr (.inr (.inr (40, 0, kk))))], [], h)) rfl (fun c1 => ?_) (fun c1 => ?_)
    · refine Ev.sts 2 (c' := (40, [some (.inr (.inr (.inr (40, 0, kk))))], [.inl (iZ (1))], h)) rfl ?_
      exact Ev.ret rfl (k1 (opd_t.mpr (by omega)))
    · refine Ev.sts 2 (c' := (18, [some (.inr (.inr (.inr (40, 0, kk))))], [.inr (.inr (.inr (40, 0, 12))), .inr (.inr (.inr (40, 0, kk)))], h)) rfl ?_
      refine Ev.br (p := kk = 12) (c1 := (35, [some (.inr (.inr (.inr (40, 0, kk))))], [], h)) (c2 := (21, [some (.inr (.inr (.inr (40, 0, kk))))], [], h)) rfl (fun c2 => ?_) (fun c2 => ?_)
      · refine Ev.sts 2 (c' := (40, [some (.inr (.inr (.inr (40, 0, kk))))], [.inl (iZ (1))], h)) rfl ?_
        exact Ev.ret rfl (k1 (opd_t.mpr (by omega)))
      · refine Ev.sts 2 (c' := (25, [some (.inr (.inr (.inr (40, 0, kk))))], [.inr (.inr (.inr (40, 0, 13))), .inr (.inr (.inr (40, 0, kk)))], h)) rfl ?_
        refine Ev.br (p := kk = 13) (c1 := (35, [some (.inr (.inr (.inr (40, 0, kk))))], [], h)) (c2 := (28, [some (.inr (.inr (.inr (40, 0, kk))))], [], h)) rfl (fun c3 => ?_) (fun c3 => ?_)
        · refine Ev.sts 2 (c' := (40, [some (.inr (.inr (.inr (40, 0, kk))))], [.inl (iZ (1))], h)) rfl ?_
          exact Ev.ret rfl (k1 (opd_t.mpr (by omega)))
        · refine Ev.sts 2 (c' := (32, [some (.inr (.inr (.inr (40, 0, kk))))], [.inr (.inr (.inr (40, 0, 14))), .inr (.inr (.inr (40, 0, kk)))], h)) rfl ?_
          refine Ev.br (p := ¬ kk = 14) (c1 := (39, [some (.inr (.inr (.inr (40, 0, kk))))], [], h)) (c2 := (35, [some (.inr (.inr (.inr (40, 0, kk))))], [], h)) rfl (fun c4 => ?_) (fun c4 => ?_)
          · refine Ev.sts 1 (c' := (40, [some (.inr (.inr (.inr (40, 0, kk))))], [.inl (iZ (0))], h)) rfl ?_
            exact Ev.ret rfl (k0 (fun n_ => by have := opd_t.mp n_; omega))
          · refine Ev.sts 2 (c' := (40, [some (.inr (.inr (.inr (40, 0, kk))))], [.inl (iZ (1))], h)) rfl ?_
            exact Ev.ret rfl (k1 (opd_t.mpr (by omega)))

theorem tc_cmk {d kk : Nat} {h : PH} {Q : Rs → PH → Prop} (k1 : cmk kk = true → Q (.inl (some (.inl (iZ 1)))) h) (k0 : ¬ cmk kk = true → Q (.inl (some (.inl (iZ 0)))) h) : Rn d 129 [.inr (.inr (.inr (40, 0, kk)))] h Q := by
  refine Ev.sts 2 (c' := (4, [some (.inr (.inr (.inr (40, 0, kk))))], [.inr (.inr (.inr (40, 0, 32))), .inr (.inr (.inr (40, 0, kk)))], h)) rfl ?_
  refine Ev.br (p := kk = 32) (c1 := (21, [some (.inr (.inr (.inr (40, 0, kk))))], [], h)) (c2 := (7, [some (.inr (.inr (.inr (40, 0, kk))))], [], h)) rfl (fun c0 => ?_) (fun c0 => ?_)
  · refine Ev.sts 2 (c' := (26, [some (.inr (.inr (.inr (40, 0, kk))))], [.inl (iZ (1))], h)) rfl ?_
    exact Ev.ret rfl (k1 (cmk_t.mpr (by omega)))
  · refine Ev.sts 2 (c' := (11, [some (.inr (.inr (.inr (40, 0, kk))))], [.inr (.inr (.inr (40, 0, 33))), .inr (.inr (.inr (40, 0, kk)))], h)) rfl ?_
    refine Ev.br (p := kk = 33) (c1 := (21, [some (.inr (.inr (.inr (40, 0, kk))))], [], h)) (c2 := (14, [some (.inr (.inr (.inr (40, 0, kk))))], [], h)) rfl (fun c1 => ?_) (fun c1 => ?_)
    · refine Ev.sts 2 (c' := (26, [some (.inr (.inr (.inr (40, 0, kk))))], [.inl (iZ (1))], h)) rfl ?_
      exact Ev.ret rfl (k1 (cmk_t.mpr (by omega)))
    · refine Ev.sts 2 (c' := (18, [some (.inr (.inr (.inr (40, 0, kk))))], [.inr (.inr (.inr (40, 0, 34))), .inr (.inr (.inr (40, 0, kk)))], h)) rfl ?_
      refine Ev.br (p := ¬ kk = 34) (c1 := (25, [some (.inr (.inr (.inr (40, 0, kk))))], [], h)) (c2 := (21, [some (.inr (.inr (.inr (40, 0, kk))))], [], h)) rfl (fun c2 => ?_) (fun c2 => ?_)
      · refine Ev.sts 1 (c' := (26, [some (.inr (.inr (.inr (40, 0, kk))))], [.inl (iZ (0))], h)) rfl ?_
        exact Ev.ret rfl (k0 (fun n_ => by have := cmk_t.mp n_; omega))
      · refine Ev.sts 2 (c' := (26, [some (.inr (.inr (.inr (40, 0, kk))))], [.inl (iZ (1))], h)) rfl ?_
        exact Ev.ret rfl (k1 (cmk_t.mpr (by omega)))

