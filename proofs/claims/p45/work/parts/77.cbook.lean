/-! The class reads a book. -/
theorem mns_c {T : List Tok} {n p : Nat} (h : tK T p = 31) (k : tK T (p + 1) = 3) : mns T (n + 1) p = ((mns T n (p + 2)).1, (mns T n (p + 2)).2.1, (p + 1) :: (mns T n (p + 2)).2.2) := by
  show (if tK T p = 31 then (if tK T (p + 1) = 3 then ((mns T n (p + 2)).1, (mns T n (p + 2)).2.1, (p + 1) :: (mns T n (p + 2)).2.2) else (false, p + 1, [])) else if tK T p = 30 then (true, p + 1, []) else (false, p, [])) = _
  rw [if_pos h, if_pos k]
theorem mns_x {T : List Tok} {n p : Nat} (h : tK T p = 31) (k : ¬ tK T (p + 1) = 3) : mns T (n + 1) p = (false, p + 1, []) := by
  show (if tK T p = 31 then (if tK T (p + 1) = 3 then ((mns T n (p + 2)).1, (mns T n (p + 2)).2.1, (p + 1) :: (mns T n (p + 2)).2.2) else (false, p + 1, [])) else if tK T p = 30 then (true, p + 1, []) else (false, p, [])) = _
  rw [if_pos h, if_neg k]
theorem mns_s {T : List Tok} {n p : Nat} (h : ¬ tK T p = 31) (k : tK T p = 30) : mns T (n + 1) p = (true, p + 1, []) := by
  show (if tK T p = 31 then (if tK T (p + 1) = 3 then ((mns T n (p + 2)).1, (mns T n (p + 2)).2.1, (p + 1) :: (mns T n (p + 2)).2.2) else (false, p + 1, [])) else if tK T p = 30 then (true, p + 1, []) else (false, p, [])) = _
  rw [if_neg h, if_pos k]
theorem mns_n {T : List Tok} {n p : Nat} (h : ¬ tK T p = 31) (k : ¬ tK T p = 30) : mns T (n + 1) p = (false, p, []) := by
  show (if tK T p = 31 then (if tK T (p + 1) = 3 then ((mns T n (p + 2)).1, (mns T n (p + 2)).2.1, (p + 1) :: (mns T n (p + 2)).2.2) else (false, p + 1, [])) else if tK T p = 30 then (true, p + 1, []) else (false, p, [])) = _
  rw [if_neg h, if_neg k]
theorem mns_0s {T : List Tok} {p : Nat} (k : tK T p = 30) : mns T 0 p = (true, p + 1, []) := if_pos k
theorem mns_0n {T : List Tok} {p : Nat} (k : ¬ tK T p = 30) : mns T 0 p = (false, p, []) := if_neg k
theorem lns_e {T : List Tok} {n p : Nat} (h : tK T p = 0) : lnsF T (n + 1) p = (true, p, []) := if_pos h
theorem lns_l {T : List Tok} {n p : Nat} (h : ¬ tK T p = 0) (k : (linF T p).1 = true) : lnsF T (n + 1) p = ((lnsF T n (linF T p).2.1).1, (lnsF T n (linF T p).2.1).2.1, (linF T p).2.2 :: (lnsF T n (linF T p).2.1).2.2) := by
  show (if tK T p = 0 then (true, p, []) else if (linF T p).1 = true then ((lnsF T n (linF T p).2.1).1, (lnsF T n (linF T p).2.1).2.1, (linF T p).2.2 :: (lnsF T n (linF T p).2.1).2.2) else (false, (linF T p).2.1, [])) = _
  rw [if_neg h, if_pos k]
theorem lns_x {T : List Tok} {n p : Nat} (h : ¬ tK T p = 0) (k : (linF T p).1 = false) : lnsF T (n + 1) p = (false, (linF T p).2.1, []) := by
  show (if tK T p = 0 then (true, p, []) else if (linF T p).1 = true then ((lnsF T n (linF T p).2.1).1, (lnsF T n (linF T p).2.1).2.1, (linF T p).2.2 :: (lnsF T n (linF T p).2.1).2.2) else (false, (linF T p).2.1, [])) = _
  rw [if_neg h, if_neg (by rw [k]; decide)]
theorem rz3 {α : Type} {r : Bool × Nat × α} (h : r.1 = true) : r = (true, r.2.1, r.2.2) := by rw [← h]
theorem smP_Q {T : List Tok} : ∀ (l : List Nat) (s : Sm), smP (l.foldl (smQ T) s) = smP s := by
  intro l
  induction l with
  | nil => intro s; rfl
  | cons q l ih => intro s; exact ih (smQ T s q)
/-- what reading tells: the error, where; what it read -/
def rdM (T : List Tok) : Mz := moonF T 0
def rdL (T : List Tok) : Bool × Nat × List Ln := lnsF T 400 (rdM T).2.1
def rdS (T : List Tok) : Sm := (rdL T).2.2.foldl (smL T) ((rdM T).2.2.foldl (smQ T) sm0)
def rdE (T : List Tok) : Nat × Int := if (rdM T).1 = true then (if (rdL T).1 = true then (if (smE (rdS T)).1 = 0 then (0, -1) else ((smE (rdS T)).1, tS T (smE (rdS T)).2)) else (1, tS T (rdL T).2.1)) else (1, tS T (rdM T).2.1)
def fTt (b : Nat) (h h' : PH) : Prop := h'.2.2.2 = h.2.2.2 ∧ (∀ a, a ≠ 2 → a ≠ 3 → a ≠ 7 → a ≠ 8 → a ≠ 12 → ¬ (b ≤ a ∧ a ≤ b + 14) → h'.1 a = h.1 a) ∧ (∀ a, a ≠ 9 → a ≠ 10 → a ≠ 11 → h'.2.1 a = h.2.1 a) ∧ (∀ a k, ¬ (a = 6 ∨ a = 12 ∨ a = b + 6 ∨ (b + 9 ≤ a ∧ a ≤ b + 14)) → h'.2.2.1 a k = h.2.2.1 a k)
theorem fT_t {b : Nat} {h h1 h2 : PH} (a : fTt b h h1) (c : fTt b h1 h2) : fTt b h h2 := ⟨c.1.trans a.1, fun x x1 x2 x3 x4 x5 x6 => (c.2.1 x x1 x2 x3 x4 x5 x6).trans (a.2.1 x x1 x2 x3 x4 x5 x6), fun x x1 x2 x3 => (c.2.2.1 x x1 x2 x3).trans (a.2.2.1 x x1 x2 x3), fun x k x1 => (c.2.2.2 x k x1).trans (a.2.2.2 x k x1)⟩
theorem fT_B {b : Nat} {h h1 : PH} (f : fB b h h1) : fTt b h h1 := ⟨f.1, fun a a1 a2 _ _ a5 a6 => f.2.1 a a1 a2 a5 a6, fun a _ a2 a3 => f.2.2.2.2.1 a a2 a3, fun a k x => f.2.2.2.2.2 a k (by omega)⟩
theorem fT_K {b : Nat} {h h1 : PH} (f : fK h h1) : fTt b h h1 := ⟨f.1, fun a _ a2 a3 a4 _ _ => f.2.1 a a2 a3 a4, fun a a1 _ _ => f.2.2.2.1 a a1, fun a k x => congrFun (f.2.2.2.2 a (by omega)) k⟩
theorem fT_2 {b k : Nat} {h : PH} {v : Int32} : fTt b h (setI h 2 k v) := ⟨rfl, fun a a1 _ _ _ _ _ => setI_oth a1, fun _ _ _ _ => rfl, fun _ _ _ => rfl⟩
theorem fT_b {b k a : Nat} {h : PH} {v : Int32} (ha : b ≤ a ∧ a ≤ b + 14) : fTt b h (setI h a k v) := ⟨rfl, fun c _ _ _ _ _ c6 => setI_oth (fun z => c6 (by rw [z]; exact ha)), fun _ _ _ _ => rfl, fun _ _ _ => rfl⟩
theorem LCs_7 {h : PH} {b p : Nat} {v : Int32} {T : List Tok} {s : Sm} (l : LCs h b T p s) : LCs (setI h 2 7 v) b T p s := by
  obtain ⟨q, ⟨m1, m2, m3⟩, ⟨t1, t2⟩, ⟨x1, x2⟩⟩ := l
  obtain ⟨q1, q2, q3, q4, q5, q6, q7, ⟨q8, q8a, q8b⟩, ⟨n1, n2, n3, n4, n5, n6⟩, ⟨r1, r2, r3⟩⟩ := q
  have cI : ∀ a k, ¬ (a = 2 ∧ k = 7) → (setI h 2 7 v).1 a k = h.1 a k := fun a k a1 => setI_ne a1
  refine ⟨⟨Sh_eq q1 rfl, q2, q3, ⟨(cI _ _ (by omega)).trans q4.1, fun j hj => ?_⟩, q5, q6, (cI _ _ (by omega)).trans q7, ⟨(cI _ _ (by omega)).trans q8, q8a, fun z => (cI _ _ (by omega)).trans (q8b z)⟩, ⟨(cI _ _ (by omega)).trans n1, n2, n3, (cI _ _ (by omega)).trans n4, n5, n6⟩, ⟨(cI _ _ (by omega)).trans r1, r2, fun j hj => ⟨(r3 j hj).1, (cI _ _ (by omega)).trans (r3 j hj).2⟩⟩⟩, ⟨(cI _ _ (by omega)).trans m1, m2, fun j hj => (cI _ _ (by omega)).trans (m3 j hj)⟩, ⟨t1, fun j hj => ⟨(cI _ _ (by omega)).trans (t2 j hj).1, (cI _ _ (by omega)).trans (t2 j hj).2⟩⟩, ⟨x1, fun j hj => ?_⟩⟩
  · obtain ⟨c1, c2, c3, c4⟩ := q4.2 j hj
    exact ⟨c1, (cI _ _ (by omega)).trans c2, (cI _ _ (by omega)).trans c3, c4⟩
  · obtain ⟨c0, c1, c2, c3, c4, c5, c6⟩ := x2 j hj
    exact ⟨(cI _ _ (by omega)).trans c0, (cI _ _ (by omega)).trans c1, (cI _ _ (by omega)).trans c2, (cI _ _ (by omega)).trans c3, c4, (cI _ _ (by omega)).trans c5, (cI _ _ (by omega)).trans c6⟩
theorem tc_moon_lp {d b : Nat} {T : List Tok} (n : Nat) : ∀ (i : Nat) (h : PH) (p : Nat) (s : Sm) (Q : Rs → PH → Prop), i + n = 400 → LCs h b T p s → ((mns T n p).1 = true → ∀ h1, LCs h1 b T (mns T n p).2.1 ((mns T n p).2.2.foldl (smQ T) s) → fB b h h1 → Q (.inl (some (.inl (iZ 1)))) h1) → ((mns T n p).1 = false → ∀ h1 e1 F1 G1 P1, QC h1 b T (mns T n p).2.1 e1 F1 G1 P1 → fB b h h1 → Q (.inl (some (.inl (iZ 0)))) h1) → Ev (d + 2) 111 (26, [some (.inr (.inr (.inr (7, 0, 2)))), some (.inl (iZ (i)))], [], h) Q := by
  induction n with
  | zero =>
    intro i h p s Q hn l k1 k0
    have q0 := l.1
    have sh := qc_sh q0
    have hb := qc_b q0
    have w0 := qc_w q0
    have p0 := qc_p q0
    have t0 := qc_tk q0
    have l1 := w0.2.1
    refine Ev.sts 2 (c' := (30, [some (.inr (.inr (.inr (7, 0, 2)))), some (.inl (iZ (i)))], [.inl (iZ (400)), .inl (iZ (i))], h)) rfl ?_
    refine Ev.brT (p := (iZ (400)) ≤ (iZ (i))) (c1 := (61, [some (.inr (.inr (.inr (7, 0, 2)))), some (.inl (iZ (i)))], [], h)) (c2 := (33, [some (.inr (.inr (.inr (7, 0, 2)))), some (.inl (iZ (i)))], [], h)) ((iZ_le ⟨by omega, by omega⟩ ⟨by omega, by omega⟩).mpr (by omega)) rfl ?_
    refine Ev.sts 1 (c' := (62, [some (.inr (.inr (.inr (7, 0, 2)))), some (.inl (iZ (i)))], [.inr (.inr (.inr (7, 0, 2)))], h)) rfl ?_
    refine Ev.gfr (r := (9, 0, 3)) rfl (sh_2_0 (h := h) (qc_sh l.1)) ?_
    refine Ev.sts 1 (c' := (68, [some (.inr (.inr (.inr (7, 0, 2)))), some (.inl (iZ (i)))], [.inr (.inr (.inr (40, 0, 30))), .inr (.inr (.inr (9, 0, 3)))], h)) rfl ?_
    refine Ev.callw (a := [.inr (.inr (.inr (9, 0, 3))), .inr (.inr (.inr (40, 0, 30)))]) rfl (tc_skip l.1 (by first | decide | omega) (fun ky1 h1 q1 f1 => ?_) (fun ky1 => ?_))
    · have z1 := qc_p q1
      first | (have e1 : mns T 0 p = (true, p + 1, []) := (by exact mns_0s (by assumption)); rw [e1] at k1; exact Ev.ret rfl (k1 rfl _ (LC_fP l f1 q1) (fB_t (fB_r b h) (fB_P f1))))
    · first | (have e1 : mns T 0 p = (false, p, []) := (by exact mns_0n (by assumption)); rw [e1] at k0; exact Ev.ret rfl (k0 rfl _ _ _ _ _ l.1 (fB_r b h)))
  | succ n ih =>
    intro i h p s Q hn l k1 k0
    have q0 := l.1
    have sh := qc_sh q0
    have hb := qc_b q0
    have w0 := qc_w q0
    have p0 := qc_p q0
    have t0 := qc_tk q0
    have l1 := w0.2.1
    refine Ev.sts 2 (c' := (30, [some (.inr (.inr (.inr (7, 0, 2)))), some (.inl (iZ (i)))], [.inl (iZ (400)), .inl (iZ (i))], h)) rfl ?_
    refine Ev.brF (p := (iZ (400)) ≤ (iZ (i))) (c1 := (61, [some (.inr (.inr (.inr (7, 0, 2)))), some (.inl (iZ (i)))], [], h)) (c2 := (33, [some (.inr (.inr (.inr (7, 0, 2)))), some (.inl (iZ (i)))], [], h)) (fun c_ => absurd ((iZ_le ⟨by omega, by omega⟩ ⟨by omega, by omega⟩).mp c_) (by omega)) rfl ?_
    refine Ev.sts 1 (c' := (34, [some (.inr (.inr (.inr (7, 0, 2)))), some (.inl (iZ (i)))], [.inr (.inr (.inr (7, 0, 2)))], h)) rfl ?_
    refine Ev.gfr (r := (9, 0, 3)) rfl (sh_2_0 (h := h) (qc_sh l.1)) ?_
    refine Ev.sts 1 (c' := (40, [some (.inr (.inr (.inr (7, 0, 2)))), some (.inl (iZ (i)))], [.inr (.inr (.inr (40, 0, 31))), .inr (.inr (.inr (9, 0, 3)))], h)) rfl ?_
    refine Ev.callw (a := [.inr (.inr (.inr (9, 0, 3))), .inr (.inr (.inr (40, 0, 31)))]) rfl (tc_skip l.1 (by first | decide | omega) (fun ky1 h1 q1 f1 => ?_) (fun ky1 => ?_))
    · have z1 := qc_p q1
      refine Ev.brF (p := (iZ (1)) = (iZ (0))) (c1 := (61, [some (.inr (.inr (.inr (7, 0, 2)))), some (.inl (iZ (i)))], [], h1)) (c2 := (46, [some (.inr (.inr (.inr (7, 0, 2)))), some (.inl (iZ (i)))], [], h1)) (by decide) rfl ?_
      refine Ev.sts 1 (c' := (47, [some (.inr (.inr (.inr (7, 0, 2)))), some (.inl (iZ (i)))], [.inr (.inr (.inr (7, 0, 2)))], h1)) rfl ?_
      refine Ev.callw (a := [.inr (.inr (.inr (7, 0, 2)))]) rfl (tc_phase (LC_fP l f1 q1) (fun ky2 h2 l2 f2 => ?_) (fun ky2 g2 e2 F2 G2 P2 q2 f2 => ?_))
      · refine Ev.brT (p := ¬ (iZ (1)) = (iZ (0))) (c1 := (55, [some (.inr (.inr (.inr (7, 0, 2)))), some (.inl (iZ (i)))], [], h2)) (c2 := (53, [some (.inr (.inr (.inr (7, 0, 2)))), some (.inl (iZ (i)))], [], h2)) (by decide) rfl ?_
        refine Ev.stc (c1 := (58, [some (.inr (.inr (.inr (7, 0, 2)))), some (.inl ((iZ (i)) + (iZ (1))))], [], h2)) (c2 := (58, [some (.inr (.inr (.inr (7, 0, 2)))), some (.inl (iZ (i + 1)))], [], h2)) rfl (by rw [iZ_add]) ?_
        refine Ev.sts 1 (c' := (26, [some (.inr (.inr (.inr (7, 0, 2)))), some (.inl (iZ (i + 1)))], [], h2)) rfl ?_
        refine ih (i + 1) _ (p + 2) (smQ T s (p + 1)) _ (by omega) l2 (fun rr hz lz_ fz => ?_) (fun rr hz ez Fz Gz Pz qz fz => ?_)
        · have e1 := mns_c (n := n) (T := T) (p := p) (by assumption) (by assumption)
          rw [rr] at e1
          rw [e1] at k1
          exact k1 rfl hz lz_ (fB_t (fB_t (fB_t (fB_r b h) (fB_P f1)) f2) fz)
        · have e1 := mns_c (n := n) (T := T) (p := p) (by assumption) (by assumption)
          rw [rr] at e1
          rw [e1] at k0
          exact k0 rfl hz _ _ _ _ qz (fB_t (fB_t (fB_t (fB_r b h) (fB_P f1)) f2) fz)
      · refine Ev.brF (p := ¬ (iZ (0)) = (iZ (0))) (c1 := (55, [some (.inr (.inr (.inr (7, 0, 2)))), some (.inl (iZ (i)))], [], g2)) (c2 := (53, [some (.inr (.inr (.inr (7, 0, 2)))), some (.inl (iZ (i)))], [], g2)) (by decide) rfl ?_
        refine Ev.sts 1 (c' := (54, [some (.inr (.inr (.inr (7, 0, 2)))), some (.inl (iZ (i)))], [.inl (iZ (0))], g2)) rfl ?_
        first | (have e1 : mns T (n + 1) p = (false, p + 1, []) := (by exact mns_x (by assumption) (by assumption)); rw [e1] at k0; exact Ev.ret rfl (k0 rfl _ _ _ _ _ q2 (fB_t (fB_t (fB_r b h) (fB_P f1)) f2))) | (have e1 : mns T (n + 1) p = (false, p, []) := (by exact mns_n (by assumption) (by assumption)); rw [e1] at k0; exact Ev.ret rfl (k0 rfl _ _ _ _ _ q2 (fB_t (fB_t (fB_r b h) (fB_P f1)) f2)))
    · refine Ev.brT (p := (iZ (0)) = (iZ (0))) (c1 := (61, [some (.inr (.inr (.inr (7, 0, 2)))), some (.inl (iZ (i)))], [], h)) (c2 := (46, [some (.inr (.inr (.inr (7, 0, 2)))), some (.inl (iZ (i)))], [], h)) (by decide) rfl ?_
      refine Ev.sts 1 (c' := (62, [some (.inr (.inr (.inr (7, 0, 2)))), some (.inl (iZ (i)))], [.inr (.inr (.inr (7, 0, 2)))], h)) rfl ?_
      refine Ev.gfr (r := (9, 0, 3)) rfl (sh_2_0 (h := h) (qc_sh l.1)) ?_
      refine Ev.sts 1 (c' := (68, [some (.inr (.inr (.inr (7, 0, 2)))), some (.inl (iZ (i)))], [.inr (.inr (.inr (40, 0, 30))), .inr (.inr (.inr (9, 0, 3)))], h)) rfl ?_
      refine Ev.callw (a := [.inr (.inr (.inr (9, 0, 3))), .inr (.inr (.inr (40, 0, 30)))]) rfl (tc_skip l.1 (by first | decide | omega) (fun ky3 h3 q3 f3 => ?_) (fun ky3 => ?_))
      · have z3 := qc_p q3
        first | (have e1 : mns T (n + 1) p = (true, p + 1, []) := (by exact mns_s (by assumption) (by assumption)); rw [e1] at k1; exact Ev.ret rfl (k1 rfl _ (LC_fP l f3 q3) (fB_t (fB_r b h) (fB_P f3))))
      · first | (have e1 : mns T (n + 1) p = (false, p + 1, []) := (by exact mns_x (by assumption) (by assumption)); rw [e1] at k0; exact Ev.ret rfl (k0 rfl _ _ _ _ _ l.1 (fB_r b h))) | (have e1 : mns T (n + 1) p = (false, p, []) := (by exact mns_n (by assumption) (by assumption)); rw [e1] at k0; exact Ev.ret rfl (k0 rfl _ _ _ _ _ l.1 (fB_r b h)))

theorem tc_moon {d b p : Nat} {T : List Tok} {s : Sm} {h : PH} {Q : Rs → PH → Prop} (l : LCs h b T p s) (k1 : (moonF T p).1 = true → ∀ h1, LCs h1 b T (moonF T p).2.1 ((moonF T p).2.2.foldl (smQ T) s) → fB b h h1 → Q (.inl (some (.inl (iZ 1)))) h1) (k0 : (moonF T p).1 = false → ∀ h1 e1 F1 G1 P1, QC h1 b T (moonF T p).2.1 e1 F1 G1 P1 → fB b h h1 → Q (.inl (some (.inl (iZ 0)))) h1) : Rn (d + 2) 111 [.inr (.inr (.inr (7, 0, 2)))] h Q := by
  have q0 := l.1
  have sh := qc_sh q0
  have hb := qc_b q0
  have w0 := qc_w q0
  have p0 := qc_p q0
  have t0 := qc_tk q0
  have l1 := w0.2.1
  refine Ev.sts 1 (c' := (1, [some (.inr (.inr (.inr (7, 0, 2)))), none], [.inr (.inr (.inr (7, 0, 2)))], h)) rfl ?_
  refine Ev.gfr (r := (9, 0, 3)) rfl (sh_2_0 (h := h) (qc_sh l.1)) ?_
  refine Ev.sts 1 (c' := (7, [some (.inr (.inr (.inr (7, 0, 2)))), none], [.inr (.inr (.inr (40, 0, 4))), .inr (.inr (.inr (9, 0, 3)))], h)) rfl ?_
  refine Ev.callw (a := [.inr (.inr (.inr (9, 0, 3))), .inr (.inr (.inr (40, 0, 4)))]) rfl (tc_skip l.1 (by first | decide | omega) (fun ky1 h1 q1 f1 => ?_) (fun ky1 => ?_))
  · have z1 := qc_p q1
    refine Ev.brT (p := ¬ (iZ (1)) = (iZ (0))) (c1 := (15, [some (.inr (.inr (.inr (7, 0, 2)))), none], [], h1)) (c2 := (13, [some (.inr (.inr (.inr (7, 0, 2)))), none], [], h1)) (by decide) rfl ?_
    refine Ev.sts 1 (c' := (16, [some (.inr (.inr (.inr (7, 0, 2)))), none], [.inr (.inr (.inr (7, 0, 2)))], h1)) rfl ?_
    refine Ev.callw (a := [.inr (.inr (.inr (7, 0, 2)))]) rfl (tc_phase (LC_fP l f1 q1) (fun ky2 h2 l2 f2 => ?_) (fun ky2 g2 e2 F2 G2 P2 q2 f2 => ?_))
    · refine Ev.brT (p := ¬ (iZ (1)) = (iZ (0))) (c1 := (24, [some (.inr (.inr (.inr (7, 0, 2)))), none], [], h2)) (c2 := (22, [some (.inr (.inr (.inr (7, 0, 2)))), none], [], h2)) (by decide) rfl ?_
      refine Ev.sts 2 (c' := (26, [some (.inr (.inr (.inr (7, 0, 2)))), some (.inl (iZ (0)))], [], h2)) rfl ?_
      refine tc_moon_lp 400 0 _ (p + 2) (smQ T s (p + 1)) _ rfl l2 (fun rr hz lz_ fz => ?_) (fun rr hz ez Fz Gz Pz qz fz => ?_)
      · have e1 : moonF T p = ((mns T 400 (p + 2)).1, (mns T 400 (p + 2)).2.1, (p + 1) :: (mns T 400 (p + 2)).2.2) := by unfold moonF; rw [if_pos (by assumption), if_pos (by assumption)]
        rw [rr] at e1
        rw [e1] at k1
        exact k1 rfl hz lz_ (fB_t (fB_t (fB_t (fB_r b h) (fB_P f1)) f2) fz)
      · have e1 : moonF T p = ((mns T 400 (p + 2)).1, (mns T 400 (p + 2)).2.1, (p + 1) :: (mns T 400 (p + 2)).2.2) := by unfold moonF; rw [if_pos (by assumption), if_pos (by assumption)]
        rw [rr] at e1
        rw [e1] at k0
        exact k0 rfl hz _ _ _ _ qz (fB_t (fB_t (fB_t (fB_r b h) (fB_P f1)) f2) fz)
    · refine Ev.brF (p := ¬ (iZ (0)) = (iZ (0))) (c1 := (24, [some (.inr (.inr (.inr (7, 0, 2)))), none], [], g2)) (c2 := (22, [some (.inr (.inr (.inr (7, 0, 2)))), none], [], g2)) (by decide) rfl ?_
      refine Ev.sts 1 (c' := (23, [some (.inr (.inr (.inr (7, 0, 2)))), none], [.inl (iZ (0))], g2)) rfl ?_
      first | (have e1 : moonF T p = (false, p + 1, []) := (by unfold moonF; rw [if_pos (by assumption), if_neg (by assumption)]); rw [e1] at k0; exact Ev.ret rfl (k0 rfl _ _ _ _ _ q2 (fB_t (fB_t (fB_r b h) (fB_P f1)) f2)))
  · refine Ev.brF (p := ¬ (iZ (0)) = (iZ (0))) (c1 := (15, [some (.inr (.inr (.inr (7, 0, 2)))), none], [], h)) (c2 := (13, [some (.inr (.inr (.inr (7, 0, 2)))), none], [], h)) (by decide) rfl ?_
    refine Ev.sts 1 (c' := (14, [some (.inr (.inr (.inr (7, 0, 2)))), none], [.inl (iZ (1))], h)) rfl ?_
    first | (have e1 : moonF T p = (true, p, []) := (by unfold moonF; rw [if_neg (by assumption)]); rw [e1] at k1; exact Ev.ret rfl (k1 rfl _ l (fB_r b h)))

theorem tc_ln_x {d i : Nat} {h : PH} {Q : Rs → PH → Prop} (hi : i ≤ 400) (q : Ev d 110 (61, [some (.inr (.inr (.inr (7, 0, 2)))), some (.inl (iZ (0))), some (.inl (iZ (i)))], [], h) Q) : Ev d 110 (26, [some (.inr (.inr (.inr (7, 0, 2)))), some (.inl (iZ (0))), some (.inl (iZ (i)))], [], h) Q := by
  refine Ev.sts 2 (c' := (30, [some (.inr (.inr (.inr (7, 0, 2)))), some (.inl (iZ (0))), some (.inl (iZ (i)))], [.inl (iZ (400)), .inl (iZ (i))], h)) rfl ?_
  refine Ev.brc (p := (iZ (400)) ≤ (iZ (i))) (q := ((400 : Int)) ≤ i) (c1 := (61, [some (.inr (.inr (.inr (7, 0, 2)))), some (.inl (iZ (0))), some (.inl (iZ (i)))], [], h)) (c2 := (33, [some (.inr (.inr (.inr (7, 0, 2)))), some (.inl (iZ (0))), some (.inl (iZ (i)))], [], h)) rfl (iZ_le ⟨by omega, by omega⟩ ⟨by omega, by omega⟩) (fun c0 => ?_) (fun c0 => ?_)
  · exact q
  · refine Ev.sts 1 (c' := (34, [some (.inr (.inr (.inr (7, 0, 2)))), some (.inl (iZ (0))), some (.inl (iZ (i)))], [.inl (iZ (0))], h)) rfl ?_
    refine Ev.brT (p := (iZ (0)) = (iZ (0))) (c1 := (61, [some (.inr (.inr (.inr (7, 0, 2)))), some (.inl (iZ (0))), some (.inl (iZ (i)))], [], h)) (c2 := (37, [some (.inr (.inr (.inr (7, 0, 2)))), some (.inl (iZ (0))), some (.inl (iZ (i)))], [], h)) (by decide) rfl ?_
    exact q

theorem tc_lines_lp {d b : Nat} {T : List Tok} (n : Nat) : ∀ (i : Nat) (h : PH) (p : Nat) (s : Sm) (Q : Rs → PH → Prop), i + n = 400 → LCs h b T p s → (smP s).length ≤ p → ((lnsF T n p).1 = true → ∀ (h1 : PH) (j : Int), LCs h1 b T (lnsF T n p).2.1 ((lnsF T n p).2.2.foldl (smL T) s) → fB b h h1 → Ev (d + 46) 110 (61, [some (.inr (.inr (.inr (7, 0, 2)))), some (.inl (iZ (1))), some (.inl (iZ (j)))], [], h1) Q) → ((lnsF T n p).1 = false → ∀ (h1 : PH) (j : Int) e1 F1 G1 P1, QC h1 b T (lnsF T n p).2.1 e1 F1 G1 P1 → fB b h h1 → Ev (d + 46) 110 (61, [some (.inr (.inr (.inr (7, 0, 2)))), some (.inl (iZ (0))), some (.inl (iZ (j)))], [], h1) Q) → Ev (d + 46) 110 (26, [some (.inr (.inr (.inr (7, 0, 2)))), some (.inl (iZ (1))), some (.inl (iZ (i)))], [], h) Q := by
  induction n with
  | zero =>
    intro i h p s Q hn l hp k1 k0
    have q0 := l.1
    have sh := qc_sh q0
    have hb := qc_b q0
    have w0 := qc_w q0
    have p0 := qc_p q0
    have t0 := qc_tk q0
    have l1 := w0.2.1
    refine Ev.sts 2 (c' := (30, [some (.inr (.inr (.inr (7, 0, 2)))), some (.inl (iZ (1))), some (.inl (iZ (i)))], [.inl (iZ (400)), .inl (iZ (i))], h)) rfl ?_
    refine Ev.brT (p := (iZ (400)) ≤ (iZ (i))) (c1 := (61, [some (.inr (.inr (.inr (7, 0, 2)))), some (.inl (iZ (1))), some (.inl (iZ (i)))], [], h)) (c2 := (33, [some (.inr (.inr (.inr (7, 0, 2)))), some (.inl (iZ (1))), some (.inl (iZ (i)))], [], h)) ((iZ_le ⟨by omega, by omega⟩ ⟨by omega, by omega⟩).mpr (by omega)) rfl ?_
    exact k1 rfl _ _ l (fB_r b h)
  | succ n ih =>
    intro i h p s Q hn l hp k1 k0
    have q0 := l.1
    have sh := qc_sh q0
    have hb := qc_b q0
    have w0 := qc_w q0
    have p0 := qc_p q0
    have t0 := qc_tk q0
    have l1 := w0.2.1
    refine Ev.sts 2 (c' := (30, [some (.inr (.inr (.inr (7, 0, 2)))), some (.inl (iZ (1))), some (.inl (iZ (i)))], [.inl (iZ (400)), .inl (iZ (i))], h)) rfl ?_
    refine Ev.brF (p := (iZ (400)) ≤ (iZ (i))) (c1 := (61, [some (.inr (.inr (.inr (7, 0, 2)))), some (.inl (iZ (1))), some (.inl (iZ (i)))], [], h)) (c2 := (33, [some (.inr (.inr (.inr (7, 0, 2)))), some (.inl (iZ (1))), some (.inl (iZ (i)))], [], h)) (fun c_ => absurd ((iZ_le ⟨by omega, by omega⟩ ⟨by omega, by omega⟩).mp c_) (by omega)) rfl ?_
    refine Ev.sts 1 (c' := (34, [some (.inr (.inr (.inr (7, 0, 2)))), some (.inl (iZ (1))), some (.inl (iZ (i)))], [.inl (iZ (1))], h)) rfl ?_
    refine Ev.brF (p := (iZ (1)) = (iZ (0))) (c1 := (61, [some (.inr (.inr (.inr (7, 0, 2)))), some (.inl (iZ (1))), some (.inl (iZ (i)))], [], h)) (c2 := (37, [some (.inr (.inr (.inr (7, 0, 2)))), some (.inl (iZ (1))), some (.inl (iZ (i)))], [], h)) (by decide) rfl ?_
    refine Ev.sts 1 (c' := (38, [some (.inr (.inr (.inr (7, 0, 2)))), some (.inl (iZ (1))), some (.inl (iZ (i)))], [.inr (.inr (.inr (7, 0, 2)))], h)) rfl ?_
    refine Ev.gfr (r := (9, 0, 3)) rfl (sh_2_0 (h := h) (qc_sh l.1)) ?_
    refine Ev.callv (a := [.inr (.inr (.inr (9, 0, 3)))]) rfl (tc_kind l.1) ?_
    refine Ev.sts 1 (c' := (47, [some (.inr (.inr (.inr (7, 0, 2)))), some (.inl (iZ (1))), some (.inl (iZ (i)))], [.inr (.inr (.inr (40, 0, 0))), .inr (.inr (.inr (40, 0, (tK T p))))], h)) rfl ?_
    refine Ev.br (p := (tK T p) = 0) (c1 := (61, [some (.inr (.inr (.inr (7, 0, 2)))), some (.inl (iZ (1))), some (.inl (iZ (i)))], [], h)) (c2 := (50, [some (.inr (.inr (.inr (7, 0, 2)))), some (.inl (iZ (1))), some (.inl (iZ (i)))], [], h)) rfl (fun c0 => ?_) (fun c0 => ?_)
    · have e1 := lns_e (n := n) (T := T) (p := p) (by assumption)
      rw [e1] at k1
      exact k1 rfl _ _ l (fB_r b h)
    · refine Ev.sts 1 (c' := (51, [some (.inr (.inr (.inr (7, 0, 2)))), some (.inl (iZ (1))), some (.inl (iZ (i)))], [.inr (.inr (.inr (7, 0, 2)))], h)) rfl ?_
      refine Ev.callw (a := [.inr (.inr (.inr (7, 0, 2)))]) rfl (tc_line l hp (fun r1 h1 l1 n1 f1 => ?_) (fun r1 g1 e1 F1 G1 P1 q1 f1 => ?_))
      · refine Ev.sts 1 (c' := (55, [some (.inr (.inr (.inr (7, 0, 2)))), some (.inl (iZ (1))), some (.inl (iZ (i)))], [], h1)) rfl ?_
        refine Ev.stc (c1 := (58, [some (.inr (.inr (.inr (7, 0, 2)))), some (.inl (iZ (1))), some (.inl ((iZ (i)) + (iZ (1))))], [], h1)) (c2 := (58, [some (.inr (.inr (.inr (7, 0, 2)))), some (.inl (iZ (1))), some (.inl (iZ (i + 1)))], [], h1)) rfl (by rw [iZ_add]) ?_
        refine Ev.sts 1 (c' := (26, [some (.inr (.inr (.inr (7, 0, 2)))), some (.inl (iZ (1))), some (.inl (iZ (i + 1)))], [], h1)) rfl ?_
        refine ih (i + 1) _ _ _ _ (by omega) l1 n1 (fun rr hz jz lz_ fz => ?_) (fun rr hz jz ez Fz Gz Pz qz fz => ?_)
        · have e1 := lns_l (n := n) (T := T) (p := p) (by assumption) (by assumption)
          rw [rr] at e1
          rw [e1] at k1
          exact k1 rfl hz jz lz_ (fB_t (fB_t (fB_r b h) f1) fz)
        · have e1 := lns_l (n := n) (T := T) (p := p) (by assumption) (by assumption)
          rw [rr] at e1
          rw [e1] at k0
          exact k0 rfl hz jz _ _ _ _ qz (fB_t (fB_t (fB_r b h) f1) fz)
      · refine Ev.sts 1 (c' := (55, [some (.inr (.inr (.inr (7, 0, 2)))), some (.inl (iZ (0))), some (.inl (iZ (i)))], [], g1)) rfl ?_
        refine Ev.stc (c1 := (58, [some (.inr (.inr (.inr (7, 0, 2)))), some (.inl (iZ (0))), some (.inl ((iZ (i)) + (iZ (1))))], [], g1)) (c2 := (58, [some (.inr (.inr (.inr (7, 0, 2)))), some (.inl (iZ (0))), some (.inl (iZ (i + 1)))], [], g1)) rfl (by rw [iZ_add]) ?_
        refine Ev.sts 1 (c' := (26, [some (.inr (.inr (.inr (7, 0, 2)))), some (.inl (iZ (0))), some (.inl (iZ (i + 1)))], [], g1)) rfl ?_
        have e1 := lns_x (n := n) (T := T) (p := p) (by assumption) (by assumption)
        rw [e1] at k0
        exact tc_ln_x (d := (d + 46)) (i := i + 1) (by omega) (k0 rfl _ _ _ _ _ _ q1 (fB_t (fB_r b h) f1))

