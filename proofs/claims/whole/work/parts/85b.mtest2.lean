/-! The reference reads tests: nots, and, or. -/
theorem mr_nt_lp {d sc : Nat} {x : Int} {T : List Tok} {N : List (Int × Int)} (n : Nat) : ∀ (tb : Bool) (h : PH) (p : Nat) (W : List Int) (Q : Rs → PH → Prop), 400 ≤ p + n → QM h T sc p N W → W.length ≤ 2 * p → (∀ (h1 : PH), QM h1 T sc (nts T n p tb).1 N W → fR h h1 → Ev (d + 2) 198 (25, [some (.inr (.inr (.inr (11, 0, 83)))), some (.inl (iZ (x))), some (.inl (iZ (bI (nts T n p tb).2)))], [], h1) Q) → Ev (d + 2) 198 (2, [some (.inr (.inr (.inr (11, 0, 83)))), some (.inl (iZ (x))), some (.inl (iZ (bI tb)))], [], h) Q := by
  induction n with
  | zero =>
    intro tb h p W Q hn q0 hp q
    have sh := qm_sh q0
    have w0 := qm_w q0
    have p0 := qm_p q0
    have t0 := qm_tk q0
    have l1 := w0.2.1
    have s1 := qm_s q0
    have tb0 := tBk w0 p
    have sb0 := sr_b (tK T p)
    have kz := tK_400 w0 (show 400 ≤ p by omega)
    cases tb with
    | false =>
      show Ev (d + 2) 198 (2, [some (.inr (.inr (.inr (11, 0, 83)))), some (.inl (iZ (x))), some (.inl (iZ (0)))], [], h) Q
      refine Ev.sts 2 (c' := (6, [some (.inr (.inr (.inr (11, 0, 83)))), some (.inl (iZ (x))), some (.inl (iZ (0)))], [.inr (.inl ((14836 : Int64))), .inr (.inr (.inr (11, 0, 83)))], h)) rfl ?_
      refine Ev.callw (a := [.inr (.inr (.inr (11, 0, 83))), .inr (.inl ((14836 : Int64)))]) rfl (mf_ifWord (K := 8) q0 (by decide) (by decide) (fun ky1 h1 q1 f1 => ?_) (fun ky1 => ?_))
      · have z1 := qm_p q1
        refine Ev.brF (p := (iZ (1)) = (iZ (0))) (c1 := (25, [some (.inr (.inr (.inr (11, 0, 83)))), some (.inl (iZ (x))), some (.inl (iZ (0)))], [], h1)) (c2 := (12, [some (.inr (.inr (.inr (11, 0, 83)))), some (.inl (iZ (x))), some (.inl (iZ (0)))], [], h1)) (by decide) rfl ?_
        exfalso; omega
      · refine Ev.brT (p := (iZ (0)) = (iZ (0))) (c1 := (25, [some (.inr (.inr (.inr (11, 0, 83)))), some (.inl (iZ (x))), some (.inl (iZ (0)))], [], h)) (c2 := (12, [some (.inr (.inr (.inr (11, 0, 83)))), some (.inl (iZ (x))), some (.inl (iZ (0)))], [], h)) (by decide) rfl ?_
        exact q _ q0 (fR_r h)
    | true =>
      show Ev (d + 2) 198 (2, [some (.inr (.inr (.inr (11, 0, 83)))), some (.inl (iZ (x))), some (.inl (iZ (1)))], [], h) Q
      refine Ev.sts 2 (c' := (6, [some (.inr (.inr (.inr (11, 0, 83)))), some (.inl (iZ (x))), some (.inl (iZ (1)))], [.inr (.inl ((14836 : Int64))), .inr (.inr (.inr (11, 0, 83)))], h)) rfl ?_
      refine Ev.callw (a := [.inr (.inr (.inr (11, 0, 83))), .inr (.inl ((14836 : Int64)))]) rfl (mf_ifWord (K := 8) q0 (by decide) (by decide) (fun ky1 h1 q1 f1 => ?_) (fun ky1 => ?_))
      · have z1 := qm_p q1
        refine Ev.brF (p := (iZ (1)) = (iZ (0))) (c1 := (25, [some (.inr (.inr (.inr (11, 0, 83)))), some (.inl (iZ (x))), some (.inl (iZ (1)))], [], h1)) (c2 := (12, [some (.inr (.inr (.inr (11, 0, 83)))), some (.inl (iZ (x))), some (.inl (iZ (1)))], [], h1)) (by decide) rfl ?_
        exfalso; omega
      · refine Ev.brT (p := (iZ (0)) = (iZ (0))) (c1 := (25, [some (.inr (.inr (.inr (11, 0, 83)))), some (.inl (iZ (x))), some (.inl (iZ (1)))], [], h)) (c2 := (12, [some (.inr (.inr (.inr (11, 0, 83)))), some (.inl (iZ (x))), some (.inl (iZ (1)))], [], h)) (by decide) rfl ?_
        exact q _ q0 (fR_r h)
  | succ n ih =>
    intro tb h p W Q hn q0 hp q
    have sh := qm_sh q0
    have w0 := qm_w q0
    have p0 := qm_p q0
    have t0 := qm_tk q0
    have l1 := w0.2.1
    have s1 := qm_s q0
    have tb0 := tBk w0 p
    have sb0 := sr_b (tK T p)
    cases tb with
    | false =>
      show Ev (d + 2) 198 (2, [some (.inr (.inr (.inr (11, 0, 83)))), some (.inl (iZ (x))), some (.inl (iZ (0)))], [], h) Q
      refine Ev.sts 2 (c' := (6, [some (.inr (.inr (.inr (11, 0, 83)))), some (.inl (iZ (x))), some (.inl (iZ (0)))], [.inr (.inl ((14836 : Int64))), .inr (.inr (.inr (11, 0, 83)))], h)) rfl ?_
      refine Ev.callw (a := [.inr (.inr (.inr (11, 0, 83))), .inr (.inl ((14836 : Int64)))]) rfl (mf_ifWord (K := 8) q0 (by decide) (by decide) (fun ky1 h1 q1 f1 => ?_) (fun ky1 => ?_))
      · have z1 := qm_p q1
        refine Ev.brF (p := (iZ (1)) = (iZ (0))) (c1 := (25, [some (.inr (.inr (.inr (11, 0, 83)))), some (.inl (iZ (x))), some (.inl (iZ (0)))], [], h1)) (c2 := (12, [some (.inr (.inr (.inr (11, 0, 83)))), some (.inl (iZ (x))), some (.inl (iZ (0)))], [], h1)) (by decide) rfl ?_
        refine Ev.sts 1 (c' := (13, [some (.inr (.inr (.inr (11, 0, 83)))), some (.inl (iZ (x))), some (.inl (iZ (0)))], [.inl (iZ (0))], h1)) rfl ?_
        refine Ev.brF (p := ¬ (iZ (0)) = (iZ (0))) (c1 := (20, [some (.inr (.inr (.inr (11, 0, 83)))), some (.inl (iZ (x))), some (.inl (iZ (0)))], [], h1)) (c2 := (16, [some (.inr (.inr (.inr (11, 0, 83)))), some (.inl (iZ (x))), some (.inl (iZ (0)))], [], h1)) (by decide) rfl ?_
        refine Ev.sts 4 (c' := (2, [some (.inr (.inr (.inr (11, 0, 83)))), some (.inl (iZ (x))), some (.inl (iZ (1)))], [], h1)) rfl ?_
        refine ih true _ _ _ _ (by omega) q1 (by first | omega | (simp only [List.length_append, List.length_cons, List.length_nil, List.length_map]; omega)) (fun hz qz fz => ?_)
        have e2 : nts T (n + 1) p false = nts T n (p + 1) true := nts_t (by assumption)
        rw [e2] at q
        exact q hz qz (fR_t (fR_t (fR_r h) f1) fz)
      · refine Ev.brT (p := (iZ (0)) = (iZ (0))) (c1 := (25, [some (.inr (.inr (.inr (11, 0, 83)))), some (.inl (iZ (x))), some (.inl (iZ (0)))], [], h)) (c2 := (12, [some (.inr (.inr (.inr (11, 0, 83)))), some (.inl (iZ (x))), some (.inl (iZ (0)))], [], h)) (by decide) rfl ?_
        have e2 : nts T (n + 1) p false = (p, false) := nts_f (by assumption)
        rw [e2] at q
        exact q _ q0 (fR_r h)
    | true =>
      show Ev (d + 2) 198 (2, [some (.inr (.inr (.inr (11, 0, 83)))), some (.inl (iZ (x))), some (.inl (iZ (1)))], [], h) Q
      refine Ev.sts 2 (c' := (6, [some (.inr (.inr (.inr (11, 0, 83)))), some (.inl (iZ (x))), some (.inl (iZ (1)))], [.inr (.inl ((14836 : Int64))), .inr (.inr (.inr (11, 0, 83)))], h)) rfl ?_
      refine Ev.callw (a := [.inr (.inr (.inr (11, 0, 83))), .inr (.inl ((14836 : Int64)))]) rfl (mf_ifWord (K := 8) q0 (by decide) (by decide) (fun ky1 h1 q1 f1 => ?_) (fun ky1 => ?_))
      · have z1 := qm_p q1
        refine Ev.brF (p := (iZ (1)) = (iZ (0))) (c1 := (25, [some (.inr (.inr (.inr (11, 0, 83)))), some (.inl (iZ (x))), some (.inl (iZ (1)))], [], h1)) (c2 := (12, [some (.inr (.inr (.inr (11, 0, 83)))), some (.inl (iZ (x))), some (.inl (iZ (1)))], [], h1)) (by decide) rfl ?_
        refine Ev.sts 1 (c' := (13, [some (.inr (.inr (.inr (11, 0, 83)))), some (.inl (iZ (x))), some (.inl (iZ (1)))], [.inl (iZ (1))], h1)) rfl ?_
        refine Ev.brT (p := ¬ (iZ (1)) = (iZ (0))) (c1 := (20, [some (.inr (.inr (.inr (11, 0, 83)))), some (.inl (iZ (x))), some (.inl (iZ (1)))], [], h1)) (c2 := (16, [some (.inr (.inr (.inr (11, 0, 83)))), some (.inl (iZ (x))), some (.inl (iZ (1)))], [], h1)) (by decide) rfl ?_
        refine Ev.sts 3 (c' := (2, [some (.inr (.inr (.inr (11, 0, 83)))), some (.inl (iZ (x))), some (.inl (iZ (0)))], [], h1)) rfl ?_
        refine ih false _ _ _ _ (by omega) q1 (by first | omega | (simp only [List.length_append, List.length_cons, List.length_nil, List.length_map]; omega)) (fun hz qz fz => ?_)
        have e2 : nts T (n + 1) p true = nts T n (p + 1) false := nts_t (by assumption)
        rw [e2] at q
        exact q hz qz (fR_t (fR_t (fR_r h) f1) fz)
      · refine Ev.brT (p := (iZ (0)) = (iZ (0))) (c1 := (25, [some (.inr (.inr (.inr (11, 0, 83)))), some (.inl (iZ (x))), some (.inl (iZ (1)))], [], h)) (c2 := (12, [some (.inr (.inr (.inr (11, 0, 83)))), some (.inl (iZ (x))), some (.inl (iZ (1)))], [], h)) (by decide) rfl ?_
        have e2 : nts T (n + 1) p true = (p, true) := nts_f (by assumption)
        rw [e2] at q
        exact q _ q0 (fR_r h)

theorem mr_sg_e {D d lv sc : Nat} {x : Int} {T : List Tok} {N : List (Int × Int)} {F : List Int} {sub val : Nat → Rz} (hD : D ≤ d) (hk : TMK D 199 x T sc N F (kpS T lv sub val)) (gk : gdS T (okTs T) (kpS T lv sub val)) (tb : Bool) {h : PH} {p : Nat} {W : List Int} {Q : Rs → PH → Prop} (q0 : QM h T sc p N W) (hp : W.length ≤ 2 * p) (hp2 : tb = true → W.length + 2 ≤ 2 * p) (hs1 : sc = 1 → (kpS T lv sub val p).1 = true) (kok : (kpS T lv sub val p).1 = true → (sc = 1 → (fb T F (kpS T lv sub val p).2.2).1 = 0) → ∀ h1, QM h1 T sc (kpS T lv sub val p).2.1 N (W ++ wds (((kpS T lv sub val p).2.2 ++ (if tb = true then [(8, 0)] else [])).map (rsl T F))) → fR h h1 → Q (.inl (some (.inl (iZ 1)))) h1) (kno : (kpS T lv sub val p).1 = false → sc = 0 → ∀ h1, erM h1 T 1 (kpS T lv sub val p).2.1 → fR h h1 → Q (.inl (some (.inl (iZ 0)))) h1) (kbd : sc = 1 → (kpS T lv sub val p).1 = true → (fb T F (kpS T lv sub val p).2.2).1 ≠ 0 → ∀ h1, erM h1 T 3 (fb T F (kpS T lv sub val p).2.2).2 → fR h h1 → Q (.inl (some (.inl (iZ 0)))) h1) : Ev (d + 1) 198 (25, [some (.inr (.inr (.inr (11, 0, 83)))), some (.inl (iZ (x))), some (.inl (iZ (bI tb)))], [], h) Q := by
  have sh := qm_sh q0
  have w0 := qm_w q0
  have p0 := qm_p q0
  have t0 := qm_tk q0
  have l1 := w0.2.1
  have s1 := qm_s q0
  have tb0 := tBk w0 p
  have sb0 := sr_b (tK T p)
  cases tb with
  | false =>
    show Ev (d + 1) 198 (25, [some (.inr (.inr (.inr (11, 0, 83)))), some (.inl (iZ (x))), some (.inl (iZ (0)))], [], h) Q
    refine Ev.sts 2 (c' := (27, [some (.inr (.inr (.inr (11, 0, 83)))), some (.inl (iZ (x))), some (.inl (iZ (0)))], [.inl (iZ (x)), .inr (.inr (.inr (11, 0, 83)))], h)) rfl ?_
    refine Ev.callw (a := [.inr (.inr (.inr (11, 0, 83))), .inl (iZ (x))]) rfl (hk _ (by omega) _ _ _ _ q0 (by first | omega | (simp only [List.length_append, List.length_cons, List.length_nil, List.length_map]; omega)) hs1 (fun r1 fq1 h1 q1 f1 => ?_) (fun r1 s1_ g1 a1 f1 => ?_) (fun s1_ r1 u1 b1 a1 f1 => ?_))
    · obtain ⟨x1, y1, -⟩ := gk _ r1
      have z1 := qm_p q1
      have w1 := wds_m T F ((kpS T lv sub val) p).2.2
      refine Ev.brT (p := ¬ (iZ (1)) = (iZ (0))) (c1 := (35, [some (.inr (.inr (.inr (11, 0, 83)))), some (.inl (iZ (x))), some (.inl (iZ (0)))], [], h1)) (c2 := (33, [some (.inr (.inr (.inr (11, 0, 83)))), some (.inl (iZ (x))), some (.inl (iZ (0)))], [], h1)) (by decide) rfl ?_
      refine Ev.sts 1 (c' := (36, [some (.inr (.inr (.inr (11, 0, 83)))), some (.inl (iZ (x))), some (.inl (iZ (0)))], [.inl (iZ (0))], h1)) rfl ?_
      refine Ev.brT (p := (iZ (0)) = (iZ (0))) (c1 := (45, [some (.inr (.inr (.inr (11, 0, 83)))), some (.inl (iZ (x))), some (.inl (iZ (0)))], [], h1)) (c2 := (39, [some (.inr (.inr (.inr (11, 0, 83)))), some (.inl (iZ (x))), some (.inl (iZ (0)))], [], h1)) (by decide) rfl ?_
      refine Ev.sts 1 (c' := (46, [some (.inr (.inr (.inr (11, 0, 83)))), some (.inl (iZ (x))), some (.inl (iZ (0)))], [.inl (iZ (1))], h1)) rfl ?_
      exact Ev.ret rfl (kok (by assumption) fq1 _ (by rw [if_neg (by decide), List.append_nil]; exact q1) (fR_t (fR_r h) f1))
    · refine Ev.brF (p := ¬ (iZ (0)) = (iZ (0))) (c1 := (35, [some (.inr (.inr (.inr (11, 0, 83)))), some (.inl (iZ (x))), some (.inl (iZ (0)))], [], g1)) (c2 := (33, [some (.inr (.inr (.inr (11, 0, 83)))), some (.inl (iZ (x))), some (.inl (iZ (0)))], [], g1)) (by decide) rfl ?_
      refine Ev.sts 1 (c' := (34, [some (.inr (.inr (.inr (11, 0, 83)))), some (.inl (iZ (x))), some (.inl (iZ (0)))], [.inl (iZ (0))], g1)) rfl ?_
      first | exact Ev.ret rfl (kno (by assumption) (by assumption) _ a1 (fR_t (fR_r h) f1)) | exact Ev.ret rfl (kbd (by assumption) (by assumption) (by assumption) _ a1 (fR_t (fR_r h) f1))
    · refine Ev.brF (p := ¬ (iZ (0)) = (iZ (0))) (c1 := (35, [some (.inr (.inr (.inr (11, 0, 83)))), some (.inl (iZ (x))), some (.inl (iZ (0)))], [], b1)) (c2 := (33, [some (.inr (.inr (.inr (11, 0, 83)))), some (.inl (iZ (x))), some (.inl (iZ (0)))], [], b1)) (by decide) rfl ?_
      refine Ev.sts 1 (c' := (34, [some (.inr (.inr (.inr (11, 0, 83)))), some (.inl (iZ (x))), some (.inl (iZ (0)))], [.inl (iZ (0))], b1)) rfl ?_
      first | exact Ev.ret rfl (kno (by assumption) (by assumption) _ a1 (fR_t (fR_r h) f1)) | exact Ev.ret rfl (kbd (by assumption) (by assumption) (by assumption) _ a1 (fR_t (fR_r h) f1))
  | true =>
    have hp3 := hp2 rfl
    show Ev (d + 1) 198 (25, [some (.inr (.inr (.inr (11, 0, 83)))), some (.inl (iZ (x))), some (.inl (iZ (1)))], [], h) Q
    refine Ev.sts 2 (c' := (27, [some (.inr (.inr (.inr (11, 0, 83)))), some (.inl (iZ (x))), some (.inl (iZ (1)))], [.inl (iZ (x)), .inr (.inr (.inr (11, 0, 83)))], h)) rfl ?_
    refine Ev.callw (a := [.inr (.inr (.inr (11, 0, 83))), .inl (iZ (x))]) rfl (hk _ (by omega) _ _ _ _ q0 (by first | omega | (simp only [List.length_append, List.length_cons, List.length_nil, List.length_map]; omega)) hs1 (fun r1 fq1 h1 q1 f1 => ?_) (fun r1 s1_ g1 a1 f1 => ?_) (fun s1_ r1 u1 b1 a1 f1 => ?_))
    · obtain ⟨x1, y1, -⟩ := gk _ r1
      have z1 := qm_p q1
      have w1 := wds_m T F ((kpS T lv sub val) p).2.2
      refine Ev.brT (p := ¬ (iZ (1)) = (iZ (0))) (c1 := (35, [some (.inr (.inr (.inr (11, 0, 83)))), some (.inl (iZ (x))), some (.inl (iZ (1)))], [], h1)) (c2 := (33, [some (.inr (.inr (.inr (11, 0, 83)))), some (.inl (iZ (x))), some (.inl (iZ (1)))], [], h1)) (by decide) rfl ?_
      refine Ev.sts 1 (c' := (36, [some (.inr (.inr (.inr (11, 0, 83)))), some (.inl (iZ (x))), some (.inl (iZ (1)))], [.inl (iZ (1))], h1)) rfl ?_
      refine Ev.brF (p := (iZ (1)) = (iZ (0))) (c1 := (45, [some (.inr (.inr (.inr (11, 0, 83)))), some (.inl (iZ (x))), some (.inl (iZ (1)))], [], h1)) (c2 := (39, [some (.inr (.inr (.inr (11, 0, 83)))), some (.inl (iZ (x))), some (.inl (iZ (1)))], [], h1)) (by decide) rfl ?_
      refine Ev.sts 2 (c' := (42, [some (.inr (.inr (.inr (11, 0, 83)))), some (.inl (iZ (x))), some (.inl (iZ (1)))], [.inl (iZ (9)), .inr (.inr (.inr (11, 0, 83)))], h1)) rfl ?_
      refine Ev.callw (a := [.inr (.inr (.inr (11, 0, 83))), .inl (iZ (9))]) rfl (mf_put q1 (by first | omega | (simp only [List.length_append, List.length_cons, List.length_nil, List.length_map]; omega)) (fun h2 q2 f2 => ?_))
      refine Ev.sts 1 (c' := (46, [some (.inr (.inr (.inr (11, 0, 83)))), some (.inl (iZ (x))), some (.inl (iZ (1)))], [.inl (iZ (1))], h2)) rfl ?_
      exact Ev.ret rfl (kok (by assumption) fq1 _ (by rw [if_pos rfl, List.map_append, wds_app, ← List.append_assoc]; exact q2) (fR_t (fR_t (fR_r h) f1) f2))
    · refine Ev.brF (p := ¬ (iZ (0)) = (iZ (0))) (c1 := (35, [some (.inr (.inr (.inr (11, 0, 83)))), some (.inl (iZ (x))), some (.inl (iZ (1)))], [], g1)) (c2 := (33, [some (.inr (.inr (.inr (11, 0, 83)))), some (.inl (iZ (x))), some (.inl (iZ (1)))], [], g1)) (by decide) rfl ?_
      refine Ev.sts 1 (c' := (34, [some (.inr (.inr (.inr (11, 0, 83)))), some (.inl (iZ (x))), some (.inl (iZ (1)))], [.inl (iZ (0))], g1)) rfl ?_
      first | exact Ev.ret rfl (kno (by assumption) (by assumption) _ a1 (fR_t (fR_r h) f1)) | exact Ev.ret rfl (kbd (by assumption) (by assumption) (by assumption) _ a1 (fR_t (fR_r h) f1))
    · refine Ev.brF (p := ¬ (iZ (0)) = (iZ (0))) (c1 := (35, [some (.inr (.inr (.inr (11, 0, 83)))), some (.inl (iZ (x))), some (.inl (iZ (1)))], [], b1)) (c2 := (33, [some (.inr (.inr (.inr (11, 0, 83)))), some (.inl (iZ (x))), some (.inl (iZ (1)))], [], b1)) (by decide) rfl ?_
      refine Ev.sts 1 (c' := (34, [some (.inr (.inr (.inr (11, 0, 83)))), some (.inl (iZ (x))), some (.inl (iZ (1)))], [.inl (iZ (0))], b1)) rfl ?_
      first | exact Ev.ret rfl (kno (by assumption) (by assumption) _ a1 (fR_t (fR_r h) f1)) | exact Ev.ret rfl (kbd (by assumption) (by assumption) (by assumption) _ a1 (fR_t (fR_r h) f1))

theorem mr_single {D lv sc : Nat} {x : Int} {T : List Tok} {N : List (Int × Int)} {F : List Int} {sub val : Nat → Rz} (hk9 : TMK D 199 x T sc N F (kpS T lv sub val)) (gk : gdS T (okTs T) (kpS T lv sub val)) : TMK (D + 2) 198 x T sc N F (sgS T lv sub val) := by
  intro k hk h p W Q q0 hp hs1 kok kno kbd
  have sh := qm_sh q0
  have w0 := qm_w q0
  have p0 := qm_p q0
  have t0 := qm_tk q0
  have l1 := w0.2.1
  have s1 := qm_s q0
  have tb0 := tBk w0 p
  have sb0 := sr_b (tK T p)
  obtain ⟨d, rfl⟩ : ∃ d, k = d + 2 := ⟨k - 2, by omega⟩
  refine Ev.sts 2 (c' := (2, [some (.inr (.inr (.inr (11, 0, 83)))), some (.inl (iZ (x))), some (.inl (iZ (0)))], [], h)) rfl ?_
  have ng := nts_ge T 400 p false
  refine mr_nt_lp (d := d) 400 false _ _ _ _ (by omega) q0 hp (fun hz qz fz => ?_)
  refine mr_sg_e (d := (d + 1)) (by omega) hk9 gk (nts T 400 p false).2 qz (by omega) (fun y => by have := ng.2 (by rw [y]; decide); omega) (fun s9 => by have y_ := hs1 s9; unfold sgS at y_; exact (bnd_ok y_).1) (fun rr fq hy qy fy => ?_) (fun rr s0_ hy ay fy => ?_) (fun s9 rr fq hy ay fy => ?_)
  · have e1 : sgS T lv sub val p = (true, (kpS T lv sub val (nts T 400 p false).1).2.1, (kpS T lv sub val (nts T 400 p false).1).2.2 ++ (if (nts T 400 p false).2 = true then [(8, 0)] else [])) := by unfold sgS; rw [bnd_t rr]
    rw [e1] at kok
    refine kok rfl (fun s9 => ?_) hy qy (fR_t fz fy)
    dsimp only
    rw [fb_app, ntE_p (fq s9)]
    split <;> rfl
  · have e1 : sgS T lv sub val p = (false, (kpS T lv sub val (nts T 400 p false).1).2.1, []) := by unfold sgS; rw [bnd_f rr]
    rw [e1] at kno
    exact kno rfl s0_ hy ay (fR_t fz fy)
  · have e1 : sgS T lv sub val p = (true, (kpS T lv sub val (nts T 400 p false).1).2.1, (kpS T lv sub val (nts T 400 p false).1).2.2 ++ (if (nts T 400 p false).2 = true then [(8, 0)] else [])) := by unfold sgS; rw [bnd_t rr]
    have e2 : fb T F ((kpS T lv sub val (nts T 400 p false).1).2.2 ++ (if (nts T 400 p false).2 = true then [(8, 0)] else [])) = fb T F (kpS T lv sub val (nts T 400 p false).1).2.2 := by rw [fb_app]; exact if_neg fq
    rw [e1] at kbd
    dsimp only at kbd
    rw [e2] at kbd
    exact kbd s9 rfl fq hy ay (fR_t fz fy)

theorem mr_bt_lp {D d sc : Nat} {x : Int} {T : List Tok} {N : List (Int × Int)} {F : List Int} {item : Nat → Rz} (hi : TMK D 198 x T sc N F item) (gs : gdS T (okTs T) item) (hD : D ≤ d) (n : Nat) : ∀ (h : PH) (p : Nat) (W : List Int) (Q : Rs → PH → Prop), 400 ≤ p + n → QM h T sc p N W → W.length ≤ 2 * p → (sc = 1 → (lpS T spA item n p).1 = true) → ((lpS T spA item n p).1 = true → (sc = 1 → (fb T F (lpS T spA item n p).2.2).1 = 0) → ∀ h1, QM h1 T sc (lpS T spA item n p).2.1 N (W ++ wds ((lpS T spA item n p).2.2.map (rsl T F))) → fR h h1 → Q (.inl (some (.inl (iZ 1)))) h1) → ((lpS T spA item n p).1 = false → sc = 0 → ∀ h1, erM h1 T 1 (lpS T spA item n p).2.1 → fR h h1 → Q (.inl (some (.inl (iZ 0)))) h1) → (sc = 1 → (lpS T spA item n p).1 = true → (fb T F (lpS T spA item n p).2.2).1 ≠ 0 → ∀ h1, erM h1 T 3 (fb T F (lpS T spA item n p).2.2).2 → fR h h1 → Q (.inl (some (.inl (iZ 0)))) h1) → Ev (d + 2) 197 (10, [some (.inr (.inr (.inr (11, 0, 83)))), some (.inl (iZ (x)))], [], h) Q := by
  induction n with
  | zero =>
    intro h p W Q hn q0 hp hs1 kok kno kbd
    have sh := qm_sh q0
    have w0 := qm_w q0
    have p0 := qm_p q0
    have t0 := qm_tk q0
    have l1 := w0.2.1
    have s1 := qm_s q0
    have tb0 := tBk w0 p
    have sb0 := sr_b (tK T p)
    have kz := tK_400 w0 (show 400 ≤ p by omega)
    refine Ev.sts 2 (c' := (14, [some (.inr (.inr (.inr (11, 0, 83)))), some (.inl (iZ (x)))], [.inr (.inl ((1476 : Int64))), .inr (.inr (.inr (11, 0, 83)))], h)) rfl ?_
    refine Ev.callw (a := [.inr (.inr (.inr (11, 0, 83))), .inr (.inl ((1476 : Int64)))]) rfl (mf_ifWord (K := 9) q0 (by decide) (by decide) (fun ky1 h1 q1 f1 => ?_) (fun ky1 => ?_))
    · have z1 := qm_p q1
      refine Ev.brF (p := (iZ (1)) = (iZ (0))) (c1 := (39, [some (.inr (.inr (.inr (11, 0, 83)))), some (.inl (iZ (x)))], [], h1)) (c2 := (20, [some (.inr (.inr (.inr (11, 0, 83)))), some (.inl (iZ (x)))], [], h1)) (by decide) rfl ?_
      exfalso; omega
    · refine Ev.brT (p := (iZ (0)) = (iZ (0))) (c1 := (39, [some (.inr (.inr (.inr (11, 0, 83)))), some (.inl (iZ (x)))], [], h)) (c2 := (20, [some (.inr (.inr (.inr (11, 0, 83)))), some (.inl (iZ (x)))], [], h)) (by decide) rfl ?_
      refine Ev.sts 1 (c' := (40, [some (.inr (.inr (.inr (11, 0, 83)))), some (.inl (iZ (x)))], [.inl (iZ (1))], h)) rfl ?_
      first | (exfalso; omega) | (have e1 : lpS T spA item 0 p = (true, p, []) := (by exact lp_0); rw [e1] at kok; exact Ev.ret rfl (kok rfl (fun _ => rfl) _ (by dsimp only; rw [List.map_nil, wds_n, List.append_nil]; exact q0) (fR_r h)))
  | succ n ih =>
    intro h p W Q hn q0 hp hs1 kok kno kbd
    have sh := qm_sh q0
    have w0 := qm_w q0
    have p0 := qm_p q0
    have t0 := qm_tk q0
    have l1 := w0.2.1
    have s1 := qm_s q0
    have tb0 := tBk w0 p
    have sb0 := sr_b (tK T p)
    refine Ev.sts 2 (c' := (14, [some (.inr (.inr (.inr (11, 0, 83)))), some (.inl (iZ (x)))], [.inr (.inl ((1476 : Int64))), .inr (.inr (.inr (11, 0, 83)))], h)) rfl ?_
    refine Ev.callw (a := [.inr (.inr (.inr (11, 0, 83))), .inr (.inl ((1476 : Int64)))]) rfl (mf_ifWord (K := 9) q0 (by decide) (by decide) (fun ky1 h1 q1 f1 => ?_) (fun ky1 => ?_))
    · have z1 := qm_p q1
      refine Ev.brF (p := (iZ (1)) = (iZ (0))) (c1 := (39, [some (.inr (.inr (.inr (11, 0, 83)))), some (.inl (iZ (x)))], [], h1)) (c2 := (20, [some (.inr (.inr (.inr (11, 0, 83)))), some (.inl (iZ (x)))], [], h1)) (by decide) rfl ?_
      refine Ev.sts 2 (c' := (22, [some (.inr (.inr (.inr (11, 0, 83)))), some (.inl (iZ (x)))], [.inl (iZ (x)), .inr (.inr (.inr (11, 0, 83)))], h1)) rfl ?_
      refine Ev.callw (a := [.inr (.inr (.inr (11, 0, 83))), .inl (iZ (x))]) rfl (hi _ (by omega) _ _ _ _ q1 (by first | omega | (simp only [List.length_append, List.length_cons, List.length_nil, List.length_map]; omega)) (fun z_ => by have y_ := hs1 z_; rw [lp_t (by rw [spA_t]; omega)] at y_; exact (bnd_ok y_).1) (fun r2 fq2 h2 q2 f2 => ?_) (fun r2 s2_ g2 a2 f2 => ?_) (fun s2_ r2 u2 b2 a2 f2 => ?_))
      · obtain ⟨x2, y2, -⟩ := gs _ r2
        have z2 := qm_p q2
        have w2 := wds_m T F (item (p + 1)).2.2
        refine Ev.brT (p := ¬ (iZ (1)) = (iZ (0))) (c1 := (30, [some (.inr (.inr (.inr (11, 0, 83)))), some (.inl (iZ (x)))], [], h2)) (c2 := (28, [some (.inr (.inr (.inr (11, 0, 83)))), some (.inl (iZ (x)))], [], h2)) (by decide) rfl ?_
        refine Ev.sts 2 (c' := (33, [some (.inr (.inr (.inr (11, 0, 83)))), some (.inl (iZ (x)))], [.inl (iZ (10)), .inr (.inr (.inr (11, 0, 83)))], h2)) rfl ?_
        refine Ev.callw (a := [.inr (.inr (.inr (11, 0, 83))), .inl (iZ (10))]) rfl (mf_put q2 (by first | omega | (simp only [List.length_append, List.length_cons, List.length_nil, List.length_map]; omega)) (fun h3 q3 f3 => ?_))
        refine Ev.sts 1 (c' := (10, [some (.inr (.inr (.inr (11, 0, 83)))), some (.inl (iZ (x)))], [], h3)) rfl ?_
        refine ih _ _ _ _ (by omega) q3 (by first | omega | (simp only [List.length_append, List.length_cons, List.length_nil, List.length_map]; omega)) (fun z_ => by have y_ := hs1 z_; rw [lp_t (by rw [spA_t]; omega)] at y_; exact (bnd_ok y_).2.1) (fun rr fq hz qz fz => ?_) (fun rr s0_ hz az fz => ?_) (fun s9 rr fq hz az fz => ?_)
        · have e1 : lpS T spA item (n + 1) p = (true, (lpS T spA item n (item (p + 1)).2.1).2.1, (item (p + 1)).2.2 ++ (tK T p, 0) :: (lpS T spA item n (item (p + 1)).2.1).2.2) := by rw [lp_t (by rw [spA_t]; omega), bnd_t (by assumption)]; dsimp only; rw [rr]
          rw [e1] at kok
          refine kok rfl (fun s9 => ?_) hz ?_ (fR_t (fR_t (fR_t (fR_t (fR_r h) f1) f2) f3) fz)
          · dsimp only
            rw [fb_app, fb_n7 (c := (tK T p, 0)) (by show ¬ tK T p = 7; omega), ntE_p (fq2 s9)]
            exact fq s9
          · dsimp only
            rw [List.map_append, List.map_cons, rsl_n7 (c := (tK T p, 0)) (by show ¬ tK T p = 7; omega), wds_app, wds_cons, ← List.append_assoc, ← List.append_assoc, show tK T p = 9 by assumption]
            exact qz
        · have e1 : lpS T spA item (n + 1) p = (false, (lpS T spA item n (item (p + 1)).2.1).2.1, (item (p + 1)).2.2 ++ (tK T p, 0) :: (lpS T spA item n (item (p + 1)).2.1).2.2) := by rw [lp_t (by rw [spA_t]; omega), bnd_t (by assumption)]; dsimp only; rw [rr]
          rw [e1] at kno
          exact kno rfl s0_ hz az (fR_t (fR_t (fR_t (fR_t (fR_r h) f1) f2) f3) fz)
        · have e1 : lpS T spA item (n + 1) p = (true, (lpS T spA item n (item (p + 1)).2.1).2.1, (item (p + 1)).2.2 ++ (tK T p, 0) :: (lpS T spA item n (item (p + 1)).2.1).2.2) := by rw [lp_t (by rw [spA_t]; omega), bnd_t (by assumption)]; dsimp only; rw [rr]
          have e2 : fb T F ((item (p + 1)).2.2 ++ (tK T p, 0) :: (lpS T spA item n (item (p + 1)).2.1).2.2) = fb T F (lpS T spA item n (item (p + 1)).2.1).2.2 := by rw [fb_app, fb_n7 (c := (tK T p, 0)) (by show ¬ tK T p = 7; omega), ntE_p (fq2 s9)]
          rw [e1] at kbd
          dsimp only at kbd
          rw [e2] at kbd
          exact kbd s9 rfl fq hz az (fR_t (fR_t (fR_t (fR_t (fR_r h) f1) f2) f3) fz)
      · refine Ev.brF (p := ¬ (iZ (0)) = (iZ (0))) (c1 := (30, [some (.inr (.inr (.inr (11, 0, 83)))), some (.inl (iZ (x)))], [], g2)) (c2 := (28, [some (.inr (.inr (.inr (11, 0, 83)))), some (.inl (iZ (x)))], [], g2)) (by decide) rfl ?_
        refine Ev.sts 1 (c' := (29, [some (.inr (.inr (.inr (11, 0, 83)))), some (.inl (iZ (x)))], [.inl (iZ (0))], g2)) rfl ?_
        first | (exfalso; omega) | (have e1 : lpS T spA item (n + 1) p = (false, (item (p + 1)).2.1, []) := (by rw [lp_t (by rw [spA_t]; omega), bnd_f (by assumption)]); have s0_ : sc = 0 := (by first | assumption | exact sc_0 s1 (fun z_ => by have y_ := hs1 z_; rw [e1] at y_; cases y_)); rw [e1] at kno; exact Ev.ret rfl (kno rfl s0_ _ a2 (fR_t (fR_t (fR_r h) f1) f2))) | (have e1 : lpS T spA item (n + 1) p = (true, (bnd (item (p + 1)) (fun q => ((lpS T spA item n q).1, (lpS T spA item n q).2.1, (tK T p, (0 : Int)) :: (lpS T spA item n q).2.2))).2.1, (item (p + 1)).2.2 ++ (tK T p, 0) :: (lpS T spA item n (item (p + 1)).2.1).2.2) := (by have y_ := hs1 (by assumption); rw [lp_t (by rw [spA_t]; omega)] at y_ ⊢; obtain ⟨_, _, y3⟩ := bnd_ok y_; rw [y3]); have e2 : fb T F ((item (p + 1)).2.2 ++ (tK T p, 0) :: (lpS T spA item n (item (p + 1)).2.1).2.2) = fb T F (item (p + 1)).2.2 := (by rw [fb_app]; exact if_neg (by assumption)); rw [e1] at kbd; dsimp only at kbd; rw [e2] at kbd; exact Ev.ret rfl (kbd (by assumption) rfl (by assumption) _ a2 (fR_t (fR_t (fR_r h) f1) f2)))
      · refine Ev.brF (p := ¬ (iZ (0)) = (iZ (0))) (c1 := (30, [some (.inr (.inr (.inr (11, 0, 83)))), some (.inl (iZ (x)))], [], b2)) (c2 := (28, [some (.inr (.inr (.inr (11, 0, 83)))), some (.inl (iZ (x)))], [], b2)) (by decide) rfl ?_
        refine Ev.sts 1 (c' := (29, [some (.inr (.inr (.inr (11, 0, 83)))), some (.inl (iZ (x)))], [.inl (iZ (0))], b2)) rfl ?_
        first | (exfalso; omega) | (have e1 : lpS T spA item (n + 1) p = (false, (item (p + 1)).2.1, []) := (by rw [lp_t (by rw [spA_t]; omega), bnd_f (by assumption)]); have s0_ : sc = 0 := (by first | assumption | exact sc_0 s1 (fun z_ => by have y_ := hs1 z_; rw [e1] at y_; cases y_)); rw [e1] at kno; exact Ev.ret rfl (kno rfl s0_ _ a2 (fR_t (fR_t (fR_r h) f1) f2))) | (have e1 : lpS T spA item (n + 1) p = (true, (bnd (item (p + 1)) (fun q => ((lpS T spA item n q).1, (lpS T spA item n q).2.1, (tK T p, (0 : Int)) :: (lpS T spA item n q).2.2))).2.1, (item (p + 1)).2.2 ++ (tK T p, 0) :: (lpS T spA item n (item (p + 1)).2.1).2.2) := (by have y_ := hs1 (by assumption); rw [lp_t (by rw [spA_t]; omega)] at y_ ⊢; obtain ⟨_, _, y3⟩ := bnd_ok y_; rw [y3]); have e2 : fb T F ((item (p + 1)).2.2 ++ (tK T p, 0) :: (lpS T spA item n (item (p + 1)).2.1).2.2) = fb T F (item (p + 1)).2.2 := (by rw [fb_app]; exact if_neg (by assumption)); rw [e1] at kbd; dsimp only at kbd; rw [e2] at kbd; exact Ev.ret rfl (kbd (by assumption) rfl (by assumption) _ a2 (fR_t (fR_t (fR_r h) f1) f2)))
    · refine Ev.brT (p := (iZ (0)) = (iZ (0))) (c1 := (39, [some (.inr (.inr (.inr (11, 0, 83)))), some (.inl (iZ (x)))], [], h)) (c2 := (20, [some (.inr (.inr (.inr (11, 0, 83)))), some (.inl (iZ (x)))], [], h)) (by decide) rfl ?_
      refine Ev.sts 1 (c' := (40, [some (.inr (.inr (.inr (11, 0, 83)))), some (.inl (iZ (x)))], [.inl (iZ (1))], h)) rfl ?_
      first | (exfalso; omega) | (have e1 : lpS T spA item (n + 1) p = (true, p, []) := (by exact lp_f (by rw [spA_t]; omega)); rw [e1] at kok; exact Ev.ret rfl (kok rfl (fun _ => rfl) _ (by dsimp only; rw [List.map_nil, wds_n, List.append_nil]; exact q0) (fR_r h)))

theorem mr_bt {D sc : Nat} {x : Int} {T : List Tok} {N : List (Int × Int)} {F : List Int} {item : Nat → Rz} (hi : TMK D 198 x T sc N F item) (gs : gdS T (okTs T) item) : TMK (D + 2) 197 x T sc N F (sqS T spA item) := by
  intro k hk h p W Q q0 hp hs1 kok kno kbd
  have sh := qm_sh q0
  have w0 := qm_w q0
  have p0 := qm_p q0
  have t0 := qm_tk q0
  have l1 := w0.2.1
  have s1 := qm_s q0
  have tb0 := tBk w0 p
  have sb0 := sr_b (tK T p)
  obtain ⟨d, rfl⟩ : ∃ d, k = d + 2 := ⟨k - 2, by omega⟩
  refine Ev.sts 2 (c' := (2, [some (.inr (.inr (.inr (11, 0, 83)))), some (.inl (iZ (x)))], [.inl (iZ (x)), .inr (.inr (.inr (11, 0, 83)))], h)) rfl ?_
  refine Ev.callw (a := [.inr (.inr (.inr (11, 0, 83))), .inl (iZ (x))]) rfl (hi _ (by omega) _ _ _ _ q0 (by first | omega | (simp only [List.length_append, List.length_cons, List.length_nil, List.length_map]; omega)) (fun z_ => by have y_ := hs1 z_; unfold sqS at y_; exact (bnd_ok y_).1) (fun r1 fq1 h1 q1 f1 => ?_) (fun r1 s1_ g1 a1 f1 => ?_) (fun s1_ r1 u1 b1 a1 f1 => ?_))
  · obtain ⟨x1, y1, -⟩ := gs _ r1
    have z1 := qm_p q1
    have w1 := wds_m T F (item p).2.2
    refine Ev.brT (p := ¬ (iZ (1)) = (iZ (0))) (c1 := (10, [some (.inr (.inr (.inr (11, 0, 83)))), some (.inl (iZ (x)))], [], h1)) (c2 := (8, [some (.inr (.inr (.inr (11, 0, 83)))), some (.inl (iZ (x)))], [], h1)) (by decide) rfl ?_
    refine mr_bt_lp hi gs (by omega) 400 _ _ _ _ (by omega) q1 (by first | omega | (simp only [List.length_append, List.length_cons, List.length_nil, List.length_map]; omega)) (fun z_ => by have y_ := hs1 z_; unfold sqS at y_; exact (bnd_ok y_).2.1) (fun rr fq hz qz fz => ?_) (fun rr s0_ hz az fz => ?_) (fun s9 rr fq hz az fz => ?_)
    · have e1 : sqS T spA item p = (true, (lpS T spA item 400 (item p).2.1).2.1, (item p).2.2 ++ (lpS T spA item 400 (item p).2.1).2.2) := by unfold sqS; rw [bnd_t (by assumption), rr]
      rw [e1] at kok
      refine kok rfl (fun s9 => ?_) hz ?_ (fR_t (fR_t (fR_r h) f1) fz)
      · dsimp only
        rw [fb_app, ntE_p (fq1 s9)]; exact fq s9
      · dsimp only
        rw [List.map_append, wds_app, ← List.append_assoc]; exact qz
    · have e1 : sqS T spA item p = (false, (lpS T spA item 400 (item p).2.1).2.1, (item p).2.2 ++ (lpS T spA item 400 (item p).2.1).2.2) := by unfold sqS; rw [bnd_t (by assumption), rr]
      rw [e1] at kno
      exact kno rfl s0_ hz az (fR_t (fR_t (fR_r h) f1) fz)
    · have e1 : sqS T spA item p = (true, (lpS T spA item 400 (item p).2.1).2.1, (item p).2.2 ++ (lpS T spA item 400 (item p).2.1).2.2) := by unfold sqS; rw [bnd_t (by assumption), rr]
      have e2 : fb T F ((item p).2.2 ++ (lpS T spA item 400 (item p).2.1).2.2) = fb T F (lpS T spA item 400 (item p).2.1).2.2 := by rw [fb_app, ntE_p (fq1 s9)]
      rw [e1] at kbd
      dsimp only at kbd
      rw [e2] at kbd
      exact kbd s9 rfl fq hz az (fR_t (fR_t (fR_r h) f1) fz)
  · refine Ev.brF (p := ¬ (iZ (0)) = (iZ (0))) (c1 := (10, [some (.inr (.inr (.inr (11, 0, 83)))), some (.inl (iZ (x)))], [], g1)) (c2 := (8, [some (.inr (.inr (.inr (11, 0, 83)))), some (.inl (iZ (x)))], [], g1)) (by decide) rfl ?_
    refine Ev.sts 1 (c' := (9, [some (.inr (.inr (.inr (11, 0, 83)))), some (.inl (iZ (x)))], [.inl (iZ (0))], g1)) rfl ?_
    first | (exfalso; omega) | (have e1 : sqS T spA item p = (false, (item p).2.1, []) := (by unfold sqS; rw [bnd_f (by assumption)]); have s0_ : sc = 0 := (by first | assumption | exact sc_0 s1 (fun z_ => by have y_ := hs1 z_; rw [e1] at y_; cases y_)); rw [e1] at kno; exact Ev.ret rfl (kno rfl s0_ _ a1 (fR_t (fR_r h) f1))) | (have e1 : sqS T spA item p = (true, (lpS T spA item 400 (item p).2.1).2.1, (item p).2.2 ++ (lpS T spA item 400 (item p).2.1).2.2) := (by have y_ := hs1 (by assumption); unfold sqS at y_ ⊢; obtain ⟨_, _, y3⟩ := bnd_ok y_; rw [y3]); have e2 : fb T F ((item p).2.2 ++ (lpS T spA item 400 (item p).2.1).2.2) = fb T F (item p).2.2 := (by rw [fb_app]; exact if_neg (by assumption)); rw [e1] at kbd; dsimp only at kbd; rw [e2] at kbd; exact Ev.ret rfl (kbd (by assumption) rfl (by assumption) _ a1 (fR_t (fR_r h) f1)))
  · refine Ev.brF (p := ¬ (iZ (0)) = (iZ (0))) (c1 := (10, [some (.inr (.inr (.inr (11, 0, 83)))), some (.inl (iZ (x)))], [], b1)) (c2 := (8, [some (.inr (.inr (.inr (11, 0, 83)))), some (.inl (iZ (x)))], [], b1)) (by decide) rfl ?_
    refine Ev.sts 1 (c' := (9, [some (.inr (.inr (.inr (11, 0, 83)))), some (.inl (iZ (x)))], [.inl (iZ (0))], b1)) rfl ?_
    first | (exfalso; omega) | (have e1 : sqS T spA item p = (false, (item p).2.1, []) := (by unfold sqS; rw [bnd_f (by assumption)]); have s0_ : sc = 0 := (by first | assumption | exact sc_0 s1 (fun z_ => by have y_ := hs1 z_; rw [e1] at y_; cases y_)); rw [e1] at kno; exact Ev.ret rfl (kno rfl s0_ _ a1 (fR_t (fR_r h) f1))) | (have e1 : sqS T spA item p = (true, (lpS T spA item 400 (item p).2.1).2.1, (item p).2.2 ++ (lpS T spA item 400 (item p).2.1).2.2) := (by have y_ := hs1 (by assumption); unfold sqS at y_ ⊢; obtain ⟨_, _, y3⟩ := bnd_ok y_; rw [y3]); have e2 : fb T F ((item p).2.2 ++ (lpS T spA item 400 (item p).2.1).2.2) = fb T F (item p).2.2 := (by rw [fb_app]; exact if_neg (by assumption)); rw [e1] at kbd; dsimp only at kbd; rw [e2] at kbd; exact Ev.ret rfl (kbd (by assumption) rfl (by assumption) _ a1 (fR_t (fR_r h) f1)))

theorem mr_ts_lp {D d sc : Nat} {x : Int} {T : List Tok} {N : List (Int × Int)} {F : List Int} {item : Nat → Rz} (hi : TMK D 197 x T sc N F item) (gs : gdS T (okTs T) item) (hD : D ≤ d) (n : Nat) : ∀ (h : PH) (p : Nat) (W : List Int) (Q : Rs → PH → Prop), 400 ≤ p + n → QM h T sc p N W → W.length ≤ 2 * p → (sc = 1 → (lpS T spO item n p).1 = true) → ((lpS T spO item n p).1 = true → (sc = 1 → (fb T F (lpS T spO item n p).2.2).1 = 0) → ∀ h1, QM h1 T sc (lpS T spO item n p).2.1 N (W ++ wds ((lpS T spO item n p).2.2.map (rsl T F))) → fR h h1 → Q (.inl (some (.inl (iZ 1)))) h1) → ((lpS T spO item n p).1 = false → sc = 0 → ∀ h1, erM h1 T 1 (lpS T spO item n p).2.1 → fR h h1 → Q (.inl (some (.inl (iZ 0)))) h1) → (sc = 1 → (lpS T spO item n p).1 = true → (fb T F (lpS T spO item n p).2.2).1 ≠ 0 → ∀ h1, erM h1 T 3 (fb T F (lpS T spO item n p).2.2).2 → fR h h1 → Q (.inl (some (.inl (iZ 0)))) h1) → Ev (d + 2) 196 (10, [some (.inr (.inr (.inr (11, 0, 83)))), some (.inl (iZ (x)))], [], h) Q := by
  induction n with
  | zero =>
    intro h p W Q hn q0 hp hs1 kok kno kbd
    have sh := qm_sh q0
    have w0 := qm_w q0
    have p0 := qm_p q0
    have t0 := qm_tk q0
    have l1 := w0.2.1
    have s1 := qm_s q0
    have tb0 := tBk w0 p
    have sb0 := sr_b (tK T p)
    have kz := tK_400 w0 (show 400 ≤ p by omega)
    refine Ev.sts 2 (c' := (14, [some (.inr (.inr (.inr (11, 0, 83)))), some (.inl (iZ (x)))], [.inr (.inl ((498 : Int64))), .inr (.inr (.inr (11, 0, 83)))], h)) rfl ?_
    refine Ev.callw (a := [.inr (.inr (.inr (11, 0, 83))), .inr (.inl ((498 : Int64)))]) rfl (mf_ifWord (K := 10) q0 (by decide) (by decide) (fun ky1 h1 q1 f1 => ?_) (fun ky1 => ?_))
    · have z1 := qm_p q1
      refine Ev.brF (p := (iZ (1)) = (iZ (0))) (c1 := (39, [some (.inr (.inr (.inr (11, 0, 83)))), some (.inl (iZ (x)))], [], h1)) (c2 := (20, [some (.inr (.inr (.inr (11, 0, 83)))), some (.inl (iZ (x)))], [], h1)) (by decide) rfl ?_
      exfalso; omega
    · refine Ev.brT (p := (iZ (0)) = (iZ (0))) (c1 := (39, [some (.inr (.inr (.inr (11, 0, 83)))), some (.inl (iZ (x)))], [], h)) (c2 := (20, [some (.inr (.inr (.inr (11, 0, 83)))), some (.inl (iZ (x)))], [], h)) (by decide) rfl ?_
      refine Ev.sts 1 (c' := (40, [some (.inr (.inr (.inr (11, 0, 83)))), some (.inl (iZ (x)))], [.inl (iZ (1))], h)) rfl ?_
      first | (exfalso; omega) | (have e1 : lpS T spO item 0 p = (true, p, []) := (by exact lp_0); rw [e1] at kok; exact Ev.ret rfl (kok rfl (fun _ => rfl) _ (by dsimp only; rw [List.map_nil, wds_n, List.append_nil]; exact q0) (fR_r h)))
  | succ n ih =>
    intro h p W Q hn q0 hp hs1 kok kno kbd
    have sh := qm_sh q0
    have w0 := qm_w q0
    have p0 := qm_p q0
    have t0 := qm_tk q0
    have l1 := w0.2.1
    have s1 := qm_s q0
    have tb0 := tBk w0 p
    have sb0 := sr_b (tK T p)
    refine Ev.sts 2 (c' := (14, [some (.inr (.inr (.inr (11, 0, 83)))), some (.inl (iZ (x)))], [.inr (.inl ((498 : Int64))), .inr (.inr (.inr (11, 0, 83)))], h)) rfl ?_
    refine Ev.callw (a := [.inr (.inr (.inr (11, 0, 83))), .inr (.inl ((498 : Int64)))]) rfl (mf_ifWord (K := 10) q0 (by decide) (by decide) (fun ky1 h1 q1 f1 => ?_) (fun ky1 => ?_))
    · have z1 := qm_p q1
      refine Ev.brF (p := (iZ (1)) = (iZ (0))) (c1 := (39, [some (.inr (.inr (.inr (11, 0, 83)))), some (.inl (iZ (x)))], [], h1)) (c2 := (20, [some (.inr (.inr (.inr (11, 0, 83)))), some (.inl (iZ (x)))], [], h1)) (by decide) rfl ?_
      refine Ev.sts 2 (c' := (22, [some (.inr (.inr (.inr (11, 0, 83)))), some (.inl (iZ (x)))], [.inl (iZ (x)), .inr (.inr (.inr (11, 0, 83)))], h1)) rfl ?_
      refine Ev.callw (a := [.inr (.inr (.inr (11, 0, 83))), .inl (iZ (x))]) rfl (hi _ (by omega) _ _ _ _ q1 (by first | omega | (simp only [List.length_append, List.length_cons, List.length_nil, List.length_map]; omega)) (fun z_ => by have y_ := hs1 z_; rw [lp_t (by rw [spO_t]; omega)] at y_; exact (bnd_ok y_).1) (fun r2 fq2 h2 q2 f2 => ?_) (fun r2 s2_ g2 a2 f2 => ?_) (fun s2_ r2 u2 b2 a2 f2 => ?_))
      · obtain ⟨x2, y2, -⟩ := gs _ r2
        have z2 := qm_p q2
        have w2 := wds_m T F (item (p + 1)).2.2
        refine Ev.brT (p := ¬ (iZ (1)) = (iZ (0))) (c1 := (30, [some (.inr (.inr (.inr (11, 0, 83)))), some (.inl (iZ (x)))], [], h2)) (c2 := (28, [some (.inr (.inr (.inr (11, 0, 83)))), some (.inl (iZ (x)))], [], h2)) (by decide) rfl ?_
        refine Ev.sts 2 (c' := (33, [some (.inr (.inr (.inr (11, 0, 83)))), some (.inl (iZ (x)))], [.inl (iZ (11)), .inr (.inr (.inr (11, 0, 83)))], h2)) rfl ?_
        refine Ev.callw (a := [.inr (.inr (.inr (11, 0, 83))), .inl (iZ (11))]) rfl (mf_put q2 (by first | omega | (simp only [List.length_append, List.length_cons, List.length_nil, List.length_map]; omega)) (fun h3 q3 f3 => ?_))
        refine Ev.sts 1 (c' := (10, [some (.inr (.inr (.inr (11, 0, 83)))), some (.inl (iZ (x)))], [], h3)) rfl ?_
        refine ih _ _ _ _ (by omega) q3 (by first | omega | (simp only [List.length_append, List.length_cons, List.length_nil, List.length_map]; omega)) (fun z_ => by have y_ := hs1 z_; rw [lp_t (by rw [spO_t]; omega)] at y_; exact (bnd_ok y_).2.1) (fun rr fq hz qz fz => ?_) (fun rr s0_ hz az fz => ?_) (fun s9 rr fq hz az fz => ?_)
        · have e1 : lpS T spO item (n + 1) p = (true, (lpS T spO item n (item (p + 1)).2.1).2.1, (item (p + 1)).2.2 ++ (tK T p, 0) :: (lpS T spO item n (item (p + 1)).2.1).2.2) := by rw [lp_t (by rw [spO_t]; omega), bnd_t (by assumption)]; dsimp only; rw [rr]
          rw [e1] at kok
          refine kok rfl (fun s9 => ?_) hz ?_ (fR_t (fR_t (fR_t (fR_t (fR_r h) f1) f2) f3) fz)
          · dsimp only
            rw [fb_app, fb_n7 (c := (tK T p, 0)) (by show ¬ tK T p = 7; omega), ntE_p (fq2 s9)]
            exact fq s9
          · dsimp only
            rw [List.map_append, List.map_cons, rsl_n7 (c := (tK T p, 0)) (by show ¬ tK T p = 7; omega), wds_app, wds_cons, ← List.append_assoc, ← List.append_assoc, show tK T p = 10 by assumption]
            exact qz
        · have e1 : lpS T spO item (n + 1) p = (false, (lpS T spO item n (item (p + 1)).2.1).2.1, (item (p + 1)).2.2 ++ (tK T p, 0) :: (lpS T spO item n (item (p + 1)).2.1).2.2) := by rw [lp_t (by rw [spO_t]; omega), bnd_t (by assumption)]; dsimp only; rw [rr]
          rw [e1] at kno
          exact kno rfl s0_ hz az (fR_t (fR_t (fR_t (fR_t (fR_r h) f1) f2) f3) fz)
        · have e1 : lpS T spO item (n + 1) p = (true, (lpS T spO item n (item (p + 1)).2.1).2.1, (item (p + 1)).2.2 ++ (tK T p, 0) :: (lpS T spO item n (item (p + 1)).2.1).2.2) := by rw [lp_t (by rw [spO_t]; omega), bnd_t (by assumption)]; dsimp only; rw [rr]
          have e2 : fb T F ((item (p + 1)).2.2 ++ (tK T p, 0) :: (lpS T spO item n (item (p + 1)).2.1).2.2) = fb T F (lpS T spO item n (item (p + 1)).2.1).2.2 := by rw [fb_app, fb_n7 (c := (tK T p, 0)) (by show ¬ tK T p = 7; omega), ntE_p (fq2 s9)]
          rw [e1] at kbd
          dsimp only at kbd
          rw [e2] at kbd
          exact kbd s9 rfl fq hz az (fR_t (fR_t (fR_t (fR_t (fR_r h) f1) f2) f3) fz)
      · refine Ev.brF (p := ¬ (iZ (0)) = (iZ (0))) (c1 := (30, [some (.inr (.inr (.inr (11, 0, 83)))), some (.inl (iZ (x)))], [], g2)) (c2 := (28, [some (.inr (.inr (.inr (11, 0, 83)))), some (.inl (iZ (x)))], [], g2)) (by decide) rfl ?_
        refine Ev.sts 1 (c' := (29, [some (.inr (.inr (.inr (11, 0, 83)))), some (.inl (iZ (x)))], [.inl (iZ (0))], g2)) rfl ?_
        first | (exfalso; omega) | (have e1 : lpS T spO item (n + 1) p = (false, (item (p + 1)).2.1, []) := (by rw [lp_t (by rw [spO_t]; omega), bnd_f (by assumption)]); have s0_ : sc = 0 := (by first | assumption | exact sc_0 s1 (fun z_ => by have y_ := hs1 z_; rw [e1] at y_; cases y_)); rw [e1] at kno; exact Ev.ret rfl (kno rfl s0_ _ a2 (fR_t (fR_t (fR_r h) f1) f2))) | (have e1 : lpS T spO item (n + 1) p = (true, (bnd (item (p + 1)) (fun q => ((lpS T spO item n q).1, (lpS T spO item n q).2.1, (tK T p, (0 : Int)) :: (lpS T spO item n q).2.2))).2.1, (item (p + 1)).2.2 ++ (tK T p, 0) :: (lpS T spO item n (item (p + 1)).2.1).2.2) := (by have y_ := hs1 (by assumption); rw [lp_t (by rw [spO_t]; omega)] at y_ ⊢; obtain ⟨_, _, y3⟩ := bnd_ok y_; rw [y3]); have e2 : fb T F ((item (p + 1)).2.2 ++ (tK T p, 0) :: (lpS T spO item n (item (p + 1)).2.1).2.2) = fb T F (item (p + 1)).2.2 := (by rw [fb_app]; exact if_neg (by assumption)); rw [e1] at kbd; dsimp only at kbd; rw [e2] at kbd; exact Ev.ret rfl (kbd (by assumption) rfl (by assumption) _ a2 (fR_t (fR_t (fR_r h) f1) f2)))
      · refine Ev.brF (p := ¬ (iZ (0)) = (iZ (0))) (c1 := (30, [some (.inr (.inr (.inr (11, 0, 83)))), some (.inl (iZ (x)))], [], b2)) (c2 := (28, [some (.inr (.inr (.inr (11, 0, 83)))), some (.inl (iZ (x)))], [], b2)) (by decide) rfl ?_
        refine Ev.sts 1 (c' := (29, [some (.inr (.inr (.inr (11, 0, 83)))), some (.inl (iZ (x)))], [.inl (iZ (0))], b2)) rfl ?_
        first | (exfalso; omega) | (have e1 : lpS T spO item (n + 1) p = (false, (item (p + 1)).2.1, []) := (by rw [lp_t (by rw [spO_t]; omega), bnd_f (by assumption)]); have s0_ : sc = 0 := (by first | assumption | exact sc_0 s1 (fun z_ => by have y_ := hs1 z_; rw [e1] at y_; cases y_)); rw [e1] at kno; exact Ev.ret rfl (kno rfl s0_ _ a2 (fR_t (fR_t (fR_r h) f1) f2))) | (have e1 : lpS T spO item (n + 1) p = (true, (bnd (item (p + 1)) (fun q => ((lpS T spO item n q).1, (lpS T spO item n q).2.1, (tK T p, (0 : Int)) :: (lpS T spO item n q).2.2))).2.1, (item (p + 1)).2.2 ++ (tK T p, 0) :: (lpS T spO item n (item (p + 1)).2.1).2.2) := (by have y_ := hs1 (by assumption); rw [lp_t (by rw [spO_t]; omega)] at y_ ⊢; obtain ⟨_, _, y3⟩ := bnd_ok y_; rw [y3]); have e2 : fb T F ((item (p + 1)).2.2 ++ (tK T p, 0) :: (lpS T spO item n (item (p + 1)).2.1).2.2) = fb T F (item (p + 1)).2.2 := (by rw [fb_app]; exact if_neg (by assumption)); rw [e1] at kbd; dsimp only at kbd; rw [e2] at kbd; exact Ev.ret rfl (kbd (by assumption) rfl (by assumption) _ a2 (fR_t (fR_t (fR_r h) f1) f2)))
    · refine Ev.brT (p := (iZ (0)) = (iZ (0))) (c1 := (39, [some (.inr (.inr (.inr (11, 0, 83)))), some (.inl (iZ (x)))], [], h)) (c2 := (20, [some (.inr (.inr (.inr (11, 0, 83)))), some (.inl (iZ (x)))], [], h)) (by decide) rfl ?_
      refine Ev.sts 1 (c' := (40, [some (.inr (.inr (.inr (11, 0, 83)))), some (.inl (iZ (x)))], [.inl (iZ (1))], h)) rfl ?_
      first | (exfalso; omega) | (have e1 : lpS T spO item (n + 1) p = (true, p, []) := (by exact lp_f (by rw [spO_t]; omega)); rw [e1] at kok; exact Ev.ret rfl (kok rfl (fun _ => rfl) _ (by dsimp only; rw [List.map_nil, wds_n, List.append_nil]; exact q0) (fR_r h)))

theorem mr_ts {D sc : Nat} {x : Int} {T : List Tok} {N : List (Int × Int)} {F : List Int} {item : Nat → Rz} (hi : TMK D 197 x T sc N F item) (gs : gdS T (okTs T) item) : TMK (D + 2) 196 x T sc N F (sqS T spO item) := by
  intro k hk h p W Q q0 hp hs1 kok kno kbd
  have sh := qm_sh q0
  have w0 := qm_w q0
  have p0 := qm_p q0
  have t0 := qm_tk q0
  have l1 := w0.2.1
  have s1 := qm_s q0
  have tb0 := tBk w0 p
  have sb0 := sr_b (tK T p)
  obtain ⟨d, rfl⟩ : ∃ d, k = d + 2 := ⟨k - 2, by omega⟩
  refine Ev.sts 2 (c' := (2, [some (.inr (.inr (.inr (11, 0, 83)))), some (.inl (iZ (x)))], [.inl (iZ (x)), .inr (.inr (.inr (11, 0, 83)))], h)) rfl ?_
  refine Ev.callw (a := [.inr (.inr (.inr (11, 0, 83))), .inl (iZ (x))]) rfl (hi _ (by omega) _ _ _ _ q0 (by first | omega | (simp only [List.length_append, List.length_cons, List.length_nil, List.length_map]; omega)) (fun z_ => by have y_ := hs1 z_; unfold sqS at y_; exact (bnd_ok y_).1) (fun r1 fq1 h1 q1 f1 => ?_) (fun r1 s1_ g1 a1 f1 => ?_) (fun s1_ r1 u1 b1 a1 f1 => ?_))
  · obtain ⟨x1, y1, -⟩ := gs _ r1
    have z1 := qm_p q1
    have w1 := wds_m T F (item p).2.2
    refine Ev.brT (p := ¬ (iZ (1)) = (iZ (0))) (c1 := (10, [some (.inr (.inr (.inr (11, 0, 83)))), some (.inl (iZ (x)))], [], h1)) (c2 := (8, [some (.inr (.inr (.inr (11, 0, 83)))), some (.inl (iZ (x)))], [], h1)) (by decide) rfl ?_
    refine mr_ts_lp hi gs (by omega) 400 _ _ _ _ (by omega) q1 (by first | omega | (simp only [List.length_append, List.length_cons, List.length_nil, List.length_map]; omega)) (fun z_ => by have y_ := hs1 z_; unfold sqS at y_; exact (bnd_ok y_).2.1) (fun rr fq hz qz fz => ?_) (fun rr s0_ hz az fz => ?_) (fun s9 rr fq hz az fz => ?_)
    · have e1 : sqS T spO item p = (true, (lpS T spO item 400 (item p).2.1).2.1, (item p).2.2 ++ (lpS T spO item 400 (item p).2.1).2.2) := by unfold sqS; rw [bnd_t (by assumption), rr]
      rw [e1] at kok
      refine kok rfl (fun s9 => ?_) hz ?_ (fR_t (fR_t (fR_r h) f1) fz)
      · dsimp only
        rw [fb_app, ntE_p (fq1 s9)]; exact fq s9
      · dsimp only
        rw [List.map_append, wds_app, ← List.append_assoc]; exact qz
    · have e1 : sqS T spO item p = (false, (lpS T spO item 400 (item p).2.1).2.1, (item p).2.2 ++ (lpS T spO item 400 (item p).2.1).2.2) := by unfold sqS; rw [bnd_t (by assumption), rr]
      rw [e1] at kno
      exact kno rfl s0_ hz az (fR_t (fR_t (fR_r h) f1) fz)
    · have e1 : sqS T spO item p = (true, (lpS T spO item 400 (item p).2.1).2.1, (item p).2.2 ++ (lpS T spO item 400 (item p).2.1).2.2) := by unfold sqS; rw [bnd_t (by assumption), rr]
      have e2 : fb T F ((item p).2.2 ++ (lpS T spO item 400 (item p).2.1).2.2) = fb T F (lpS T spO item 400 (item p).2.1).2.2 := by rw [fb_app, ntE_p (fq1 s9)]
      rw [e1] at kbd
      dsimp only at kbd
      rw [e2] at kbd
      exact kbd s9 rfl fq hz az (fR_t (fR_t (fR_r h) f1) fz)
  · refine Ev.brF (p := ¬ (iZ (0)) = (iZ (0))) (c1 := (10, [some (.inr (.inr (.inr (11, 0, 83)))), some (.inl (iZ (x)))], [], g1)) (c2 := (8, [some (.inr (.inr (.inr (11, 0, 83)))), some (.inl (iZ (x)))], [], g1)) (by decide) rfl ?_
    refine Ev.sts 1 (c' := (9, [some (.inr (.inr (.inr (11, 0, 83)))), some (.inl (iZ (x)))], [.inl (iZ (0))], g1)) rfl ?_
    first | (exfalso; omega) | (have e1 : sqS T spO item p = (false, (item p).2.1, []) := (by unfold sqS; rw [bnd_f (by assumption)]); have s0_ : sc = 0 := (by first | assumption | exact sc_0 s1 (fun z_ => by have y_ := hs1 z_; rw [e1] at y_; cases y_)); rw [e1] at kno; exact Ev.ret rfl (kno rfl s0_ _ a1 (fR_t (fR_r h) f1))) | (have e1 : sqS T spO item p = (true, (lpS T spO item 400 (item p).2.1).2.1, (item p).2.2 ++ (lpS T spO item 400 (item p).2.1).2.2) := (by have y_ := hs1 (by assumption); unfold sqS at y_ ⊢; obtain ⟨_, _, y3⟩ := bnd_ok y_; rw [y3]); have e2 : fb T F ((item p).2.2 ++ (lpS T spO item 400 (item p).2.1).2.2) = fb T F (item p).2.2 := (by rw [fb_app]; exact if_neg (by assumption)); rw [e1] at kbd; dsimp only at kbd; rw [e2] at kbd; exact Ev.ret rfl (kbd (by assumption) rfl (by assumption) _ a1 (fR_t (fR_r h) f1)))
  · refine Ev.brF (p := ¬ (iZ (0)) = (iZ (0))) (c1 := (10, [some (.inr (.inr (.inr (11, 0, 83)))), some (.inl (iZ (x)))], [], b1)) (c2 := (8, [some (.inr (.inr (.inr (11, 0, 83)))), some (.inl (iZ (x)))], [], b1)) (by decide) rfl ?_
    refine Ev.sts 1 (c' := (9, [some (.inr (.inr (.inr (11, 0, 83)))), some (.inl (iZ (x)))], [.inl (iZ (0))], b1)) rfl ?_
    first | (exfalso; omega) | (have e1 : sqS T spO item p = (false, (item p).2.1, []) := (by unfold sqS; rw [bnd_f (by assumption)]); have s0_ : sc = 0 := (by first | assumption | exact sc_0 s1 (fun z_ => by have y_ := hs1 z_; rw [e1] at y_; cases y_)); rw [e1] at kno; exact Ev.ret rfl (kno rfl s0_ _ a1 (fR_t (fR_r h) f1))) | (have e1 : sqS T spO item p = (true, (lpS T spO item 400 (item p).2.1).2.1, (item p).2.2 ++ (lpS T spO item 400 (item p).2.1).2.2) := (by have y_ := hs1 (by assumption); unfold sqS at y_ ⊢; obtain ⟨_, _, y3⟩ := bnd_ok y_; rw [y3]); have e2 : fb T F ((item p).2.2 ++ (lpS T spO item 400 (item p).2.1).2.2) = fb T F (item p).2.2 := (by rw [fb_app]; exact if_neg (by assumption)); rw [e1] at kbd; dsimp only at kbd; rw [e2] at kbd; exact Ev.ret rfl (kbd (by assumption) rfl (by assumption) _ a1 (fR_t (fR_r h) f1)))

theorem mr_syT {sc : Nat} {T : List Tok} {N : List (Int × Int)} {F : List Int} (w : tkW T) (hN : ∀ w, lkN N w = lk F w) (hF : F.length ≤ 1000) : ∀ n : Nat, n ≤ 6 → ∀ x : Int, x = 6 - (n : Int) → TMK (8 * n + 21) 196 x T sc N F (syT T n) := by
  intro n
  induction n with
  | zero =>
    intro _ x hx
    have gk := gd_kp (lv := 0) w (gd_nul (T := T) (ok := okTs T)) (gd_syV w 0)
    exact TMK_up (mr_ts (mr_bt (mr_single (mr_kept (D := 5) hx (by omega) hN hF (fun z => absurd z (Nat.lt_irrefl 0)) gd_nul (VMK_up (mr_syV w 0 (by omega) x hx) (by omega)) (gd_syV w 0)) gk) (gd_sg w gd_nul (gd_syV w 0))) (gd_bt w gd_nul (gd_syV w 0))) (by omega)
  | succ n ih =>
    intro hn x hx
    have gk := gd_kp (lv := n + 1) w (gd_syT w n) (gd_syV w (n + 1))
    exact TMK_up (mr_ts (mr_bt (mr_single (mr_kept (D := 8 * (n + 1) + 13) hx hn hN hF (fun _ => TMK_up (ih (by omega) (x + 1) (by omega)) (by omega)) (gd_syT w n) (VMK_up (mr_syV w (n + 1) hn x hx) (by omega)) (gd_syV w (n + 1))) gk) (gd_sg w (gd_syT w n) (gd_syV w (n + 1)))) (gd_bt w (gd_syT w n) (gd_syV w (n + 1)))) (by omega)
