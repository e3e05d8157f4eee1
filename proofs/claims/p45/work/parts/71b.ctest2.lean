/-! The class reads tests: nots, and, or. -/
theorem nts_t {T : List Tok} {n p : Nat} {tb : Bool} (c : tK T p = 8) : nts T (n + 1) p tb = nts T n (p + 1) (!tb) := if_pos c
theorem nts_f {T : List Tok} {n p : Nat} {tb : Bool} (c : ¬ tK T p = 8) : nts T (n + 1) p tb = (p, tb) := if_neg c
def bI (tb : Bool) : Int := if tb = true then 1 else 0
theorem tc_nt_lp {d b : Nat} {x : Int} {T : List Tok} {F G : List Int} (n : Nat) : ∀ (i : Nat) (tb : Bool) (h : PH) (p : Nat) (e : Nat × Nat) (P : List Cmd) (Q : Rs → PH → Prop), i + n = 400 → QC h b T p e F G P → P.length ≤ p → (∀ (h1 : PH) (j : Int), QC h1 b T (nts T n p tb).1 e F G P → fPp b h h1 → Ev (d + 1) 121 (40, [some (.inr (.inr (.inr (7, 0, 2)))), some (.inl (iZ (x))), some (.inl (iZ (bI (nts T n p tb).2))), some (.inl (iZ (j)))], [], h1) Q) → Ev (d + 1) 121 (4, [some (.inr (.inr (.inr (7, 0, 2)))), some (.inl (iZ (x))), some (.inl (iZ (bI tb))), some (.inl (iZ (i)))], [], h) Q := by
  induction n with
  | zero =>
    intro i tb h p e P Q hn q0 hp q
    have sh := qc_sh q0
    have hb := qc_b q0
    have w0 := qc_w q0
    have p0 := qc_p q0
    have t0 := qc_tk q0
    have l1 := w0.2.1
    cases tb with
    | false =>
      show Ev (d + 1) 121 (4, [some (.inr (.inr (.inr (7, 0, 2)))), some (.inl (iZ (x))), some (.inl (iZ (0))), some (.inl (iZ (i)))], [], h) Q
      refine Ev.sts 2 (c' := (8, [some (.inr (.inr (.inr (7, 0, 2)))), some (.inl (iZ (x))), some (.inl (iZ (0))), some (.inl (iZ (i)))], [.inl (iZ (400)), .inl (iZ (i))], h)) rfl ?_
      refine Ev.brT (p := (iZ (400)) ≤ (iZ (i))) (c1 := (40, [some (.inr (.inr (.inr (7, 0, 2)))), some (.inl (iZ (x))), some (.inl (iZ (0))), some (.inl (iZ (i)))], [], h)) (c2 := (11, [some (.inr (.inr (.inr (7, 0, 2)))), some (.inl (iZ (x))), some (.inl (iZ (0))), some (.inl (iZ (i)))], [], h)) ((iZ_le ⟨by omega, by omega⟩ ⟨by omega, by omega⟩).mpr (by omega)) rfl ?_
      exact q _ _ q0 (fP_r b h)
    | true =>
      show Ev (d + 1) 121 (4, [some (.inr (.inr (.inr (7, 0, 2)))), some (.inl (iZ (x))), some (.inl (iZ (1))), some (.inl (iZ (i)))], [], h) Q
      refine Ev.sts 2 (c' := (8, [some (.inr (.inr (.inr (7, 0, 2)))), some (.inl (iZ (x))), some (.inl (iZ (1))), some (.inl (iZ (i)))], [.inl (iZ (400)), .inl (iZ (i))], h)) rfl ?_
      refine Ev.brT (p := (iZ (400)) ≤ (iZ (i))) (c1 := (40, [some (.inr (.inr (.inr (7, 0, 2)))), some (.inl (iZ (x))), some (.inl (iZ (1))), some (.inl (iZ (i)))], [], h)) (c2 := (11, [some (.inr (.inr (.inr (7, 0, 2)))), some (.inl (iZ (x))), some (.inl (iZ (1))), some (.inl (iZ (i)))], [], h)) ((iZ_le ⟨by omega, by omega⟩ ⟨by omega, by omega⟩).mpr (by omega)) rfl ?_
      exact q _ _ q0 (fP_r b h)
  | succ n ih =>
    intro i tb h p e P Q hn q0 hp q
    have sh := qc_sh q0
    have hb := qc_b q0
    have w0 := qc_w q0
    have p0 := qc_p q0
    have t0 := qc_tk q0
    have l1 := w0.2.1
    cases tb with
    | false =>
      show Ev (d + 1) 121 (4, [some (.inr (.inr (.inr (7, 0, 2)))), some (.inl (iZ (x))), some (.inl (iZ (0))), some (.inl (iZ (i)))], [], h) Q
      refine Ev.sts 2 (c' := (8, [some (.inr (.inr (.inr (7, 0, 2)))), some (.inl (iZ (x))), some (.inl (iZ (0))), some (.inl (iZ (i)))], [.inl (iZ (400)), .inl (iZ (i))], h)) rfl ?_
      refine Ev.brF (p := (iZ (400)) ≤ (iZ (i))) (c1 := (40, [some (.inr (.inr (.inr (7, 0, 2)))), some (.inl (iZ (x))), some (.inl (iZ (0))), some (.inl (iZ (i)))], [], h)) (c2 := (11, [some (.inr (.inr (.inr (7, 0, 2)))), some (.inl (iZ (x))), some (.inl (iZ (0))), some (.inl (iZ (i)))], [], h)) (fun c_ => absurd ((iZ_le ⟨by omega, by omega⟩ ⟨by omega, by omega⟩).mp c_) (by omega)) rfl ?_
      refine Ev.sts 1 (c' := (12, [some (.inr (.inr (.inr (7, 0, 2)))), some (.inl (iZ (x))), some (.inl (iZ (0))), some (.inl (iZ (i)))], [.inr (.inr (.inr (7, 0, 2)))], h)) rfl ?_
      refine Ev.gfr (r := (9, 0, 3)) rfl (sh_2_0 sh) ?_
      refine Ev.sts 1 (c' := (18, [some (.inr (.inr (.inr (7, 0, 2)))), some (.inl (iZ (x))), some (.inl (iZ (0))), some (.inl (iZ (i)))], [.inr (.inr (.inr (40, 0, 8))), .inr (.inr (.inr (9, 0, 3)))], h)) rfl ?_
      refine Ev.callw (a := [.inr (.inr (.inr (9, 0, 3))), .inr (.inr (.inr (40, 0, 8)))]) rfl (tc_skip q0 (by first | decide | omega) (fun ky1 h1 q1 f1 => ?_) (fun ky1 => ?_))
      · have z1 := qc_p q1
        refine Ev.brF (p := (iZ (1)) = (iZ (0))) (c1 := (40, [some (.inr (.inr (.inr (7, 0, 2)))), some (.inl (iZ (x))), some (.inl (iZ (0))), some (.inl (iZ (i)))], [], h1)) (c2 := (24, [some (.inr (.inr (.inr (7, 0, 2)))), some (.inl (iZ (x))), some (.inl (iZ (0))), some (.inl (iZ (i)))], [], h1)) (by decide) rfl ?_
        refine Ev.sts 1 (c' := (25, [some (.inr (.inr (.inr (7, 0, 2)))), some (.inl (iZ (x))), some (.inl (iZ (0))), some (.inl (iZ (i)))], [.inl (iZ (0))], h1)) rfl ?_
        refine Ev.brF (p := ¬ (iZ (0)) = (iZ (0))) (c1 := (32, [some (.inr (.inr (.inr (7, 0, 2)))), some (.inl (iZ (x))), some (.inl (iZ (0))), some (.inl (iZ (i)))], [], h1)) (c2 := (28, [some (.inr (.inr (.inr (7, 0, 2)))), some (.inl (iZ (x))), some (.inl (iZ (0))), some (.inl (iZ (i)))], [], h1)) (by decide) rfl ?_
        refine Ev.sts 3 (c' := (34, [some (.inr (.inr (.inr (7, 0, 2)))), some (.inl (iZ (x))), some (.inl (iZ (1))), some (.inl (iZ (i)))], [], h1)) rfl ?_
        refine Ev.stc (c1 := (37, [some (.inr (.inr (.inr (7, 0, 2)))), some (.inl (iZ (x))), some (.inl (iZ (1))), some (.inl ((iZ (i)) + (iZ (1))))], [], h1)) (c2 := (37, [some (.inr (.inr (.inr (7, 0, 2)))), some (.inl (iZ (x))), some (.inl (iZ (1))), some (.inl (iZ (i + 1)))], [], h1)) rfl (by rw [iZ_add]) ?_
        refine Ev.sts 1 (c' := (4, [some (.inr (.inr (.inr (7, 0, 2)))), some (.inl (iZ (x))), some (.inl (iZ (1))), some (.inl (iZ (i + 1)))], [], h1)) rfl ?_
        refine ih (i + 1) true _ _ _ _ _ (by omega) q1 (by first | omega | (simp only [List.length_append, List.length_cons, List.length_nil, List.length_map]; omega)) (fun hz jz qz fz => ?_)
        have e2 : nts T (n + 1) p false = nts T n (p + 1) true := nts_t (by assumption)
        rw [e2] at q
        exact q hz jz qz (fP_t (fP_t (fP_r b h) f1) fz)
      · refine Ev.brT (p := (iZ (0)) = (iZ (0))) (c1 := (40, [some (.inr (.inr (.inr (7, 0, 2)))), some (.inl (iZ (x))), some (.inl (iZ (0))), some (.inl (iZ (i)))], [], h)) (c2 := (24, [some (.inr (.inr (.inr (7, 0, 2)))), some (.inl (iZ (x))), some (.inl (iZ (0))), some (.inl (iZ (i)))], [], h)) (by decide) rfl ?_
        have e2 : nts T (n + 1) p false = (p, false) := nts_f (by assumption)
        rw [e2] at q
        exact q _ _ q0 (fP_r b h)
    | true =>
      show Ev (d + 1) 121 (4, [some (.inr (.inr (.inr (7, 0, 2)))), some (.inl (iZ (x))), some (.inl (iZ (1))), some (.inl (iZ (i)))], [], h) Q
      refine Ev.sts 2 (c' := (8, [some (.inr (.inr (.inr (7, 0, 2)))), some (.inl (iZ (x))), some (.inl (iZ (1))), some (.inl (iZ (i)))], [.inl (iZ (400)), .inl (iZ (i))], h)) rfl ?_
      refine Ev.brF (p := (iZ (400)) ≤ (iZ (i))) (c1 := (40, [some (.inr (.inr (.inr (7, 0, 2)))), some (.inl (iZ (x))), some (.inl (iZ (1))), some (.inl (iZ (i)))], [], h)) (c2 := (11, [some (.inr (.inr (.inr (7, 0, 2)))), some (.inl (iZ (x))), some (.inl (iZ (1))), some (.inl (iZ (i)))], [], h)) (fun c_ => absurd ((iZ_le ⟨by omega, by omega⟩ ⟨by omega, by omega⟩).mp c_) (by omega)) rfl ?_
      refine Ev.sts 1 (c' := (12, [some (.inr (.inr (.inr (7, 0, 2)))), some (.inl (iZ (x))), some (.inl (iZ (1))), some (.inl (iZ (i)))], [.inr (.inr (.inr (7, 0, 2)))], h)) rfl ?_
      refine Ev.gfr (r := (9, 0, 3)) rfl (sh_2_0 sh) ?_
      refine Ev.sts 1 (c' := (18, [some (.inr (.inr (.inr (7, 0, 2)))), some (.inl (iZ (x))), some (.inl (iZ (1))), some (.inl (iZ (i)))], [.inr (.inr (.inr (40, 0, 8))), .inr (.inr (.inr (9, 0, 3)))], h)) rfl ?_
      refine Ev.callw (a := [.inr (.inr (.inr (9, 0, 3))), .inr (.inr (.inr (40, 0, 8)))]) rfl (tc_skip q0 (by first | decide | omega) (fun ky1 h1 q1 f1 => ?_) (fun ky1 => ?_))
      · have z1 := qc_p q1
        refine Ev.brF (p := (iZ (1)) = (iZ (0))) (c1 := (40, [some (.inr (.inr (.inr (7, 0, 2)))), some (.inl (iZ (x))), some (.inl (iZ (1))), some (.inl (iZ (i)))], [], h1)) (c2 := (24, [some (.inr (.inr (.inr (7, 0, 2)))), some (.inl (iZ (x))), some (.inl (iZ (1))), some (.inl (iZ (i)))], [], h1)) (by decide) rfl ?_
        refine Ev.sts 1 (c' := (25, [some (.inr (.inr (.inr (7, 0, 2)))), some (.inl (iZ (x))), some (.inl (iZ (1))), some (.inl (iZ (i)))], [.inl (iZ (1))], h1)) rfl ?_
        refine Ev.brT (p := ¬ (iZ (1)) = (iZ (0))) (c1 := (32, [some (.inr (.inr (.inr (7, 0, 2)))), some (.inl (iZ (x))), some (.inl (iZ (1))), some (.inl (iZ (i)))], [], h1)) (c2 := (28, [some (.inr (.inr (.inr (7, 0, 2)))), some (.inl (iZ (x))), some (.inl (iZ (1))), some (.inl (iZ (i)))], [], h1)) (by decide) rfl ?_
        refine Ev.sts 2 (c' := (34, [some (.inr (.inr (.inr (7, 0, 2)))), some (.inl (iZ (x))), some (.inl (iZ (0))), some (.inl (iZ (i)))], [], h1)) rfl ?_
        refine Ev.stc (c1 := (37, [some (.inr (.inr (.inr (7, 0, 2)))), some (.inl (iZ (x))), some (.inl (iZ (0))), some (.inl ((iZ (i)) + (iZ (1))))], [], h1)) (c2 := (37, [some (.inr (.inr (.inr (7, 0, 2)))), some (.inl (iZ (x))), some (.inl (iZ (0))), some (.inl (iZ (i + 1)))], [], h1)) rfl (by rw [iZ_add]) ?_
        refine Ev.sts 1 (c' := (4, [some (.inr (.inr (.inr (7, 0, 2)))), some (.inl (iZ (x))), some (.inl (iZ (0))), some (.inl (iZ (i + 1)))], [], h1)) rfl ?_
        refine ih (i + 1) false _ _ _ _ _ (by omega) q1 (by first | omega | (simp only [List.length_append, List.length_cons, List.length_nil, List.length_map]; omega)) (fun hz jz qz fz => ?_)
        have e2 : nts T (n + 1) p true = nts T n (p + 1) false := nts_t (by assumption)
        rw [e2] at q
        exact q hz jz qz (fP_t (fP_t (fP_r b h) f1) fz)
      · refine Ev.brT (p := (iZ (0)) = (iZ (0))) (c1 := (40, [some (.inr (.inr (.inr (7, 0, 2)))), some (.inl (iZ (x))), some (.inl (iZ (1))), some (.inl (iZ (i)))], [], h)) (c2 := (24, [some (.inr (.inr (.inr (7, 0, 2)))), some (.inl (iZ (x))), some (.inl (iZ (1))), some (.inl (iZ (i)))], [], h)) (by decide) rfl ?_
        have e2 : nts T (n + 1) p true = (p, true) := nts_f (by assumption)
        rw [e2] at q
        exact q _ _ q0 (fP_r b h)

theorem tc_sg_e {D d lv b : Nat} {x i : Int} {T : List Tok} {F G : List Int} {sub val : Nat → Rz} (hD : D ≤ d) (hk : TOK D 122 x b T F G (kpS T lv sub val)) (gk : gdS T (okTs T) (kpS T lv sub val)) (tb : Bool) {h : PH} {p : Nat} {e : Nat × Nat} {P : List Cmd} {Q : Rs → PH → Prop} (q0 : QC h b T p e F G P) (hp : P.length ≤ p) (hp2 : tb = true → P.length + 1 ≤ p) (kok : (((kpS T lv sub val p).1 = true → ∀ h1, QC h1 b T (kpS T lv sub val p).2.1 (ntE e (fb T F ((kpS T lv sub val p).2.2 ++ (if tb = true then [(8, 0)] else [])))) F G (P ++ ((kpS T lv sub val p).2.2 ++ (if tb = true then [(8, 0)] else [])).map (rsl T F)) → fPp b h h1 → Q (.inl (some (.inl (iZ 1)))) h1))) (kno : ((kpS T lv sub val p).1 = false → ∀ h1 e1 P1, QC h1 b T (kpS T lv sub val p).2.1 e1 F G P1 → fPp b h h1 → Q (.inl (some (.inl (iZ 0)))) h1)) : Ev (d + 1) 121 (40, [some (.inr (.inr (.inr (7, 0, 2)))), some (.inl (iZ (x))), some (.inl (iZ (bI tb))), some (.inl (iZ (i)))], [], h) Q := by
  have sh := qc_sh q0
  have hb := qc_b q0
  have w0 := qc_w q0
  have p0 := qc_p q0
  have t0 := qc_tk q0
  have l1 := w0.2.1
  cases tb with
  | false =>
    show Ev (d + 1) 121 (40, [some (.inr (.inr (.inr (7, 0, 2)))), some (.inl (iZ (x))), some (.inl (iZ (0))), some (.inl (iZ (i)))], [], h) Q
    refine Ev.sts 2 (c' := (42, [some (.inr (.inr (.inr (7, 0, 2)))), some (.inl (iZ (x))), some (.inl (iZ (0))), some (.inl (iZ (i)))], [.inl (iZ (x)), .inr (.inr (.inr (7, 0, 2)))], h)) rfl ?_
    refine Ev.callw (a := [.inr (.inr (.inr (7, 0, 2))), .inl (iZ (x))]) rfl (hk _ (by omega) _ _ _ _ _ q0 (by first | omega | (simp only [List.length_append, List.length_cons, List.length_nil, List.length_map]; omega)) (fun r1 h1 q1 f1 => ?_) (fun r1 g1 e1 P1 q1 f1 => ?_))
    · obtain ⟨x1, y1, -⟩ := gk _ r1
      have z1 := qc_p q1
      refine Ev.brT (p := ¬ (iZ (1)) = (iZ (0))) (c1 := (50, [some (.inr (.inr (.inr (7, 0, 2)))), some (.inl (iZ (x))), some (.inl (iZ (0))), some (.inl (iZ (i)))], [], h1)) (c2 := (48, [some (.inr (.inr (.inr (7, 0, 2)))), some (.inl (iZ (x))), some (.inl (iZ (0))), some (.inl (iZ (i)))], [], h1)) (by decide) rfl ?_
      refine Ev.sts 1 (c' := (51, [some (.inr (.inr (.inr (7, 0, 2)))), some (.inl (iZ (x))), some (.inl (iZ (0))), some (.inl (iZ (i)))], [.inl (iZ (0))], h1)) rfl ?_
      refine Ev.brT (p := (iZ (0)) = (iZ (0))) (c1 := (68, [some (.inr (.inr (.inr (7, 0, 2)))), some (.inl (iZ (x))), some (.inl (iZ (0))), some (.inl (iZ (i)))], [], h1)) (c2 := (54, [some (.inr (.inr (.inr (7, 0, 2)))), some (.inl (iZ (x))), some (.inl (iZ (0))), some (.inl (iZ (i)))], [], h1)) (by decide) rfl ?_
      refine Ev.sts 1 (c' := (69, [some (.inr (.inr (.inr (7, 0, 2)))), some (.inl (iZ (x))), some (.inl (iZ (0))), some (.inl (iZ (i)))], [.inl (iZ (1))], h1)) rfl ?_
      exact Ev.ret rfl (kok (by assumption) _ (by rw [if_neg (by decide), List.append_nil]; exact q1) (fP_t (fP_r b h) f1))
    · refine Ev.brF (p := ¬ (iZ (0)) = (iZ (0))) (c1 := (50, [some (.inr (.inr (.inr (7, 0, 2)))), some (.inl (iZ (x))), some (.inl (iZ (0))), some (.inl (iZ (i)))], [], g1)) (c2 := (48, [some (.inr (.inr (.inr (7, 0, 2)))), some (.inl (iZ (x))), some (.inl (iZ (0))), some (.inl (iZ (i)))], [], g1)) (by decide) rfl ?_
      refine Ev.sts 1 (c' := (49, [some (.inr (.inr (.inr (7, 0, 2)))), some (.inl (iZ (x))), some (.inl (iZ (0))), some (.inl (iZ (i)))], [.inl (iZ (0))], g1)) rfl ?_
      exact Ev.ret rfl (kno (by assumption) _ _ _ q1 (fP_t (fP_r b h) f1))
  | true =>
    have hp3 := hp2 rfl
    show Ev (d + 1) 121 (40, [some (.inr (.inr (.inr (7, 0, 2)))), some (.inl (iZ (x))), some (.inl (iZ (1))), some (.inl (iZ (i)))], [], h) Q
    refine Ev.sts 2 (c' := (42, [some (.inr (.inr (.inr (7, 0, 2)))), some (.inl (iZ (x))), some (.inl (iZ (1))), some (.inl (iZ (i)))], [.inl (iZ (x)), .inr (.inr (.inr (7, 0, 2)))], h)) rfl ?_
    refine Ev.callw (a := [.inr (.inr (.inr (7, 0, 2))), .inl (iZ (x))]) rfl (hk _ (by omega) _ _ _ _ _ q0 (by first | omega | (simp only [List.length_append, List.length_cons, List.length_nil, List.length_map]; omega)) (fun r1 h1 q1 f1 => ?_) (fun r1 g1 e1 P1 q1 f1 => ?_))
    · obtain ⟨x1, y1, -⟩ := gk _ r1
      have z1 := qc_p q1
      refine Ev.brT (p := ¬ (iZ (1)) = (iZ (0))) (c1 := (50, [some (.inr (.inr (.inr (7, 0, 2)))), some (.inl (iZ (x))), some (.inl (iZ (1))), some (.inl (iZ (i)))], [], h1)) (c2 := (48, [some (.inr (.inr (.inr (7, 0, 2)))), some (.inl (iZ (x))), some (.inl (iZ (1))), some (.inl (iZ (i)))], [], h1)) (by decide) rfl ?_
      refine Ev.sts 1 (c' := (51, [some (.inr (.inr (.inr (7, 0, 2)))), some (.inl (iZ (x))), some (.inl (iZ (1))), some (.inl (iZ (i)))], [.inl (iZ (1))], h1)) rfl ?_
      refine Ev.brF (p := (iZ (1)) = (iZ (0))) (c1 := (68, [some (.inr (.inr (.inr (7, 0, 2)))), some (.inl (iZ (x))), some (.inl (iZ (1))), some (.inl (iZ (i)))], [], h1)) (c2 := (54, [some (.inr (.inr (.inr (7, 0, 2)))), some (.inl (iZ (x))), some (.inl (iZ (1))), some (.inl (iZ (i)))], [], h1)) (by decide) rfl ?_
      refine Ev.sts 1 (c' := (55, [some (.inr (.inr (.inr (7, 0, 2)))), some (.inl (iZ (x))), some (.inl (iZ (1))), some (.inl (iZ (i)))], [.inr (.inr (.inr (7, 0, 2)))], h1)) rfl ?_
      refine Ev.gfr (r := (2, 0, b)) rfl (qc_24 q1) ?_
      refine Ev.gfr (r := (5, 0, (b + 5))) rfl (sh_b4 (qc_sh q1) hb) ?_
      refine Ev.sts 2 (c' := (65, [some (.inr (.inr (.inr (7, 0, 2)))), some (.inl (iZ (x))), some (.inl (iZ (1))), some (.inl (iZ (i)))], [.inl (iZ (0)), .inr (.inr (.inr (40, 0, 8))), .inr (.inr (.inr (5, 0, (b + 5))))], h1)) rfl ?_
      refine Ev.callw (a := [.inr (.inr (.inr (5, 0, (b + 5)))), .inr (.inr (.inr (40, 0, 8))), .inl (iZ (0))]) rfl (tc_add q1 (by first | omega | (simp only [List.length_append, List.length_cons, List.length_nil, List.length_map]; omega)) (fun h2 q2 f2 => ?_))
      refine Ev.sts 1 (c' := (69, [some (.inr (.inr (.inr (7, 0, 2)))), some (.inl (iZ (x))), some (.inl (iZ (1))), some (.inl (iZ (i)))], [.inl (iZ (1))], h2)) rfl ?_
      exact Ev.ret rfl (kok (by assumption) _ (by rw [if_pos rfl, fb_app, List.map_append, ← ntE_as, ← List.append_assoc]; exact qc_e0 q2) (fP_t (fP_t (fP_r b h) f1) f2))
    · refine Ev.brF (p := ¬ (iZ (0)) = (iZ (0))) (c1 := (50, [some (.inr (.inr (.inr (7, 0, 2)))), some (.inl (iZ (x))), some (.inl (iZ (1))), some (.inl (iZ (i)))], [], g1)) (c2 := (48, [some (.inr (.inr (.inr (7, 0, 2)))), some (.inl (iZ (x))), some (.inl (iZ (1))), some (.inl (iZ (i)))], [], g1)) (by decide) rfl ?_
      refine Ev.sts 1 (c' := (49, [some (.inr (.inr (.inr (7, 0, 2)))), some (.inl (iZ (x))), some (.inl (iZ (1))), some (.inl (iZ (i)))], [.inl (iZ (0))], g1)) rfl ?_
      exact Ev.ret rfl (kno (by assumption) _ _ _ q1 (fP_t (fP_r b h) f1))

theorem tc_single {D lv b : Nat} {x : Int} {T : List Tok} {F G : List Int} {sub val : Nat → Rz} (hk : TOK D 122 x b T F G (kpS T lv sub val)) (gk : gdS T (okTs T) (kpS T lv sub val)) : TOK (D + 1) 121 x b T F G (sgS T lv sub val) := by
  intro k hk9 h p e P Q q0 hp kok kno
  have sh := qc_sh q0
  have hb := qc_b q0
  have w0 := qc_w q0
  have p0 := qc_p q0
  have t0 := qc_tk q0
  have l1 := w0.2.1
  obtain ⟨d, rfl⟩ : ∃ d, k = d + 1 := ⟨k - 1, by omega⟩
  refine Ev.sts 4 (c' := (4, [some (.inr (.inr (.inr (7, 0, 2)))), some (.inl (iZ (x))), some (.inl (iZ (0))), some (.inl (iZ (0)))], [], h)) rfl ?_
  have ng := nts_ge T 400 p false
  refine tc_nt_lp (d := d) 400 0 false _ _ _ _ _ rfl q0 hp (fun hz jz qz fz => ?_)
  refine tc_sg_e (d := d) (by omega) hk gk (nts T 400 p false).2 qz (by omega) (fun y => by have := ng.2 (by rw [y]; decide); omega) (fun rr hy qy fy => ?_) (fun rr hy ey Py qy fy => ?_)
  · have e1 : sgS T lv sub val p = (true, (kpS T lv sub val (nts T 400 p false).1).2.1, (kpS T lv sub val (nts T 400 p false).1).2.2 ++ (if (nts T 400 p false).2 = true then [(8, 0)] else [])) := by unfold sgS; rw [bnd_t rr]
    rw [e1] at kok
    exact kok rfl hy qy (fP_t fz fy)
  · have e1 : sgS T lv sub val p = (false, (kpS T lv sub val (nts T 400 p false).1).2.1, []) := by unfold sgS; rw [bnd_f rr]
    rw [e1] at kno
    exact kno rfl hy ey Py qy (fP_t fz fy)

theorem tc_bt_lp {D d b : Nat} {x : Int} {T : List Tok} {F G : List Int} {item : Nat → Rz} (hi : TOK D 121 x b T F G item) (gs : gdS T (okTs T) item) (hD : D ≤ d) (n : Nat) : ∀ (i : Nat) (h : PH) (p : Nat) (e : Nat × Nat) (P : List Cmd) (Q : Rs → PH → Prop), i + n = 400 → QC h b T p e F G P → P.length ≤ p → ((lpS T spA item n p).1 = true → ∀ h1, QC h1 b T (lpS T spA item n p).2.1 (ntE e (fb T F (lpS T spA item n p).2.2)) F G (P ++ (lpS T spA item n p).2.2.map (rsl T F)) → fPp b h h1 → Q (.inl (some (.inl (iZ 1)))) h1) → ((lpS T spA item n p).1 = false → ∀ h1 e1 P1, QC h1 b T (lpS T spA item n p).2.1 e1 F G P1 → fPp b h h1 → Q (.inl (some (.inl (iZ 0)))) h1) → Ev (d + 1) 120 (12, [some (.inr (.inr (.inr (7, 0, 2)))), some (.inl (iZ (x))), some (.inl (iZ (i)))], [], h) Q := by
  induction n with
  | zero =>
    intro i h p e P Q hn q0 hp kok kno
    have sh := qc_sh q0
    have hb := qc_b q0
    have w0 := qc_w q0
    have p0 := qc_p q0
    have t0 := qc_tk q0
    have l1 := w0.2.1
    refine Ev.sts 2 (c' := (16, [some (.inr (.inr (.inr (7, 0, 2)))), some (.inl (iZ (x))), some (.inl (iZ (i)))], [.inl (iZ (400)), .inl (iZ (i))], h)) rfl ?_
    refine Ev.brT (p := (iZ (400)) ≤ (iZ (i))) (c1 := (62, [some (.inr (.inr (.inr (7, 0, 2)))), some (.inl (iZ (x))), some (.inl (iZ (i)))], [], h)) (c2 := (19, [some (.inr (.inr (.inr (7, 0, 2)))), some (.inl (iZ (x))), some (.inl (iZ (i)))], [], h)) ((iZ_le ⟨by omega, by omega⟩ ⟨by omega, by omega⟩).mpr (by omega)) rfl ?_
    refine Ev.sts 1 (c' := (63, [some (.inr (.inr (.inr (7, 0, 2)))), some (.inl (iZ (x))), some (.inl (iZ (i)))], [.inl (iZ (1))], h)) rfl ?_
    first | (exfalso; omega) | (have e1 : lpS T spA item 0 p = (true, p, []) := (by rfl); rw [e1] at kok; exact Ev.ret rfl (kok rfl _ (by dsimp only; rw [List.map_nil, List.append_nil]; exact qc_e0 q0) (fP_r b h)))
  | succ n ih =>
    intro i h p e P Q hn q0 hp kok kno
    have sh := qc_sh q0
    have hb := qc_b q0
    have w0 := qc_w q0
    have p0 := qc_p q0
    have t0 := qc_tk q0
    have l1 := w0.2.1
    refine Ev.sts 2 (c' := (16, [some (.inr (.inr (.inr (7, 0, 2)))), some (.inl (iZ (x))), some (.inl (iZ (i)))], [.inl (iZ (400)), .inl (iZ (i))], h)) rfl ?_
    refine Ev.brF (p := (iZ (400)) ≤ (iZ (i))) (c1 := (62, [some (.inr (.inr (.inr (7, 0, 2)))), some (.inl (iZ (x))), some (.inl (iZ (i)))], [], h)) (c2 := (19, [some (.inr (.inr (.inr (7, 0, 2)))), some (.inl (iZ (x))), some (.inl (iZ (i)))], [], h)) (fun c_ => absurd ((iZ_le ⟨by omega, by omega⟩ ⟨by omega, by omega⟩).mp c_) (by omega)) rfl ?_
    refine Ev.sts 1 (c' := (20, [some (.inr (.inr (.inr (7, 0, 2)))), some (.inl (iZ (x))), some (.inl (iZ (i)))], [.inr (.inr (.inr (7, 0, 2)))], h)) rfl ?_
    refine Ev.gfr (r := (9, 0, 3)) rfl (sh_2_0 sh) ?_
    refine Ev.sts 1 (c' := (26, [some (.inr (.inr (.inr (7, 0, 2)))), some (.inl (iZ (x))), some (.inl (iZ (i)))], [.inr (.inr (.inr (40, 0, 9))), .inr (.inr (.inr (9, 0, 3)))], h)) rfl ?_
    refine Ev.callw (a := [.inr (.inr (.inr (9, 0, 3))), .inr (.inr (.inr (40, 0, 9)))]) rfl (tc_skip q0 (by first | decide | omega) (fun ky1 h1 q1 f1 => ?_) (fun ky1 => ?_))
    · have z1 := qc_p q1
      refine Ev.brF (p := (iZ (1)) = (iZ (0))) (c1 := (62, [some (.inr (.inr (.inr (7, 0, 2)))), some (.inl (iZ (x))), some (.inl (iZ (i)))], [], h1)) (c2 := (32, [some (.inr (.inr (.inr (7, 0, 2)))), some (.inl (iZ (x))), some (.inl (iZ (i)))], [], h1)) (by decide) rfl ?_
      refine Ev.sts 2 (c' := (34, [some (.inr (.inr (.inr (7, 0, 2)))), some (.inl (iZ (x))), some (.inl (iZ (i)))], [.inl (iZ (x)), .inr (.inr (.inr (7, 0, 2)))], h1)) rfl ?_
      refine Ev.callw (a := [.inr (.inr (.inr (7, 0, 2))), .inl (iZ (x))]) rfl (hi _ (by omega) _ _ _ _ _ q1 (by first | omega | (simp only [List.length_append, List.length_cons, List.length_nil, List.length_map]; omega)) (fun r2 h2 q2 f2 => ?_) (fun r2 g2 e2 P2 q2 f2 => ?_))
      · obtain ⟨x2, y2, -⟩ := gs _ r2
        have z2 := qc_p q2
        refine Ev.brT (p := ¬ (iZ (1)) = (iZ (0))) (c1 := (42, [some (.inr (.inr (.inr (7, 0, 2)))), some (.inl (iZ (x))), some (.inl (iZ (i)))], [], h2)) (c2 := (40, [some (.inr (.inr (.inr (7, 0, 2)))), some (.inl (iZ (x))), some (.inl (iZ (i)))], [], h2)) (by decide) rfl ?_
        refine Ev.sts 1 (c' := (43, [some (.inr (.inr (.inr (7, 0, 2)))), some (.inl (iZ (x))), some (.inl (iZ (i)))], [.inr (.inr (.inr (7, 0, 2)))], h2)) rfl ?_
        refine Ev.gfr (r := (2, 0, b)) rfl (qc_24 q2) ?_
        refine Ev.gfr (r := (5, 0, (b + 5))) rfl (sh_b4 (qc_sh q2) hb) ?_
        refine Ev.sts 2 (c' := (53, [some (.inr (.inr (.inr (7, 0, 2)))), some (.inl (iZ (x))), some (.inl (iZ (i)))], [.inl (iZ (0)), .inr (.inr (.inr (40, 0, 9))), .inr (.inr (.inr (5, 0, (b + 5))))], h2)) rfl ?_
        refine Ev.callw (a := [.inr (.inr (.inr (5, 0, (b + 5)))), .inr (.inr (.inr (40, 0, 9))), .inl (iZ (0))]) rfl (tc_add q2 (by first | omega | (simp only [List.length_append, List.length_cons, List.length_nil, List.length_map]; omega)) (fun h3 q3 f3 => ?_))
        refine Ev.stc (c1 := (59, [some (.inr (.inr (.inr (7, 0, 2)))), some (.inl (iZ (x))), some (.inl ((iZ (i)) + (iZ (1))))], [], h3)) (c2 := (59, [some (.inr (.inr (.inr (7, 0, 2)))), some (.inl (iZ (x))), some (.inl (iZ (i + 1)))], [], h3)) rfl (by rw [iZ_add]) ?_
        refine Ev.sts 1 (c' := (12, [some (.inr (.inr (.inr (7, 0, 2)))), some (.inl (iZ (x))), some (.inl (iZ (i + 1)))], [], h3)) rfl ?_
        refine ih (i + 1) _ _ _ _ _ (by omega) q3 (by first | omega | (simp only [List.length_append, List.length_cons, List.length_nil, List.length_map]; omega)) (fun rr hz qz fz => ?_) (fun rr hz ez Pz qz fz => ?_)
        · have e1 : lpS T spA item (n + 1) p = (true, (lpS T spA item n (item (p + 1)).2.1).2.1, (item (p + 1)).2.2 ++ (tK T p, 0) :: (lpS T spA item n (item (p + 1)).2.1).2.2) := by rw [lp_t (by rw [spA_t]; first | assumption | omega | (left; assumption) | (right; assumption)), bnd_t (by assumption)]; dsimp only; rw [rr]
          rw [e1] at kok
          refine kok rfl hz ?_ (fP_t (fP_t (fP_t (fP_t (fP_r b h) f1) f2) f3) fz)
          dsimp only
          rw [fb_app, fb_n7 (c := (tK T p, 0)) (by show ¬ tK T p = 7; omega), ← ntE_as, List.map_append, List.map_cons, rsl_n7 (c := (tK T p, 0)) (by show ¬ tK T p = 7; omega), show tK T p = 9 by assumption]
          simpa only [List.append_assoc, List.cons_append, List.nil_append] using qz
        · have e1 : lpS T spA item (n + 1) p = (false, (lpS T spA item n (item (p + 1)).2.1).2.1, (item (p + 1)).2.2 ++ (tK T p, 0) :: (lpS T spA item n (item (p + 1)).2.1).2.2) := by rw [lp_t (by rw [spA_t]; first | assumption | omega | (left; assumption) | (right; assumption)), bnd_t (by assumption)]; dsimp only; rw [rr]
          rw [e1] at kno
          exact kno rfl hz ez Pz qz (fP_t (fP_t (fP_t (fP_t (fP_r b h) f1) f2) f3) fz)
      · refine Ev.brF (p := ¬ (iZ (0)) = (iZ (0))) (c1 := (42, [some (.inr (.inr (.inr (7, 0, 2)))), some (.inl (iZ (x))), some (.inl (iZ (i)))], [], g2)) (c2 := (40, [some (.inr (.inr (.inr (7, 0, 2)))), some (.inl (iZ (x))), some (.inl (iZ (i)))], [], g2)) (by decide) rfl ?_
        refine Ev.sts 1 (c' := (41, [some (.inr (.inr (.inr (7, 0, 2)))), some (.inl (iZ (x))), some (.inl (iZ (i)))], [.inl (iZ (0))], g2)) rfl ?_
        first | (exfalso; omega) | (have e1 : lpS T spA item (n + 1) p = (false, (item (p + 1)).2.1, []) := (by rw [lp_t (by rw [spA_t]; first | assumption | omega | (left; assumption) | (right; assumption)), bnd_f (by assumption)]); rw [e1] at kno; exact Ev.ret rfl (kno rfl _ _ _ q2 (fP_t (fP_t (fP_r b h) f1) f2)))
    · refine Ev.brT (p := (iZ (0)) = (iZ (0))) (c1 := (62, [some (.inr (.inr (.inr (7, 0, 2)))), some (.inl (iZ (x))), some (.inl (iZ (i)))], [], h)) (c2 := (32, [some (.inr (.inr (.inr (7, 0, 2)))), some (.inl (iZ (x))), some (.inl (iZ (i)))], [], h)) (by decide) rfl ?_
      refine Ev.sts 1 (c' := (63, [some (.inr (.inr (.inr (7, 0, 2)))), some (.inl (iZ (x))), some (.inl (iZ (i)))], [.inl (iZ (1))], h)) rfl ?_
      first | (exfalso; omega) | (have e1 : lpS T spA item (n + 1) p = (true, p, []) := (by exact lp_f (by rw [spA_t]; omega)); rw [e1] at kok; exact Ev.ret rfl (kok rfl _ (by dsimp only; rw [List.map_nil, List.append_nil]; exact qc_e0 q0) (fP_r b h)))

theorem tc_bt {D b : Nat} {x : Int} {T : List Tok} {F G : List Int} {item : Nat → Rz} (hi : TOK D 121 x b T F G item) (gs : gdS T (okTs T) item) : TOK (D + 1) 120 x b T F G (sqS T spA item) := by
  intro k hk h p e P Q q0 hp kok kno
  have sh := qc_sh q0
  have hb := qc_b q0
  have w0 := qc_w q0
  have p0 := qc_p q0
  have t0 := qc_tk q0
  have l1 := w0.2.1
  obtain ⟨d, rfl⟩ : ∃ d, k = d + 1 := ⟨k - 1, by omega⟩
  refine Ev.sts 2 (c' := (2, [some (.inr (.inr (.inr (7, 0, 2)))), some (.inl (iZ (x))), none], [.inl (iZ (x)), .inr (.inr (.inr (7, 0, 2)))], h)) rfl ?_
  refine Ev.callw (a := [.inr (.inr (.inr (7, 0, 2))), .inl (iZ (x))]) rfl (hi _ (by omega) _ _ _ _ _ q0 (by first | omega | (simp only [List.length_append, List.length_cons, List.length_nil, List.length_map]; omega)) (fun r1 h1 q1 f1 => ?_) (fun r1 g1 e1 P1 q1 f1 => ?_))
  · obtain ⟨x1, y1, -⟩ := gs _ r1
    have z1 := qc_p q1
    refine Ev.brT (p := ¬ (iZ (1)) = (iZ (0))) (c1 := (10, [some (.inr (.inr (.inr (7, 0, 2)))), some (.inl (iZ (x))), none], [], h1)) (c2 := (8, [some (.inr (.inr (.inr (7, 0, 2)))), some (.inl (iZ (x))), none], [], h1)) (by decide) rfl ?_
    refine Ev.sts 2 (c' := (12, [some (.inr (.inr (.inr (7, 0, 2)))), some (.inl (iZ (x))), some (.inl (iZ (0)))], [], h1)) rfl ?_
    refine tc_bt_lp hi gs (by omega) 400 0 _ _ _ _ _ rfl q1 (by first | omega | (simp only [List.length_append, List.length_cons, List.length_nil, List.length_map]; omega)) (fun rr hz qz fz => ?_) (fun rr hz ez Pz qz fz => ?_)
    · have e1 : sqS T spA item p = (true, (lpS T spA item 400 (item p).2.1).2.1, (item p).2.2 ++ (lpS T spA item 400 (item p).2.1).2.2) := by unfold sqS; rw [bnd_t (by assumption), rr]
      rw [e1] at kok
      refine kok rfl hz ?_ (fP_t (fP_t (fP_r b h) f1) fz)
      dsimp only
      rw [fb_app, ← ntE_as, List.map_append, ← List.append_assoc]; exact qz
    · have e1 : sqS T spA item p = (false, (lpS T spA item 400 (item p).2.1).2.1, (item p).2.2 ++ (lpS T spA item 400 (item p).2.1).2.2) := by unfold sqS; rw [bnd_t (by assumption), rr]
      rw [e1] at kno
      exact kno rfl hz ez Pz qz (fP_t (fP_t (fP_r b h) f1) fz)
  · refine Ev.brF (p := ¬ (iZ (0)) = (iZ (0))) (c1 := (10, [some (.inr (.inr (.inr (7, 0, 2)))), some (.inl (iZ (x))), none], [], g1)) (c2 := (8, [some (.inr (.inr (.inr (7, 0, 2)))), some (.inl (iZ (x))), none], [], g1)) (by decide) rfl ?_
    refine Ev.sts 1 (c' := (9, [some (.inr (.inr (.inr (7, 0, 2)))), some (.inl (iZ (x))), none], [.inl (iZ (0))], g1)) rfl ?_
    first | (exfalso; omega) | (have e1 : sqS T spA item p = (false, (item p).2.1, []) := (by unfold sqS; rw [bnd_f (by assumption)]); rw [e1] at kno; exact Ev.ret rfl (kno rfl _ _ _ q1 (fP_t (fP_r b h) f1)))

theorem tc_ts_lp {D d b : Nat} {x : Int} {T : List Tok} {F G : List Int} {item : Nat → Rz} (hi : TOK D 120 x b T F G item) (gs : gdS T (okTs T) item) (hD : D ≤ d) (n : Nat) : ∀ (i : Nat) (h : PH) (p : Nat) (e : Nat × Nat) (P : List Cmd) (Q : Rs → PH → Prop), i + n = 400 → QC h b T p e F G P → P.length ≤ p → ((lpS T spO item n p).1 = true → ∀ h1, QC h1 b T (lpS T spO item n p).2.1 (ntE e (fb T F (lpS T spO item n p).2.2)) F G (P ++ (lpS T spO item n p).2.2.map (rsl T F)) → fPp b h h1 → Q (.inl (some (.inl (iZ 1)))) h1) → ((lpS T spO item n p).1 = false → ∀ h1 e1 P1, QC h1 b T (lpS T spO item n p).2.1 e1 F G P1 → fPp b h h1 → Q (.inl (some (.inl (iZ 0)))) h1) → Ev (d + 1) 119 (12, [some (.inr (.inr (.inr (7, 0, 2)))), some (.inl (iZ (x))), some (.inl (iZ (i)))], [], h) Q := by
  induction n with
  | zero =>
    intro i h p e P Q hn q0 hp kok kno
    have sh := qc_sh q0
    have hb := qc_b q0
    have w0 := qc_w q0
    have p0 := qc_p q0
    have t0 := qc_tk q0
    have l1 := w0.2.1
    refine Ev.sts 2 (c' := (16, [some (.inr (.inr (.inr (7, 0, 2)))), some (.inl (iZ (x))), some (.inl (iZ (i)))], [.inl (iZ (400)), .inl (iZ (i))], h)) rfl ?_
    refine Ev.brT (p := (iZ (400)) ≤ (iZ (i))) (c1 := (62, [some (.inr (.inr (.inr (7, 0, 2)))), some (.inl (iZ (x))), some (.inl (iZ (i)))], [], h)) (c2 := (19, [some (.inr (.inr (.inr (7, 0, 2)))), some (.inl (iZ (x))), some (.inl (iZ (i)))], [], h)) ((iZ_le ⟨by omega, by omega⟩ ⟨by omega, by omega⟩).mpr (by omega)) rfl ?_
    refine Ev.sts 1 (c' := (63, [some (.inr (.inr (.inr (7, 0, 2)))), some (.inl (iZ (x))), some (.inl (iZ (i)))], [.inl (iZ (1))], h)) rfl ?_
    first | (exfalso; omega) | (have e1 : lpS T spO item 0 p = (true, p, []) := (by rfl); rw [e1] at kok; exact Ev.ret rfl (kok rfl _ (by dsimp only; rw [List.map_nil, List.append_nil]; exact qc_e0 q0) (fP_r b h)))
  | succ n ih =>
    intro i h p e P Q hn q0 hp kok kno
    have sh := qc_sh q0
    have hb := qc_b q0
    have w0 := qc_w q0
    have p0 := qc_p q0
    have t0 := qc_tk q0
    have l1 := w0.2.1
    refine Ev.sts 2 (c' := (16, [some (.inr (.inr (.inr (7, 0, 2)))), some (.inl (iZ (x))), some (.inl (iZ (i)))], [.inl (iZ (400)), .inl (iZ (i))], h)) rfl ?_
    refine Ev.brF (p := (iZ (400)) ≤ (iZ (i))) (c1 := (62, [some (.inr (.inr (.inr (7, 0, 2)))), some (.inl (iZ (x))), some (.inl (iZ (i)))], [], h)) (c2 := (19, [some (.inr (.inr (.inr (7, 0, 2)))), some (.inl (iZ (x))), some (.inl (iZ (i)))], [], h)) (fun c_ => absurd ((iZ_le ⟨by omega, by omega⟩ ⟨by omega, by omega⟩).mp c_) (by omega)) rfl ?_
    refine Ev.sts 1 (c' := (20, [some (.inr (.inr (.inr (7, 0, 2)))), some (.inl (iZ (x))), some (.inl (iZ (i)))], [.inr (.inr (.inr (7, 0, 2)))], h)) rfl ?_
    refine Ev.gfr (r := (9, 0, 3)) rfl (sh_2_0 sh) ?_
    refine Ev.sts 1 (c' := (26, [some (.inr (.inr (.inr (7, 0, 2)))), some (.inl (iZ (x))), some (.inl (iZ (i)))], [.inr (.inr (.inr (40, 0, 10))), .inr (.inr (.inr (9, 0, 3)))], h)) rfl ?_
    refine Ev.callw (a := [.inr (.inr (.inr (9, 0, 3))), .inr (.inr (.inr (40, 0, 10)))]) rfl (tc_skip q0 (by first | decide | omega) (fun ky1 h1 q1 f1 => ?_) (fun ky1 => ?_))
    · have z1 := qc_p q1
      refine Ev.brF (p := (iZ (1)) = (iZ (0))) (c1 := (62, [some (.inr (.inr (.inr (7, 0, 2)))), some (.inl (iZ (x))), some (.inl (iZ (i)))], [], h1)) (c2 := (32, [some (.inr (.inr (.inr (7, 0, 2)))), some (.inl (iZ (x))), some (.inl (iZ (i)))], [], h1)) (by decide) rfl ?_
      refine Ev.sts 2 (c' := (34, [some (.inr (.inr (.inr (7, 0, 2)))), some (.inl (iZ (x))), some (.inl (iZ (i)))], [.inl (iZ (x)), .inr (.inr (.inr (7, 0, 2)))], h1)) rfl ?_
      refine Ev.callw (a := [.inr (.inr (.inr (7, 0, 2))), .inl (iZ (x))]) rfl (hi _ (by omega) _ _ _ _ _ q1 (by first | omega | (simp only [List.length_append, List.length_cons, List.length_nil, List.length_map]; omega)) (fun r2 h2 q2 f2 => ?_) (fun r2 g2 e2 P2 q2 f2 => ?_))
      · obtain ⟨x2, y2, -⟩ := gs _ r2
        have z2 := qc_p q2
        refine Ev.brT (p := ¬ (iZ (1)) = (iZ (0))) (c1 := (42, [some (.inr (.inr (.inr (7, 0, 2)))), some (.inl (iZ (x))), some (.inl (iZ (i)))], [], h2)) (c2 := (40, [some (.inr (.inr (.inr (7, 0, 2)))), some (.inl (iZ (x))), some (.inl (iZ (i)))], [], h2)) (by decide) rfl ?_
        refine Ev.sts 1 (c' := (43, [some (.inr (.inr (.inr (7, 0, 2)))), some (.inl (iZ (x))), some (.inl (iZ (i)))], [.inr (.inr (.inr (7, 0, 2)))], h2)) rfl ?_
        refine Ev.gfr (r := (2, 0, b)) rfl (qc_24 q2) ?_
        refine Ev.gfr (r := (5, 0, (b + 5))) rfl (sh_b4 (qc_sh q2) hb) ?_
        refine Ev.sts 2 (c' := (53, [some (.inr (.inr (.inr (7, 0, 2)))), some (.inl (iZ (x))), some (.inl (iZ (i)))], [.inl (iZ (0)), .inr (.inr (.inr (40, 0, 10))), .inr (.inr (.inr (5, 0, (b + 5))))], h2)) rfl ?_
        refine Ev.callw (a := [.inr (.inr (.inr (5, 0, (b + 5)))), .inr (.inr (.inr (40, 0, 10))), .inl (iZ (0))]) rfl (tc_add q2 (by first | omega | (simp only [List.length_append, List.length_cons, List.length_nil, List.length_map]; omega)) (fun h3 q3 f3 => ?_))
        refine Ev.stc (c1 := (59, [some (.inr (.inr (.inr (7, 0, 2)))), some (.inl (iZ (x))), some (.inl ((iZ (i)) + (iZ (1))))], [], h3)) (c2 := (59, [some (.inr (.inr (.inr (7, 0, 2)))), some (.inl (iZ (x))), some (.inl (iZ (i + 1)))], [], h3)) rfl (by rw [iZ_add]) ?_
        refine Ev.sts 1 (c' := (12, [some (.inr (.inr (.inr (7, 0, 2)))), some (.inl (iZ (x))), some (.inl (iZ (i + 1)))], [], h3)) rfl ?_
        refine ih (i + 1) _ _ _ _ _ (by omega) q3 (by first | omega | (simp only [List.length_append, List.length_cons, List.length_nil, List.length_map]; omega)) (fun rr hz qz fz => ?_) (fun rr hz ez Pz qz fz => ?_)
        · have e1 : lpS T spO item (n + 1) p = (true, (lpS T spO item n (item (p + 1)).2.1).2.1, (item (p + 1)).2.2 ++ (tK T p, 0) :: (lpS T spO item n (item (p + 1)).2.1).2.2) := by rw [lp_t (by rw [spO_t]; first | assumption | omega | (left; assumption) | (right; assumption)), bnd_t (by assumption)]; dsimp only; rw [rr]
          rw [e1] at kok
          refine kok rfl hz ?_ (fP_t (fP_t (fP_t (fP_t (fP_r b h) f1) f2) f3) fz)
          dsimp only
          rw [fb_app, fb_n7 (c := (tK T p, 0)) (by show ¬ tK T p = 7; omega), ← ntE_as, List.map_append, List.map_cons, rsl_n7 (c := (tK T p, 0)) (by show ¬ tK T p = 7; omega), show tK T p = 10 by assumption]
          simpa only [List.append_assoc, List.cons_append, List.nil_append] using qz
        · have e1 : lpS T spO item (n + 1) p = (false, (lpS T spO item n (item (p + 1)).2.1).2.1, (item (p + 1)).2.2 ++ (tK T p, 0) :: (lpS T spO item n (item (p + 1)).2.1).2.2) := by rw [lp_t (by rw [spO_t]; first | assumption | omega | (left; assumption) | (right; assumption)), bnd_t (by assumption)]; dsimp only; rw [rr]
          rw [e1] at kno
          exact kno rfl hz ez Pz qz (fP_t (fP_t (fP_t (fP_t (fP_r b h) f1) f2) f3) fz)
      · refine Ev.brF (p := ¬ (iZ (0)) = (iZ (0))) (c1 := (42, [some (.inr (.inr (.inr (7, 0, 2)))), some (.inl (iZ (x))), some (.inl (iZ (i)))], [], g2)) (c2 := (40, [some (.inr (.inr (.inr (7, 0, 2)))), some (.inl (iZ (x))), some (.inl (iZ (i)))], [], g2)) (by decide) rfl ?_
        refine Ev.sts 1 (c' := (41, [some (.inr (.inr (.inr (7, 0, 2)))), some (.inl (iZ (x))), some (.inl (iZ (i)))], [.inl (iZ (0))], g2)) rfl ?_
        first | (exfalso; omega) | (have e1 : lpS T spO item (n + 1) p = (false, (item (p + 1)).2.1, []) := (by rw [lp_t (by rw [spO_t]; first | assumption | omega | (left; assumption) | (right; assumption)), bnd_f (by assumption)]); rw [e1] at kno; exact Ev.ret rfl (kno rfl _ _ _ q2 (fP_t (fP_t (fP_r b h) f1) f2)))
    · refine Ev.brT (p := (iZ (0)) = (iZ (0))) (c1 := (62, [some (.inr (.inr (.inr (7, 0, 2)))), some (.inl (iZ (x))), some (.inl (iZ (i)))], [], h)) (c2 := (32, [some (.inr (.inr (.inr (7, 0, 2)))), some (.inl (iZ (x))), some (.inl (iZ (i)))], [], h)) (by decide) rfl ?_
      refine Ev.sts 1 (c' := (63, [some (.inr (.inr (.inr (7, 0, 2)))), some (.inl (iZ (x))), some (.inl (iZ (i)))], [.inl (iZ (1))], h)) rfl ?_
      first | (exfalso; omega) | (have e1 : lpS T spO item (n + 1) p = (true, p, []) := (by exact lp_f (by rw [spO_t]; omega)); rw [e1] at kok; exact Ev.ret rfl (kok rfl _ (by dsimp only; rw [List.map_nil, List.append_nil]; exact qc_e0 q0) (fP_r b h)))

theorem tc_ts {D b : Nat} {x : Int} {T : List Tok} {F G : List Int} {item : Nat → Rz} (hi : TOK D 120 x b T F G item) (gs : gdS T (okTs T) item) : TOK (D + 1) 119 x b T F G (sqS T spO item) := by
  intro k hk h p e P Q q0 hp kok kno
  have sh := qc_sh q0
  have hb := qc_b q0
  have w0 := qc_w q0
  have p0 := qc_p q0
  have t0 := qc_tk q0
  have l1 := w0.2.1
  obtain ⟨d, rfl⟩ : ∃ d, k = d + 1 := ⟨k - 1, by omega⟩
  refine Ev.sts 2 (c' := (2, [some (.inr (.inr (.inr (7, 0, 2)))), some (.inl (iZ (x))), none], [.inl (iZ (x)), .inr (.inr (.inr (7, 0, 2)))], h)) rfl ?_
  refine Ev.callw (a := [.inr (.inr (.inr (7, 0, 2))), .inl (iZ (x))]) rfl (hi _ (by omega) _ _ _ _ _ q0 (by first | omega | (simp only [List.length_append, List.length_cons, List.length_nil, List.length_map]; omega)) (fun r1 h1 q1 f1 => ?_) (fun r1 g1 e1 P1 q1 f1 => ?_))
  · obtain ⟨x1, y1, -⟩ := gs _ r1
    have z1 := qc_p q1
    refine Ev.brT (p := ¬ (iZ (1)) = (iZ (0))) (c1 := (10, [some (.inr (.inr (.inr (7, 0, 2)))), some (.inl (iZ (x))), none], [], h1)) (c2 := (8, [some (.inr (.inr (.inr (7, 0, 2)))), some (.inl (iZ (x))), none], [], h1)) (by decide) rfl ?_
    refine Ev.sts 2 (c' := (12, [some (.inr (.inr (.inr (7, 0, 2)))), some (.inl (iZ (x))), some (.inl (iZ (0)))], [], h1)) rfl ?_
    refine tc_ts_lp hi gs (by omega) 400 0 _ _ _ _ _ rfl q1 (by first | omega | (simp only [List.length_append, List.length_cons, List.length_nil, List.length_map]; omega)) (fun rr hz qz fz => ?_) (fun rr hz ez Pz qz fz => ?_)
    · have e1 : sqS T spO item p = (true, (lpS T spO item 400 (item p).2.1).2.1, (item p).2.2 ++ (lpS T spO item 400 (item p).2.1).2.2) := by unfold sqS; rw [bnd_t (by assumption), rr]
      rw [e1] at kok
      refine kok rfl hz ?_ (fP_t (fP_t (fP_r b h) f1) fz)
      dsimp only
      rw [fb_app, ← ntE_as, List.map_append, ← List.append_assoc]; exact qz
    · have e1 : sqS T spO item p = (false, (lpS T spO item 400 (item p).2.1).2.1, (item p).2.2 ++ (lpS T spO item 400 (item p).2.1).2.2) := by unfold sqS; rw [bnd_t (by assumption), rr]
      rw [e1] at kno
      exact kno rfl hz ez Pz qz (fP_t (fP_t (fP_r b h) f1) fz)
  · refine Ev.brF (p := ¬ (iZ (0)) = (iZ (0))) (c1 := (10, [some (.inr (.inr (.inr (7, 0, 2)))), some (.inl (iZ (x))), none], [], g1)) (c2 := (8, [some (.inr (.inr (.inr (7, 0, 2)))), some (.inl (iZ (x))), none], [], g1)) (by decide) rfl ?_
    refine Ev.sts 1 (c' := (9, [some (.inr (.inr (.inr (7, 0, 2)))), some (.inl (iZ (x))), none], [.inl (iZ (0))], g1)) rfl ?_
    first | (exfalso; omega) | (have e1 : sqS T spO item p = (false, (item p).2.1, []) := (by unfold sqS; rw [bnd_f (by assumption)]); rw [e1] at kno; exact Ev.ret rfl (kno rfl _ _ _ q1 (fP_t (fP_r b h) f1)))

theorem tc_syT {b : Nat} {T : List Tok} {F G : List Int} (w : tkW T) : ∀ n : Nat, n ≤ 6 → ∀ x : Int, x = 6 - (n : Int) → TOK (5 * n + 13) 119 x b T F G (syT T n) := by
  intro n
  induction n with
  | zero =>
    intro _ x hx
    have gk := gd_kp (lv := 0) w (gd_nul (T := T) (ok := okTs T)) (gd_syV w 0)
    exact TOK_up (tc_ts (tc_bt (tc_single (tc_kept (D := 3) hx (by omega) (fun z => absurd z (Nat.lt_irrefl 0)) gd_nul (VOK_up (tc_syV w 0 (by omega) x hx) (by omega)) (gd_syV w 0)) gk) (gd_sg w gd_nul (gd_syV w 0))) (gd_bt w gd_nul (gd_syV w 0))) (by omega)
  | succ n ih =>
    intro hn x hx
    have gk := gd_kp (lv := n + 1) w (gd_syT w n) (gd_syV w (n + 1))
    exact TOK_up (tc_ts (tc_bt (tc_single (tc_kept (D := 5 * (n + 1) + 8) hx hn (fun _ => TOK_up (ih (by omega) (x + 1) (by omega)) (by omega)) (gd_syT w n) (VOK_up (tc_syV w (n + 1) hn x hx) (by omega)) (gd_syV w (n + 1))) gk) (gd_sg w (gd_syT w n) (gd_syV w (n + 1)))) (gd_bt w (gd_syT w n) (gd_syV w (n + 1)))) (by omega)
