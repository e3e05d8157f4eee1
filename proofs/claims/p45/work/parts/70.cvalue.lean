/-! The class reads values. -/
def VOK (D m : Nat) (x : Int) (b : Nat) (T : List Tok) (F G : List Int) (f : Nat → Rz) : Prop := ∀ (k : Nat), D ≤ k → ∀ (h : PH) (p : Nat) (e : Nat × Nat) (P : List Cmd) (Q : Rs → PH → Prop), QC h b T p e F G P → P.length ≤ p → ((f p).1 = true → ∀ h1, QC h1 b T (f p).2.1 e F G (P ++ (f p).2.2) → fPp b h h1 → Q (.inl (some (.inl (iZ 1)))) h1) → ((f p).1 = false → ∀ h1 e1 P1, QC h1 b T (f p).2.1 e1 F G P1 → fPp b h h1 → Q (.inl (some (.inl (iZ 0)))) h1) → Rn k m [.inr (.inr (.inr (7, 0, 2))), .inl (iZ x)] h Q
theorem lp_t {T : List Tok} {sep : Nat → Bool} {item : Nat → Rz} {n p : Nat} (c : sep (tK T p) = true) : lpS T sep item (n + 1) p = bnd (item (p + 1)) (fun q => ((lpS T sep item n q).1, (lpS T sep item n q).2.1, (tK T p, (0 : Int)) :: (lpS T sep item n q).2.2)) := if_pos c
theorem lp_f {T : List Tok} {sep : Nat → Bool} {item : Nat → Rz} {n p : Nat} (c : ¬ sep (tK T p) = true) : lpS T sep item (n + 1) p = (true, p, []) := if_neg c
theorem rz_t {r : Rz} (h : r.1 = true) : r = (true, r.2.1, r.2.2) := by rw [← h]
theorem rz_f {r : Rz} (h : r.1 = false) : r = (false, r.2.1, r.2.2) := by rw [← h]
theorem tc_atom {D lv b : Nat} {x : Int} {T : List Tok} {F G : List Int} {sub : Nat → Rz} (hx : x = 6 - (lv : Int)) (hlv : lv ≤ 6) (hs : 0 < lv → VOK D 125 (x + 1) b T F G sub) (gs : gdS T okVl sub) : VOK (D + 1) 127 x b T F G (atm T lv sub) := by
  intro k hk h p e P Q q0 hp kok kno
  have sh := qc_sh q0
  have hb := qc_b q0
  have w0 := qc_w q0
  have p0 := qc_p q0
  have t0 := qc_tk q0
  have l1 := w0.2.1
  obtain ⟨d, rfl⟩ : ∃ d, k = d + 1 := ⟨k - 1, by omega⟩
  refine Ev.sts 1 (c' := (1, [some (.inr (.inr (.inr (7, 0, 2)))), some (.inl (iZ (x)))], [.inr (.inr (.inr (7, 0, 2)))], h)) rfl ?_
  refine Ev.gfr (r := (9, 0, 3)) rfl (sh_2_0 sh) ?_
  refine Ev.callv (a := [.inr (.inr (.inr (9, 0, 3)))]) rfl (tc_kind q0) ?_
  refine Ev.sts 1 (c' := (10, [some (.inr (.inr (.inr (7, 0, 2)))), some (.inl (iZ (x)))], [.inr (.inr (.inr (40, 0, 26))), .inr (.inr (.inr (40, 0, (tK T p))))], h)) rfl ?_
  refine Ev.br (p := ¬ (tK T p) = 26) (c1 := (61, [some (.inr (.inr (.inr (7, 0, 2)))), some (.inl (iZ (x)))], [], h)) (c2 := (13, [some (.inr (.inr (.inr (7, 0, 2)))), some (.inl (iZ (x)))], [], h)) rfl (fun c0 => ?_) (fun c0 => ?_)
  · refine Ev.sts 1 (c' := (62, [some (.inr (.inr (.inr (7, 0, 2)))), some (.inl (iZ (x)))], [.inr (.inr (.inr (7, 0, 2)))], h)) rfl ?_
    refine Ev.gfr (r := (9, 0, 3)) rfl (sh_2_0 sh) ?_
    refine Ev.callv (a := [.inr (.inr (.inr (9, 0, 3)))]) rfl (tc_kind q0) ?_
    refine Ev.callw (a := [.inr (.inr (.inr (40, 0, (tK T p))))]) rfl (tc_opd (fun c1 => ?_) (fun c1 => ?_))
    · have u1 := opd_t.mp c1
      have v1 := tK_in w0 (show 2 ≤ (tK T p) by omega)
      refine Ev.brT (p := ¬ (iZ (1)) = (iZ (0))) (c1 := (76, [some (.inr (.inr (.inr (7, 0, 2)))), some (.inl (iZ (x)))], [], h)) (c2 := (74, [some (.inr (.inr (.inr (7, 0, 2)))), some (.inl (iZ (x)))], [], h)) (by decide) rfl ?_
      refine Ev.sts 1 (c' := (77, [some (.inr (.inr (.inr (7, 0, 2)))), some (.inl (iZ (x)))], [.inr (.inr (.inr (7, 0, 2)))], h)) rfl ?_
      refine Ev.gfr (r := (2, 0, b)) rfl (qc_24 q0) ?_
      refine Ev.gfr (r := (5, 0, (b + 5))) rfl (sh_b4 sh hb) ?_
      refine Ev.sts 1 (c' := (84, [some (.inr (.inr (.inr (7, 0, 2)))), some (.inl (iZ (x)))], [.inr (.inr (.inr (7, 0, 2))), .inr (.inr (.inr (5, 0, (b + 5))))], h)) rfl ?_
      refine Ev.gfr (r := (9, 0, 3)) rfl (sh_2_0 sh) ?_
      refine Ev.callv (a := [.inr (.inr (.inr (9, 0, 3)))]) rfl (tc_kind q0) ?_
      refine Ev.sts 1 (c' := (91, [some (.inr (.inr (.inr (7, 0, 2)))), some (.inl (iZ (x)))], [.inr (.inr (.inr (7, 0, 2))), .inr (.inr (.inr (40, 0, (tK T p)))), .inr (.inr (.inr (5, 0, (b + 5))))], h)) rfl ?_
      refine Ev.gfr (r := (9, 0, 3)) rfl (sh_2_0 sh) ?_
      refine Ev.callv (a := [.inr (.inr (.inr (9, 0, 3)))]) rfl (tc_number q0) ?_
      refine Ev.callw (a := [.inr (.inr (.inr (5, 0, (b + 5)))), .inr (.inr (.inr (40, 0, (tK T p)))), .inl (iZ (tN T p))]) rfl (tc_add q0 (by first | omega | (simp only [List.length_append, List.length_cons, List.length_nil, List.length_map]; omega)) (fun h1 q1 f1 => ?_))
      refine Ev.sts 1 (c' := (101, [some (.inr (.inr (.inr (7, 0, 2)))), some (.inl (iZ (x)))], [.inr (.inr (.inr (7, 0, 2)))], h1)) rfl ?_
      refine Ev.gfr (r := (9, 0, 3)) rfl (sh_2_0 (qc_sh q1)) ?_
      refine Ev.sts 1 (c' := (105, [some (.inr (.inr (.inr (7, 0, 2)))), some (.inl (iZ (x)))], [.inr (.inr (.inr (7, 0, 2))), .inr (.inr (.inr (9, 0, 3)))], h1)) rfl ?_
      refine Ev.gfr (r := (9, 0, 3)) rfl (sh_2_0 (qc_sh q1)) ?_
      refine Ev.callv (a := [.inr (.inr (.inr (9, 0, 3)))]) rfl (tc_kind q1) ?_
      refine Ev.callw (a := [.inr (.inr (.inr (9, 0, 3))), .inr (.inr (.inr (40, 0, (tK T p))))]) rfl (tc_skip q1 (by first | decide | omega) (fun ky2 h2 q2 f2 => ?_) (fun ky2 => ?_))
      · have z2 := qc_p q2
        first | (exfalso; omega) | (have e1 : atm T lv sub p = (true, (sub (p + 1)).2.1 + 1, (sub (p + 1)).2.2) := (by unfold atm; rw [if_pos (by omega), if_neg (by omega), bnd_t (by assumption), tkn_t (by assumption), List.append_nil]); rw [e1] at kok; exact Ev.ret rfl (kok rfl _ q2 (fP_t (fP_t (fP_r b h) f1) f2))) | (have e1 : atm T lv sub p = (true, p + 1, [(tK T p, tN T p)]) := (by unfold atm; rw [if_neg (by omega), if_pos (by assumption)]); rw [e1] at kok; exact Ev.ret rfl (kok rfl _ q2 (fP_t (fP_t (fP_r b h) f1) f2)))
      · first | (exfalso; omega) | (have e1 : atm T lv sub p = (false, p, []) := (by unfold atm; rw [if_pos (by omega), if_pos (by omega)]); rw [e1] at kno; exact Ev.ret rfl (kno rfl _ _ _ q1 (fP_t (fP_r b h) f1))) | (have e1 : atm T lv sub p = (false, p, []) := (by unfold atm; rw [if_neg (by omega), if_neg (by assumption)]); rw [e1] at kno; exact Ev.ret rfl (kno rfl _ _ _ q1 (fP_t (fP_r b h) f1))) | (have e1 : atm T lv sub p = (false, (sub (p + 1)).2.1, []) := (by unfold atm; rw [if_pos (by omega), if_neg (by omega), bnd_f (by assumption)]); rw [e1] at kno; exact Ev.ret rfl (kno rfl _ _ _ q1 (fP_t (fP_r b h) f1))) | (have e1 : atm T lv sub p = (false, (sub (p + 1)).2.1, (sub (p + 1)).2.2 ++ []) := (by unfold atm; rw [if_pos (by omega), if_neg (by omega), bnd_t (by assumption), tkn_f (by assumption)]); rw [e1] at kno; exact Ev.ret rfl (kno rfl _ _ _ q1 (fP_t (fP_r b h) f1)))
    · refine Ev.brF (p := ¬ (iZ (0)) = (iZ (0))) (c1 := (76, [some (.inr (.inr (.inr (7, 0, 2)))), some (.inl (iZ (x)))], [], h)) (c2 := (74, [some (.inr (.inr (.inr (7, 0, 2)))), some (.inl (iZ (x)))], [], h)) (by decide) rfl ?_
      refine Ev.sts 1 (c' := (75, [some (.inr (.inr (.inr (7, 0, 2)))), some (.inl (iZ (x)))], [.inl (iZ (0))], h)) rfl ?_
      first | (exfalso; omega) | (have e1 : atm T lv sub p = (false, p, []) := (by unfold atm; rw [if_pos (by omega), if_pos (by omega)]); rw [e1] at kno; exact Ev.ret rfl (kno rfl _ _ _ q0 (fP_r b h))) | (have e1 : atm T lv sub p = (false, p, []) := (by unfold atm; rw [if_neg (by omega), if_neg (by assumption)]); rw [e1] at kno; exact Ev.ret rfl (kno rfl _ _ _ q0 (fP_r b h))) | (have e1 : atm T lv sub p = (false, (sub (p + 1)).2.1, []) := (by unfold atm; rw [if_pos (by omega), if_neg (by omega), bnd_f (by assumption)]); rw [e1] at kno; exact Ev.ret rfl (kno rfl _ _ _ q0 (fP_r b h))) | (have e1 : atm T lv sub p = (false, (sub (p + 1)).2.1, (sub (p + 1)).2.2 ++ []) := (by unfold atm; rw [if_pos (by omega), if_neg (by omega), bnd_t (by assumption), tkn_f (by assumption)]); rw [e1] at kno; exact Ev.ret rfl (kno rfl _ _ _ q0 (fP_r b h)))
  · refine Ev.sts 2 (c' := (16, [some (.inr (.inr (.inr (7, 0, 2)))), some (.inl (iZ (x)))], [.inl (iZ (6)), .inl (iZ (x))], h)) rfl ?_
    refine Ev.brc (p := (iZ (6)) ≤ (iZ (x))) (q := ((6 : Int)) ≤ x) (c1 := (59, [some (.inr (.inr (.inr (7, 0, 2)))), some (.inl (iZ (x)))], [], h)) (c2 := (19, [some (.inr (.inr (.inr (7, 0, 2)))), some (.inl (iZ (x)))], [], h)) rfl (iZ_le ⟨by omega, by omega⟩ ⟨by omega, by omega⟩) (fun c1 => ?_) (fun c1 => ?_)
    · refine Ev.sts 1 (c' := (60, [some (.inr (.inr (.inr (7, 0, 2)))), some (.inl (iZ (x)))], [.inl (iZ (0))], h)) rfl ?_
      first | (exfalso; omega) | (have e1 : atm T lv sub p = (false, p, []) := (by unfold atm; rw [if_pos (by omega), if_pos (by omega)]); rw [e1] at kno; exact Ev.ret rfl (kno rfl _ _ _ q0 (fP_r b h))) | (have e1 : atm T lv sub p = (false, p, []) := (by unfold atm; rw [if_neg (by omega), if_neg (by assumption)]); rw [e1] at kno; exact Ev.ret rfl (kno rfl _ _ _ q0 (fP_r b h))) | (have e1 : atm T lv sub p = (false, (sub (p + 1)).2.1, []) := (by unfold atm; rw [if_pos (by omega), if_neg (by omega), bnd_f (by assumption)]); rw [e1] at kno; exact Ev.ret rfl (kno rfl _ _ _ q0 (fP_r b h))) | (have e1 : atm T lv sub p = (false, (sub (p + 1)).2.1, (sub (p + 1)).2.2 ++ []) := (by unfold atm; rw [if_pos (by omega), if_neg (by omega), bnd_t (by assumption), tkn_f (by assumption)]); rw [e1] at kno; exact Ev.ret rfl (kno rfl _ _ _ q0 (fP_r b h)))
    · refine Ev.sts 1 (c' := (20, [some (.inr (.inr (.inr (7, 0, 2)))), some (.inl (iZ (x)))], [.inr (.inr (.inr (7, 0, 2)))], h)) rfl ?_
      refine Ev.gfr (r := (9, 0, 3)) rfl (sh_2_0 sh) ?_
      refine Ev.sts 1 (c' := (26, [some (.inr (.inr (.inr (7, 0, 2)))), some (.inl (iZ (x)))], [.inr (.inr (.inr (40, 0, 26))), .inr (.inr (.inr (9, 0, 3)))], h)) rfl ?_
      refine Ev.callw (a := [.inr (.inr (.inr (9, 0, 3))), .inr (.inr (.inr (40, 0, 26)))]) rfl (tc_skip q0 (by first | decide | omega) (fun ky3 h3 q3 f3 => ?_) (fun ky3 => ?_))
      · have z3 := qc_p q3
        refine Ev.brF (p := (iZ (1)) = (iZ (0))) (c1 := (59, [some (.inr (.inr (.inr (7, 0, 2)))), some (.inl (iZ (x)))], [], h3)) (c2 := (32, [some (.inr (.inr (.inr (7, 0, 2)))), some (.inl (iZ (x)))], [], h3)) (by decide) rfl ?_
        refine Ev.sts 3 (c' := (35, [some (.inr (.inr (.inr (7, 0, 2)))), some (.inl (iZ (x)))], [.inl (iZ (1)), .inl (iZ (x)), .inr (.inr (.inr (7, 0, 2)))], h3)) rfl ?_
        refine Ev.gv (w := (iZ (x + 1))) rfl (iZ_add _ _) ?_
        refine Ev.callw (a := [.inr (.inr (.inr (7, 0, 2))), .inl (iZ (x + 1))]) rfl (hs (by omega) _ (by omega) _ _ _ _ _ q3 (by first | omega | (simp only [List.length_append, List.length_cons, List.length_nil, List.length_map]; omega)) (fun r4 h4 q4 f4 => ?_) (fun r4 g4 e4 P4 q4 f4 => ?_))
        · obtain ⟨x4, y4, -⟩ := gs _ r4
          have z4 := qc_p q4
          refine Ev.brF (p := (iZ (1)) = (iZ (0))) (c1 := (59, [some (.inr (.inr (.inr (7, 0, 2)))), some (.inl (iZ (x)))], [], h4)) (c2 := (42, [some (.inr (.inr (.inr (7, 0, 2)))), some (.inl (iZ (x)))], [], h4)) (by decide) rfl ?_
          refine Ev.sts 1 (c' := (43, [some (.inr (.inr (.inr (7, 0, 2)))), some (.inl (iZ (x)))], [.inr (.inr (.inr (7, 0, 2)))], h4)) rfl ?_
          refine Ev.gfr (r := (9, 0, 3)) rfl (sh_2_0 (qc_sh q4)) ?_
          refine Ev.sts 1 (c' := (49, [some (.inr (.inr (.inr (7, 0, 2)))), some (.inl (iZ (x)))], [.inr (.inr (.inr (40, 0, 27))), .inr (.inr (.inr (9, 0, 3)))], h4)) rfl ?_
          refine Ev.callw (a := [.inr (.inr (.inr (9, 0, 3))), .inr (.inr (.inr (40, 0, 27)))]) rfl (tc_skip q4 (by first | decide | omega) (fun ky5 h5 q5 f5 => ?_) (fun ky5 => ?_))
          · have z5 := qc_p q5
            refine Ev.brF (p := (iZ (1)) = (iZ (0))) (c1 := (59, [some (.inr (.inr (.inr (7, 0, 2)))), some (.inl (iZ (x)))], [], h5)) (c2 := (55, [some (.inr (.inr (.inr (7, 0, 2)))), some (.inl (iZ (x)))], [], h5)) (by decide) rfl ?_
            refine Ev.sts 2 (c' := (60, [some (.inr (.inr (.inr (7, 0, 2)))), some (.inl (iZ (x)))], [.inl (iZ (1))], h5)) rfl ?_
            first | (exfalso; omega) | (have e1 : atm T lv sub p = (true, (sub (p + 1)).2.1 + 1, (sub (p + 1)).2.2) := (by unfold atm; rw [if_pos (by omega), if_neg (by omega), bnd_t (by assumption), tkn_t (by assumption), List.append_nil]); rw [e1] at kok; exact Ev.ret rfl (kok rfl _ q5 (fP_t (fP_t (fP_t (fP_r b h) f3) f4) f5))) | (have e1 : atm T lv sub p = (true, p + 1, [(tK T p, tN T p)]) := (by unfold atm; rw [if_neg (by omega), if_pos (by assumption)]); rw [e1] at kok; exact Ev.ret rfl (kok rfl _ q5 (fP_t (fP_t (fP_t (fP_r b h) f3) f4) f5)))
          · refine Ev.brT (p := (iZ (0)) = (iZ (0))) (c1 := (59, [some (.inr (.inr (.inr (7, 0, 2)))), some (.inl (iZ (x)))], [], h4)) (c2 := (55, [some (.inr (.inr (.inr (7, 0, 2)))), some (.inl (iZ (x)))], [], h4)) (by decide) rfl ?_
            refine Ev.sts 1 (c' := (60, [some (.inr (.inr (.inr (7, 0, 2)))), some (.inl (iZ (x)))], [.inl (iZ (0))], h4)) rfl ?_
            first | (exfalso; omega) | (have e1 : atm T lv sub p = (false, p, []) := (by unfold atm; rw [if_pos (by omega), if_pos (by omega)]); rw [e1] at kno; exact Ev.ret rfl (kno rfl _ _ _ q4 (fP_t (fP_t (fP_r b h) f3) f4))) | (have e1 : atm T lv sub p = (false, p, []) := (by unfold atm; rw [if_neg (by omega), if_neg (by assumption)]); rw [e1] at kno; exact Ev.ret rfl (kno rfl _ _ _ q4 (fP_t (fP_t (fP_r b h) f3) f4))) | (have e1 : atm T lv sub p = (false, (sub (p + 1)).2.1, []) := (by unfold atm; rw [if_pos (by omega), if_neg (by omega), bnd_f (by assumption)]); rw [e1] at kno; exact Ev.ret rfl (kno rfl _ _ _ q4 (fP_t (fP_t (fP_r b h) f3) f4))) | (have e1 : atm T lv sub p = (false, (sub (p + 1)).2.1, (sub (p + 1)).2.2 ++ []) := (by unfold atm; rw [if_pos (by omega), if_neg (by omega), bnd_t (by assumption), tkn_f (by assumption)]); rw [e1] at kno; exact Ev.ret rfl (kno rfl _ _ _ q4 (fP_t (fP_t (fP_r b h) f3) f4)))
        · refine Ev.brT (p := (iZ (0)) = (iZ (0))) (c1 := (59, [some (.inr (.inr (.inr (7, 0, 2)))), some (.inl (iZ (x)))], [], g4)) (c2 := (42, [some (.inr (.inr (.inr (7, 0, 2)))), some (.inl (iZ (x)))], [], g4)) (by decide) rfl ?_
          refine Ev.sts 1 (c' := (60, [some (.inr (.inr (.inr (7, 0, 2)))), some (.inl (iZ (x)))], [.inl (iZ (0))], g4)) rfl ?_
          first | (exfalso; omega) | (have e1 : atm T lv sub p = (false, p, []) := (by unfold atm; rw [if_pos (by omega), if_pos (by omega)]); rw [e1] at kno; exact Ev.ret rfl (kno rfl _ _ _ q4 (fP_t (fP_t (fP_r b h) f3) f4))) | (have e1 : atm T lv sub p = (false, p, []) := (by unfold atm; rw [if_neg (by omega), if_neg (by assumption)]); rw [e1] at kno; exact Ev.ret rfl (kno rfl _ _ _ q4 (fP_t (fP_t (fP_r b h) f3) f4))) | (have e1 : atm T lv sub p = (false, (sub (p + 1)).2.1, []) := (by unfold atm; rw [if_pos (by omega), if_neg (by omega), bnd_f (by assumption)]); rw [e1] at kno; exact Ev.ret rfl (kno rfl _ _ _ q4 (fP_t (fP_t (fP_r b h) f3) f4))) | (have e1 : atm T lv sub p = (false, (sub (p + 1)).2.1, (sub (p + 1)).2.2 ++ []) := (by unfold atm; rw [if_pos (by omega), if_neg (by omega), bnd_t (by assumption), tkn_f (by assumption)]); rw [e1] at kno; exact Ev.ret rfl (kno rfl _ _ _ q4 (fP_t (fP_t (fP_r b h) f3) f4)))
      · refine Ev.brT (p := (iZ (0)) = (iZ (0))) (c1 := (59, [some (.inr (.inr (.inr (7, 0, 2)))), some (.inl (iZ (x)))], [], h)) (c2 := (32, [some (.inr (.inr (.inr (7, 0, 2)))), some (.inl (iZ (x)))], [], h)) (by decide) rfl ?_
        refine Ev.sts 1 (c' := (60, [some (.inr (.inr (.inr (7, 0, 2)))), some (.inl (iZ (x)))], [.inl (iZ (0))], h)) rfl ?_
        first | (exfalso; omega) | (have e1 : atm T lv sub p = (false, p, []) := (by unfold atm; rw [if_pos (by omega), if_pos (by omega)]); rw [e1] at kno; exact Ev.ret rfl (kno rfl _ _ _ q0 (fP_r b h))) | (have e1 : atm T lv sub p = (false, p, []) := (by unfold atm; rw [if_neg (by omega), if_neg (by assumption)]); rw [e1] at kno; exact Ev.ret rfl (kno rfl _ _ _ q0 (fP_r b h))) | (have e1 : atm T lv sub p = (false, (sub (p + 1)).2.1, []) := (by unfold atm; rw [if_pos (by omega), if_neg (by omega), bnd_f (by assumption)]); rw [e1] at kno; exact Ev.ret rfl (kno rfl _ _ _ q0 (fP_r b h))) | (have e1 : atm T lv sub p = (false, (sub (p + 1)).2.1, (sub (p + 1)).2.2 ++ []) := (by unfold atm; rw [if_pos (by omega), if_neg (by omega), bnd_t (by assumption), tkn_f (by assumption)]); rw [e1] at kno; exact Ev.ret rfl (kno rfl _ _ _ q0 (fP_r b h)))

theorem tc_pr_lp {D d b : Nat} {x : Int} {T : List Tok} {F G : List Int} {item : Nat → Rz} (hi : VOK D 127 x b T F G item) (gs : gdS T (okVl) item) (hD : D ≤ d) (n : Nat) : ∀ (i : Nat) (h : PH) (p : Nat) (e : Nat × Nat) (P : List Cmd) (Q : Rs → PH → Prop), i + n = 400 → QC h b T p e F G P → P.length ≤ p → ((lpS T spM item n p).1 = true → ∀ h1, QC h1 b T (lpS T spM item n p).2.1 e F G (P ++ (lpS T spM item n p).2.2) → fPp b h h1 → Q (.inl (some (.inl (iZ 1)))) h1) → ((lpS T spM item n p).1 = false → ∀ h1 e1 P1, QC h1 b T (lpS T spM item n p).2.1 e1 F G P1 → fPp b h h1 → Q (.inl (some (.inl (iZ 0)))) h1) → Ev (d + 1) 126 (12, [some (.inr (.inr (.inr (7, 0, 2)))), some (.inl (iZ (x))), some (.inl (iZ (i)))], [], h) Q := by
  induction n with
  | zero =>
    intro i h p e P Q hn q0 hp kok kno
    have sh := qc_sh q0
    have hb := qc_b q0
    have w0 := qc_w q0
    have p0 := qc_p q0
    have t0 := qc_tk q0
    have l1 := w0.2.1
    refine Ev.sts 2 (c' := (16, [some (.inr (.inr (.inr (7, 0, 2)))), some (.inl (iZ (x))), some (.inl (iZ (i)))], [.inl (iZ (400)), .inl (iZ (i))], h)) rfl ?_
    refine Ev.brT (p := (iZ (400)) ≤ (iZ (i))) (c1 := (62, [some (.inr (.inr (.inr (7, 0, 2)))), some (.inl (iZ (x))), some (.inl (iZ (i)))], [], h)) (c2 := (19, [some (.inr (.inr (.inr (7, 0, 2)))), some (.inl (iZ (x))), some (.inl (iZ (i)))], [], h)) ((iZ_le ⟨by omega, by omega⟩ ⟨by omega, by omega⟩).mpr (by omega)) rfl ?_
    refine Ev.sts 1 (c' := (63, [some (.inr (.inr (.inr (7, 0, 2)))), some (.inl (iZ (x))), some (.inl (iZ (i)))], [.inl (iZ (1))], h)) rfl ?_
    first | (exfalso; omega) | (have e1 : lpS T spM item 0 p = (true, p, []) := (by rfl); rw [e1] at kok; exact Ev.ret rfl (kok rfl _ (by rw [List.append_nil]; exact q0) (fP_r b h)))
  | succ n ih =>
    intro i h p e P Q hn q0 hp kok kno
    have sh := qc_sh q0
    have hb := qc_b q0
    have w0 := qc_w q0
    have p0 := qc_p q0
    have t0 := qc_tk q0
    have l1 := w0.2.1
    refine Ev.sts 2 (c' := (16, [some (.inr (.inr (.inr (7, 0, 2)))), some (.inl (iZ (x))), some (.inl (iZ (i)))], [.inl (iZ (400)), .inl (iZ (i))], h)) rfl ?_
    refine Ev.brF (p := (iZ (400)) ≤ (iZ (i))) (c1 := (62, [some (.inr (.inr (.inr (7, 0, 2)))), some (.inl (iZ (x))), some (.inl (iZ (i)))], [], h)) (c2 := (19, [some (.inr (.inr (.inr (7, 0, 2)))), some (.inl (iZ (x))), some (.inl (iZ (i)))], [], h)) (fun c_ => absurd ((iZ_le ⟨by omega, by omega⟩ ⟨by omega, by omega⟩).mp c_) (by omega)) rfl ?_
    refine Ev.sts 1 (c' := (20, [some (.inr (.inr (.inr (7, 0, 2)))), some (.inl (iZ (x))), some (.inl (iZ (i)))], [.inr (.inr (.inr (7, 0, 2)))], h)) rfl ?_
    refine Ev.gfr (r := (9, 0, 3)) rfl (sh_2_0 sh) ?_
    refine Ev.sts 1 (c' := (26, [some (.inr (.inr (.inr (7, 0, 2)))), some (.inl (iZ (x))), some (.inl (iZ (i)))], [.inr (.inr (.inr (40, 0, 37))), .inr (.inr (.inr (9, 0, 3)))], h)) rfl ?_
    refine Ev.callw (a := [.inr (.inr (.inr (9, 0, 3))), .inr (.inr (.inr (40, 0, 37)))]) rfl (tc_skip q0 (by first | decide | omega) (fun ky1 h1 q1 f1 => ?_) (fun ky1 => ?_))
    · have z1 := qc_p q1
      refine Ev.brF (p := (iZ (1)) = (iZ (0))) (c1 := (62, [some (.inr (.inr (.inr (7, 0, 2)))), some (.inl (iZ (x))), some (.inl (iZ (i)))], [], h1)) (c2 := (32, [some (.inr (.inr (.inr (7, 0, 2)))), some (.inl (iZ (x))), some (.inl (iZ (i)))], [], h1)) (by decide) rfl ?_
      refine Ev.sts 2 (c' := (34, [some (.inr (.inr (.inr (7, 0, 2)))), some (.inl (iZ (x))), some (.inl (iZ (i)))], [.inl (iZ (x)), .inr (.inr (.inr (7, 0, 2)))], h1)) rfl ?_
      refine Ev.callw (a := [.inr (.inr (.inr (7, 0, 2))), .inl (iZ (x))]) rfl (hi _ (by omega) _ _ _ _ _ q1 (by first | omega | (simp only [List.length_append, List.length_cons, List.length_nil, List.length_map]; omega)) (fun r2 h2 q2 f2 => ?_) (fun r2 g2 e2 P2 q2 f2 => ?_))
      · obtain ⟨x2, y2, -⟩ := gs _ r2
        have z2 := qc_p q2
        refine Ev.brT (p := ¬ (iZ (1)) = (iZ (0))) (c1 := (42, [some (.inr (.inr (.inr (7, 0, 2)))), some (.inl (iZ (x))), some (.inl (iZ (i)))], [], h2)) (c2 := (40, [some (.inr (.inr (.inr (7, 0, 2)))), some (.inl (iZ (x))), some (.inl (iZ (i)))], [], h2)) (by decide) rfl ?_
        refine Ev.sts 1 (c' := (43, [some (.inr (.inr (.inr (7, 0, 2)))), some (.inl (iZ (x))), some (.inl (iZ (i)))], [.inr (.inr (.inr (7, 0, 2)))], h2)) rfl ?_
        refine Ev.gfr (r := (2, 0, b)) rfl (qc_24 q2) ?_
        refine Ev.gfr (r := (5, 0, (b + 5))) rfl (sh_b4 (qc_sh q2) hb) ?_
        refine Ev.sts 2 (c' := (53, [some (.inr (.inr (.inr (7, 0, 2)))), some (.inl (iZ (x))), some (.inl (iZ (i)))], [.inl (iZ (0)), .inr (.inr (.inr (40, 0, 37))), .inr (.inr (.inr (5, 0, (b + 5))))], h2)) rfl ?_
        refine Ev.callw (a := [.inr (.inr (.inr (5, 0, (b + 5)))), .inr (.inr (.inr (40, 0, 37))), .inl (iZ (0))]) rfl (tc_add q2 (by first | omega | (simp only [List.length_append, List.length_cons, List.length_nil, List.length_map]; omega)) (fun h3 q3 f3 => ?_))
        refine Ev.stc (c1 := (59, [some (.inr (.inr (.inr (7, 0, 2)))), some (.inl (iZ (x))), some (.inl ((iZ (i)) + (iZ (1))))], [], h3)) (c2 := (59, [some (.inr (.inr (.inr (7, 0, 2)))), some (.inl (iZ (x))), some (.inl (iZ (i + 1)))], [], h3)) rfl (by rw [iZ_add]) ?_
        refine Ev.sts 1 (c' := (12, [some (.inr (.inr (.inr (7, 0, 2)))), some (.inl (iZ (x))), some (.inl (iZ (i + 1)))], [], h3)) rfl ?_
        refine ih (i + 1) _ _ _ _ _ (by omega) q3 (by first | omega | (simp only [List.length_append, List.length_cons, List.length_nil, List.length_map]; omega)) (fun rr hz qz fz => ?_) (fun rr hz ez Pz qz fz => ?_)
        · have e1 : lpS T spM item (n + 1) p = (true, (lpS T spM item n (item (p + 1)).2.1).2.1, (item (p + 1)).2.2 ++ (tK T p, 0) :: (lpS T spM item n (item (p + 1)).2.1).2.2) := by rw [lp_t (by rw [spM_t]; first | assumption | omega | (left; assumption) | (right; assumption)), bnd_t (by assumption)]; dsimp only; rw [rr]
          rw [e1] at kok
          refine kok rfl hz ?_ (fP_t (fP_t (fP_t (fP_t (fP_r b h) f1) f2) f3) fz)
          dsimp only
          rw [show tK T p = 37 by assumption]
          simpa only [List.append_assoc, List.cons_append, List.nil_append] using qz
        · have e1 : lpS T spM item (n + 1) p = (false, (lpS T spM item n (item (p + 1)).2.1).2.1, (item (p + 1)).2.2 ++ (tK T p, 0) :: (lpS T spM item n (item (p + 1)).2.1).2.2) := by rw [lp_t (by rw [spM_t]; first | assumption | omega | (left; assumption) | (right; assumption)), bnd_t (by assumption)]; dsimp only; rw [rr]
          rw [e1] at kno
          exact kno rfl hz ez Pz qz (fP_t (fP_t (fP_t (fP_t (fP_r b h) f1) f2) f3) fz)
      · refine Ev.brF (p := ¬ (iZ (0)) = (iZ (0))) (c1 := (42, [some (.inr (.inr (.inr (7, 0, 2)))), some (.inl (iZ (x))), some (.inl (iZ (i)))], [], g2)) (c2 := (40, [some (.inr (.inr (.inr (7, 0, 2)))), some (.inl (iZ (x))), some (.inl (iZ (i)))], [], g2)) (by decide) rfl ?_
        refine Ev.sts 1 (c' := (41, [some (.inr (.inr (.inr (7, 0, 2)))), some (.inl (iZ (x))), some (.inl (iZ (i)))], [.inl (iZ (0))], g2)) rfl ?_
        first | (exfalso; omega) | (have e1 : lpS T spM item (n + 1) p = (false, (item (p + 1)).2.1, []) := (by rw [lp_t (by rw [spM_t]; first | assumption | omega | (left; assumption) | (right; assumption)), bnd_f (by assumption)]); rw [e1] at kno; exact Ev.ret rfl (kno rfl _ _ _ q2 (fP_t (fP_t (fP_r b h) f1) f2)))
    · refine Ev.brT (p := (iZ (0)) = (iZ (0))) (c1 := (62, [some (.inr (.inr (.inr (7, 0, 2)))), some (.inl (iZ (x))), some (.inl (iZ (i)))], [], h)) (c2 := (32, [some (.inr (.inr (.inr (7, 0, 2)))), some (.inl (iZ (x))), some (.inl (iZ (i)))], [], h)) (by decide) rfl ?_
      refine Ev.sts 1 (c' := (63, [some (.inr (.inr (.inr (7, 0, 2)))), some (.inl (iZ (x))), some (.inl (iZ (i)))], [.inl (iZ (1))], h)) rfl ?_
      first | (exfalso; omega) | (have e1 : lpS T spM item (n + 1) p = (true, p, []) := (by exact lp_f (by rw [spM_t]; omega)); rw [e1] at kok; exact Ev.ret rfl (kok rfl _ (by rw [List.append_nil]; exact q0) (fP_r b h)))

theorem tc_pr {D b : Nat} {x : Int} {T : List Tok} {F G : List Int} {item : Nat → Rz} (hi : VOK D 127 x b T F G item) (gs : gdS T (okVl) item) : VOK (D + 1) 126 x b T F G (sqS T spM item) := by
  intro k hk h p e P Q q0 hp kok kno
  have sh := qc_sh q0
  have hb := qc_b q0
  have w0 := qc_w q0
  have p0 := qc_p q0
  have t0 := qc_tk q0
  have l1 := w0.2.1
  obtain ⟨d, rfl⟩ : ∃ d, k = d + 1 := ⟨k - 1, by omega⟩
  refine Ev.sts 2 (c' := (2, [some (.inr (.inr (.inr (7, 0, 2)))), some (.inl (iZ (x))), none], [.inl (iZ (x)), .inr (.inr (.inr (7, 0, 2)))], h)) rfl ?_
  refine Ev.callw (a := [.inr (.inr (.inr (7, 0, 2))), .inl (iZ (x))]) rfl (hi _ (by omega) _ _ _ _ _ q0 (by first | omega | (simp only [List.length_append, List.length_cons, List.length_nil, List.length_map]; omega)) (fun r1 h1 q1 f1 => ?_) (fun r1 g1 e1 P1 q1 f1 => ?_))
  · obtain ⟨x1, y1, -⟩ := gs _ r1
    have z1 := qc_p q1
    refine Ev.brT (p := ¬ (iZ (1)) = (iZ (0))) (c1 := (10, [some (.inr (.inr (.inr (7, 0, 2)))), some (.inl (iZ (x))), none], [], h1)) (c2 := (8, [some (.inr (.inr (.inr (7, 0, 2)))), some (.inl (iZ (x))), none], [], h1)) (by decide) rfl ?_
    refine Ev.sts 2 (c' := (12, [some (.inr (.inr (.inr (7, 0, 2)))), some (.inl (iZ (x))), some (.inl (iZ (0)))], [], h1)) rfl ?_
    refine tc_pr_lp hi gs (by omega) 400 0 _ _ _ _ _ rfl q1 (by first | omega | (simp only [List.length_append, List.length_cons, List.length_nil, List.length_map]; omega)) (fun rr hz qz fz => ?_) (fun rr hz ez Pz qz fz => ?_)
    · have e1 : sqS T spM item p = (true, (lpS T spM item 400 (item p).2.1).2.1, (item p).2.2 ++ (lpS T spM item 400 (item p).2.1).2.2) := by unfold sqS; rw [bnd_t (by assumption), rr]
      rw [e1] at kok
      refine kok rfl hz ?_ (fP_t (fP_t (fP_r b h) f1) fz)
      dsimp only
      rw [← List.append_assoc]; exact qz
    · have e1 : sqS T spM item p = (false, (lpS T spM item 400 (item p).2.1).2.1, (item p).2.2 ++ (lpS T spM item 400 (item p).2.1).2.2) := by unfold sqS; rw [bnd_t (by assumption), rr]
      rw [e1] at kno
      exact kno rfl hz ez Pz qz (fP_t (fP_t (fP_r b h) f1) fz)
  · refine Ev.brF (p := ¬ (iZ (0)) = (iZ (0))) (c1 := (10, [some (.inr (.inr (.inr (7, 0, 2)))), some (.inl (iZ (x))), none], [], g1)) (c2 := (8, [some (.inr (.inr (.inr (7, 0, 2)))), some (.inl (iZ (x))), none], [], g1)) (by decide) rfl ?_
    refine Ev.sts 1 (c' := (9, [some (.inr (.inr (.inr (7, 0, 2)))), some (.inl (iZ (x))), none], [.inl (iZ (0))], g1)) rfl ?_
    first | (exfalso; omega) | (have e1 : sqS T spM item p = (false, (item p).2.1, []) := (by unfold sqS; rw [bnd_f (by assumption)]); rw [e1] at kno; exact Ev.ret rfl (kno rfl _ _ _ q1 (fP_t (fP_r b h) f1)))

theorem tc_vl_lp {D d b : Nat} {x : Int} {T : List Tok} {F G : List Int} {item : Nat → Rz} (hi : VOK D 126 x b T F G item) (gs : gdS T (okVl) item) (hD : D ≤ d) (n : Nat) : ∀ (i : Nat) (h : PH) (p : Nat) (e : Nat × Nat) (P : List Cmd) (Q : Rs → PH → Prop), i + n = 400 → QC h b T p e F G P → P.length ≤ p → ((lpS T spP item n p).1 = true → ∀ h1, QC h1 b T (lpS T spP item n p).2.1 e F G (P ++ (lpS T spP item n p).2.2) → fPp b h h1 → Q (.inl (some (.inl (iZ 1)))) h1) → ((lpS T spP item n p).1 = false → ∀ h1 e1 P1, QC h1 b T (lpS T spP item n p).2.1 e1 F G P1 → fPp b h h1 → Q (.inl (some (.inl (iZ 0)))) h1) → Ev (d + 1) 125 (20, [some (.inr (.inr (.inr (7, 0, 2)))), some (.inl (iZ (x))), some (.inr (.inr (.inr (40, 0, (tK T p))))), some (.inl (iZ (i)))], [], h) Q := by
  induction n with
  | zero =>
    intro i h p e P Q hn q0 hp kok kno
    have sh := qc_sh q0
    have hb := qc_b q0
    have w0 := qc_w q0
    have p0 := qc_p q0
    have t0 := qc_tk q0
    have l1 := w0.2.1
    refine Ev.sts 2 (c' := (24, [some (.inr (.inr (.inr (7, 0, 2)))), some (.inl (iZ (x))), some (.inr (.inr (.inr (40, 0, (tK T p))))), some (.inl (iZ (i)))], [.inl (iZ (400)), .inl (iZ (i))], h)) rfl ?_
    refine Ev.brT (p := (iZ (400)) ≤ (iZ (i))) (c1 := (89, [some (.inr (.inr (.inr (7, 0, 2)))), some (.inl (iZ (x))), some (.inr (.inr (.inr (40, 0, (tK T p))))), some (.inl (iZ (i)))], [], h)) (c2 := (27, [some (.inr (.inr (.inr (7, 0, 2)))), some (.inl (iZ (x))), some (.inr (.inr (.inr (40, 0, (tK T p))))), some (.inl (iZ (i)))], [], h)) ((iZ_le ⟨by omega, by omega⟩ ⟨by omega, by omega⟩).mpr (by omega)) rfl ?_
    refine Ev.sts 1 (c' := (90, [some (.inr (.inr (.inr (7, 0, 2)))), some (.inl (iZ (x))), some (.inr (.inr (.inr (40, 0, (tK T p))))), some (.inl (iZ (i)))], [.inl (iZ (1))], h)) rfl ?_
    first | (exfalso; omega) | (have e1 : lpS T spP item 0 p = (true, p, []) := (by rfl); rw [e1] at kok; exact Ev.ret rfl (kok rfl _ (by rw [List.append_nil]; exact q0) (fP_r b h)))
  | succ n ih =>
    intro i h p e P Q hn q0 hp kok kno
    have sh := qc_sh q0
    have hb := qc_b q0
    have w0 := qc_w q0
    have p0 := qc_p q0
    have t0 := qc_tk q0
    have l1 := w0.2.1
    refine Ev.sts 2 (c' := (24, [some (.inr (.inr (.inr (7, 0, 2)))), some (.inl (iZ (x))), some (.inr (.inr (.inr (40, 0, (tK T p))))), some (.inl (iZ (i)))], [.inl (iZ (400)), .inl (iZ (i))], h)) rfl ?_
    refine Ev.brF (p := (iZ (400)) ≤ (iZ (i))) (c1 := (89, [some (.inr (.inr (.inr (7, 0, 2)))), some (.inl (iZ (x))), some (.inr (.inr (.inr (40, 0, (tK T p))))), some (.inl (iZ (i)))], [], h)) (c2 := (27, [some (.inr (.inr (.inr (7, 0, 2)))), some (.inl (iZ (x))), some (.inr (.inr (.inr (40, 0, (tK T p))))), some (.inl (iZ (i)))], [], h)) (fun c_ => absurd ((iZ_le ⟨by omega, by omega⟩ ⟨by omega, by omega⟩).mp c_) (by omega)) rfl ?_
    refine Ev.sts 1 (c' := (28, [some (.inr (.inr (.inr (7, 0, 2)))), some (.inl (iZ (x))), some (.inr (.inr (.inr (40, 0, (tK T p))))), some (.inl (iZ (i)))], [.inr (.inr (.inr (7, 0, 2)))], h)) rfl ?_
    refine Ev.gfr (r := (9, 0, 3)) rfl (sh_2_0 sh) ?_
    refine Ev.sts 1 (c' := (34, [some (.inr (.inr (.inr (7, 0, 2)))), some (.inl (iZ (x))), some (.inr (.inr (.inr (40, 0, (tK T p))))), some (.inl (iZ (i)))], [.inr (.inr (.inr (40, 0, 35))), .inr (.inr (.inr (9, 0, 3)))], h)) rfl ?_
    refine Ev.callw (a := [.inr (.inr (.inr (9, 0, 3))), .inr (.inr (.inr (40, 0, 35)))]) rfl (tc_skip q0 (by first | decide | omega) (fun ky1 h1 q1 f1 => ?_) (fun ky1 => ?_))
    · have z1 := qc_p q1
      refine Ev.brT (p := ¬ (iZ (1)) = (iZ (0))) (c1 := (53, [some (.inr (.inr (.inr (7, 0, 2)))), some (.inl (iZ (x))), some (.inr (.inr (.inr (40, 0, (tK T p))))), some (.inl (iZ (i)))], [], h1)) (c2 := (40, [some (.inr (.inr (.inr (7, 0, 2)))), some (.inl (iZ (x))), some (.inr (.inr (.inr (40, 0, (tK T p))))), some (.inl (iZ (i)))], [], h1)) (by decide) rfl ?_
      refine Ev.sts 2 (c' := (55, [some (.inr (.inr (.inr (7, 0, 2)))), some (.inl (iZ (x))), some (.inr (.inr (.inr (40, 0, (tK T p))))), some (.inl (iZ (i)))], [.inl (iZ (x)), .inr (.inr (.inr (7, 0, 2)))], h1)) rfl ?_
      refine Ev.callw (a := [.inr (.inr (.inr (7, 0, 2))), .inl (iZ (x))]) rfl (hi _ (by omega) _ _ _ _ _ q1 (by first | omega | (simp only [List.length_append, List.length_cons, List.length_nil, List.length_map]; omega)) (fun r2 h2 q2 f2 => ?_) (fun r2 g2 e2 P2 q2 f2 => ?_))
      · obtain ⟨x2, y2, -⟩ := gs _ r2
        have z2 := qc_p q2
        refine Ev.brT (p := ¬ (iZ (1)) = (iZ (0))) (c1 := (63, [some (.inr (.inr (.inr (7, 0, 2)))), some (.inl (iZ (x))), some (.inr (.inr (.inr (40, 0, (tK T p))))), some (.inl (iZ (i)))], [], h2)) (c2 := (61, [some (.inr (.inr (.inr (7, 0, 2)))), some (.inl (iZ (x))), some (.inr (.inr (.inr (40, 0, (tK T p))))), some (.inl (iZ (i)))], [], h2)) (by decide) rfl ?_
        refine Ev.sts 1 (c' := (64, [some (.inr (.inr (.inr (7, 0, 2)))), some (.inl (iZ (x))), some (.inr (.inr (.inr (40, 0, (tK T p))))), some (.inl (iZ (i)))], [.inr (.inr (.inr (7, 0, 2)))], h2)) rfl ?_
        refine Ev.gfr (r := (2, 0, b)) rfl (qc_24 q2) ?_
        refine Ev.gfr (r := (5, 0, (b + 5))) rfl (sh_b4 (qc_sh q2) hb) ?_
        refine Ev.sts 2 (c' := (72, [some (.inr (.inr (.inr (7, 0, 2)))), some (.inl (iZ (x))), some (.inr (.inr (.inr (40, 0, (tK T p))))), some (.inl (iZ (i)))], [.inl (iZ (0)), .inr (.inr (.inr (40, 0, (tK T p)))), .inr (.inr (.inr (5, 0, (b + 5))))], h2)) rfl ?_
        refine Ev.callw (a := [.inr (.inr (.inr (5, 0, (b + 5)))), .inr (.inr (.inr (40, 0, (tK T p)))), .inl (iZ (0))]) rfl (tc_add q2 (by first | omega | (simp only [List.length_append, List.length_cons, List.length_nil, List.length_map]; omega)) (fun h3 q3 f3 => ?_))
        refine Ev.sts 1 (c' := (76, [some (.inr (.inr (.inr (7, 0, 2)))), some (.inl (iZ (x))), some (.inr (.inr (.inr (40, 0, (tK T p))))), some (.inl (iZ (i)))], [.inr (.inr (.inr (7, 0, 2)))], h3)) rfl ?_
        refine Ev.gfr (r := (9, 0, 3)) rfl (sh_2_0 (qc_sh q3)) ?_
        refine Ev.callv (a := [.inr (.inr (.inr (9, 0, 3)))]) rfl (tc_kind q3) ?_
        refine Ev.sts 1 (c' := (83, [some (.inr (.inr (.inr (7, 0, 2)))), some (.inl (iZ (x))), some (.inr (.inr (.inr (40, 0, (tK T ((item (p + 1)).2.1)))))), some (.inl (iZ (i)))], [], h3)) rfl ?_
        refine Ev.stc (c1 := (86, [some (.inr (.inr (.inr (7, 0, 2)))), some (.inl (iZ (x))), some (.inr (.inr (.inr (40, 0, (tK T ((item (p + 1)).2.1)))))), some (.inl ((iZ (i)) + (iZ (1))))], [], h3)) (c2 := (86, [some (.inr (.inr (.inr (7, 0, 2)))), some (.inl (iZ (x))), some (.inr (.inr (.inr (40, 0, (tK T ((item (p + 1)).2.1)))))), some (.inl (iZ (i + 1)))], [], h3)) rfl (by rw [iZ_add]) ?_
        refine Ev.sts 1 (c' := (20, [some (.inr (.inr (.inr (7, 0, 2)))), some (.inl (iZ (x))), some (.inr (.inr (.inr (40, 0, (tK T ((item (p + 1)).2.1)))))), some (.inl (iZ (i + 1)))], [], h3)) rfl ?_
        refine ih (i + 1) _ _ _ _ _ (by omega) q3 (by first | omega | (simp only [List.length_append, List.length_cons, List.length_nil, List.length_map]; omega)) (fun rr hz qz fz => ?_) (fun rr hz ez Pz qz fz => ?_)
        · have e1 : lpS T spP item (n + 1) p = (true, (lpS T spP item n (item (p + 1)).2.1).2.1, (item (p + 1)).2.2 ++ (tK T p, 0) :: (lpS T spP item n (item (p + 1)).2.1).2.2) := by rw [lp_t (by rw [spP_t]; first | assumption | omega | (left; assumption) | (right; assumption)), bnd_t (by assumption)]; dsimp only; rw [rr]
          rw [e1] at kok
          refine kok rfl hz ?_ (fP_t (fP_t (fP_t (fP_t (fP_r b h) f1) f2) f3) fz)
          dsimp only
          simpa only [List.append_assoc, List.cons_append, List.nil_append] using qz
        · have e1 : lpS T spP item (n + 1) p = (false, (lpS T spP item n (item (p + 1)).2.1).2.1, (item (p + 1)).2.2 ++ (tK T p, 0) :: (lpS T spP item n (item (p + 1)).2.1).2.2) := by rw [lp_t (by rw [spP_t]; first | assumption | omega | (left; assumption) | (right; assumption)), bnd_t (by assumption)]; dsimp only; rw [rr]
          rw [e1] at kno
          exact kno rfl hz ez Pz qz (fP_t (fP_t (fP_t (fP_t (fP_r b h) f1) f2) f3) fz)
      · refine Ev.brF (p := ¬ (iZ (0)) = (iZ (0))) (c1 := (63, [some (.inr (.inr (.inr (7, 0, 2)))), some (.inl (iZ (x))), some (.inr (.inr (.inr (40, 0, (tK T p))))), some (.inl (iZ (i)))], [], g2)) (c2 := (61, [some (.inr (.inr (.inr (7, 0, 2)))), some (.inl (iZ (x))), some (.inr (.inr (.inr (40, 0, (tK T p))))), some (.inl (iZ (i)))], [], g2)) (by decide) rfl ?_
        refine Ev.sts 1 (c' := (62, [some (.inr (.inr (.inr (7, 0, 2)))), some (.inl (iZ (x))), some (.inr (.inr (.inr (40, 0, (tK T p))))), some (.inl (iZ (i)))], [.inl (iZ (0))], g2)) rfl ?_
        first | (exfalso; omega) | (have e1 : lpS T spP item (n + 1) p = (false, (item (p + 1)).2.1, []) := (by rw [lp_t (by rw [spP_t]; first | assumption | omega | (left; assumption) | (right; assumption)), bnd_f (by assumption)]); rw [e1] at kno; exact Ev.ret rfl (kno rfl _ _ _ q2 (fP_t (fP_t (fP_r b h) f1) f2)))
    · refine Ev.brF (p := ¬ (iZ (0)) = (iZ (0))) (c1 := (53, [some (.inr (.inr (.inr (7, 0, 2)))), some (.inl (iZ (x))), some (.inr (.inr (.inr (40, 0, (tK T p))))), some (.inl (iZ (i)))], [], h)) (c2 := (40, [some (.inr (.inr (.inr (7, 0, 2)))), some (.inl (iZ (x))), some (.inr (.inr (.inr (40, 0, (tK T p))))), some (.inl (iZ (i)))], [], h)) (by decide) rfl ?_
      refine Ev.sts 1 (c' := (41, [some (.inr (.inr (.inr (7, 0, 2)))), some (.inl (iZ (x))), some (.inr (.inr (.inr (40, 0, (tK T p))))), some (.inl (iZ (i)))], [.inr (.inr (.inr (7, 0, 2)))], h)) rfl ?_
      refine Ev.gfr (r := (9, 0, 3)) rfl (sh_2_0 sh) ?_
      refine Ev.sts 1 (c' := (47, [some (.inr (.inr (.inr (7, 0, 2)))), some (.inl (iZ (x))), some (.inr (.inr (.inr (40, 0, (tK T p))))), some (.inl (iZ (i)))], [.inr (.inr (.inr (40, 0, 36))), .inr (.inr (.inr (9, 0, 3)))], h)) rfl ?_
      refine Ev.callw (a := [.inr (.inr (.inr (9, 0, 3))), .inr (.inr (.inr (40, 0, 36)))]) rfl (tc_skip q0 (by first | decide | omega) (fun ky4 h4 q4 f4 => ?_) (fun ky4 => ?_))
      · have z4 := qc_p q4
        refine Ev.brF (p := (iZ (1)) = (iZ (0))) (c1 := (89, [some (.inr (.inr (.inr (7, 0, 2)))), some (.inl (iZ (x))), some (.inr (.inr (.inr (40, 0, (tK T p))))), some (.inl (iZ (i)))], [], h4)) (c2 := (53, [some (.inr (.inr (.inr (7, 0, 2)))), some (.inl (iZ (x))), some (.inr (.inr (.inr (40, 0, (tK T p))))), some (.inl (iZ (i)))], [], h4)) (by decide) rfl ?_
        refine Ev.sts 2 (c' := (55, [some (.inr (.inr (.inr (7, 0, 2)))), some (.inl (iZ (x))), some (.inr (.inr (.inr (40, 0, (tK T p))))), some (.inl (iZ (i)))], [.inl (iZ (x)), .inr (.inr (.inr (7, 0, 2)))], h4)) rfl ?_
        refine Ev.callw (a := [.inr (.inr (.inr (7, 0, 2))), .inl (iZ (x))]) rfl (hi _ (by omega) _ _ _ _ _ q4 (by first | omega | (simp only [List.length_append, List.length_cons, List.length_nil, List.length_map]; omega)) (fun r5 h5 q5 f5 => ?_) (fun r5 g5 e5 P5 q5 f5 => ?_))
        · obtain ⟨x5, y5, -⟩ := gs _ r5
          have z5 := qc_p q5
          refine Ev.brT (p := ¬ (iZ (1)) = (iZ (0))) (c1 := (63, [some (.inr (.inr (.inr (7, 0, 2)))), some (.inl (iZ (x))), some (.inr (.inr (.inr (40, 0, (tK T p))))), some (.inl (iZ (i)))], [], h5)) (c2 := (61, [some (.inr (.inr (.inr (7, 0, 2)))), some (.inl (iZ (x))), some (.inr (.inr (.inr (40, 0, (tK T p))))), some (.inl (iZ (i)))], [], h5)) (by decide) rfl ?_
          refine Ev.sts 1 (c' := (64, [some (.inr (.inr (.inr (7, 0, 2)))), some (.inl (iZ (x))), some (.inr (.inr (.inr (40, 0, (tK T p))))), some (.inl (iZ (i)))], [.inr (.inr (.inr (7, 0, 2)))], h5)) rfl ?_
          refine Ev.gfr (r := (2, 0, b)) rfl (qc_24 q5) ?_
          refine Ev.gfr (r := (5, 0, (b + 5))) rfl (sh_b4 (qc_sh q5) hb) ?_
          refine Ev.sts 2 (c' := (72, [some (.inr (.inr (.inr (7, 0, 2)))), some (.inl (iZ (x))), some (.inr (.inr (.inr (40, 0, (tK T p))))), some (.inl (iZ (i)))], [.inl (iZ (0)), .inr (.inr (.inr (40, 0, (tK T p)))), .inr (.inr (.inr (5, 0, (b + 5))))], h5)) rfl ?_
          refine Ev.callw (a := [.inr (.inr (.inr (5, 0, (b + 5)))), .inr (.inr (.inr (40, 0, (tK T p)))), .inl (iZ (0))]) rfl (tc_add q5 (by first | omega | (simp only [List.length_append, List.length_cons, List.length_nil, List.length_map]; omega)) (fun h6 q6 f6 => ?_))
          refine Ev.sts 1 (c' := (76, [some (.inr (.inr (.inr (7, 0, 2)))), some (.inl (iZ (x))), some (.inr (.inr (.inr (40, 0, (tK T p))))), some (.inl (iZ (i)))], [.inr (.inr (.inr (7, 0, 2)))], h6)) rfl ?_
          refine Ev.gfr (r := (9, 0, 3)) rfl (sh_2_0 (qc_sh q6)) ?_
          refine Ev.callv (a := [.inr (.inr (.inr (9, 0, 3)))]) rfl (tc_kind q6) ?_
          refine Ev.sts 1 (c' := (83, [some (.inr (.inr (.inr (7, 0, 2)))), some (.inl (iZ (x))), some (.inr (.inr (.inr (40, 0, (tK T ((item (p + 1)).2.1)))))), some (.inl (iZ (i)))], [], h6)) rfl ?_
          refine Ev.stc (c1 := (86, [some (.inr (.inr (.inr (7, 0, 2)))), some (.inl (iZ (x))), some (.inr (.inr (.inr (40, 0, (tK T ((item (p + 1)).2.1)))))), some (.inl ((iZ (i)) + (iZ (1))))], [], h6)) (c2 := (86, [some (.inr (.inr (.inr (7, 0, 2)))), some (.inl (iZ (x))), some (.inr (.inr (.inr (40, 0, (tK T ((item (p + 1)).2.1)))))), some (.inl (iZ (i + 1)))], [], h6)) rfl (by rw [iZ_add]) ?_
          refine Ev.sts 1 (c' := (20, [some (.inr (.inr (.inr (7, 0, 2)))), some (.inl (iZ (x))), some (.inr (.inr (.inr (40, 0, (tK T ((item (p + 1)).2.1)))))), some (.inl (iZ (i + 1)))], [], h6)) rfl ?_
          refine ih (i + 1) _ _ _ _ _ (by omega) q6 (by first | omega | (simp only [List.length_append, List.length_cons, List.length_nil, List.length_map]; omega)) (fun rr hz qz fz => ?_) (fun rr hz ez Pz qz fz => ?_)
          · have e1 : lpS T spP item (n + 1) p = (true, (lpS T spP item n (item (p + 1)).2.1).2.1, (item (p + 1)).2.2 ++ (tK T p, 0) :: (lpS T spP item n (item (p + 1)).2.1).2.2) := by rw [lp_t (by rw [spP_t]; first | assumption | omega | (left; assumption) | (right; assumption)), bnd_t (by assumption)]; dsimp only; rw [rr]
            rw [e1] at kok
            refine kok rfl hz ?_ (fP_t (fP_t (fP_t (fP_t (fP_r b h) f4) f5) f6) fz)
            dsimp only
            simpa only [List.append_assoc, List.cons_append, List.nil_append] using qz
          · have e1 : lpS T spP item (n + 1) p = (false, (lpS T spP item n (item (p + 1)).2.1).2.1, (item (p + 1)).2.2 ++ (tK T p, 0) :: (lpS T spP item n (item (p + 1)).2.1).2.2) := by rw [lp_t (by rw [spP_t]; first | assumption | omega | (left; assumption) | (right; assumption)), bnd_t (by assumption)]; dsimp only; rw [rr]
            rw [e1] at kno
            exact kno rfl hz ez Pz qz (fP_t (fP_t (fP_t (fP_t (fP_r b h) f4) f5) f6) fz)
        · refine Ev.brF (p := ¬ (iZ (0)) = (iZ (0))) (c1 := (63, [some (.inr (.inr (.inr (7, 0, 2)))), some (.inl (iZ (x))), some (.inr (.inr (.inr (40, 0, (tK T p))))), some (.inl (iZ (i)))], [], g5)) (c2 := (61, [some (.inr (.inr (.inr (7, 0, 2)))), some (.inl (iZ (x))), some (.inr (.inr (.inr (40, 0, (tK T p))))), some (.inl (iZ (i)))], [], g5)) (by decide) rfl ?_
          refine Ev.sts 1 (c' := (62, [some (.inr (.inr (.inr (7, 0, 2)))), some (.inl (iZ (x))), some (.inr (.inr (.inr (40, 0, (tK T p))))), some (.inl (iZ (i)))], [.inl (iZ (0))], g5)) rfl ?_
          first | (exfalso; omega) | (have e1 : lpS T spP item (n + 1) p = (false, (item (p + 1)).2.1, []) := (by rw [lp_t (by rw [spP_t]; first | assumption | omega | (left; assumption) | (right; assumption)), bnd_f (by assumption)]); rw [e1] at kno; exact Ev.ret rfl (kno rfl _ _ _ q5 (fP_t (fP_t (fP_r b h) f4) f5)))
      · refine Ev.brT (p := (iZ (0)) = (iZ (0))) (c1 := (89, [some (.inr (.inr (.inr (7, 0, 2)))), some (.inl (iZ (x))), some (.inr (.inr (.inr (40, 0, (tK T p))))), some (.inl (iZ (i)))], [], h)) (c2 := (53, [some (.inr (.inr (.inr (7, 0, 2)))), some (.inl (iZ (x))), some (.inr (.inr (.inr (40, 0, (tK T p))))), some (.inl (iZ (i)))], [], h)) (by decide) rfl ?_
        refine Ev.sts 1 (c' := (90, [some (.inr (.inr (.inr (7, 0, 2)))), some (.inl (iZ (x))), some (.inr (.inr (.inr (40, 0, (tK T p))))), some (.inl (iZ (i)))], [.inl (iZ (1))], h)) rfl ?_
        first | (exfalso; omega) | (have e1 : lpS T spP item (n + 1) p = (true, p, []) := (by exact lp_f (by rw [spP_t]; omega)); rw [e1] at kok; exact Ev.ret rfl (kok rfl _ (by rw [List.append_nil]; exact q0) (fP_r b h)))

theorem tc_vl {D b : Nat} {x : Int} {T : List Tok} {F G : List Int} {item : Nat → Rz} (hi : VOK D 126 x b T F G item) (gs : gdS T (okVl) item) : VOK (D + 1) 125 x b T F G (sqS T spP item) := by
  intro k hk h p e P Q q0 hp kok kno
  have sh := qc_sh q0
  have hb := qc_b q0
  have w0 := qc_w q0
  have p0 := qc_p q0
  have t0 := qc_tk q0
  have l1 := w0.2.1
  obtain ⟨d, rfl⟩ : ∃ d, k = d + 1 := ⟨k - 1, by omega⟩
  refine Ev.sts 2 (c' := (2, [some (.inr (.inr (.inr (7, 0, 2)))), some (.inl (iZ (x))), none, none], [.inl (iZ (x)), .inr (.inr (.inr (7, 0, 2)))], h)) rfl ?_
  refine Ev.callw (a := [.inr (.inr (.inr (7, 0, 2))), .inl (iZ (x))]) rfl (hi _ (by omega) _ _ _ _ _ q0 (by first | omega | (simp only [List.length_append, List.length_cons, List.length_nil, List.length_map]; omega)) (fun r1 h1 q1 f1 => ?_) (fun r1 g1 e1 P1 q1 f1 => ?_))
  · obtain ⟨x1, y1, -⟩ := gs _ r1
    have z1 := qc_p q1
    refine Ev.brT (p := ¬ (iZ (1)) = (iZ (0))) (c1 := (10, [some (.inr (.inr (.inr (7, 0, 2)))), some (.inl (iZ (x))), none, none], [], h1)) (c2 := (8, [some (.inr (.inr (.inr (7, 0, 2)))), some (.inl (iZ (x))), none, none], [], h1)) (by decide) rfl ?_
    refine Ev.sts 1 (c' := (11, [some (.inr (.inr (.inr (7, 0, 2)))), some (.inl (iZ (x))), none, none], [.inr (.inr (.inr (7, 0, 2)))], h1)) rfl ?_
    refine Ev.gfr (r := (9, 0, 3)) rfl (sh_2_0 (qc_sh q1)) ?_
    refine Ev.callv (a := [.inr (.inr (.inr (9, 0, 3)))]) rfl (tc_kind q1) ?_
    refine Ev.sts 3 (c' := (20, [some (.inr (.inr (.inr (7, 0, 2)))), some (.inl (iZ (x))), some (.inr (.inr (.inr (40, 0, (tK T ((item p).2.1)))))), some (.inl (iZ (0)))], [], h1)) rfl ?_
    refine tc_vl_lp hi gs (by omega) 400 0 _ _ _ _ _ rfl q1 (by first | omega | (simp only [List.length_append, List.length_cons, List.length_nil, List.length_map]; omega)) (fun rr hz qz fz => ?_) (fun rr hz ez Pz qz fz => ?_)
    · have e1 : sqS T spP item p = (true, (lpS T spP item 400 (item p).2.1).2.1, (item p).2.2 ++ (lpS T spP item 400 (item p).2.1).2.2) := by unfold sqS; rw [bnd_t (by assumption), rr]
      rw [e1] at kok
      refine kok rfl hz ?_ (fP_t (fP_t (fP_r b h) f1) fz)
      dsimp only
      rw [← List.append_assoc]; exact qz
    · have e1 : sqS T spP item p = (false, (lpS T spP item 400 (item p).2.1).2.1, (item p).2.2 ++ (lpS T spP item 400 (item p).2.1).2.2) := by unfold sqS; rw [bnd_t (by assumption), rr]
      rw [e1] at kno
      exact kno rfl hz ez Pz qz (fP_t (fP_t (fP_r b h) f1) fz)
  · refine Ev.brF (p := ¬ (iZ (0)) = (iZ (0))) (c1 := (10, [some (.inr (.inr (.inr (7, 0, 2)))), some (.inl (iZ (x))), none, none], [], g1)) (c2 := (8, [some (.inr (.inr (.inr (7, 0, 2)))), some (.inl (iZ (x))), none, none], [], g1)) (by decide) rfl ?_
    refine Ev.sts 1 (c' := (9, [some (.inr (.inr (.inr (7, 0, 2)))), some (.inl (iZ (x))), none, none], [.inl (iZ (0))], g1)) rfl ?_
    first | (exfalso; omega) | (have e1 : sqS T spP item p = (false, (item p).2.1, []) := (by unfold sqS; rw [bnd_f (by assumption)]); rw [e1] at kno; exact Ev.ret rfl (kno rfl _ _ _ q1 (fP_t (fP_r b h) f1)))

theorem VOK_up {D D2 m b : Nat} {x : Int} {T : List Tok} {F G : List Int} {f : Nat → Rz} (h : VOK D m x b T F G f) (hD : D ≤ D2) : VOK D2 m x b T F G f := fun k hk => h k (by omega)
theorem gd_pr {T : List Tok} (w : tkW T) {lv : Nat} {sub : Nat → Rz} (hs : gdS T okVl sub) : gdS T okVl (prS T lv sub) :=
  gd_sq (gd_atm w hs) (fun k hk => ⟨by rw [spM_t] at hk; exact .inr (.inr (.inr hk)), Int.le_refl _, by show (0 : Int) ≤ 9999; omega⟩)
theorem tc_syV {b : Nat} {T : List Tok} {F G : List Int} (w : tkW T) : ∀ n : Nat, n ≤ 6 → ∀ x : Int, x = 6 - (n : Int) → VOK (3 * n + 3) 125 x b T F G (syV T n) := by
  intro n
  induction n with
  | zero =>
    intro _ x hx
    exact VOK_up (tc_vl (tc_pr (tc_atom (D := 0) hx (by omega) (fun z => absurd z (Nat.lt_irrefl 0)) gd_nul) (gd_atm w gd_nul)) (gd_pr w gd_nul)) (by omega)
  | succ n ih =>
    intro hn x hx
    exact VOK_up (tc_vl (tc_pr (tc_atom (D := 3 * n + 3) hx hn (fun _ => ih (by omega) (x + 1) (by omega)) (gd_syV w n)) (gd_atm w (gd_syV w n))) (gd_pr w (gd_syV w n))) (by omega)
