/-! The reference reads values. -/
def VMK (D m : Nat) (x : Int) (T : List Tok) (sc : Nat) (N : List (Int × Int)) (f : Nat → Rz) : Prop := ∀ (k : Nat), D ≤ k → ∀ (h : PH) (p : Nat) (W : List Int) (Q : Rs → PH → Prop), QM h T sc p N W → W.length ≤ 2 * p → (sc = 1 → (f p).1 = true) → ((f p).1 = true → ∀ h1, QM h1 T sc (f p).2.1 N (W ++ wds (f p).2.2) → fR h h1 → Q (.inl (some (.inl (iZ 1)))) h1) → ((f p).1 = false → sc = 0 → ∀ h1, erM h1 T 1 (f p).2.1 → fR h h1 → Q (.inl (some (.inl (iZ 0)))) h1) → Rn k m [.inr (.inr (.inr (11, 0, 83))), .inl (iZ x)] h Q
theorem VMK_up {D D2 m sc : Nat} {x : Int} {T : List Tok} {N : List (Int × Int)} {f : Nat → Rz} (h : VMK D m x T sc N f) (hD : D ≤ D2) : VMK D2 m x T sc N f := fun k hk => h k (by omega)
theorem sc_0 {sc : Nat} (h : sc ≤ 1) (n : ¬ sc = 1) : sc = 0 := by omega
theorem wds_1 (c : Cmd) : wds [c] = wcm c := List.append_nil _
theorem wds_n : wds [] = [] := rfl
theorem tK_400 {T : List Tok} (w : tkW T) {p : Nat} (h : 400 ≤ p) : tK T p ≤ 1 := by
  by_cases c : tK T p ≤ 1
  · exact c
  · have := tK_in w (p := p) (by omega)
    have := w.2.1
    omega
theorem lp_0 {T : List Tok} {sep : Nat → Bool} {item : Nat → Rz} {p : Nat} : lpS T sep item 0 p = (true, p, []) := rfl
theorem mr_atom {D lv sc : Nat} {x : Int} {T : List Tok} {N : List (Int × Int)} {sub : Nat → Rz} (hx : x = 6 - (lv : Int)) (hlv : lv ≤ 6) (hs : 0 < lv → VMK D 202 (x + 1) T sc N sub) (gs : gdS T okVl sub) : VMK (D + 2) 204 x T sc N (atm T lv sub) := by
  intro k hk h p W Q q0 hp hs1 kok kno
  have sh := qm_sh q0
  have w0 := qm_w q0
  have p0 := qm_p q0
  have t0 := qm_tk q0
  have l1 := w0.2.1
  have s1 := qm_s q0
  have tb0 := tBk w0 p
  have sb0 := sr_b (tK T p)
  obtain ⟨d, rfl⟩ : ∃ d, k = d + 2 := ⟨k - 2, by omega⟩
  refine Ev.sts 2 (c' := (3, [some (.inr (.inr (.inr (11, 0, 83)))), some (.inl (iZ (x))), none], [.inl (iZ (40)), .inr (.inr (.inr (11, 0, 83)))], h)) rfl ?_
  refine Ev.callw (a := [.inr (.inr (.inr (11, 0, 83))), .inl (iZ (40))]) rfl (mf_isSign (K := 26) q0 (by decide) (by decide) (fun ky1 => ?_) (fun ky1 => ?_))
  · refine Ev.brF (p := (iZ (1)) = (iZ (0))) (c1 := (60, [some (.inr (.inr (.inr (11, 0, 83)))), some (.inl (iZ (x))), none], [], h)) (c2 := (9, [some (.inr (.inr (.inr (11, 0, 83)))), some (.inl (iZ (x))), none], [], h)) (by decide) rfl ?_
    refine Ev.sts 2 (c' := (12, [some (.inr (.inr (.inr (11, 0, 83)))), some (.inl (iZ (x))), none], [.inl (iZ (6)), .inl (iZ (x))], h)) rfl ?_
    refine Ev.brc (p := ¬ (iZ (x)) = (iZ (6))) (q := ¬ ((x : Int)) = 6) (c1 := (25, [some (.inr (.inr (.inr (11, 0, 83)))), some (.inl (iZ (x))), none], [], h)) (c2 := (15, [some (.inr (.inr (.inr (11, 0, 83)))), some (.inl (iZ (x))), none], [], h)) rfl (not_congr (iZ_eq ⟨by omega, by omega⟩ ⟨by omega, by omega⟩)) (fun c0 => ?_) (fun c0 => ?_)
    · refine Ev.sts 2 (c' := (27, [some (.inr (.inr (.inr (11, 0, 83)))), some (.inl (iZ (x))), none], [.inr (.inr (.inr (11, 0, 83))), .inr (.inr (.inr (11, 0, 83)))], h)) rfl ?_
      refine Ev.gv (w := (iZ (p))) rfl (qm_7 q0) ?_
      refine Ev.sts 1 (c' := (31, [some (.inr (.inr (.inr (11, 0, 83)))), some (.inl (iZ (x))), none], [.inl (iZ (1)), .inl (iZ (p)), .inr (.inr (.inr (11, 0, 83)))], h)) rfl ?_
      refine Ev.gv (w := (iZ (p + 1))) rfl (iZ_add _ _) ?_
      refine Ev.sts 1 (c' := (35, [some (.inr (.inr (.inr (11, 0, 83)))), some (.inl (iZ (x))), none], [], (setI h 83 7 ((iZ (p + 1)))))) rfl ?_
      have q2 : QM (setI h 83 7 ((iZ (p + 1)))) T sc (p + 1) N _ := QM_at q0 (show 2 ≤ tK T p by omega)
      have f2 : fR h (setI h 83 7 ((iZ (p + 1)))) := fR_8 (.inl rfl)
      have z2 := qm_p q2
      generalize (setI h 83 7 ((iZ (p + 1)))) = h2 at q2 f2 ⊢
      refine Ev.sts 3 (c' := (38, [some (.inr (.inr (.inr (11, 0, 83)))), some (.inl (iZ (x))), none], [.inl (iZ (1)), .inl (iZ (x)), .inr (.inr (.inr (11, 0, 83)))], h2)) rfl ?_
      refine Ev.gv (w := (iZ (x + 1))) rfl (iZ_add _ _) ?_
      refine Ev.callw (a := [.inr (.inr (.inr (11, 0, 83))), .inl (iZ (x + 1))]) rfl (hs (by omega) _ (by omega) _ _ _ _ q2 (by first | omega | (simp only [List.length_append, List.length_cons, List.length_nil, List.length_map]; omega)) (fun z_ => by have y_ := hs1 z_; unfold atm at y_; rw [if_pos (by omega), if_neg (by omega)] at y_; exact (bnd_ok y_).1) (fun r3 h3 q3 f3 => ?_) (fun r3 s3_ g3 a3 f3 => ?_))
      · obtain ⟨x3, y3, -⟩ := gs _ r3
        have z3 := qm_p q3
        have w3 := wds_len (sub (p + 1)).2.2
        refine Ev.brF (p := (iZ (1)) = (iZ (0))) (c1 := (58, [some (.inr (.inr (.inr (11, 0, 83)))), some (.inl (iZ (x))), none], [], h3)) (c2 := (45, [some (.inr (.inr (.inr (11, 0, 83)))), some (.inl (iZ (x))), none], [], h3)) (by decide) rfl ?_
        refine Ev.sts 2 (c' := (48, [some (.inr (.inr (.inr (11, 0, 83)))), some (.inl (iZ (x))), none], [.inl (iZ (41)), .inr (.inr (.inr (11, 0, 83)))], h3)) rfl ?_
        refine Ev.callw (a := [.inr (.inr (.inr (11, 0, 83))), .inl (iZ (41))]) rfl (mf_sign (K := 27) q3 (by decide) (by decide) (fun ky4 h4 q4 f4 => ?_) (fun ky4 g4 a4 f4 => ?_))
        · have z4 := qm_p q4
          refine Ev.brF (p := (iZ (1)) = (iZ (0))) (c1 := (58, [some (.inr (.inr (.inr (11, 0, 83)))), some (.inl (iZ (x))), none], [], h4)) (c2 := (54, [some (.inr (.inr (.inr (11, 0, 83)))), some (.inl (iZ (x))), none], [], h4)) (by decide) rfl ?_
          refine Ev.sts 2 (c' := (59, [some (.inr (.inr (.inr (11, 0, 83)))), some (.inl (iZ (x))), none], [.inl (iZ (1))], h4)) rfl ?_
          first | (exfalso; omega) | (have e1 : atm T lv sub p = (true, (sub (p + 1)).2.1 + 1, (sub (p + 1)).2.2) := (by unfold atm; rw [if_pos (by omega), if_neg (by omega), bnd_t (by assumption), tkn_t (by assumption), List.append_nil]); rw [e1] at kok; exact Ev.ret rfl (kok rfl _ (by dsimp only; exact q4) (fR_t (fR_t (fR_t (fR_r h) f2) f3) f4))) | (have e1 : atm T lv sub p = (true, p + 1, [(tK T p, tN T p)]) := (by unfold atm; rw [if_neg (by omega), if_pos (opd_t.mpr (by omega))]); rw [e1] at kok; exact Ev.ret rfl (kok rfl _ (by dsimp only; rw [wds_1]; first | rw [show tK T p = 3 by assumption] | rw [show tK T p = 11 by assumption] | rw [show tK T p = 12 by assumption] | rw [show tK T p = 13 by assumption] | rw [show tK T p = 14 by assumption]; rw [List.append_assoc] at *; exact q4) (fR_t (fR_t (fR_t (fR_r h) f2) f3) f4)))
        · refine Ev.brT (p := (iZ (0)) = (iZ (0))) (c1 := (58, [some (.inr (.inr (.inr (11, 0, 83)))), some (.inl (iZ (x))), none], [], g4)) (c2 := (54, [some (.inr (.inr (.inr (11, 0, 83)))), some (.inl (iZ (x))), none], [], g4)) (by decide) rfl ?_
          refine Ev.sts 1 (c' := (59, [some (.inr (.inr (.inr (11, 0, 83)))), some (.inl (iZ (x))), none], [.inl (iZ (0))], g4)) rfl ?_
          first | (exfalso; omega) | (have e1 : atm T lv sub p = (false, p, []) := (by unfold atm; rw [if_pos (by omega), if_pos (by omega)]); have s0_ : sc = 0 := (by first | assumption | exact sc_0 s1 (fun z_ => by have y_ := hs1 z_; rw [e1] at y_; cases y_)); rw [e1] at kno; exact Ev.ret rfl (kno rfl s0_ _ a4 (fR_t (fR_t (fR_t (fR_r h) f2) f3) f4))) | (have e1 : atm T lv sub p = (false, p, []) := (by unfold atm; rw [if_neg (by omega), if_neg (fun z_ => by have := opd_t.mp z_; have n3 := sr_1 (k := tK T p); omega)]); have s0_ : sc = 0 := (by first | assumption | exact sc_0 s1 (fun z_ => by have y_ := hs1 z_; rw [e1] at y_; cases y_)); rw [e1] at kno; exact Ev.ret rfl (kno rfl s0_ _ a4 (fR_t (fR_t (fR_t (fR_r h) f2) f3) f4))) | (have e1 : atm T lv sub p = (false, (sub (p + 1)).2.1, []) := (by unfold atm; rw [if_pos (by omega), if_neg (by omega), bnd_f (by assumption)]); have s0_ : sc = 0 := (by first | assumption | exact sc_0 s1 (fun z_ => by have y_ := hs1 z_; rw [e1] at y_; cases y_)); rw [e1] at kno; exact Ev.ret rfl (kno rfl s0_ _ a4 (fR_t (fR_t (fR_t (fR_r h) f2) f3) f4))) | (have e1 : atm T lv sub p = (false, (sub (p + 1)).2.1, (sub (p + 1)).2.2 ++ []) := (by unfold atm; rw [if_pos (by omega), if_neg (by omega), bnd_t (by assumption), tkn_f (by assumption)]); have s0_ : sc = 0 := (by first | assumption | exact sc_0 s1 (fun z_ => by have y_ := hs1 z_; rw [e1] at y_; cases y_)); rw [e1] at kno; exact Ev.ret rfl (kno rfl s0_ _ a4 (fR_t (fR_t (fR_t (fR_r h) f2) f3) f4)))
      · refine Ev.brT (p := (iZ (0)) = (iZ (0))) (c1 := (58, [some (.inr (.inr (.inr (11, 0, 83)))), some (.inl (iZ (x))), none], [], g3)) (c2 := (45, [some (.inr (.inr (.inr (11, 0, 83)))), some (.inl (iZ (x))), none], [], g3)) (by decide) rfl ?_
        refine Ev.sts 1 (c' := (59, [some (.inr (.inr (.inr (11, 0, 83)))), some (.inl (iZ (x))), none], [.inl (iZ (0))], g3)) rfl ?_
        first | (exfalso; omega) | (have e1 : atm T lv sub p = (false, p, []) := (by unfold atm; rw [if_pos (by omega), if_pos (by omega)]); have s0_ : sc = 0 := (by first | assumption | exact sc_0 s1 (fun z_ => by have y_ := hs1 z_; rw [e1] at y_; cases y_)); rw [e1] at kno; exact Ev.ret rfl (kno rfl s0_ _ a3 (fR_t (fR_t (fR_r h) f2) f3))) | (have e1 : atm T lv sub p = (false, p, []) := (by unfold atm; rw [if_neg (by omega), if_neg (fun z_ => by have := opd_t.mp z_; have n3 := sr_1 (k := tK T p); omega)]); have s0_ : sc = 0 := (by first | assumption | exact sc_0 s1 (fun z_ => by have y_ := hs1 z_; rw [e1] at y_; cases y_)); rw [e1] at kno; exact Ev.ret rfl (kno rfl s0_ _ a3 (fR_t (fR_t (fR_r h) f2) f3))) | (have e1 : atm T lv sub p = (false, (sub (p + 1)).2.1, []) := (by unfold atm; rw [if_pos (by omega), if_neg (by omega), bnd_f (by assumption)]); have s0_ : sc = 0 := (by first | assumption | exact sc_0 s1 (fun z_ => by have y_ := hs1 z_; rw [e1] at y_; cases y_)); rw [e1] at kno; exact Ev.ret rfl (kno rfl s0_ _ a3 (fR_t (fR_t (fR_r h) f2) f3))) | (have e1 : atm T lv sub p = (false, (sub (p + 1)).2.1, (sub (p + 1)).2.2 ++ []) := (by unfold atm; rw [if_pos (by omega), if_neg (by omega), bnd_t (by assumption), tkn_f (by assumption)]); have s0_ : sc = 0 := (by first | assumption | exact sc_0 s1 (fun z_ => by have y_ := hs1 z_; rw [e1] at y_; cases y_)); rw [e1] at kno; exact Ev.ret rfl (kno rfl s0_ _ a3 (fR_t (fR_t (fR_r h) f2) f3)))
    · refine Ev.sts 3 (c' := (18, [some (.inr (.inr (.inr (11, 0, 83)))), some (.inl (iZ (x))), none], [.inr (.inr (.inr (11, 0, 83))), .inl (iZ (1)), .inr (.inr (.inr (11, 0, 83)))], h)) rfl ?_
      refine Ev.gv (w := (iZ (p))) rfl (qm_7 q0) ?_
      refine Ev.callv (a := [.inr (.inr (.inr (11, 0, 83))), .inl (iZ (1)), .inl (iZ (p))]) rfl (mf_fault (yn := p) (qm_sh q0) (qm_tk q0) (by omega) (by have := qm_p q0; omega) l1) ?_
      first | (exfalso; omega) | (have e1 : atm T lv sub p = (false, p, []) := (by unfold atm; rw [if_pos (by omega), if_pos (by omega)]); have s0_ : sc = 0 := (by first | assumption | exact sc_0 s1 (fun z_ => by have y_ := hs1 z_; rw [e1] at y_; cases y_)); rw [e1] at kno; exact Ev.ret rfl (kno rfl s0_ _ ⟨(setI_ne (by decide)).trans (setI_self _ _ _ _), setI_self _ _ _ _⟩ (fR_t (fR_r h) (fR_t (fR_8 (k := 9) (by omega)) (fR_8 (k := 10) (by omega)))))) | (have e1 : atm T lv sub p = (false, p, []) := (by unfold atm; rw [if_neg (by omega), if_neg (fun z_ => by have := opd_t.mp z_; have n3 := sr_1 (k := tK T p); omega)]); have s0_ : sc = 0 := (by first | assumption | exact sc_0 s1 (fun z_ => by have y_ := hs1 z_; rw [e1] at y_; cases y_)); rw [e1] at kno; exact Ev.ret rfl (kno rfl s0_ _ ⟨(setI_ne (by decide)).trans (setI_self _ _ _ _), setI_self _ _ _ _⟩ (fR_t (fR_r h) (fR_t (fR_8 (k := 9) (by omega)) (fR_8 (k := 10) (by omega)))))) | (have e1 : atm T lv sub p = (false, (sub (p + 1)).2.1, []) := (by unfold atm; rw [if_pos (by omega), if_neg (by omega), bnd_f (by assumption)]); have s0_ : sc = 0 := (by first | assumption | exact sc_0 s1 (fun z_ => by have y_ := hs1 z_; rw [e1] at y_; cases y_)); rw [e1] at kno; exact Ev.ret rfl (kno rfl s0_ _ ⟨(setI_ne (by decide)).trans (setI_self _ _ _ _), setI_self _ _ _ _⟩ (fR_t (fR_r h) (fR_t (fR_8 (k := 9) (by omega)) (fR_8 (k := 10) (by omega)))))) | (have e1 : atm T lv sub p = (false, (sub (p + 1)).2.1, (sub (p + 1)).2.2 ++ []) := (by unfold atm; rw [if_pos (by omega), if_neg (by omega), bnd_t (by assumption), tkn_f (by assumption)]); have s0_ : sc = 0 := (by first | assumption | exact sc_0 s1 (fun z_ => by have y_ := hs1 z_; rw [e1] at y_; cases y_)); rw [e1] at kno; exact Ev.ret rfl (kno rfl s0_ _ ⟨(setI_ne (by decide)).trans (setI_self _ _ _ _), setI_self _ _ _ _⟩ (fR_t (fR_r h) (fR_t (fR_8 (k := 9) (by omega)) (fR_8 (k := 10) (by omega))))))
  · refine Ev.brT (p := (iZ (0)) = (iZ (0))) (c1 := (60, [some (.inr (.inr (.inr (11, 0, 83)))), some (.inl (iZ (x))), none], [], h)) (c2 := (9, [some (.inr (.inr (.inr (11, 0, 83)))), some (.inl (iZ (x))), none], [], h)) (by decide) rfl ?_
    refine Ev.sts 1 (c' := (61, [some (.inr (.inr (.inr (11, 0, 83)))), some (.inl (iZ (x))), none], [.inr (.inr (.inr (11, 0, 83)))], h)) rfl ?_
    refine Ev.gfr (r := (20, 402, 85)) rfl (sh_83_3 (h := h) (qm_sh q0)) ?_
    refine Ev.sts 1 (c' := (65, [some (.inr (.inr (.inr (11, 0, 83)))), some (.inl (iZ (x))), none], [.inr (.inr (.inr (11, 0, 83))), .inr (.inr (.inr (20, 402, 85)))], h)) rfl ?_
    refine Ev.gv (w := (iZ (p))) rfl (qm_7 q0) ?_
    refine Ev.ldv (j := (iZ (p))) (n := 402) (w := .inl (iZ (srK (tK T p)))) (iZ_in (by omega) (by omega) (by omega)) rfl (by rw [iZ_ix (n := p) (by omega) (by omega)]; exact congrArg vI (qm_tk q0 _ (qm_p q0)).1) ?_
    refine Ev.sts 1 (c' := (70, [some (.inr (.inr (.inr (11, 0, 83)))), some (.inl (iZ (x))), none], [.inl (iZ (1)), .inl (iZ (srK (tK T p)))], h)) rfl ?_
    refine Ev.brc (p := ¬ (iZ (srK (tK T p))) = (iZ (1))) (q := ¬ ((srK (tK T p) : Int)) = 1) (c1 := (104, [some (.inr (.inr (.inr (11, 0, 83)))), some (.inl (iZ (x))), none], [], h)) (c2 := (73, [some (.inr (.inr (.inr (11, 0, 83)))), some (.inl (iZ (x))), none], [], h)) rfl (not_congr (iZ_eq ⟨by omega, by omega⟩ ⟨by omega, by omega⟩)) (fun c0 => ?_) (fun c0 => ?_)
    · refine Ev.sts 4 (c' := (108, [some (.inr (.inr (.inr (11, 0, 83)))), some (.inl (iZ (x))), some (.inl (iZ (0)))], [.inr (.inr (.inr (11, 0, 83))), .inl (iZ (0))], h)) rfl ?_
      refine Ev.gfr (r := (21, 4, 88)) rfl (sh_83_6 (h := h) (qm_sh q0)) ?_
      refine Ev.sts 1 (c' := (112, [some (.inr (.inr (.inr (11, 0, 83)))), some (.inl (iZ (x))), some (.inl (iZ (0)))], [.inl (iZ (4)), .inl (iZ (0))], h)) rfl ?_
      refine Ev.brF (p := (iZ (4)) ≤ (iZ (0))) (c1 := (149, [some (.inr (.inr (.inr (11, 0, 83)))), some (.inl (iZ (x))), some (.inl (iZ (0)))], [], h)) (c2 := (115, [some (.inr (.inr (.inr (11, 0, 83)))), some (.inl (iZ (x))), some (.inl (iZ (0)))], [], h)) (by decide) rfl ?_
      refine Ev.sts 2 (c' := (117, [some (.inr (.inr (.inr (11, 0, 83)))), some (.inl (iZ (x))), some (.inl (iZ (0)))], [.inr (.inr (.inr (11, 0, 83))), .inr (.inr (.inr (11, 0, 83)))], h)) rfl ?_
      refine Ev.gfr (r := (21, 4, 88)) rfl (sh_83_6 (h := h) (qm_sh q0)) ?_
      refine Ev.sts 1 (c' := (121, [some (.inr (.inr (.inr (11, 0, 83)))), some (.inl (iZ (x))), some (.inl (iZ (0)))], [.inl (iZ (0)), .inr (.inr (.inr (21, 4, 88))), .inr (.inr (.inr (11, 0, 83)))], h)) rfl ?_
      refine Ev.ldv (j := (iZ (0))) (n := 4) (w := .inr (.inl ((278194 : Int64)))) (by decide) rfl (congrArg vL (qm_k q0).1) ?_
      refine Ev.callw (a := [.inr (.inr (.inr (11, 0, 83))), .inr (.inl ((278194 : Int64)))]) rfl (mf_ifWord (K := 11) q0 (by decide) (by decide) (fun ky6 h6 q6 f6 => ?_) (fun ky6 => ?_))
      · have z6 := qm_p q6
        refine Ev.brT (p := ¬ (iZ (1)) = (iZ (0))) (c1 := (131, [some (.inr (.inr (.inr (11, 0, 83)))), some (.inl (iZ (x))), some (.inl (iZ (0)))], [], h6)) (c2 := (128, [some (.inr (.inr (.inr (11, 0, 83)))), some (.inl (iZ (x))), some (.inl (iZ (0)))], [], h6)) (by decide) rfl ?_
        refine Ev.sts 2 (c' := (133, [some (.inr (.inr (.inr (11, 0, 83)))), some (.inl (iZ (x))), some (.inl (iZ (0)))], [.inl (iZ (1)), .inr (.inr (.inr (11, 0, 83)))], h6)) rfl ?_
        refine Ev.callw (a := [.inr (.inr (.inr (11, 0, 83))), .inl (iZ (1))]) rfl (mf_put q6 (by first | omega | (simp only [List.length_append, List.length_cons, List.length_nil, List.length_map]; omega)) (fun h7 q7 f7 => ?_))
        refine Ev.sts 2 (c' := (138, [some (.inr (.inr (.inr (11, 0, 83)))), some (.inl (iZ (x))), some (.inl (iZ (0)))], [.inl (iZ (0)), .inr (.inr (.inr (11, 0, 83)))], h7)) rfl ?_
        refine Ev.callw (a := [.inr (.inr (.inr (11, 0, 83))), .inl (iZ (0))]) rfl (mf_put q7 (by first | omega | (simp only [List.length_append, List.length_cons, List.length_nil, List.length_map]; omega)) (fun h8 q8 f8 => ?_))
        refine Ev.sts 1 (c' := (142, [some (.inr (.inr (.inr (11, 0, 83)))), some (.inl (iZ (x))), some (.inl (iZ (0)))], [.inl (iZ (1))], h8)) rfl ?_
        have e1 : atm T lv sub p = (true, p + 1, [(tK T p, tN T p)]) := (by unfold atm; rw [if_neg (by omega), if_pos (opd_t.mpr (by omega))])
        rw [e1] at kok
        have e2 : W ++ wds [(tK T p, tN T p)] = W ++ [1] ++ [0] := (by rw [wds_1, show tK T p = 11 by assumption, List.append_assoc]; rfl)
        dsimp only at kok
        rw [e2] at kok
        exact Ev.ret rfl (kok rfl _ q8 (fR_t (fR_t (fR_t (fR_r h) f6) f7) f8))
      · refine Ev.brF (p := ¬ (iZ (0)) = (iZ (0))) (c1 := (131, [some (.inr (.inr (.inr (11, 0, 83)))), some (.inl (iZ (x))), some (.inl (iZ (0)))], [], h)) (c2 := (128, [some (.inr (.inr (.inr (11, 0, 83)))), some (.inl (iZ (x))), some (.inl (iZ (0)))], [], h)) (by decide) rfl ?_
        refine Ev.sts 1 (c' := (143, [some (.inr (.inr (.inr (11, 0, 83)))), some (.inl (iZ (x))), some (.inl (iZ (0)))], [], h)) rfl ?_
        refine Ev.stc (c1 := (146, [some (.inr (.inr (.inr (11, 0, 83)))), some (.inl (iZ (x))), some (.inl ((iZ (0)) + (iZ (1))))], [], h)) (c2 := (146, [some (.inr (.inr (.inr (11, 0, 83)))), some (.inl (iZ (x))), some (.inl (iZ (1)))], [], h)) rfl (by rw [iZ_add]; rfl) ?_
        refine Ev.sts 3 (c' := (108, [some (.inr (.inr (.inr (11, 0, 83)))), some (.inl (iZ (x))), some (.inl (iZ (1)))], [.inr (.inr (.inr (11, 0, 83))), .inl (iZ (1))], h)) rfl ?_
        refine Ev.gfr (r := (21, 4, 88)) rfl (sh_83_6 (h := h) (qm_sh q0)) ?_
        refine Ev.sts 1 (c' := (112, [some (.inr (.inr (.inr (11, 0, 83)))), some (.inl (iZ (x))), some (.inl (iZ (1)))], [.inl (iZ (4)), .inl (iZ (1))], h)) rfl ?_
        refine Ev.brF (p := (iZ (4)) ≤ (iZ (1))) (c1 := (149, [some (.inr (.inr (.inr (11, 0, 83)))), some (.inl (iZ (x))), some (.inl (iZ (1)))], [], h)) (c2 := (115, [some (.inr (.inr (.inr (11, 0, 83)))), some (.inl (iZ (x))), some (.inl (iZ (1)))], [], h)) (by decide) rfl ?_
        refine Ev.sts 2 (c' := (117, [some (.inr (.inr (.inr (11, 0, 83)))), some (.inl (iZ (x))), some (.inl (iZ (1)))], [.inr (.inr (.inr (11, 0, 83))), .inr (.inr (.inr (11, 0, 83)))], h)) rfl ?_
        refine Ev.gfr (r := (21, 4, 88)) rfl (sh_83_6 (h := h) (qm_sh q0)) ?_
        refine Ev.sts 1 (c' := (121, [some (.inr (.inr (.inr (11, 0, 83)))), some (.inl (iZ (x))), some (.inl (iZ (1)))], [.inl (iZ (1)), .inr (.inr (.inr (21, 4, 88))), .inr (.inr (.inr (11, 0, 83)))], h)) rfl ?_
        refine Ev.ldv (j := (iZ (1))) (n := 4) (w := .inr (.inl ((370116 : Int64)))) (by decide) rfl (congrArg vL (qm_k q0).2.1) ?_
        refine Ev.callw (a := [.inr (.inr (.inr (11, 0, 83))), .inr (.inl ((370116 : Int64)))]) rfl (mf_ifWord (K := 12) q0 (by decide) (by decide) (fun ky9 h9 q9 f9 => ?_) (fun ky9 => ?_))
        · have z9 := qm_p q9
          refine Ev.brT (p := ¬ (iZ (1)) = (iZ (0))) (c1 := (131, [some (.inr (.inr (.inr (11, 0, 83)))), some (.inl (iZ (x))), some (.inl (iZ (1)))], [], h9)) (c2 := (128, [some (.inr (.inr (.inr (11, 0, 83)))), some (.inl (iZ (x))), some (.inl (iZ (1)))], [], h9)) (by decide) rfl ?_
          refine Ev.sts 2 (c' := (133, [some (.inr (.inr (.inr (11, 0, 83)))), some (.inl (iZ (x))), some (.inl (iZ (1)))], [.inl (iZ (1)), .inr (.inr (.inr (11, 0, 83)))], h9)) rfl ?_
          refine Ev.callw (a := [.inr (.inr (.inr (11, 0, 83))), .inl (iZ (1))]) rfl (mf_put q9 (by first | omega | (simp only [List.length_append, List.length_cons, List.length_nil, List.length_map]; omega)) (fun h10 q10 f10 => ?_))
          refine Ev.sts 2 (c' := (138, [some (.inr (.inr (.inr (11, 0, 83)))), some (.inl (iZ (x))), some (.inl (iZ (1)))], [.inl (iZ (1)), .inr (.inr (.inr (11, 0, 83)))], h10)) rfl ?_
          refine Ev.callw (a := [.inr (.inr (.inr (11, 0, 83))), .inl (iZ (1))]) rfl (mf_put q10 (by first | omega | (simp only [List.length_append, List.length_cons, List.length_nil, List.length_map]; omega)) (fun h11 q11 f11 => ?_))
          refine Ev.sts 1 (c' := (142, [some (.inr (.inr (.inr (11, 0, 83)))), some (.inl (iZ (x))), some (.inl (iZ (1)))], [.inl (iZ (1))], h11)) rfl ?_
          have e1 : atm T lv sub p = (true, p + 1, [(tK T p, tN T p)]) := (by unfold atm; rw [if_neg (by omega), if_pos (opd_t.mpr (by omega))])
          rw [e1] at kok
          have e2 : W ++ wds [(tK T p, tN T p)] = W ++ [1] ++ [1] := (by rw [wds_1, show tK T p = 12 by assumption, List.append_assoc]; rfl)
          dsimp only at kok
          rw [e2] at kok
          exact Ev.ret rfl (kok rfl _ q11 (fR_t (fR_t (fR_t (fR_r h) f9) f10) f11))
        · refine Ev.brF (p := ¬ (iZ (0)) = (iZ (0))) (c1 := (131, [some (.inr (.inr (.inr (11, 0, 83)))), some (.inl (iZ (x))), some (.inl (iZ (1)))], [], h)) (c2 := (128, [some (.inr (.inr (.inr (11, 0, 83)))), some (.inl (iZ (x))), some (.inl (iZ (1)))], [], h)) (by decide) rfl ?_
          refine Ev.sts 1 (c' := (143, [some (.inr (.inr (.inr (11, 0, 83)))), some (.inl (iZ (x))), some (.inl (iZ (1)))], [], h)) rfl ?_
          refine Ev.stc (c1 := (146, [some (.inr (.inr (.inr (11, 0, 83)))), some (.inl (iZ (x))), some (.inl ((iZ (1)) + (iZ (1))))], [], h)) (c2 := (146, [some (.inr (.inr (.inr (11, 0, 83)))), some (.inl (iZ (x))), some (.inl (iZ (2)))], [], h)) rfl (by rw [iZ_add]; rfl) ?_
          refine Ev.sts 3 (c' := (108, [some (.inr (.inr (.inr (11, 0, 83)))), some (.inl (iZ (x))), some (.inl (iZ (2)))], [.inr (.inr (.inr (11, 0, 83))), .inl (iZ (2))], h)) rfl ?_
          refine Ev.gfr (r := (21, 4, 88)) rfl (sh_83_6 (h := h) (qm_sh q0)) ?_
          refine Ev.sts 1 (c' := (112, [some (.inr (.inr (.inr (11, 0, 83)))), some (.inl (iZ (x))), some (.inl (iZ (2)))], [.inl (iZ (4)), .inl (iZ (2))], h)) rfl ?_
          refine Ev.brF (p := (iZ (4)) ≤ (iZ (2))) (c1 := (149, [some (.inr (.inr (.inr (11, 0, 83)))), some (.inl (iZ (x))), some (.inl (iZ (2)))], [], h)) (c2 := (115, [some (.inr (.inr (.inr (11, 0, 83)))), some (.inl (iZ (x))), some (.inl (iZ (2)))], [], h)) (by decide) rfl ?_
          refine Ev.sts 2 (c' := (117, [some (.inr (.inr (.inr (11, 0, 83)))), some (.inl (iZ (x))), some (.inl (iZ (2)))], [.inr (.inr (.inr (11, 0, 83))), .inr (.inr (.inr (11, 0, 83)))], h)) rfl ?_
          refine Ev.gfr (r := (21, 4, 88)) rfl (sh_83_6 (h := h) (qm_sh q0)) ?_
          refine Ev.sts 1 (c' := (121, [some (.inr (.inr (.inr (11, 0, 83)))), some (.inl (iZ (x))), some (.inl (iZ (2)))], [.inl (iZ (2)), .inr (.inr (.inr (21, 4, 88))), .inr (.inr (.inr (11, 0, 83)))], h)) rfl ?_
          refine Ev.ldv (j := (iZ (2))) (n := 4) (w := .inr (.inl ((777297172 : Int64)))) (by decide) rfl (congrArg vL (qm_k q0).2.2.1) ?_
          refine Ev.callw (a := [.inr (.inr (.inr (11, 0, 83))), .inr (.inl ((777297172 : Int64)))]) rfl (mf_ifWord (K := 13) q0 (by decide) (by decide) (fun ky12 h12 q12 f12 => ?_) (fun ky12 => ?_))
          · have z12 := qm_p q12
            refine Ev.brT (p := ¬ (iZ (1)) = (iZ (0))) (c1 := (131, [some (.inr (.inr (.inr (11, 0, 83)))), some (.inl (iZ (x))), some (.inl (iZ (2)))], [], h12)) (c2 := (128, [some (.inr (.inr (.inr (11, 0, 83)))), some (.inl (iZ (x))), some (.inl (iZ (2)))], [], h12)) (by decide) rfl ?_
            refine Ev.sts 2 (c' := (133, [some (.inr (.inr (.inr (11, 0, 83)))), some (.inl (iZ (x))), some (.inl (iZ (2)))], [.inl (iZ (1)), .inr (.inr (.inr (11, 0, 83)))], h12)) rfl ?_
            refine Ev.callw (a := [.inr (.inr (.inr (11, 0, 83))), .inl (iZ (1))]) rfl (mf_put q12 (by first | omega | (simp only [List.length_append, List.length_cons, List.length_nil, List.length_map]; omega)) (fun h13 q13 f13 => ?_))
            refine Ev.sts 2 (c' := (138, [some (.inr (.inr (.inr (11, 0, 83)))), some (.inl (iZ (x))), some (.inl (iZ (2)))], [.inl (iZ (2)), .inr (.inr (.inr (11, 0, 83)))], h13)) rfl ?_
            refine Ev.callw (a := [.inr (.inr (.inr (11, 0, 83))), .inl (iZ (2))]) rfl (mf_put q13 (by first | omega | (simp only [List.length_append, List.length_cons, List.length_nil, List.length_map]; omega)) (fun h14 q14 f14 => ?_))
            refine Ev.sts 1 (c' := (142, [some (.inr (.inr (.inr (11, 0, 83)))), some (.inl (iZ (x))), some (.inl (iZ (2)))], [.inl (iZ (1))], h14)) rfl ?_
            have e1 : atm T lv sub p = (true, p + 1, [(tK T p, tN T p)]) := (by unfold atm; rw [if_neg (by omega), if_pos (opd_t.mpr (by omega))])
            rw [e1] at kok
            have e2 : W ++ wds [(tK T p, tN T p)] = W ++ [1] ++ [2] := (by rw [wds_1, show tK T p = 13 by assumption, List.append_assoc]; rfl)
            dsimp only at kok
            rw [e2] at kok
            exact Ev.ret rfl (kok rfl _ q14 (fR_t (fR_t (fR_t (fR_r h) f12) f13) f14))
          · refine Ev.brF (p := ¬ (iZ (0)) = (iZ (0))) (c1 := (131, [some (.inr (.inr (.inr (11, 0, 83)))), some (.inl (iZ (x))), some (.inl (iZ (2)))], [], h)) (c2 := (128, [some (.inr (.inr (.inr (11, 0, 83)))), some (.inl (iZ (x))), some (.inl (iZ (2)))], [], h)) (by decide) rfl ?_
            refine Ev.sts 1 (c' := (143, [some (.inr (.inr (.inr (11, 0, 83)))), some (.inl (iZ (x))), some (.inl (iZ (2)))], [], h)) rfl ?_
            refine Ev.stc (c1 := (146, [some (.inr (.inr (.inr (11, 0, 83)))), some (.inl (iZ (x))), some (.inl ((iZ (2)) + (iZ (1))))], [], h)) (c2 := (146, [some (.inr (.inr (.inr (11, 0, 83)))), some (.inl (iZ (x))), some (.inl (iZ (3)))], [], h)) rfl (by rw [iZ_add]; rfl) ?_
            refine Ev.sts 3 (c' := (108, [some (.inr (.inr (.inr (11, 0, 83)))), some (.inl (iZ (x))), some (.inl (iZ (3)))], [.inr (.inr (.inr (11, 0, 83))), .inl (iZ (3))], h)) rfl ?_
            refine Ev.gfr (r := (21, 4, 88)) rfl (sh_83_6 (h := h) (qm_sh q0)) ?_
            refine Ev.sts 1 (c' := (112, [some (.inr (.inr (.inr (11, 0, 83)))), some (.inl (iZ (x))), some (.inl (iZ (3)))], [.inl (iZ (4)), .inl (iZ (3))], h)) rfl ?_
            refine Ev.brF (p := (iZ (4)) ≤ (iZ (3))) (c1 := (149, [some (.inr (.inr (.inr (11, 0, 83)))), some (.inl (iZ (x))), some (.inl (iZ (3)))], [], h)) (c2 := (115, [some (.inr (.inr (.inr (11, 0, 83)))), some (.inl (iZ (x))), some (.inl (iZ (3)))], [], h)) (by decide) rfl ?_
            refine Ev.sts 2 (c' := (117, [some (.inr (.inr (.inr (11, 0, 83)))), some (.inl (iZ (x))), some (.inl (iZ (3)))], [.inr (.inr (.inr (11, 0, 83))), .inr (.inr (.inr (11, 0, 83)))], h)) rfl ?_
            refine Ev.gfr (r := (21, 4, 88)) rfl (sh_83_6 (h := h) (qm_sh q0)) ?_
            refine Ev.sts 1 (c' := (121, [some (.inr (.inr (.inr (11, 0, 83)))), some (.inl (iZ (x))), some (.inl (iZ (3)))], [.inl (iZ (3)), .inr (.inr (.inr (21, 4, 88))), .inr (.inr (.inr (11, 0, 83)))], h)) rfl ?_
            refine Ev.ldv (j := (iZ (3))) (n := 4) (w := .inr (.inl ((763335 : Int64)))) (by decide) rfl (congrArg vL (qm_k q0).2.2.2) ?_
            refine Ev.callw (a := [.inr (.inr (.inr (11, 0, 83))), .inr (.inl ((763335 : Int64)))]) rfl (mf_ifWord (K := 14) q0 (by decide) (by decide) (fun ky15 h15 q15 f15 => ?_) (fun ky15 => ?_))
            · have z15 := qm_p q15
              refine Ev.brT (p := ¬ (iZ (1)) = (iZ (0))) (c1 := (131, [some (.inr (.inr (.inr (11, 0, 83)))), some (.inl (iZ (x))), some (.inl (iZ (3)))], [], h15)) (c2 := (128, [some (.inr (.inr (.inr (11, 0, 83)))), some (.inl (iZ (x))), some (.inl (iZ (3)))], [], h15)) (by decide) rfl ?_
              refine Ev.sts 2 (c' := (133, [some (.inr (.inr (.inr (11, 0, 83)))), some (.inl (iZ (x))), some (.inl (iZ (3)))], [.inl (iZ (1)), .inr (.inr (.inr (11, 0, 83)))], h15)) rfl ?_
              refine Ev.callw (a := [.inr (.inr (.inr (11, 0, 83))), .inl (iZ (1))]) rfl (mf_put q15 (by first | omega | (simp only [List.length_append, List.length_cons, List.length_nil, List.length_map]; omega)) (fun h16 q16 f16 => ?_))
              refine Ev.sts 2 (c' := (138, [some (.inr (.inr (.inr (11, 0, 83)))), some (.inl (iZ (x))), some (.inl (iZ (3)))], [.inl (iZ (3)), .inr (.inr (.inr (11, 0, 83)))], h16)) rfl ?_
              refine Ev.callw (a := [.inr (.inr (.inr (11, 0, 83))), .inl (iZ (3))]) rfl (mf_put q16 (by first | omega | (simp only [List.length_append, List.length_cons, List.length_nil, List.length_map]; omega)) (fun h17 q17 f17 => ?_))
              refine Ev.sts 1 (c' := (142, [some (.inr (.inr (.inr (11, 0, 83)))), some (.inl (iZ (x))), some (.inl (iZ (3)))], [.inl (iZ (1))], h17)) rfl ?_
              have e1 : atm T lv sub p = (true, p + 1, [(tK T p, tN T p)]) := (by unfold atm; rw [if_neg (by omega), if_pos (opd_t.mpr (by omega))])
              rw [e1] at kok
              have e2 : W ++ wds [(tK T p, tN T p)] = W ++ [1] ++ [3] := (by rw [wds_1, show tK T p = 14 by assumption, List.append_assoc]; rfl)
              dsimp only at kok
              rw [e2] at kok
              exact Ev.ret rfl (kok rfl _ q17 (fR_t (fR_t (fR_t (fR_r h) f15) f16) f17))
            · refine Ev.brF (p := ¬ (iZ (0)) = (iZ (0))) (c1 := (131, [some (.inr (.inr (.inr (11, 0, 83)))), some (.inl (iZ (x))), some (.inl (iZ (3)))], [], h)) (c2 := (128, [some (.inr (.inr (.inr (11, 0, 83)))), some (.inl (iZ (x))), some (.inl (iZ (3)))], [], h)) (by decide) rfl ?_
              refine Ev.sts 1 (c' := (143, [some (.inr (.inr (.inr (11, 0, 83)))), some (.inl (iZ (x))), some (.inl (iZ (3)))], [], h)) rfl ?_
              refine Ev.stc (c1 := (146, [some (.inr (.inr (.inr (11, 0, 83)))), some (.inl (iZ (x))), some (.inl ((iZ (3)) + (iZ (1))))], [], h)) (c2 := (146, [some (.inr (.inr (.inr (11, 0, 83)))), some (.inl (iZ (x))), some (.inl (iZ (4)))], [], h)) rfl (by rw [iZ_add]; rfl) ?_
              refine Ev.sts 3 (c' := (108, [some (.inr (.inr (.inr (11, 0, 83)))), some (.inl (iZ (x))), some (.inl (iZ (4)))], [.inr (.inr (.inr (11, 0, 83))), .inl (iZ (4))], h)) rfl ?_
              refine Ev.gfr (r := (21, 4, 88)) rfl (sh_83_6 (h := h) (qm_sh q0)) ?_
              refine Ev.sts 1 (c' := (112, [some (.inr (.inr (.inr (11, 0, 83)))), some (.inl (iZ (x))), some (.inl (iZ (4)))], [.inl (iZ (4)), .inl (iZ (4))], h)) rfl ?_
              refine Ev.brT (p := (iZ (4)) ≤ (iZ (4))) (c1 := (149, [some (.inr (.inr (.inr (11, 0, 83)))), some (.inl (iZ (x))), some (.inl (iZ (4)))], [], h)) (c2 := (115, [some (.inr (.inr (.inr (11, 0, 83)))), some (.inl (iZ (x))), some (.inl (iZ (4)))], [], h)) (by decide) rfl ?_
              refine Ev.sts 3 (c' := (152, [some (.inr (.inr (.inr (11, 0, 83)))), some (.inl (iZ (x))), some (.inl (iZ (4)))], [.inr (.inr (.inr (11, 0, 83))), .inl (iZ (1)), .inr (.inr (.inr (11, 0, 83)))], h)) rfl ?_
              refine Ev.gv (w := (iZ (p))) rfl (qm_7 q0) ?_
              refine Ev.callv (a := [.inr (.inr (.inr (11, 0, 83))), .inl (iZ (1)), .inl (iZ (p))]) rfl (mf_fault (yn := p) (qm_sh q0) (qm_tk q0) (by omega) (by have := qm_p q0; omega) l1) ?_
              first | (exfalso; omega) | (have e1 : atm T lv sub p = (false, p, []) := (by unfold atm; rw [if_pos (by omega), if_pos (by omega)]); have s0_ : sc = 0 := (by first | assumption | exact sc_0 s1 (fun z_ => by have y_ := hs1 z_; rw [e1] at y_; cases y_)); rw [e1] at kno; exact Ev.ret rfl (kno rfl s0_ _ ⟨(setI_ne (by decide)).trans (setI_self _ _ _ _), setI_self _ _ _ _⟩ (fR_t (fR_r h) (fR_t (fR_8 (k := 9) (by omega)) (fR_8 (k := 10) (by omega)))))) | (have e1 : atm T lv sub p = (false, p, []) := (by unfold atm; rw [if_neg (by omega), if_neg (fun z_ => by have := opd_t.mp z_; have n3 := sr_1 (k := tK T p); omega)]); have s0_ : sc = 0 := (by first | assumption | exact sc_0 s1 (fun z_ => by have y_ := hs1 z_; rw [e1] at y_; cases y_)); rw [e1] at kno; exact Ev.ret rfl (kno rfl s0_ _ ⟨(setI_ne (by decide)).trans (setI_self _ _ _ _), setI_self _ _ _ _⟩ (fR_t (fR_r h) (fR_t (fR_8 (k := 9) (by omega)) (fR_8 (k := 10) (by omega)))))) | (have e1 : atm T lv sub p = (false, (sub (p + 1)).2.1, []) := (by unfold atm; rw [if_pos (by omega), if_neg (by omega), bnd_f (by assumption)]); have s0_ : sc = 0 := (by first | assumption | exact sc_0 s1 (fun z_ => by have y_ := hs1 z_; rw [e1] at y_; cases y_)); rw [e1] at kno; exact Ev.ret rfl (kno rfl s0_ _ ⟨(setI_ne (by decide)).trans (setI_self _ _ _ _), setI_self _ _ _ _⟩ (fR_t (fR_r h) (fR_t (fR_8 (k := 9) (by omega)) (fR_8 (k := 10) (by omega)))))) | (have e1 : atm T lv sub p = (false, (sub (p + 1)).2.1, (sub (p + 1)).2.2 ++ []) := (by unfold atm; rw [if_pos (by omega), if_neg (by omega), bnd_t (by assumption), tkn_f (by assumption)]); have s0_ : sc = 0 := (by first | assumption | exact sc_0 s1 (fun z_ => by have y_ := hs1 z_; rw [e1] at y_; cases y_)); rw [e1] at kno; exact Ev.ret rfl (kno rfl s0_ _ ⟨(setI_ne (by decide)).trans (setI_self _ _ _ _), setI_self _ _ _ _⟩ (fR_t (fR_r h) (fR_t (fR_8 (k := 9) (by omega)) (fR_8 (k := 10) (by omega))))))
    · have k3 : tK T p = 3 := sr_1.mp (by omega)
      refine Ev.sts 2 (c' := (75, [some (.inr (.inr (.inr (11, 0, 83)))), some (.inl (iZ (x))), none], [.inl (iZ (0)), .inr (.inr (.inr (11, 0, 83)))], h)) rfl ?_
      refine Ev.callw (a := [.inr (.inr (.inr (11, 0, 83))), .inl (iZ (0))]) rfl (mf_put q0 (by first | omega | (simp only [List.length_append, List.length_cons, List.length_nil, List.length_map]; omega)) (fun h19 q19 f19 => ?_))
      refine Ev.sts 2 (c' := (80, [some (.inr (.inr (.inr (11, 0, 83)))), some (.inl (iZ (x))), none], [.inr (.inr (.inr (11, 0, 83))), .inr (.inr (.inr (11, 0, 83)))], h19)) rfl ?_
      refine Ev.gfr (r := (21, 402, 86)) rfl (sh_83_4 (h := h19) (qm_sh q19)) ?_
      refine Ev.sts 1 (c' := (84, [some (.inr (.inr (.inr (11, 0, 83)))), some (.inl (iZ (x))), none], [.inr (.inr (.inr (11, 0, 83))), .inr (.inr (.inr (21, 402, 86))), .inr (.inr (.inr (11, 0, 83)))], h19)) rfl ?_
      refine Ev.gv (w := (iZ (p))) rfl (qm_7 q19) ?_
      refine Ev.ldv (j := (iZ (p))) (n := 402) (w := .inr (.inl ((lz (whK (T.getD p tk0)))))) (iZ_in (by omega) (by omega) (by omega)) rfl (by rw [iZ_ix (n := p) (by omega) (by omega)]; exact congrArg vL ((qm_tk q19 _ (qm_p q19)).2.2 (show ¬ tK T p = 1 by omega))) ?_
      refine Ev.sts 1 (c' := (89, [some (.inr (.inr (.inr (11, 0, 83)))), some (.inl (iZ (x))), none], [.inl (((lz (whK (T.getD p tk0)))).toInt32), .inr (.inr (.inr (11, 0, 83)))], h19)) rfl ?_
      rw [show (lz (whK (T.getD p tk0))).toInt32 = iZ (tN T p) from by rw [lz_32, wh_n (show (T.getD p tk0).1 = 3 by assumption)]; rfl]
      refine Ev.callw (a := [.inr (.inr (.inr (11, 0, 83))), .inl (iZ (tN T p))]) rfl (mf_put q19 (by first | omega | (simp only [List.length_append, List.length_cons, List.length_nil, List.length_map]; omega)) (fun h20 q20 f20 => ?_))
      refine Ev.sts 2 (c' := (94, [some (.inr (.inr (.inr (11, 0, 83)))), some (.inl (iZ (x))), none], [.inr (.inr (.inr (11, 0, 83))), .inr (.inr (.inr (11, 0, 83)))], h20)) rfl ?_
      refine Ev.gv (w := (iZ (p))) rfl (qm_7 q20) ?_
      refine Ev.sts 1 (c' := (98, [some (.inr (.inr (.inr (11, 0, 83)))), some (.inl (iZ (x))), none], [.inl (iZ (1)), .inl (iZ (p)), .inr (.inr (.inr (11, 0, 83)))], h20)) rfl ?_
      refine Ev.gv (w := (iZ (p + 1))) rfl (iZ_add _ _) ?_
      refine Ev.sts 1 (c' := (102, [some (.inr (.inr (.inr (11, 0, 83)))), some (.inl (iZ (x))), none], [], (setI h20 83 7 ((iZ (p + 1)))))) rfl ?_
      have q21 : QM (setI h20 83 7 ((iZ (p + 1)))) T sc (p + 1) N _ := QM_at q20 (show 2 ≤ tK T p by omega)
      have f21 : fR h20 (setI h20 83 7 ((iZ (p + 1)))) := fR_8 (.inl rfl)
      have z21 := qm_p q21
      generalize (setI h20 83 7 ((iZ (p + 1)))) = h21 at q21 f21 ⊢
      refine Ev.sts 1 (c' := (103, [some (.inr (.inr (.inr (11, 0, 83)))), some (.inl (iZ (x))), none], [.inl (iZ (1))], h21)) rfl ?_
      have e1 : atm T lv sub p = (true, p + 1, [(tK T p, tN T p)]) := (by unfold atm; rw [if_neg (by omega), if_pos (opd_t.mpr (by omega))])
      rw [e1] at kok
      have e2 : W ++ wds [(tK T p, tN T p)] = W ++ [0] ++ [tN T p] := (by rw [wds_1, show tK T p = 3 by assumption, List.append_assoc]; rfl)
      dsimp only at kok
      rw [e2] at kok
      exact Ev.ret rfl (kok rfl _ q21 (fR_t (fR_t (fR_t (fR_r h) f19) f20) f21))

theorem mr_pr_lp {D d sc : Nat} {x : Int} {T : List Tok} {N : List (Int × Int)} {item : Nat → Rz} (hi : VMK D 204 x T sc N item) (gs : gdS T (okVl) item) (hD : D ≤ d) (n : Nat) : ∀ (h : PH) (p : Nat) (W : List Int) (Q : Rs → PH → Prop), 400 ≤ p + n → QM h T sc p N W → W.length ≤ 2 * p → (sc = 1 → (lpS T spM item n p).1 = true) → ((lpS T spM item n p).1 = true → ∀ h1, QM h1 T sc (lpS T spM item n p).2.1 N (W ++ wds (lpS T spM item n p).2.2) → fR h h1 → Q (.inl (some (.inl (iZ 1)))) h1) → ((lpS T spM item n p).1 = false → sc = 0 → ∀ h1, erM h1 T 1 (lpS T spM item n p).2.1 → fR h h1 → Q (.inl (some (.inl (iZ 0)))) h1) → Ev (d + 2) 203 (10, [some (.inr (.inr (.inr (11, 0, 83)))), some (.inl (iZ (x)))], [], h) Q := by
  induction n with
  | zero =>
    intro h p W Q hn q0 hp hs1 kok kno
    have sh := qm_sh q0
    have w0 := qm_w q0
    have p0 := qm_p q0
    have t0 := qm_tk q0
    have l1 := w0.2.1
    have s1 := qm_s q0
    have tb0 := tBk w0 p
    have sb0 := sr_b (tK T p)
    have kz := tK_400 w0 (show 400 ≤ p by omega)
    refine Ev.sts 2 (c' := (13, [some (.inr (.inr (.inr (11, 0, 83)))), some (.inl (iZ (x)))], [.inl (iZ (42)), .inr (.inr (.inr (11, 0, 83)))], h)) rfl ?_
    refine Ev.callw (a := [.inr (.inr (.inr (11, 0, 83))), .inl (iZ (42))]) rfl (mf_ifSign (K := 37) q0 (by decide) (by decide) (fun ky1 h1 q1 f1 => ?_) (fun ky1 => ?_))
    · have z1 := qm_p q1
      refine Ev.brF (p := (iZ (1)) = (iZ (0))) (c1 := (37, [some (.inr (.inr (.inr (11, 0, 83)))), some (.inl (iZ (x)))], [], h1)) (c2 := (19, [some (.inr (.inr (.inr (11, 0, 83)))), some (.inl (iZ (x)))], [], h1)) (by decide) rfl ?_
      exfalso; omega
    · refine Ev.brT (p := (iZ (0)) = (iZ (0))) (c1 := (37, [some (.inr (.inr (.inr (11, 0, 83)))), some (.inl (iZ (x)))], [], h)) (c2 := (19, [some (.inr (.inr (.inr (11, 0, 83)))), some (.inl (iZ (x)))], [], h)) (by decide) rfl ?_
      refine Ev.sts 1 (c' := (38, [some (.inr (.inr (.inr (11, 0, 83)))), some (.inl (iZ (x)))], [.inl (iZ (1))], h)) rfl ?_
      first | (exfalso; omega) | (have e1 : lpS T spM item 0 p = (true, p, []) := (by exact lp_0); rw [e1] at kok; exact Ev.ret rfl (kok rfl _ (by dsimp only; rw [wds_n, List.append_nil]; exact q0) (fR_r h)))
  | succ n ih =>
    intro h p W Q hn q0 hp hs1 kok kno
    have sh := qm_sh q0
    have w0 := qm_w q0
    have p0 := qm_p q0
    have t0 := qm_tk q0
    have l1 := w0.2.1
    have s1 := qm_s q0
    have tb0 := tBk w0 p
    have sb0 := sr_b (tK T p)
    refine Ev.sts 2 (c' := (13, [some (.inr (.inr (.inr (11, 0, 83)))), some (.inl (iZ (x)))], [.inl (iZ (42)), .inr (.inr (.inr (11, 0, 83)))], h)) rfl ?_
    refine Ev.callw (a := [.inr (.inr (.inr (11, 0, 83))), .inl (iZ (42))]) rfl (mf_ifSign (K := 37) q0 (by decide) (by decide) (fun ky1 h1 q1 f1 => ?_) (fun ky1 => ?_))
    · have z1 := qm_p q1
      refine Ev.brF (p := (iZ (1)) = (iZ (0))) (c1 := (37, [some (.inr (.inr (.inr (11, 0, 83)))), some (.inl (iZ (x)))], [], h1)) (c2 := (19, [some (.inr (.inr (.inr (11, 0, 83)))), some (.inl (iZ (x)))], [], h1)) (by decide) rfl ?_
      refine Ev.sts 2 (c' := (21, [some (.inr (.inr (.inr (11, 0, 83)))), some (.inl (iZ (x)))], [.inl (iZ (x)), .inr (.inr (.inr (11, 0, 83)))], h1)) rfl ?_
      refine Ev.callw (a := [.inr (.inr (.inr (11, 0, 83))), .inl (iZ (x))]) rfl (hi _ (by omega) _ _ _ _ q1 (by first | omega | (simp only [List.length_append, List.length_cons, List.length_nil, List.length_map]; omega)) (fun z_ => by have y_ := hs1 z_; rw [lp_t (by rw [spM_t]; omega)] at y_; exact (bnd_ok y_).1) (fun r2 h2 q2 f2 => ?_) (fun r2 s2_ g2 a2 f2 => ?_))
      · obtain ⟨x2, y2, -⟩ := gs _ r2
        have z2 := qm_p q2
        have w2 := wds_len (item (p + 1)).2.2
        refine Ev.brT (p := ¬ (iZ (1)) = (iZ (0))) (c1 := (29, [some (.inr (.inr (.inr (11, 0, 83)))), some (.inl (iZ (x)))], [], h2)) (c2 := (27, [some (.inr (.inr (.inr (11, 0, 83)))), some (.inl (iZ (x)))], [], h2)) (by decide) rfl ?_
        refine Ev.sts 2 (c' := (31, [some (.inr (.inr (.inr (11, 0, 83)))), some (.inl (iZ (x)))], [.inl (iZ (4)), .inr (.inr (.inr (11, 0, 83)))], h2)) rfl ?_
        refine Ev.callw (a := [.inr (.inr (.inr (11, 0, 83))), .inl (iZ (4))]) rfl (mf_put q2 (by first | omega | (simp only [List.length_append, List.length_cons, List.length_nil, List.length_map]; omega)) (fun h3 q3 f3 => ?_))
        refine Ev.sts 1 (c' := (10, [some (.inr (.inr (.inr (11, 0, 83)))), some (.inl (iZ (x)))], [], h3)) rfl ?_
        refine ih _ _ _ _ (by omega) q3 (by first | omega | (simp only [List.length_append, List.length_cons, List.length_nil, List.length_map]; omega)) (fun z_ => by have y_ := hs1 z_; rw [lp_t (by rw [spM_t]; omega)] at y_; exact (bnd_ok y_).2.1) (fun rr hz qz fz => ?_) (fun rr s0_ hz az fz => ?_)
        · have e1 : lpS T spM item (n + 1) p = (true, (lpS T spM item n (item (p + 1)).2.1).2.1, (item (p + 1)).2.2 ++ (tK T p, 0) :: (lpS T spM item n (item (p + 1)).2.1).2.2) := by rw [lp_t (by rw [spM_t]; omega), bnd_t (by assumption)]; dsimp only; rw [rr]
          rw [e1] at kok
          refine kok rfl hz ?_ (fR_t (fR_t (fR_t (fR_t (fR_r h) f1) f2) f3) fz)
          dsimp only
          rw [wds_app, wds_cons, ← List.append_assoc, ← List.append_assoc, show tK T p = 37 by first | assumption | omega]
          exact qz
        · have e1 : lpS T spM item (n + 1) p = (false, (lpS T spM item n (item (p + 1)).2.1).2.1, (item (p + 1)).2.2 ++ (tK T p, 0) :: (lpS T spM item n (item (p + 1)).2.1).2.2) := by rw [lp_t (by rw [spM_t]; omega), bnd_t (by assumption)]; dsimp only; rw [rr]
          rw [e1] at kno
          exact kno rfl s0_ hz az (fR_t (fR_t (fR_t (fR_t (fR_r h) f1) f2) f3) fz)
      · refine Ev.brF (p := ¬ (iZ (0)) = (iZ (0))) (c1 := (29, [some (.inr (.inr (.inr (11, 0, 83)))), some (.inl (iZ (x)))], [], g2)) (c2 := (27, [some (.inr (.inr (.inr (11, 0, 83)))), some (.inl (iZ (x)))], [], g2)) (by decide) rfl ?_
        refine Ev.sts 1 (c' := (28, [some (.inr (.inr (.inr (11, 0, 83)))), some (.inl (iZ (x)))], [.inl (iZ (0))], g2)) rfl ?_
        first | (exfalso; omega) | (have e1 : lpS T spM item (n + 1) p = (false, (item (p + 1)).2.1, []) := (by rw [lp_t (by rw [spM_t]; omega), bnd_f (by assumption)]); have s0_ : sc = 0 := (by first | assumption | exact sc_0 s1 (fun z_ => by have y_ := hs1 z_; rw [e1] at y_; cases y_)); rw [e1] at kno; exact Ev.ret rfl (kno rfl s0_ _ a2 (fR_t (fR_t (fR_r h) f1) f2)))
    · refine Ev.brT (p := (iZ (0)) = (iZ (0))) (c1 := (37, [some (.inr (.inr (.inr (11, 0, 83)))), some (.inl (iZ (x)))], [], h)) (c2 := (19, [some (.inr (.inr (.inr (11, 0, 83)))), some (.inl (iZ (x)))], [], h)) (by decide) rfl ?_
      refine Ev.sts 1 (c' := (38, [some (.inr (.inr (.inr (11, 0, 83)))), some (.inl (iZ (x)))], [.inl (iZ (1))], h)) rfl ?_
      first | (exfalso; omega) | (have e1 : lpS T spM item (n + 1) p = (true, p, []) := (by exact lp_f (by rw [spM_t]; omega)); rw [e1] at kok; exact Ev.ret rfl (kok rfl _ (by dsimp only; rw [wds_n, List.append_nil]; exact q0) (fR_r h)))

theorem mr_pr {D sc : Nat} {x : Int} {T : List Tok} {N : List (Int × Int)} {item : Nat → Rz} (hi : VMK D 204 x T sc N item) (gs : gdS T (okVl) item) : VMK (D + 2) 203 x T sc N (sqS T spM item) := by
  intro k hk h p W Q q0 hp hs1 kok kno
  have sh := qm_sh q0
  have w0 := qm_w q0
  have p0 := qm_p q0
  have t0 := qm_tk q0
  have l1 := w0.2.1
  have s1 := qm_s q0
  have tb0 := tBk w0 p
  have sb0 := sr_b (tK T p)
  obtain ⟨d, rfl⟩ : ∃ d, k = d + 2 := ⟨k - 2, by omega⟩
  refine Ev.sts 2 (c' := (2, [some (.inr (.inr (.inr (11, 0, 83)))), some (.inl (iZ (x)))], [.inl (iZ (x)), .inr (.inr (.inr (11, 0, 83)))], h)) rfl ?_
  refine Ev.callw (a := [.inr (.inr (.inr (11, 0, 83))), .inl (iZ (x))]) rfl (hi _ (by omega) _ _ _ _ q0 (by first | omega | (simp only [List.length_append, List.length_cons, List.length_nil, List.length_map]; omega)) (fun z_ => by have y_ := hs1 z_; unfold sqS at y_; exact (bnd_ok y_).1) (fun r1 h1 q1 f1 => ?_) (fun r1 s1_ g1 a1 f1 => ?_))
  · obtain ⟨x1, y1, -⟩ := gs _ r1
    have z1 := qm_p q1
    have w1 := wds_len (item p).2.2
    refine Ev.brT (p := ¬ (iZ (1)) = (iZ (0))) (c1 := (10, [some (.inr (.inr (.inr (11, 0, 83)))), some (.inl (iZ (x)))], [], h1)) (c2 := (8, [some (.inr (.inr (.inr (11, 0, 83)))), some (.inl (iZ (x)))], [], h1)) (by decide) rfl ?_
    refine mr_pr_lp hi gs (by omega) 400 _ _ _ _ (by omega) q1 (by first | omega | (simp only [List.length_append, List.length_cons, List.length_nil, List.length_map]; omega)) (fun z_ => by have y_ := hs1 z_; unfold sqS at y_; exact (bnd_ok y_).2.1) (fun rr hz qz fz => ?_) (fun rr s0_ hz az fz => ?_)
    · have e1 : sqS T spM item p = (true, (lpS T spM item 400 (item p).2.1).2.1, (item p).2.2 ++ (lpS T spM item 400 (item p).2.1).2.2) := by unfold sqS; rw [bnd_t (by assumption), rr]
      rw [e1] at kok
      refine kok rfl hz ?_ (fR_t (fR_t (fR_r h) f1) fz)
      dsimp only
      rw [wds_app, ← List.append_assoc]; exact qz
    · have e1 : sqS T spM item p = (false, (lpS T spM item 400 (item p).2.1).2.1, (item p).2.2 ++ (lpS T spM item 400 (item p).2.1).2.2) := by unfold sqS; rw [bnd_t (by assumption), rr]
      rw [e1] at kno
      exact kno rfl s0_ hz az (fR_t (fR_t (fR_r h) f1) fz)
  · refine Ev.brF (p := ¬ (iZ (0)) = (iZ (0))) (c1 := (10, [some (.inr (.inr (.inr (11, 0, 83)))), some (.inl (iZ (x)))], [], g1)) (c2 := (8, [some (.inr (.inr (.inr (11, 0, 83)))), some (.inl (iZ (x)))], [], g1)) (by decide) rfl ?_
    refine Ev.sts 1 (c' := (9, [some (.inr (.inr (.inr (11, 0, 83)))), some (.inl (iZ (x)))], [.inl (iZ (0))], g1)) rfl ?_
    first | (exfalso; omega) | (have e1 : sqS T spM item p = (false, (item p).2.1, []) := (by unfold sqS; rw [bnd_f (by assumption)]); have s0_ : sc = 0 := (by first | assumption | exact sc_0 s1 (fun z_ => by have y_ := hs1 z_; rw [e1] at y_; cases y_)); rw [e1] at kno; exact Ev.ret rfl (kno rfl s0_ _ a1 (fR_t (fR_r h) f1)))

theorem mr_vl_lp {D d sc : Nat} {x : Int} {T : List Tok} {N : List (Int × Int)} {item : Nat → Rz} (hi : VMK D 203 x T sc N item) (gs : gdS T (okVl) item) (hD : D ≤ d) (n : Nat) : ∀ (h : PH) (p : Nat) (W : List Int) (Q : Rs → PH → Prop) (j2 : Option VV), 400 ≤ p + n → QM h T sc p N W → W.length ≤ 2 * p → (sc = 1 → (lpS T spP item n p).1 = true) → ((lpS T spP item n p).1 = true → ∀ h1, QM h1 T sc (lpS T spP item n p).2.1 N (W ++ wds (lpS T spP item n p).2.2) → fR h h1 → Q (.inl (some (.inl (iZ 1)))) h1) → ((lpS T spP item n p).1 = false → sc = 0 → ∀ h1, erM h1 T 1 (lpS T spP item n p).2.1 → fR h h1 → Q (.inl (some (.inl (iZ 0)))) h1) → Ev (d + 1) 202 (10, [some (.inr (.inr (.inr (11, 0, 83)))), some (.inl (iZ (x))), j2], [], h) Q := by
  induction n with
  | zero =>
    intro h p W Q j2 hn q0 hp hs1 kok kno
    have sh := qm_sh q0
    have w0 := qm_w q0
    have p0 := qm_p q0
    have t0 := qm_tk q0
    have l1 := w0.2.1
    have s1 := qm_s q0
    have tb0 := tBk w0 p
    have sb0 := sr_b (tK T p)
    have kz := tK_400 w0 (show 400 ≤ p by omega)
    refine Ev.sts 2 (c' := (13, [some (.inr (.inr (.inr (11, 0, 83)))), some (.inl (iZ (x))), j2], [.inl (iZ (43)), .inr (.inr (.inr (11, 0, 83)))], h)) rfl ?_
    refine Ev.callw (a := [.inr (.inr (.inr (11, 0, 83))), .inl (iZ (43))]) rfl (mf_isSign (K := 35) q0 (by decide) (by decide) (fun ky1 => ?_) (fun ky1 => ?_))
    · refine Ev.brT (p := ¬ (iZ (1)) = (iZ (0))) (c1 := (28, [some (.inr (.inr (.inr (11, 0, 83)))), some (.inl (iZ (x))), j2], [], h)) (c2 := (19, [some (.inr (.inr (.inr (11, 0, 83)))), some (.inl (iZ (x))), j2], [], h)) (by decide) rfl ?_
      exfalso; omega
    · refine Ev.brF (p := ¬ (iZ (0)) = (iZ (0))) (c1 := (28, [some (.inr (.inr (.inr (11, 0, 83)))), some (.inl (iZ (x))), j2], [], h)) (c2 := (19, [some (.inr (.inr (.inr (11, 0, 83)))), some (.inl (iZ (x))), j2], [], h)) (by decide) rfl ?_
      refine Ev.sts 2 (c' := (22, [some (.inr (.inr (.inr (11, 0, 83)))), some (.inl (iZ (x))), j2], [.inl (iZ (45)), .inr (.inr (.inr (11, 0, 83)))], h)) rfl ?_
      refine Ev.callw (a := [.inr (.inr (.inr (11, 0, 83))), .inl (iZ (45))]) rfl (mf_isSign (K := 36) q0 (by decide) (by decide) (fun ky2 => ?_) (fun ky2 => ?_))
      · refine Ev.brF (p := (iZ (1)) = (iZ (0))) (c1 := (71, [some (.inr (.inr (.inr (11, 0, 83)))), some (.inl (iZ (x))), j2], [], h)) (c2 := (28, [some (.inr (.inr (.inr (11, 0, 83)))), some (.inl (iZ (x))), j2], [], h)) (by decide) rfl ?_
        exfalso; omega
      · refine Ev.brT (p := (iZ (0)) = (iZ (0))) (c1 := (71, [some (.inr (.inr (.inr (11, 0, 83)))), some (.inl (iZ (x))), j2], [], h)) (c2 := (28, [some (.inr (.inr (.inr (11, 0, 83)))), some (.inl (iZ (x))), j2], [], h)) (by decide) rfl ?_
        refine Ev.sts 1 (c' := (72, [some (.inr (.inr (.inr (11, 0, 83)))), some (.inl (iZ (x))), j2], [.inl (iZ (1))], h)) rfl ?_
        first | (exfalso; omega) | (have e1 : lpS T spP item 0 p = (true, p, []) := (by exact lp_0); rw [e1] at kok; exact Ev.ret rfl (kok rfl _ (by dsimp only; rw [wds_n, List.append_nil]; exact q0) (fR_r h)))
  | succ n ih =>
    intro h p W Q j2 hn q0 hp hs1 kok kno
    have sh := qm_sh q0
    have w0 := qm_w q0
    have p0 := qm_p q0
    have t0 := qm_tk q0
    have l1 := w0.2.1
    have s1 := qm_s q0
    have tb0 := tBk w0 p
    have sb0 := sr_b (tK T p)
    refine Ev.sts 2 (c' := (13, [some (.inr (.inr (.inr (11, 0, 83)))), some (.inl (iZ (x))), j2], [.inl (iZ (43)), .inr (.inr (.inr (11, 0, 83)))], h)) rfl ?_
    refine Ev.callw (a := [.inr (.inr (.inr (11, 0, 83))), .inl (iZ (43))]) rfl (mf_isSign (K := 35) q0 (by decide) (by decide) (fun ky1 => ?_) (fun ky1 => ?_))
    · refine Ev.brT (p := ¬ (iZ (1)) = (iZ (0))) (c1 := (28, [some (.inr (.inr (.inr (11, 0, 83)))), some (.inl (iZ (x))), j2], [], h)) (c2 := (19, [some (.inr (.inr (.inr (11, 0, 83)))), some (.inl (iZ (x))), j2], [], h)) (by decide) rfl ?_
      refine Ev.sts 2 (c' := (31, [some (.inr (.inr (.inr (11, 0, 83)))), some (.inl (iZ (x))), j2], [.inl (iZ (43)), .inr (.inr (.inr (11, 0, 83)))], h)) rfl ?_
      refine Ev.callw (a := [.inr (.inr (.inr (11, 0, 83))), .inl (iZ (43))]) rfl (mf_isSign (K := 35) q0 (by decide) (by decide) (fun ky2 => ?_) (fun ky2 => ?_))
      · refine Ev.brF (p := (iZ (1)) = (iZ (0))) (c1 := (41, [some (.inr (.inr (.inr (11, 0, 83)))), some (.inl (iZ (x))), j2], [], h)) (c2 := (37, [some (.inr (.inr (.inr (11, 0, 83)))), some (.inl (iZ (x))), j2], [], h)) (by decide) rfl ?_
        refine Ev.sts 5 (c' := (45, [some (.inr (.inr (.inr (11, 0, 83)))), some (.inl (iZ (x))), some (.inl (iZ (2)))], [.inr (.inr (.inr (11, 0, 83))), .inr (.inr (.inr (11, 0, 83)))], h)) rfl ?_
        refine Ev.gv (w := (iZ (p))) rfl (qm_7 q0) ?_
        refine Ev.sts 1 (c' := (49, [some (.inr (.inr (.inr (11, 0, 83)))), some (.inl (iZ (x))), some (.inl (iZ (2)))], [.inl (iZ (1)), .inl (iZ (p)), .inr (.inr (.inr (11, 0, 83)))], h)) rfl ?_
        refine Ev.gv (w := (iZ (p + 1))) rfl (iZ_add _ _) ?_
        refine Ev.sts 1 (c' := (53, [some (.inr (.inr (.inr (11, 0, 83)))), some (.inl (iZ (x))), some (.inl (iZ (2)))], [], (setI h 83 7 ((iZ (p + 1)))))) rfl ?_
        have q3 : QM (setI h 83 7 ((iZ (p + 1)))) T sc (p + 1) N _ := QM_at q0 (show 2 ≤ tK T p by omega)
        have f3 : fR h (setI h 83 7 ((iZ (p + 1)))) := fR_8 (.inl rfl)
        have z3 := qm_p q3
        generalize (setI h 83 7 ((iZ (p + 1)))) = h3 at q3 f3 ⊢
        refine Ev.sts 2 (c' := (55, [some (.inr (.inr (.inr (11, 0, 83)))), some (.inl (iZ (x))), some (.inl (iZ (2)))], [.inl (iZ (x)), .inr (.inr (.inr (11, 0, 83)))], h3)) rfl ?_
        refine Ev.callw (a := [.inr (.inr (.inr (11, 0, 83))), .inl (iZ (x))]) rfl (hi _ (by omega) _ _ _ _ q3 (by first | omega | (simp only [List.length_append, List.length_cons, List.length_nil, List.length_map]; omega)) (fun z_ => by have y_ := hs1 z_; rw [lp_t (by rw [spP_t]; omega)] at y_; exact (bnd_ok y_).1) (fun r4 h4 q4 f4 => ?_) (fun r4 s4_ g4 a4 f4 => ?_))
        · obtain ⟨x4, y4, -⟩ := gs _ r4
          have z4 := qm_p q4
          have w4 := wds_len (item (p + 1)).2.2
          refine Ev.brT (p := ¬ (iZ (1)) = (iZ (0))) (c1 := (63, [some (.inr (.inr (.inr (11, 0, 83)))), some (.inl (iZ (x))), some (.inl (iZ (2)))], [], h4)) (c2 := (61, [some (.inr (.inr (.inr (11, 0, 83)))), some (.inl (iZ (x))), some (.inl (iZ (2)))], [], h4)) (by decide) rfl ?_
          refine Ev.sts 2 (c' := (65, [some (.inr (.inr (.inr (11, 0, 83)))), some (.inl (iZ (x))), some (.inl (iZ (2)))], [.inl (iZ (2)), .inr (.inr (.inr (11, 0, 83)))], h4)) rfl ?_
          refine Ev.callw (a := [.inr (.inr (.inr (11, 0, 83))), .inl (iZ (2))]) rfl (mf_put q4 (by first | omega | (simp only [List.length_append, List.length_cons, List.length_nil, List.length_map]; omega)) (fun h5 q5 f5 => ?_))
          refine Ev.sts 1 (c' := (10, [some (.inr (.inr (.inr (11, 0, 83)))), some (.inl (iZ (x))), some (.inl (iZ (2)))], [], h5)) rfl ?_
          refine ih _ _ _ _ _ (by omega) q5 (by first | omega | (simp only [List.length_append, List.length_cons, List.length_nil, List.length_map]; omega)) (fun z_ => by have y_ := hs1 z_; rw [lp_t (by rw [spP_t]; omega)] at y_; exact (bnd_ok y_).2.1) (fun rr hz qz fz => ?_) (fun rr s0_ hz az fz => ?_)
          · have e1 : lpS T spP item (n + 1) p = (true, (lpS T spP item n (item (p + 1)).2.1).2.1, (item (p + 1)).2.2 ++ (tK T p, 0) :: (lpS T spP item n (item (p + 1)).2.1).2.2) := by rw [lp_t (by rw [spP_t]; omega), bnd_t (by assumption)]; dsimp only; rw [rr]
            rw [e1] at kok
            refine kok rfl hz ?_ (fR_t (fR_t (fR_t (fR_t (fR_r h) f3) f4) f5) fz)
            dsimp only
            rw [wds_app, wds_cons, ← List.append_assoc, ← List.append_assoc, show tK T p = 35 by first | assumption | omega]
            exact qz
          · have e1 : lpS T spP item (n + 1) p = (false, (lpS T spP item n (item (p + 1)).2.1).2.1, (item (p + 1)).2.2 ++ (tK T p, 0) :: (lpS T spP item n (item (p + 1)).2.1).2.2) := by rw [lp_t (by rw [spP_t]; omega), bnd_t (by assumption)]; dsimp only; rw [rr]
            rw [e1] at kno
            exact kno rfl s0_ hz az (fR_t (fR_t (fR_t (fR_t (fR_r h) f3) f4) f5) fz)
        · refine Ev.brF (p := ¬ (iZ (0)) = (iZ (0))) (c1 := (63, [some (.inr (.inr (.inr (11, 0, 83)))), some (.inl (iZ (x))), some (.inl (iZ (2)))], [], g4)) (c2 := (61, [some (.inr (.inr (.inr (11, 0, 83)))), some (.inl (iZ (x))), some (.inl (iZ (2)))], [], g4)) (by decide) rfl ?_
          refine Ev.sts 1 (c' := (62, [some (.inr (.inr (.inr (11, 0, 83)))), some (.inl (iZ (x))), some (.inl (iZ (2)))], [.inl (iZ (0))], g4)) rfl ?_
          first | (exfalso; omega) | (have e1 : lpS T spP item (n + 1) p = (false, (item (p + 1)).2.1, []) := (by rw [lp_t (by rw [spP_t]; omega), bnd_f (by assumption)]); have s0_ : sc = 0 := (by first | assumption | exact sc_0 s1 (fun z_ => by have y_ := hs1 z_; rw [e1] at y_; cases y_)); rw [e1] at kno; exact Ev.ret rfl (kno rfl s0_ _ a4 (fR_t (fR_t (fR_r h) f3) f4)))
      · refine Ev.brT (p := (iZ (0)) = (iZ (0))) (c1 := (41, [some (.inr (.inr (.inr (11, 0, 83)))), some (.inl (iZ (x))), j2], [], h)) (c2 := (37, [some (.inr (.inr (.inr (11, 0, 83)))), some (.inl (iZ (x))), j2], [], h)) (by decide) rfl ?_
        refine Ev.sts 4 (c' := (45, [some (.inr (.inr (.inr (11, 0, 83)))), some (.inl (iZ (x))), some (.inl (iZ (3)))], [.inr (.inr (.inr (11, 0, 83))), .inr (.inr (.inr (11, 0, 83)))], h)) rfl ?_
        refine Ev.gv (w := (iZ (p))) rfl (qm_7 q0) ?_
        refine Ev.sts 1 (c' := (49, [some (.inr (.inr (.inr (11, 0, 83)))), some (.inl (iZ (x))), some (.inl (iZ (3)))], [.inl (iZ (1)), .inl (iZ (p)), .inr (.inr (.inr (11, 0, 83)))], h)) rfl ?_
        refine Ev.gv (w := (iZ (p + 1))) rfl (iZ_add _ _) ?_
        refine Ev.sts 1 (c' := (53, [some (.inr (.inr (.inr (11, 0, 83)))), some (.inl (iZ (x))), some (.inl (iZ (3)))], [], (setI h 83 7 ((iZ (p + 1)))))) rfl ?_
        have q6 : QM (setI h 83 7 ((iZ (p + 1)))) T sc (p + 1) N _ := QM_at q0 (show 2 ≤ tK T p by omega)
        have f6 : fR h (setI h 83 7 ((iZ (p + 1)))) := fR_8 (.inl rfl)
        have z6 := qm_p q6
        generalize (setI h 83 7 ((iZ (p + 1)))) = h6 at q6 f6 ⊢
        refine Ev.sts 2 (c' := (55, [some (.inr (.inr (.inr (11, 0, 83)))), some (.inl (iZ (x))), some (.inl (iZ (3)))], [.inl (iZ (x)), .inr (.inr (.inr (11, 0, 83)))], h6)) rfl ?_
        refine Ev.callw (a := [.inr (.inr (.inr (11, 0, 83))), .inl (iZ (x))]) rfl (hi _ (by omega) _ _ _ _ q6 (by first | omega | (simp only [List.length_append, List.length_cons, List.length_nil, List.length_map]; omega)) (fun z_ => by have y_ := hs1 z_; rw [lp_t (by rw [spP_t]; omega)] at y_; exact (bnd_ok y_).1) (fun r7 h7 q7 f7 => ?_) (fun r7 s7_ g7 a7 f7 => ?_))
        · obtain ⟨x7, y7, -⟩ := gs _ r7
          have z7 := qm_p q7
          have w7 := wds_len (item (p + 1)).2.2
          refine Ev.brT (p := ¬ (iZ (1)) = (iZ (0))) (c1 := (63, [some (.inr (.inr (.inr (11, 0, 83)))), some (.inl (iZ (x))), some (.inl (iZ (3)))], [], h7)) (c2 := (61, [some (.inr (.inr (.inr (11, 0, 83)))), some (.inl (iZ (x))), some (.inl (iZ (3)))], [], h7)) (by decide) rfl ?_
          refine Ev.sts 2 (c' := (65, [some (.inr (.inr (.inr (11, 0, 83)))), some (.inl (iZ (x))), some (.inl (iZ (3)))], [.inl (iZ (3)), .inr (.inr (.inr (11, 0, 83)))], h7)) rfl ?_
          refine Ev.callw (a := [.inr (.inr (.inr (11, 0, 83))), .inl (iZ (3))]) rfl (mf_put q7 (by first | omega | (simp only [List.length_append, List.length_cons, List.length_nil, List.length_map]; omega)) (fun h8 q8 f8 => ?_))
          refine Ev.sts 1 (c' := (10, [some (.inr (.inr (.inr (11, 0, 83)))), some (.inl (iZ (x))), some (.inl (iZ (3)))], [], h8)) rfl ?_
          refine ih _ _ _ _ _ (by omega) q8 (by first | omega | (simp only [List.length_append, List.length_cons, List.length_nil, List.length_map]; omega)) (fun z_ => by have y_ := hs1 z_; rw [lp_t (by rw [spP_t]; omega)] at y_; exact (bnd_ok y_).2.1) (fun rr hz qz fz => ?_) (fun rr s0_ hz az fz => ?_)
          · have e1 : lpS T spP item (n + 1) p = (true, (lpS T spP item n (item (p + 1)).2.1).2.1, (item (p + 1)).2.2 ++ (tK T p, 0) :: (lpS T spP item n (item (p + 1)).2.1).2.2) := by rw [lp_t (by rw [spP_t]; omega), bnd_t (by assumption)]; dsimp only; rw [rr]
            rw [e1] at kok
            refine kok rfl hz ?_ (fR_t (fR_t (fR_t (fR_t (fR_r h) f6) f7) f8) fz)
            dsimp only
            rw [wds_app, wds_cons, ← List.append_assoc, ← List.append_assoc, show tK T p = 36 by first | assumption | omega]
            exact qz
          · have e1 : lpS T spP item (n + 1) p = (false, (lpS T spP item n (item (p + 1)).2.1).2.1, (item (p + 1)).2.2 ++ (tK T p, 0) :: (lpS T spP item n (item (p + 1)).2.1).2.2) := by rw [lp_t (by rw [spP_t]; omega), bnd_t (by assumption)]; dsimp only; rw [rr]
            rw [e1] at kno
            exact kno rfl s0_ hz az (fR_t (fR_t (fR_t (fR_t (fR_r h) f6) f7) f8) fz)
        · refine Ev.brF (p := ¬ (iZ (0)) = (iZ (0))) (c1 := (63, [some (.inr (.inr (.inr (11, 0, 83)))), some (.inl (iZ (x))), some (.inl (iZ (3)))], [], g7)) (c2 := (61, [some (.inr (.inr (.inr (11, 0, 83)))), some (.inl (iZ (x))), some (.inl (iZ (3)))], [], g7)) (by decide) rfl ?_
          refine Ev.sts 1 (c' := (62, [some (.inr (.inr (.inr (11, 0, 83)))), some (.inl (iZ (x))), some (.inl (iZ (3)))], [.inl (iZ (0))], g7)) rfl ?_
          first | (exfalso; omega) | (have e1 : lpS T spP item (n + 1) p = (false, (item (p + 1)).2.1, []) := (by rw [lp_t (by rw [spP_t]; omega), bnd_f (by assumption)]); have s0_ : sc = 0 := (by first | assumption | exact sc_0 s1 (fun z_ => by have y_ := hs1 z_; rw [e1] at y_; cases y_)); rw [e1] at kno; exact Ev.ret rfl (kno rfl s0_ _ a7 (fR_t (fR_t (fR_r h) f6) f7)))
    · refine Ev.brF (p := ¬ (iZ (0)) = (iZ (0))) (c1 := (28, [some (.inr (.inr (.inr (11, 0, 83)))), some (.inl (iZ (x))), j2], [], h)) (c2 := (19, [some (.inr (.inr (.inr (11, 0, 83)))), some (.inl (iZ (x))), j2], [], h)) (by decide) rfl ?_
      refine Ev.sts 2 (c' := (22, [some (.inr (.inr (.inr (11, 0, 83)))), some (.inl (iZ (x))), j2], [.inl (iZ (45)), .inr (.inr (.inr (11, 0, 83)))], h)) rfl ?_
      refine Ev.callw (a := [.inr (.inr (.inr (11, 0, 83))), .inl (iZ (45))]) rfl (mf_isSign (K := 36) q0 (by decide) (by decide) (fun ky9 => ?_) (fun ky9 => ?_))
      · refine Ev.brF (p := (iZ (1)) = (iZ (0))) (c1 := (71, [some (.inr (.inr (.inr (11, 0, 83)))), some (.inl (iZ (x))), j2], [], h)) (c2 := (28, [some (.inr (.inr (.inr (11, 0, 83)))), some (.inl (iZ (x))), j2], [], h)) (by decide) rfl ?_
        refine Ev.sts 2 (c' := (31, [some (.inr (.inr (.inr (11, 0, 83)))), some (.inl (iZ (x))), j2], [.inl (iZ (43)), .inr (.inr (.inr (11, 0, 83)))], h)) rfl ?_
        refine Ev.callw (a := [.inr (.inr (.inr (11, 0, 83))), .inl (iZ (43))]) rfl (mf_isSign (K := 35) q0 (by decide) (by decide) (fun ky10 => ?_) (fun ky10 => ?_))
        · refine Ev.brF (p := (iZ (1)) = (iZ (0))) (c1 := (41, [some (.inr (.inr (.inr (11, 0, 83)))), some (.inl (iZ (x))), j2], [], h)) (c2 := (37, [some (.inr (.inr (.inr (11, 0, 83)))), some (.inl (iZ (x))), j2], [], h)) (by decide) rfl ?_
          refine Ev.sts 5 (c' := (45, [some (.inr (.inr (.inr (11, 0, 83)))), some (.inl (iZ (x))), some (.inl (iZ (2)))], [.inr (.inr (.inr (11, 0, 83))), .inr (.inr (.inr (11, 0, 83)))], h)) rfl ?_
          refine Ev.gv (w := (iZ (p))) rfl (qm_7 q0) ?_
          refine Ev.sts 1 (c' := (49, [some (.inr (.inr (.inr (11, 0, 83)))), some (.inl (iZ (x))), some (.inl (iZ (2)))], [.inl (iZ (1)), .inl (iZ (p)), .inr (.inr (.inr (11, 0, 83)))], h)) rfl ?_
          refine Ev.gv (w := (iZ (p + 1))) rfl (iZ_add _ _) ?_
          refine Ev.sts 1 (c' := (53, [some (.inr (.inr (.inr (11, 0, 83)))), some (.inl (iZ (x))), some (.inl (iZ (2)))], [], (setI h 83 7 ((iZ (p + 1)))))) rfl ?_
          have q11 : QM (setI h 83 7 ((iZ (p + 1)))) T sc (p + 1) N _ := QM_at q0 (show 2 ≤ tK T p by omega)
          have f11 : fR h (setI h 83 7 ((iZ (p + 1)))) := fR_8 (.inl rfl)
          have z11 := qm_p q11
          generalize (setI h 83 7 ((iZ (p + 1)))) = h11 at q11 f11 ⊢
          refine Ev.sts 2 (c' := (55, [some (.inr (.inr (.inr (11, 0, 83)))), some (.inl (iZ (x))), some (.inl (iZ (2)))], [.inl (iZ (x)), .inr (.inr (.inr (11, 0, 83)))], h11)) rfl ?_
          refine Ev.callw (a := [.inr (.inr (.inr (11, 0, 83))), .inl (iZ (x))]) rfl (hi _ (by omega) _ _ _ _ q11 (by first | omega | (simp only [List.length_append, List.length_cons, List.length_nil, List.length_map]; omega)) (fun z_ => by have y_ := hs1 z_; rw [lp_t (by rw [spP_t]; omega)] at y_; exact (bnd_ok y_).1) (fun r12 h12 q12 f12 => ?_) (fun r12 s12_ g12 a12 f12 => ?_))
          · obtain ⟨x12, y12, -⟩ := gs _ r12
            have z12 := qm_p q12
            have w12 := wds_len (item (p + 1)).2.2
            refine Ev.brT (p := ¬ (iZ (1)) = (iZ (0))) (c1 := (63, [some (.inr (.inr (.inr (11, 0, 83)))), some (.inl (iZ (x))), some (.inl (iZ (2)))], [], h12)) (c2 := (61, [some (.inr (.inr (.inr (11, 0, 83)))), some (.inl (iZ (x))), some (.inl (iZ (2)))], [], h12)) (by decide) rfl ?_
            refine Ev.sts 2 (c' := (65, [some (.inr (.inr (.inr (11, 0, 83)))), some (.inl (iZ (x))), some (.inl (iZ (2)))], [.inl (iZ (2)), .inr (.inr (.inr (11, 0, 83)))], h12)) rfl ?_
            refine Ev.callw (a := [.inr (.inr (.inr (11, 0, 83))), .inl (iZ (2))]) rfl (mf_put q12 (by first | omega | (simp only [List.length_append, List.length_cons, List.length_nil, List.length_map]; omega)) (fun h13 q13 f13 => ?_))
            refine Ev.sts 1 (c' := (10, [some (.inr (.inr (.inr (11, 0, 83)))), some (.inl (iZ (x))), some (.inl (iZ (2)))], [], h13)) rfl ?_
            refine ih _ _ _ _ _ (by omega) q13 (by first | omega | (simp only [List.length_append, List.length_cons, List.length_nil, List.length_map]; omega)) (fun z_ => by have y_ := hs1 z_; rw [lp_t (by rw [spP_t]; omega)] at y_; exact (bnd_ok y_).2.1) (fun rr hz qz fz => ?_) (fun rr s0_ hz az fz => ?_)
            · have e1 : lpS T spP item (n + 1) p = (true, (lpS T spP item n (item (p + 1)).2.1).2.1, (item (p + 1)).2.2 ++ (tK T p, 0) :: (lpS T spP item n (item (p + 1)).2.1).2.2) := by rw [lp_t (by rw [spP_t]; omega), bnd_t (by assumption)]; dsimp only; rw [rr]
              rw [e1] at kok
              refine kok rfl hz ?_ (fR_t (fR_t (fR_t (fR_t (fR_r h) f11) f12) f13) fz)
              dsimp only
              rw [wds_app, wds_cons, ← List.append_assoc, ← List.append_assoc, show tK T p = 35 by first | assumption | omega]
              exact qz
            · have e1 : lpS T spP item (n + 1) p = (false, (lpS T spP item n (item (p + 1)).2.1).2.1, (item (p + 1)).2.2 ++ (tK T p, 0) :: (lpS T spP item n (item (p + 1)).2.1).2.2) := by rw [lp_t (by rw [spP_t]; omega), bnd_t (by assumption)]; dsimp only; rw [rr]
              rw [e1] at kno
              exact kno rfl s0_ hz az (fR_t (fR_t (fR_t (fR_t (fR_r h) f11) f12) f13) fz)
          · refine Ev.brF (p := ¬ (iZ (0)) = (iZ (0))) (c1 := (63, [some (.inr (.inr (.inr (11, 0, 83)))), some (.inl (iZ (x))), some (.inl (iZ (2)))], [], g12)) (c2 := (61, [some (.inr (.inr (.inr (11, 0, 83)))), some (.inl (iZ (x))), some (.inl (iZ (2)))], [], g12)) (by decide) rfl ?_
            refine Ev.sts 1 (c' := (62, [some (.inr (.inr (.inr (11, 0, 83)))), some (.inl (iZ (x))), some (.inl (iZ (2)))], [.inl (iZ (0))], g12)) rfl ?_
            first | (exfalso; omega) | (have e1 : lpS T spP item (n + 1) p = (false, (item (p + 1)).2.1, []) := (by rw [lp_t (by rw [spP_t]; omega), bnd_f (by assumption)]); have s0_ : sc = 0 := (by first | assumption | exact sc_0 s1 (fun z_ => by have y_ := hs1 z_; rw [e1] at y_; cases y_)); rw [e1] at kno; exact Ev.ret rfl (kno rfl s0_ _ a12 (fR_t (fR_t (fR_r h) f11) f12)))
        · refine Ev.brT (p := (iZ (0)) = (iZ (0))) (c1 := (41, [some (.inr (.inr (.inr (11, 0, 83)))), some (.inl (iZ (x))), j2], [], h)) (c2 := (37, [some (.inr (.inr (.inr (11, 0, 83)))), some (.inl (iZ (x))), j2], [], h)) (by decide) rfl ?_
          refine Ev.sts 4 (c' := (45, [some (.inr (.inr (.inr (11, 0, 83)))), some (.inl (iZ (x))), some (.inl (iZ (3)))], [.inr (.inr (.inr (11, 0, 83))), .inr (.inr (.inr (11, 0, 83)))], h)) rfl ?_
          refine Ev.gv (w := (iZ (p))) rfl (qm_7 q0) ?_
          refine Ev.sts 1 (c' := (49, [some (.inr (.inr (.inr (11, 0, 83)))), some (.inl (iZ (x))), some (.inl (iZ (3)))], [.inl (iZ (1)), .inl (iZ (p)), .inr (.inr (.inr (11, 0, 83)))], h)) rfl ?_
          refine Ev.gv (w := (iZ (p + 1))) rfl (iZ_add _ _) ?_
          refine Ev.sts 1 (c' := (53, [some (.inr (.inr (.inr (11, 0, 83)))), some (.inl (iZ (x))), some (.inl (iZ (3)))], [], (setI h 83 7 ((iZ (p + 1)))))) rfl ?_
          have q14 : QM (setI h 83 7 ((iZ (p + 1)))) T sc (p + 1) N _ := QM_at q0 (show 2 ≤ tK T p by omega)
          have f14 : fR h (setI h 83 7 ((iZ (p + 1)))) := fR_8 (.inl rfl)
          have z14 := qm_p q14
          generalize (setI h 83 7 ((iZ (p + 1)))) = h14 at q14 f14 ⊢
          refine Ev.sts 2 (c' := (55, [some (.inr (.inr (.inr (11, 0, 83)))), some (.inl (iZ (x))), some (.inl (iZ (3)))], [.inl (iZ (x)), .inr (.inr (.inr (11, 0, 83)))], h14)) rfl ?_
          refine Ev.callw (a := [.inr (.inr (.inr (11, 0, 83))), .inl (iZ (x))]) rfl (hi _ (by omega) _ _ _ _ q14 (by first | omega | (simp only [List.length_append, List.length_cons, List.length_nil, List.length_map]; omega)) (fun z_ => by have y_ := hs1 z_; rw [lp_t (by rw [spP_t]; omega)] at y_; exact (bnd_ok y_).1) (fun r15 h15 q15 f15 => ?_) (fun r15 s15_ g15 a15 f15 => ?_))
          · obtain ⟨x15, y15, -⟩ := gs _ r15
            have z15 := qm_p q15
            have w15 := wds_len (item (p + 1)).2.2
            refine Ev.brT (p := ¬ (iZ (1)) = (iZ (0))) (c1 := (63, [some (.inr (.inr (.inr (11, 0, 83)))), some (.inl (iZ (x))), some (.inl (iZ (3)))], [], h15)) (c2 := (61, [some (.inr (.inr (.inr (11, 0, 83)))), some (.inl (iZ (x))), some (.inl (iZ (3)))], [], h15)) (by decide) rfl ?_
            refine Ev.sts 2 (c' := (65, [some (.inr (.inr (.inr (11, 0, 83)))), some (.inl (iZ (x))), some (.inl (iZ (3)))], [.inl (iZ (3)), .inr (.inr (.inr (11, 0, 83)))], h15)) rfl ?_
            refine Ev.callw (a := [.inr (.inr (.inr (11, 0, 83))), .inl (iZ (3))]) rfl (mf_put q15 (by first | omega | (simp only [List.length_append, List.length_cons, List.length_nil, List.length_map]; omega)) (fun h16 q16 f16 => ?_))
            refine Ev.sts 1 (c' := (10, [some (.inr (.inr (.inr (11, 0, 83)))), some (.inl (iZ (x))), some (.inl (iZ (3)))], [], h16)) rfl ?_
            refine ih _ _ _ _ _ (by omega) q16 (by first | omega | (simp only [List.length_append, List.length_cons, List.length_nil, List.length_map]; omega)) (fun z_ => by have y_ := hs1 z_; rw [lp_t (by rw [spP_t]; omega)] at y_; exact (bnd_ok y_).2.1) (fun rr hz qz fz => ?_) (fun rr s0_ hz az fz => ?_)
            · have e1 : lpS T spP item (n + 1) p = (true, (lpS T spP item n (item (p + 1)).2.1).2.1, (item (p + 1)).2.2 ++ (tK T p, 0) :: (lpS T spP item n (item (p + 1)).2.1).2.2) := by rw [lp_t (by rw [spP_t]; omega), bnd_t (by assumption)]; dsimp only; rw [rr]
              rw [e1] at kok
              refine kok rfl hz ?_ (fR_t (fR_t (fR_t (fR_t (fR_r h) f14) f15) f16) fz)
              dsimp only
              rw [wds_app, wds_cons, ← List.append_assoc, ← List.append_assoc, show tK T p = 36 by first | assumption | omega]
              exact qz
            · have e1 : lpS T spP item (n + 1) p = (false, (lpS T spP item n (item (p + 1)).2.1).2.1, (item (p + 1)).2.2 ++ (tK T p, 0) :: (lpS T spP item n (item (p + 1)).2.1).2.2) := by rw [lp_t (by rw [spP_t]; omega), bnd_t (by assumption)]; dsimp only; rw [rr]
              rw [e1] at kno
              exact kno rfl s0_ hz az (fR_t (fR_t (fR_t (fR_t (fR_r h) f14) f15) f16) fz)
          · refine Ev.brF (p := ¬ (iZ (0)) = (iZ (0))) (c1 := (63, [some (.inr (.inr (.inr (11, 0, 83)))), some (.inl (iZ (x))), some (.inl (iZ (3)))], [], g15)) (c2 := (61, [some (.inr (.inr (.inr (11, 0, 83)))), some (.inl (iZ (x))), some (.inl (iZ (3)))], [], g15)) (by decide) rfl ?_
            refine Ev.sts 1 (c' := (62, [some (.inr (.inr (.inr (11, 0, 83)))), some (.inl (iZ (x))), some (.inl (iZ (3)))], [.inl (iZ (0))], g15)) rfl ?_
            first | (exfalso; omega) | (have e1 : lpS T spP item (n + 1) p = (false, (item (p + 1)).2.1, []) := (by rw [lp_t (by rw [spP_t]; omega), bnd_f (by assumption)]); have s0_ : sc = 0 := (by first | assumption | exact sc_0 s1 (fun z_ => by have y_ := hs1 z_; rw [e1] at y_; cases y_)); rw [e1] at kno; exact Ev.ret rfl (kno rfl s0_ _ a15 (fR_t (fR_t (fR_r h) f14) f15)))
      · refine Ev.brT (p := (iZ (0)) = (iZ (0))) (c1 := (71, [some (.inr (.inr (.inr (11, 0, 83)))), some (.inl (iZ (x))), j2], [], h)) (c2 := (28, [some (.inr (.inr (.inr (11, 0, 83)))), some (.inl (iZ (x))), j2], [], h)) (by decide) rfl ?_
        refine Ev.sts 1 (c' := (72, [some (.inr (.inr (.inr (11, 0, 83)))), some (.inl (iZ (x))), j2], [.inl (iZ (1))], h)) rfl ?_
        first | (exfalso; omega) | (have e1 : lpS T spP item (n + 1) p = (true, p, []) := (by exact lp_f (by rw [spP_t]; omega)); rw [e1] at kok; exact Ev.ret rfl (kok rfl _ (by dsimp only; rw [wds_n, List.append_nil]; exact q0) (fR_r h)))

theorem mr_vl {D sc : Nat} {x : Int} {T : List Tok} {N : List (Int × Int)} {item : Nat → Rz} (hi : VMK D 203 x T sc N item) (gs : gdS T (okVl) item) : VMK (D + 1) 202 x T sc N (sqS T spP item) := by
  intro k hk h p W Q q0 hp hs1 kok kno
  have sh := qm_sh q0
  have w0 := qm_w q0
  have p0 := qm_p q0
  have t0 := qm_tk q0
  have l1 := w0.2.1
  have s1 := qm_s q0
  have tb0 := tBk w0 p
  have sb0 := sr_b (tK T p)
  obtain ⟨d, rfl⟩ : ∃ d, k = d + 1 := ⟨k - 1, by omega⟩
  refine Ev.sts 2 (c' := (2, [some (.inr (.inr (.inr (11, 0, 83)))), some (.inl (iZ (x))), none], [.inl (iZ (x)), .inr (.inr (.inr (11, 0, 83)))], h)) rfl ?_
  refine Ev.callw (a := [.inr (.inr (.inr (11, 0, 83))), .inl (iZ (x))]) rfl (hi _ (by omega) _ _ _ _ q0 (by first | omega | (simp only [List.length_append, List.length_cons, List.length_nil, List.length_map]; omega)) (fun z_ => by have y_ := hs1 z_; unfold sqS at y_; exact (bnd_ok y_).1) (fun r1 h1 q1 f1 => ?_) (fun r1 s1_ g1 a1 f1 => ?_))
  · obtain ⟨x1, y1, -⟩ := gs _ r1
    have z1 := qm_p q1
    have w1 := wds_len (item p).2.2
    refine Ev.brT (p := ¬ (iZ (1)) = (iZ (0))) (c1 := (10, [some (.inr (.inr (.inr (11, 0, 83)))), some (.inl (iZ (x))), none], [], h1)) (c2 := (8, [some (.inr (.inr (.inr (11, 0, 83)))), some (.inl (iZ (x))), none], [], h1)) (by decide) rfl ?_
    refine mr_vl_lp hi gs (by omega) 400 _ _ _ _ _ (by omega) q1 (by first | omega | (simp only [List.length_append, List.length_cons, List.length_nil, List.length_map]; omega)) (fun z_ => by have y_ := hs1 z_; unfold sqS at y_; exact (bnd_ok y_).2.1) (fun rr hz qz fz => ?_) (fun rr s0_ hz az fz => ?_)
    · have e1 : sqS T spP item p = (true, (lpS T spP item 400 (item p).2.1).2.1, (item p).2.2 ++ (lpS T spP item 400 (item p).2.1).2.2) := by unfold sqS; rw [bnd_t (by assumption), rr]
      rw [e1] at kok
      refine kok rfl hz ?_ (fR_t (fR_t (fR_r h) f1) fz)
      dsimp only
      rw [wds_app, ← List.append_assoc]; exact qz
    · have e1 : sqS T spP item p = (false, (lpS T spP item 400 (item p).2.1).2.1, (item p).2.2 ++ (lpS T spP item 400 (item p).2.1).2.2) := by unfold sqS; rw [bnd_t (by assumption), rr]
      rw [e1] at kno
      exact kno rfl s0_ hz az (fR_t (fR_t (fR_r h) f1) fz)
  · refine Ev.brF (p := ¬ (iZ (0)) = (iZ (0))) (c1 := (10, [some (.inr (.inr (.inr (11, 0, 83)))), some (.inl (iZ (x))), none], [], g1)) (c2 := (8, [some (.inr (.inr (.inr (11, 0, 83)))), some (.inl (iZ (x))), none], [], g1)) (by decide) rfl ?_
    refine Ev.sts 1 (c' := (9, [some (.inr (.inr (.inr (11, 0, 83)))), some (.inl (iZ (x))), none], [.inl (iZ (0))], g1)) rfl ?_
    first | (exfalso; omega) | (have e1 : sqS T spP item p = (false, (item p).2.1, []) := (by unfold sqS; rw [bnd_f (by assumption)]); have s0_ : sc = 0 := (by first | assumption | exact sc_0 s1 (fun z_ => by have y_ := hs1 z_; rw [e1] at y_; cases y_)); rw [e1] at kno; exact Ev.ret rfl (kno rfl s0_ _ a1 (fR_t (fR_r h) f1)))

theorem mr_syV {sc : Nat} {T : List Tok} {N : List (Int × Int)} (w : tkW T) : ∀ n : Nat, n ≤ 6 → ∀ x : Int, x = 6 - (n : Int) → VMK (5 * n + 5) 202 x T sc N (syV T n) := by
  intro n
  induction n with
  | zero =>
    intro _ x hx
    exact VMK_up (mr_vl (mr_pr (mr_atom (D := 0) hx (by omega) (fun z => absurd z (Nat.lt_irrefl 0)) gd_nul) (gd_atm w gd_nul)) (gd_pr w gd_nul)) (by omega)
  | succ n ih =>
    intro hn x hx
    exact VMK_up (mr_vl (mr_pr (mr_atom (D := 5 * n + 5) hx hn (fun _ => ih (by omega) (x + 1) (by omega)) (gd_syV w n)) (gd_atm w (gd_syV w n))) (gd_pr w (gd_syV w n))) (by omega)
