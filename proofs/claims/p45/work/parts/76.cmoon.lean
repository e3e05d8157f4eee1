/-! The class reads lines, the moon. -/
def LCs (h : PH) (b : Nat) (T : List Tok) (p : Nat) (s : Sm) : Prop := LC h b T p (smE s) (smM s) (smF s) (smG s) (smP s) (smT s) (smX s)
theorem flkF_k {T : List Tok} {p : Nat} (h : (flkF T p).1 = true) : (flkF T p).2.2.1 = 0 ∧ (flkF T p).2.2.2.1 = p := by
  unfold flkF at h ⊢
  by_cases a : tK T p = 2
  · rw [if_pos a] at h ⊢
    by_cases b : tK T (p + 1) = 6
    · rw [if_pos b]; exact ⟨rfl, rfl⟩
    · rw [if_neg b] at h; cases h
  · rw [if_neg a] at h; cases h
theorem gooF_k {T : List Tok} (w : tkW T) {p : Nat} (h : (gooF T p).1 = true) : (gooF T p).2.2.1 = 1 ∧ (gooF T p).2.2.2.1 = p ∧ (gooF T p).2.2.2.2.1.length + p + 2 ≤ (gooF T p).2.1 := by
  unfold gooF at h ⊢
  by_cases a : tK T p = 2
  · rw [if_pos a] at h ⊢
    by_cases b : tK T (p + 1) = 16
    · rw [if_pos b] at h ⊢
      by_cases c : tK T (p + 2) = 2
      · rw [if_pos c] at h ⊢
        by_cases d : (winF T (p + 3)).1 = true
        · rw [if_pos d] at h ⊢
          by_cases e : tK T (winF T (p + 3)).2.1 = 20
          · rw [if_pos e] at h ⊢
            have g1 := winF_g d
            have g2 := (telF_g w h).1
            exact ⟨rfl, rfl, by show (telF T ((winF T (p + 3)).2.1 + 1)).2.2.2.length + p + 2 ≤ (telF T ((winF T (p + 3)).2.1 + 1)).2.1; omega⟩
          · rw [if_neg e] at h; cases h
        · rw [if_neg d] at h; cases h
      · rw [if_neg c] at h; cases h
    · rw [if_neg b] at h; cases h
  · rw [if_neg a] at h; cases h
theorem smL_0 {T : List Tok} {s : Sm} {l : Ln} (h : l.1 = 0) : smL T s l = smFl T s l.2.1 l.2.2.1 := if_pos h
theorem smL_1 {T : List Tok} {s : Sm} {l : Ln} (h : l.1 = 1) : smL T s l = smGo T s l.2.1 l.2.2.1 l.2.2.2.1 l.2.2.2.2.1 l.2.2.2.2.2.1 l.2.2.2.2.2.2.1 l.2.2.2.2.2.2.2 := if_neg (by rw [h]; decide)
theorem LC_mo {h : PH} {b p : Nat} {x : Int} {T : List Tok} {e : Nat × Nat} {M F G : List Int} {P : List Cmd} {TS : List (Nat × Nat)} {X : List Gc} (l : LC h b T p e M F G P TS X) (hM : M.length < 8) : LC (setI (setI h (b + 1) M.length (iZ x)) b 5 (iZ ((M.length : Int) + 1))) b T p e (M ++ [x]) F G P TS X := by
  obtain ⟨q, ⟨m1, m2, m3⟩, ⟨t1, t2⟩, ⟨x1, x2⟩⟩ := l
  obtain ⟨q1, q2, q3, q4, q5, q6, q7, ⟨q8, q8a, q8b⟩, ⟨n1, n2, n3, n4, n5, n6⟩, ⟨r1, r2, r3⟩⟩ := q
  have cI : ∀ a k, a ≠ b + 1 → ¬ (a = b ∧ k = 5) → (setI (setI h (b + 1) M.length (iZ x)) b 5 (iZ ((M.length : Int) + 1))).1 a k = h.1 a k := fun a k a1 a3 => (setI_ne a3).trans (setI_ne (by omega))
  refine ⟨⟨Sh_eq q1 rfl, q2, q3, ⟨(cI _ _ (by omega) (by omega)).trans q4.1, fun j hj => ?_⟩, q5, q6, (cI _ _ (by omega) (by omega)).trans q7, ⟨(cI _ _ (by omega) (by omega)).trans q8, q8a, fun z => (cI _ _ (by omega) (by omega)).trans (q8b z)⟩, ⟨(cI _ _ (by omega) (by omega)).trans n1, n2, n3, (cI _ _ (by omega) (by omega)).trans n4, n5, n6⟩, ⟨(cI _ _ (by omega) (by omega)).trans r1, r2, fun j hj => ⟨(r3 j hj).1, (cI _ _ (by omega) (by omega)).trans (r3 j hj).2⟩⟩⟩, ⟨?_, by rw [app_len']; omega, fun j hj => ?_⟩, ⟨t1, fun j hj => ⟨(cI _ _ (by omega) (by omega)).trans (t2 j hj).1, (cI _ _ (by omega) (by omega)).trans (t2 j hj).2⟩⟩, ⟨x1, fun j hj => ?_⟩⟩
  · obtain ⟨c1, c2, c3, c4⟩ := q4.2 j hj
    exact ⟨c1, (cI _ _ (by omega) (by omega)).trans c2, (cI _ _ (by omega) (by omega)).trans c3, c4⟩
  · rw [app_len']; exact setI_self _ _ _ _
  · rw [app_len'] at hj
    rw [app_get' _ _ _ _ hj]
    by_cases c : j = M.length
    · rw [if_pos c, c]
      exact (setI_ne (by omega)).trans (setI_self _ _ _ _)
    · rw [if_neg c]
      exact (setI_ne (by omega)).trans ((setI_ne (by omega)).trans (m3 j (by omega)))
  · obtain ⟨c0, c1, c2, c3, c4, c5, c6⟩ := x2 j hj
    exact ⟨(cI _ _ (by omega) (by omega)).trans c0, (cI _ _ (by omega) (by omega)).trans c1, (cI _ _ (by omega) (by omega)).trans c2, (cI _ _ (by omega) (by omega)).trans c3, c4, (cI _ _ (by omega) (by omega)).trans c5, (cI _ _ (by omega) (by omega)).trans c6⟩
theorem fB_mo {b n : Nat} {h : PH} {x y : Int32} (hb : b = 13 ∨ b = 68) : fB b h (setI (setI h (b + 1) n x) b 5 y) := by
  refine ⟨rfl, fun a _ _ _ a4 => ?_, fun k _ _ => ?_, fun k _ => ?_, fun _ _ _ => rfl, fun _ _ _ => rfl⟩
  · rw [setI_oth (by omega), setI_oth (by omega)]
  · exact (setI_ne (by omega)).trans (setI_ne (by omega))
  · exact (setI_ne (by omega)).trans (setI_ne (by omega))
theorem LC_e0 {h : PH} {b p : Nat} {T : List Tok} {e : Nat × Nat} {M F G : List Int} {P : List Cmd} {TS : List (Nat × Nat)} {X : List Gc} (l : LC h b T p e M F G P TS X) : LC h b T p (ntE e (0, 0)) M F G P TS X := ⟨qc_e0 l.1, l.2⟩
theorem tc_line {d b p : Nat} {T : List Tok} {s : Sm} {h : PH} {Q : Rs → PH → Prop} (l : LCs h b T p s) (hp : (smP s).length ≤ p) (k1 : (linF T p).1 = true → ∀ h1, LCs h1 b T (linF T p).2.1 (smL T s (linF T p).2.2) → (smP (smL T s (linF T p).2.2)).length ≤ (linF T p).2.1 → fB b h h1 → Q (.inl (some (.inl (iZ 1)))) h1) (k0 : (linF T p).1 = false → ∀ h1 e1 F1 G1 P1, QC h1 b T (linF T p).2.1 e1 F1 G1 P1 → fB b h h1 → Q (.inl (some (.inl (iZ 0)))) h1) : Rn (d + 45) 114 [.inr (.inr (.inr (7, 0, 2)))] h Q := by
  have q0 := l.1
  have sh := qc_sh q0
  have hb := qc_b q0
  have w0 := qc_w q0
  have p0 := qc_p q0
  have t0 := qc_tk q0
  have l1 := w0.2.1
  refine Ev.sts 1 (c' := (1, [some (.inr (.inr (.inr (7, 0, 2))))], [.inr (.inr (.inr (7, 0, 2)))], h)) rfl ?_
  refine Ev.gfr (r := (9, 0, 3)) rfl (sh_2_0 (h := h) (qc_sh l.1)) ?_
  refine Ev.sts 1 (c' := (7, [some (.inr (.inr (.inr (7, 0, 2))))], [.inr (.inr (.inr (40, 0, 5))), .inr (.inr (.inr (9, 0, 3)))], h)) rfl ?_
  refine Ev.callw (a := [.inr (.inr (.inr (9, 0, 3))), .inr (.inr (.inr (40, 0, 5)))]) rfl (tc_skip l.1 (by first | decide | omega) (fun ky1 h1 q1 f1 => ?_) (fun ky1 => ?_))
  · have z1 := qc_p q1
    refine Ev.brF (p := (iZ (1)) = (iZ (0))) (c1 := (39, [some (.inr (.inr (.inr (7, 0, 2))))], [], h1)) (c2 := (13, [some (.inr (.inr (.inr (7, 0, 2))))], [], h1)) (by decide) rfl ?_
    refine Ev.sts 1 (c' := (14, [some (.inr (.inr (.inr (7, 0, 2))))], [.inr (.inr (.inr (7, 0, 2)))], h1)) rfl ?_
    refine Ev.callw (a := [.inr (.inr (.inr (7, 0, 2)))]) rfl (tc_flock (LC_fP l f1 q1) (by first | omega | (simp only [List.length_append, List.length_cons, List.length_nil, List.length_map]; omega)) (fun r2 h2 l2 f2 => ?_) (fun r2 g2 e2 F2 G2 P2 q2 f2 => ?_))
    · refine Ev.brF (p := (iZ (1)) = (iZ (0))) (c1 := (37, [some (.inr (.inr (.inr (7, 0, 2))))], [], h2)) (c2 := (20, [some (.inr (.inr (.inr (7, 0, 2))))], [], h2)) (by decide) rfl ?_
      refine Ev.sts 1 (c' := (21, [some (.inr (.inr (.inr (7, 0, 2))))], [.inr (.inr (.inr (7, 0, 2)))], h2)) rfl ?_
      refine Ev.gfr (r := (9, 0, 3)) rfl (sh_2_0 (h := h2) (qc_sh l2.1)) ?_
      refine Ev.sts 1 (c' := (27, [some (.inr (.inr (.inr (7, 0, 2))))], [.inr (.inr (.inr (40, 0, 30))), .inr (.inr (.inr (9, 0, 3)))], h2)) rfl ?_
      refine Ev.callw (a := [.inr (.inr (.inr (9, 0, 3))), .inr (.inr (.inr (40, 0, 30)))]) rfl (tc_skip l2.1 (by first | decide | omega) (fun ky3 h3 q3 f3 => ?_) (fun ky3 => ?_))
      · have z3 := qc_p q3
        refine Ev.brF (p := (iZ (1)) = (iZ (0))) (c1 := (37, [some (.inr (.inr (.inr (7, 0, 2))))], [], h3)) (c2 := (33, [some (.inr (.inr (.inr (7, 0, 2))))], [], h3)) (by decide) rfl ?_
        refine Ev.sts 2 (c' := (38, [some (.inr (.inr (.inr (7, 0, 2))))], [.inl (iZ (1))], h3)) rfl ?_
        have e1 : linF T p = (true, (flkF T (p + 1)).2.1 + 1, (flkF T (p + 1)).2.2) := (by unfold linF; rw [if_pos (by assumption), semF_t (by assumption) (by assumption)])
        rw [e1] at k1
        have kk := flkF_k (show (flkF T (p + 1)).1 = true by assumption)
        have kg := flkF_g w0 (show (flkF T (p + 1)).1 = true by assumption)
        dsimp only at k1
        rw [smL_0 kk.1, kk.2] at k1
        exact Ev.ret rfl (k1 rfl _ (LC_fP l2 f3 q3) (by show (smP s ++ (flkF T (p + 1)).2.2.2.2.1.map (rsl T (smF s))).length ≤ _; rw [List.length_append, List.length_map]; omega) (fB_t (fB_t (fB_t (fB_r b h) (fB_P f1)) f2) (fB_P f3)))
      · refine Ev.brT (p := (iZ (0)) = (iZ (0))) (c1 := (37, [some (.inr (.inr (.inr (7, 0, 2))))], [], h2)) (c2 := (33, [some (.inr (.inr (.inr (7, 0, 2))))], [], h2)) (by decide) rfl ?_
        refine Ev.sts 1 (c' := (38, [some (.inr (.inr (.inr (7, 0, 2))))], [.inl (iZ (0))], h2)) rfl ?_
        first | (have e1 : linF T p = (false, p, l0) := (by unfold linF; rw [if_neg (by assumption), if_neg (by assumption)]); rw [e1] at k0; exact Ev.ret rfl (k0 rfl _ _ _ _ _ l2.1 (fB_t (fB_t (fB_r b h) (fB_P f1)) f2))) | (have e1 : linF T p = (false, (flkF T (p + 1)).2.1, l0) := (by unfold linF; rw [if_pos (by assumption), semF_f (show (flkF T (p + 1)).1 = false by assumption)]); rw [e1] at k0; exact Ev.ret rfl (k0 rfl _ _ _ _ _ l2.1 (fB_t (fB_t (fB_r b h) (fB_P f1)) f2))) | (have e1 : linF T p = (false, (flkF T (p + 1)).2.1, l0) := (by unfold linF; rw [if_pos (by assumption), semF_k (show (flkF T (p + 1)).1 = true by assumption) (by assumption)]); rw [e1] at k0; exact Ev.ret rfl (k0 rfl _ _ _ _ _ l2.1 (fB_t (fB_t (fB_r b h) (fB_P f1)) f2))) | (have e1 : linF T p = (false, (gooF T (p + 1)).2.1, l0) := (by unfold linF; rw [if_neg (by assumption), if_pos (by assumption), semF_f (show (gooF T (p + 1)).1 = false by assumption)]); rw [e1] at k0; exact Ev.ret rfl (k0 rfl _ _ _ _ _ l2.1 (fB_t (fB_t (fB_r b h) (fB_P f1)) f2))) | (have e1 : linF T p = (false, (gooF T (p + 1)).2.1, l0) := (by unfold linF; rw [if_neg (by assumption), if_pos (by assumption), semF_k (show (gooF T (p + 1)).1 = true by assumption) (by assumption)]); rw [e1] at k0; exact Ev.ret rfl (k0 rfl _ _ _ _ _ l2.1 (fB_t (fB_t (fB_r b h) (fB_P f1)) f2)))
    · refine Ev.brT (p := (iZ (0)) = (iZ (0))) (c1 := (37, [some (.inr (.inr (.inr (7, 0, 2))))], [], g2)) (c2 := (20, [some (.inr (.inr (.inr (7, 0, 2))))], [], g2)) (by decide) rfl ?_
      refine Ev.sts 1 (c' := (38, [some (.inr (.inr (.inr (7, 0, 2))))], [.inl (iZ (0))], g2)) rfl ?_
      first | (have e1 : linF T p = (false, p, l0) := (by unfold linF; rw [if_neg (by assumption), if_neg (by assumption)]); rw [e1] at k0; exact Ev.ret rfl (k0 rfl _ _ _ _ _ q2 (fB_t (fB_t (fB_r b h) (fB_P f1)) f2))) | (have e1 : linF T p = (false, (flkF T (p + 1)).2.1, l0) := (by unfold linF; rw [if_pos (by assumption), semF_f (show (flkF T (p + 1)).1 = false by assumption)]); rw [e1] at k0; exact Ev.ret rfl (k0 rfl _ _ _ _ _ q2 (fB_t (fB_t (fB_r b h) (fB_P f1)) f2))) | (have e1 : linF T p = (false, (flkF T (p + 1)).2.1, l0) := (by unfold linF; rw [if_pos (by assumption), semF_k (show (flkF T (p + 1)).1 = true by assumption) (by assumption)]); rw [e1] at k0; exact Ev.ret rfl (k0 rfl _ _ _ _ _ q2 (fB_t (fB_t (fB_r b h) (fB_P f1)) f2))) | (have e1 : linF T p = (false, (gooF T (p + 1)).2.1, l0) := (by unfold linF; rw [if_neg (by assumption), if_pos (by assumption), semF_f (show (gooF T (p + 1)).1 = false by assumption)]); rw [e1] at k0; exact Ev.ret rfl (k0 rfl _ _ _ _ _ q2 (fB_t (fB_t (fB_r b h) (fB_P f1)) f2))) | (have e1 : linF T p = (false, (gooF T (p + 1)).2.1, l0) := (by unfold linF; rw [if_neg (by assumption), if_pos (by assumption), semF_k (show (gooF T (p + 1)).1 = true by assumption) (by assumption)]); rw [e1] at k0; exact Ev.ret rfl (k0 rfl _ _ _ _ _ q2 (fB_t (fB_t (fB_r b h) (fB_P f1)) f2)))
  · refine Ev.brT (p := (iZ (0)) = (iZ (0))) (c1 := (39, [some (.inr (.inr (.inr (7, 0, 2))))], [], h)) (c2 := (13, [some (.inr (.inr (.inr (7, 0, 2))))], [], h)) (by decide) rfl ?_
    refine Ev.sts 1 (c' := (40, [some (.inr (.inr (.inr (7, 0, 2))))], [.inr (.inr (.inr (7, 0, 2)))], h)) rfl ?_
    refine Ev.gfr (r := (9, 0, 3)) rfl (sh_2_0 (h := h) (qc_sh l.1)) ?_
    refine Ev.sts 1 (c' := (46, [some (.inr (.inr (.inr (7, 0, 2))))], [.inr (.inr (.inr (40, 0, 15))), .inr (.inr (.inr (9, 0, 3)))], h)) rfl ?_
    refine Ev.callw (a := [.inr (.inr (.inr (9, 0, 3))), .inr (.inr (.inr (40, 0, 15)))]) rfl (tc_skip l.1 (by first | decide | omega) (fun ky4 h4 q4 f4 => ?_) (fun ky4 => ?_))
    · have z4 := qc_p q4
      refine Ev.brF (p := (iZ (1)) = (iZ (0))) (c1 := (76, [some (.inr (.inr (.inr (7, 0, 2))))], [], h4)) (c2 := (52, [some (.inr (.inr (.inr (7, 0, 2))))], [], h4)) (by decide) rfl ?_
      refine Ev.sts 1 (c' := (53, [some (.inr (.inr (.inr (7, 0, 2))))], [.inr (.inr (.inr (7, 0, 2)))], h4)) rfl ?_
      refine Ev.callw (a := [.inr (.inr (.inr (7, 0, 2)))]) rfl (tc_goose (LC_fP l f4 q4) (by first | omega | (simp only [List.length_append, List.length_cons, List.length_nil, List.length_map]; omega)) (fun r5 h5 l5 f5 => ?_) (fun r5 g5 e5 F5 G5 P5 q5 f5 => ?_))
      · refine Ev.brF (p := (iZ (1)) = (iZ (0))) (c1 := (76, [some (.inr (.inr (.inr (7, 0, 2))))], [], h5)) (c2 := (59, [some (.inr (.inr (.inr (7, 0, 2))))], [], h5)) (by decide) rfl ?_
        refine Ev.sts 1 (c' := (60, [some (.inr (.inr (.inr (7, 0, 2))))], [.inr (.inr (.inr (7, 0, 2)))], h5)) rfl ?_
        refine Ev.gfr (r := (9, 0, 3)) rfl (sh_2_0 (h := h5) (qc_sh l5.1)) ?_
        refine Ev.sts 1 (c' := (66, [some (.inr (.inr (.inr (7, 0, 2))))], [.inr (.inr (.inr (40, 0, 30))), .inr (.inr (.inr (9, 0, 3)))], h5)) rfl ?_
        refine Ev.callw (a := [.inr (.inr (.inr (9, 0, 3))), .inr (.inr (.inr (40, 0, 30)))]) rfl (tc_skip l5.1 (by first | decide | omega) (fun ky6 h6 q6 f6 => ?_) (fun ky6 => ?_))
        · have z6 := qc_p q6
          refine Ev.brF (p := (iZ (1)) = (iZ (0))) (c1 := (76, [some (.inr (.inr (.inr (7, 0, 2))))], [], h6)) (c2 := (72, [some (.inr (.inr (.inr (7, 0, 2))))], [], h6)) (by decide) rfl ?_
          refine Ev.sts 2 (c' := (77, [some (.inr (.inr (.inr (7, 0, 2))))], [.inl (iZ (1))], h6)) rfl ?_
          have e1 : linF T p = (true, (gooF T (p + 1)).2.1 + 1, (gooF T (p + 1)).2.2) := (by unfold linF; rw [if_neg (by assumption), if_pos (by assumption), semF_t (by assumption) (by assumption)])
          rw [e1] at k1
          have kk := gooF_k w0 (show (gooF T (p + 1)).1 = true by assumption)
          dsimp only at k1
          rw [smL_1 kk.1, kk.2.1] at k1
          exact Ev.ret rfl (k1 rfl _ (LC_fP l5 f6 q6) (by show (smP s ++ (gooF T (p + 1)).2.2.2.2.1).length ≤ _; rw [List.length_append]; omega) (fB_t (fB_t (fB_t (fB_r b h) (fB_P f4)) f5) (fB_P f6)))
        · refine Ev.brT (p := (iZ (0)) = (iZ (0))) (c1 := (76, [some (.inr (.inr (.inr (7, 0, 2))))], [], h5)) (c2 := (72, [some (.inr (.inr (.inr (7, 0, 2))))], [], h5)) (by decide) rfl ?_
          refine Ev.sts 1 (c' := (77, [some (.inr (.inr (.inr (7, 0, 2))))], [.inl (iZ (0))], h5)) rfl ?_
          first | (have e1 : linF T p = (false, p, l0) := (by unfold linF; rw [if_neg (by assumption), if_neg (by assumption)]); rw [e1] at k0; exact Ev.ret rfl (k0 rfl _ _ _ _ _ l5.1 (fB_t (fB_t (fB_r b h) (fB_P f4)) f5))) | (have e1 : linF T p = (false, (flkF T (p + 1)).2.1, l0) := (by unfold linF; rw [if_pos (by assumption), semF_f (show (flkF T (p + 1)).1 = false by assumption)]); rw [e1] at k0; exact Ev.ret rfl (k0 rfl _ _ _ _ _ l5.1 (fB_t (fB_t (fB_r b h) (fB_P f4)) f5))) | (have e1 : linF T p = (false, (flkF T (p + 1)).2.1, l0) := (by unfold linF; rw [if_pos (by assumption), semF_k (show (flkF T (p + 1)).1 = true by assumption) (by assumption)]); rw [e1] at k0; exact Ev.ret rfl (k0 rfl _ _ _ _ _ l5.1 (fB_t (fB_t (fB_r b h) (fB_P f4)) f5))) | (have e1 : linF T p = (false, (gooF T (p + 1)).2.1, l0) := (by unfold linF; rw [if_neg (by assumption), if_pos (by assumption), semF_f (show (gooF T (p + 1)).1 = false by assumption)]); rw [e1] at k0; exact Ev.ret rfl (k0 rfl _ _ _ _ _ l5.1 (fB_t (fB_t (fB_r b h) (fB_P f4)) f5))) | (have e1 : linF T p = (false, (gooF T (p + 1)).2.1, l0) := (by unfold linF; rw [if_neg (by assumption), if_pos (by assumption), semF_k (show (gooF T (p + 1)).1 = true by assumption) (by assumption)]); rw [e1] at k0; exact Ev.ret rfl (k0 rfl _ _ _ _ _ l5.1 (fB_t (fB_t (fB_r b h) (fB_P f4)) f5)))
      · refine Ev.brT (p := (iZ (0)) = (iZ (0))) (c1 := (76, [some (.inr (.inr (.inr (7, 0, 2))))], [], g5)) (c2 := (59, [some (.inr (.inr (.inr (7, 0, 2))))], [], g5)) (by decide) rfl ?_
        refine Ev.sts 1 (c' := (77, [some (.inr (.inr (.inr (7, 0, 2))))], [.inl (iZ (0))], g5)) rfl ?_
        first | (have e1 : linF T p = (false, p, l0) := (by unfold linF; rw [if_neg (by assumption), if_neg (by assumption)]); rw [e1] at k0; exact Ev.ret rfl (k0 rfl _ _ _ _ _ q5 (fB_t (fB_t (fB_r b h) (fB_P f4)) f5))) | (have e1 : linF T p = (false, (flkF T (p + 1)).2.1, l0) := (by unfold linF; rw [if_pos (by assumption), semF_f (show (flkF T (p + 1)).1 = false by assumption)]); rw [e1] at k0; exact Ev.ret rfl (k0 rfl _ _ _ _ _ q5 (fB_t (fB_t (fB_r b h) (fB_P f4)) f5))) | (have e1 : linF T p = (false, (flkF T (p + 1)).2.1, l0) := (by unfold linF; rw [if_pos (by assumption), semF_k (show (flkF T (p + 1)).1 = true by assumption) (by assumption)]); rw [e1] at k0; exact Ev.ret rfl (k0 rfl _ _ _ _ _ q5 (fB_t (fB_t (fB_r b h) (fB_P f4)) f5))) | (have e1 : linF T p = (false, (gooF T (p + 1)).2.1, l0) := (by unfold linF; rw [if_neg (by assumption), if_pos (by assumption), semF_f (show (gooF T (p + 1)).1 = false by assumption)]); rw [e1] at k0; exact Ev.ret rfl (k0 rfl _ _ _ _ _ q5 (fB_t (fB_t (fB_r b h) (fB_P f4)) f5))) | (have e1 : linF T p = (false, (gooF T (p + 1)).2.1, l0) := (by unfold linF; rw [if_neg (by assumption), if_pos (by assumption), semF_k (show (gooF T (p + 1)).1 = true by assumption) (by assumption)]); rw [e1] at k0; exact Ev.ret rfl (k0 rfl _ _ _ _ _ q5 (fB_t (fB_t (fB_r b h) (fB_P f4)) f5)))
    · refine Ev.brT (p := (iZ (0)) = (iZ (0))) (c1 := (76, [some (.inr (.inr (.inr (7, 0, 2))))], [], h)) (c2 := (52, [some (.inr (.inr (.inr (7, 0, 2))))], [], h)) (by decide) rfl ?_
      refine Ev.sts 1 (c' := (77, [some (.inr (.inr (.inr (7, 0, 2))))], [.inl (iZ (0))], h)) rfl ?_
      first | (have e1 : linF T p = (false, p, l0) := (by unfold linF; rw [if_neg (by assumption), if_neg (by assumption)]); rw [e1] at k0; exact Ev.ret rfl (k0 rfl _ _ _ _ _ l.1 (fB_r b h))) | (have e1 : linF T p = (false, (flkF T (p + 1)).2.1, l0) := (by unfold linF; rw [if_pos (by assumption), semF_f (show (flkF T (p + 1)).1 = false by assumption)]); rw [e1] at k0; exact Ev.ret rfl (k0 rfl _ _ _ _ _ l.1 (fB_r b h))) | (have e1 : linF T p = (false, (flkF T (p + 1)).2.1, l0) := (by unfold linF; rw [if_pos (by assumption), semF_k (show (flkF T (p + 1)).1 = true by assumption) (by assumption)]); rw [e1] at k0; exact Ev.ret rfl (k0 rfl _ _ _ _ _ l.1 (fB_r b h))) | (have e1 : linF T p = (false, (gooF T (p + 1)).2.1, l0) := (by unfold linF; rw [if_neg (by assumption), if_pos (by assumption), semF_f (show (gooF T (p + 1)).1 = false by assumption)]); rw [e1] at k0; exact Ev.ret rfl (k0 rfl _ _ _ _ _ l.1 (fB_r b h))) | (have e1 : linF T p = (false, (gooF T (p + 1)).2.1, l0) := (by unfold linF; rw [if_neg (by assumption), if_pos (by assumption), semF_k (show (gooF T (p + 1)).1 = true by assumption) (by assumption)]); rw [e1] at k0; exact Ev.ret rfl (k0 rfl _ _ _ _ _ l.1 (fB_r b h)))

theorem tc_addPhase {d b p : Nat} {x : Int} {T : List Tok} {e : Nat × Nat} {M F G : List Int} {P : List Cmd} {TS : List (Nat × Nat)} {X : List Gc} {h : PH} {Q : Rs → PH → Prop} (l : LC h b T p e M F G P TS X) (q : ∀ h1, LC h1 b T p e (if M.length < 8 then M ++ [x] else M) F G P TS X → fB b h h1 → Q (.inl none) h1) : Rn d 88 [.inr (.inr (.inr (2, 0, b))), .inl (iZ (x))] h Q := by
  have hb := qc_b l.1
  have m8 := l.2.1.2.1
  refine Ev.sts 1 (c' := (1, [some (.inr (.inr (.inr (2, 0, b)))), some (.inl (iZ (x)))], [.inr (.inr (.inr (2, 0, b)))], h)) rfl ?_
  refine Ev.gv (w := (iZ (M.length))) rfl l.2.1.1 ?_
  refine Ev.brF (p := (iZ (M.length)) < (iZ (0))) (c1 := (39, [some (.inr (.inr (.inr (2, 0, b)))), some (.inl (iZ (x)))], [], h)) (c2 := (7, [some (.inr (.inr (.inr (2, 0, b)))), some (.inl (iZ (x)))], [], h)) (fun c_ => absurd ((iZ_lt ⟨by omega, by omega⟩ ⟨by omega, by omega⟩).mp c_) (by omega)) rfl ?_
  refine Ev.sts 1 (c' := (8, [some (.inr (.inr (.inr (2, 0, b)))), some (.inl (iZ (x)))], [.inr (.inr (.inr (2, 0, b)))], h)) rfl ?_
  refine Ev.gv (w := (iZ (M.length))) rfl l.2.1.1 ?_
  refine Ev.sts 1 (c' := (12, [some (.inr (.inr (.inr (2, 0, b)))), some (.inl (iZ (x)))], [.inr (.inr (.inr (2, 0, b))), .inl (iZ (M.length))], h)) rfl ?_
  refine Ev.gfr (r := (20, 8, (b + 1))) rfl (sh_b0 (h := h) (qc_sh l.1) hb) ?_
  refine Ev.sts 1 (c' := (16, [some (.inr (.inr (.inr (2, 0, b)))), some (.inl (iZ (x)))], [.inl (iZ (8)), .inl (iZ (M.length))], h)) rfl ?_
  refine Ev.brc (p := (iZ (8)) ≤ (iZ (M.length))) (q := ((8 : Int)) ≤ M.length) (c1 := (39, [some (.inr (.inr (.inr (2, 0, b)))), some (.inl (iZ (x)))], [], h)) (c2 := (19, [some (.inr (.inr (.inr (2, 0, b)))), some (.inl (iZ (x)))], [], h)) rfl (iZ_le ⟨by omega, by omega⟩ ⟨by omega, by omega⟩) (fun c0 => ?_) (fun c0 => ?_)
  · rw [if_neg (show ¬ M.length < 8 by omega)] at q
    exact Ev.ret rfl (q _ l (fB_r b h))
  · refine Ev.sts 1 (c' := (20, [some (.inr (.inr (.inr (2, 0, b)))), some (.inl (iZ (x)))], [.inr (.inr (.inr (2, 0, b)))], h)) rfl ?_
    refine Ev.gfr (r := (20, 8, (b + 1))) rfl (sh_b0 (h := h) (qc_sh l.1) hb) ?_
    refine Ev.sts 1 (c' := (24, [some (.inr (.inr (.inr (2, 0, b)))), some (.inl (iZ (x)))], [.inr (.inr (.inr (2, 0, b))), .inr (.inr (.inr (20, 8, (b + 1))))], h)) rfl ?_
    refine Ev.gv (w := (iZ (M.length))) rfl l.2.1.1 ?_
    refine Ev.sts 1 (c' := (28, [some (.inr (.inr (.inr (2, 0, b)))), some (.inl (iZ (x)))], [.inl (iZ (x)), .inl (iZ (M.length)), .inr (.inr (.inr (20, 8, (b + 1))))], h)) rfl ?_
    refine Ev.sto (j := (iZ (M.length))) (n := 8) (h2 := (setI h (b + 1) M.length ((iZ (x))))) (iZ_in (by omega) (by omega) (by omega)) rfl (by rw [iZ_ix (n := M.length) (by omega) (by omega)]) ?_
    refine Ev.sts 2 (c' := (31, [some (.inr (.inr (.inr (2, 0, b)))), some (.inl (iZ (x)))], [.inr (.inr (.inr (2, 0, b))), .inr (.inr (.inr (2, 0, b)))], (setI h (b + 1) M.length ((iZ (x)))))) rfl ?_
    refine Ev.gv (w := (iZ (M.length))) rfl ((setI_ne (a := b + 1) (b := b) (by omega)).trans (show h.1 b 5 = iZ M.length from l.2.1.1)) ?_
    refine Ev.sts 1 (c' := (35, [some (.inr (.inr (.inr (2, 0, b)))), some (.inl (iZ (x)))], [.inl (iZ (1)), .inl (iZ (M.length)), .inr (.inr (.inr (2, 0, b)))], (setI h (b + 1) M.length ((iZ (x)))))) rfl ?_
    refine Ev.gv (w := (iZ (M.length + 1))) rfl (iZ_add _ _) ?_
    refine Ev.sts 1 (c' := (39, [some (.inr (.inr (.inr (2, 0, b)))), some (.inl (iZ (x)))], [], (setI (setI h (b + 1) M.length ((iZ (x)))) b 5 ((iZ (M.length + 1)))))) rfl ?_
    rw [if_pos (show M.length < 8 by omega)] at q
    exact Ev.ret rfl (q _ (LC_mo l (by omega)) (fB_mo hb))

theorem tc_phase {d b p : Nat} {T : List Tok} {e : Nat × Nat} {M F G : List Int} {P : List Cmd} {TS : List (Nat × Nat)} {X : List Gc} {h : PH} {Q : Rs → PH → Prop} (l : LC h b T p e M F G P TS X) (k1 : tK T p = 3 → ∀ h1, LC h1 b T (p + 1) (ntE e (phE T M p)) (if M.length < 8 then M ++ [tN T p] else M) F G P TS X → fB b h h1 → Q (.inl (some (.inl (iZ 1)))) h1) (k0 : ¬ tK T p = 3 → ∀ h1 e1 F1 G1 P1, QC h1 b T p e1 F1 G1 P1 → fB b h h1 → Q (.inl (some (.inl (iZ 0)))) h1) : Rn (d + 1) 112 [.inr (.inr (.inr (7, 0, 2)))] h Q := by
  have q0 := l.1
  have sh := qc_sh q0
  have hb := qc_b q0
  have w0 := qc_w q0
  have p0 := qc_p q0
  have t0 := qc_tk q0
  have l1 := w0.2.1
  have m8 := l.2.1.2.1
  have nb := tN_b w0 p
  refine Ev.sts 2 (c' := (2, [some (.inr (.inr (.inr (7, 0, 2))))], [.inr (.inr (.inr (7, 0, 2))), .inr (.inr (.inr (7, 0, 2)))], h)) rfl ?_
  refine Ev.gfr (r := (2, 0, b)) rfl (qc_24 l.1) ?_
  refine Ev.gv (w := (iZ (M.length))) rfl (l).2.1.1 ?_
  refine Ev.sts 1 (c' := (10, [some (.inr (.inr (.inr (7, 0, 2))))], [.inl (iZ (8)), .inl (iZ (M.length)), .inr (.inr (.inr (7, 0, 2)))], h)) rfl ?_
  refine Ev.brc (p := (iZ (M.length)) < (iZ (8))) (q := ((M.length : Int)) < 8) (c1 := (17, [some (.inr (.inr (.inr (7, 0, 2))))], [.inr (.inr (.inr (7, 0, 2)))], h)) (c2 := (13, [some (.inr (.inr (.inr (7, 0, 2))))], [.inr (.inr (.inr (7, 0, 2)))], h)) rfl (iZ_lt ⟨by omega, by omega⟩ ⟨by omega, by omega⟩) (fun c0 => ?_) (fun c0 => ?_)
  · refine Ev.sts 2 (c' := (19, [some (.inr (.inr (.inr (7, 0, 2))))], [.inl (iZ (4)), .inl (iZ (0)), .inr (.inr (.inr (7, 0, 2)))], h)) rfl ?_
    refine Ev.callv (a := [.inr (.inr (.inr (7, 0, 2))), .inl (iZ (0)), .inl (iZ (4))]) rfl (tc_note0) ?_
    refine Ev.sts 2 (c' := (24, [some (.inr (.inr (.inr (7, 0, 2))))], [.inr (.inr (.inr (7, 0, 2))), .inr (.inr (.inr (7, 0, 2)))], h)) rfl ?_
    refine Ev.gfr (r := (9, 0, 3)) rfl (sh_2_0 (h := h) (qc_sh l.1)) ?_
    refine Ev.callv (a := [.inr (.inr (.inr (9, 0, 3)))]) rfl (tc_number l.1) ?_
    refine Ev.sts 1 (c' := (32, [some (.inr (.inr (.inr (7, 0, 2))))], [.inl (iZ (99)), .inl (iZ (tN T p)), .inr (.inr (.inr (7, 0, 2)))], h)) rfl ?_
    refine Ev.brc (p := (iZ (tN T p)) ≤ (iZ (99))) (q := ((tN T p : Int)) ≤ 99) (c1 := (39, [some (.inr (.inr (.inr (7, 0, 2))))], [.inr (.inr (.inr (7, 0, 2)))], h)) (c2 := (35, [some (.inr (.inr (.inr (7, 0, 2))))], [.inr (.inr (.inr (7, 0, 2)))], h)) rfl (iZ_le ⟨by omega, by omega⟩ ⟨by omega, by omega⟩) (fun c1 => ?_) (fun c1 => ?_)
    · refine Ev.sts 2 (c' := (41, [some (.inr (.inr (.inr (7, 0, 2))))], [.inl (iZ (5)), .inl (iZ (0)), .inr (.inr (.inr (7, 0, 2)))], h)) rfl ?_
      refine Ev.callv (a := [.inr (.inr (.inr (7, 0, 2))), .inl (iZ (0)), .inl (iZ (5))]) rfl (tc_note0) ?_
      refine Ev.sts 1 (c' := (45, [some (.inr (.inr (.inr (7, 0, 2))))], [.inr (.inr (.inr (7, 0, 2)))], h)) rfl ?_
      refine Ev.gfr (r := (2, 0, b)) rfl (qc_24 l.1) ?_
      refine Ev.sts 1 (c' := (49, [some (.inr (.inr (.inr (7, 0, 2))))], [.inr (.inr (.inr (7, 0, 2))), .inr (.inr (.inr (2, 0, b)))], h)) rfl ?_
      refine Ev.gfr (r := (9, 0, 3)) rfl (sh_2_0 (h := h) (qc_sh l.1)) ?_
      refine Ev.callv (a := [.inr (.inr (.inr (9, 0, 3)))]) rfl (tc_number l.1) ?_
      refine Ev.callw (a := [.inr (.inr (.inr (2, 0, b))), .inl (iZ (tN T p))]) rfl (tc_addPhase l (fun h1 l1 f1 => ?_))
      refine Ev.sts 1 (c' := (59, [some (.inr (.inr (.inr (7, 0, 2))))], [.inr (.inr (.inr (7, 0, 2)))], h1)) rfl ?_
      refine Ev.gfr (r := (9, 0, 3)) rfl (sh_2_0 (h := h1) (qc_sh l1.1)) ?_
      refine Ev.sts 1 (c' := (65, [some (.inr (.inr (.inr (7, 0, 2))))], [.inr (.inr (.inr (40, 0, 3))), .inr (.inr (.inr (9, 0, 3)))], h1)) rfl ?_
      refine Ev.callw (a := [.inr (.inr (.inr (9, 0, 3))), .inr (.inr (.inr (40, 0, 3)))]) rfl (tc_skip l1.1 (by first | decide | omega) (fun ky2 h2 q2 f2 => ?_) (fun ky2 => ?_))
      · have z2 := qc_p q2
        have l9 := (LC_fP l1 f2 q2)
        refine Ev.ret rfl (k1 (by assumption) _ ?_ (fB_t (fB_t (fB_r b h) f1) (fB_P f2)))
        by_cases m8 : M.length < 8
        · rw [if_pos m8] at l9 ⊢
          exact (by first | (exfalso; omega) | (unfold phE; (iterate 2 (first | rw [if_pos (by first | rfl | omega)] | rw [if_neg (by omega)] | skip)); first | exact l9 | exact LC_e0 l9 | (rw [← ntE_as]; exact l9) | (rw [← ntE_as]; exact LC_e0 l9)))
        · rw [if_neg m8] at l9 ⊢
          exact (by first | (exfalso; omega) | (unfold phE; (iterate 2 (first | rw [if_pos (by first | rfl | omega)] | rw [if_neg (by omega)] | skip)); first | exact l9 | exact LC_e0 l9 | (rw [← ntE_as]; exact l9) | (rw [← ntE_as]; exact LC_e0 l9)))
      · exact Ev.ret rfl (k0 (by assumption) _ _ _ _ _ l1.1 (fB_t (fB_r b h) f1))
    · refine Ev.sts 3 (c' := (41, [some (.inr (.inr (.inr (7, 0, 2))))], [.inl (iZ (5)), .inl (iZ (1)), .inr (.inr (.inr (7, 0, 2)))], h)) rfl ?_
      refine Ev.callw (a := [.inr (.inr (.inr (7, 0, 2))), .inl (iZ (1)), .inl (iZ (5))]) rfl (tc_note1 (n := 5) l.1 (by decide) (fun h3 q3 f3 => ?_))
      refine Ev.sts 1 (c' := (45, [some (.inr (.inr (.inr (7, 0, 2))))], [.inr (.inr (.inr (7, 0, 2)))], h3)) rfl ?_
      refine Ev.gfr (r := (2, 0, b)) rfl (qc_24 q3) ?_
      refine Ev.sts 1 (c' := (49, [some (.inr (.inr (.inr (7, 0, 2))))], [.inr (.inr (.inr (7, 0, 2))), .inr (.inr (.inr (2, 0, b)))], h3)) rfl ?_
      refine Ev.gfr (r := (9, 0, 3)) rfl (sh_2_0 (h := h3) (qc_sh q3)) ?_
      refine Ev.callv (a := [.inr (.inr (.inr (9, 0, 3)))]) rfl (tc_number q3) ?_
      refine Ev.callw (a := [.inr (.inr (.inr (2, 0, b))), .inl (iZ (tN T p))]) rfl (tc_addPhase (LC_fP l f3 q3) (fun h4 l4 f4 => ?_))
      refine Ev.sts 1 (c' := (59, [some (.inr (.inr (.inr (7, 0, 2))))], [.inr (.inr (.inr (7, 0, 2)))], h4)) rfl ?_
      refine Ev.gfr (r := (9, 0, 3)) rfl (sh_2_0 (h := h4) (qc_sh l4.1)) ?_
      refine Ev.sts 1 (c' := (65, [some (.inr (.inr (.inr (7, 0, 2))))], [.inr (.inr (.inr (40, 0, 3))), .inr (.inr (.inr (9, 0, 3)))], h4)) rfl ?_
      refine Ev.callw (a := [.inr (.inr (.inr (9, 0, 3))), .inr (.inr (.inr (40, 0, 3)))]) rfl (tc_skip l4.1 (by first | decide | omega) (fun ky5 h5 q5 f5 => ?_) (fun ky5 => ?_))
      · have z5 := qc_p q5
        have l9 := (LC_fP l4 f5 q5)
        refine Ev.ret rfl (k1 (by assumption) _ ?_ (fB_t (fB_t (fB_t (fB_r b h) (fB_P f3)) f4) (fB_P f5)))
        by_cases m8 : M.length < 8
        · rw [if_pos m8] at l9 ⊢
          exact (by first | (exfalso; omega) | (unfold phE; (iterate 2 (first | rw [if_pos (by first | rfl | omega)] | rw [if_neg (by omega)] | skip)); first | exact l9 | exact LC_e0 l9 | (rw [← ntE_as]; exact l9) | (rw [← ntE_as]; exact LC_e0 l9)))
        · rw [if_neg m8] at l9 ⊢
          exact (by first | (exfalso; omega) | (unfold phE; (iterate 2 (first | rw [if_pos (by first | rfl | omega)] | rw [if_neg (by omega)] | skip)); first | exact l9 | exact LC_e0 l9 | (rw [← ntE_as]; exact l9) | (rw [← ntE_as]; exact LC_e0 l9)))
      · exact Ev.ret rfl (k0 (by assumption) _ _ _ _ _ l4.1 (fB_t (fB_t (fB_r b h) (fB_P f3)) f4))
  · refine Ev.sts 3 (c' := (19, [some (.inr (.inr (.inr (7, 0, 2))))], [.inl (iZ (4)), .inl (iZ (1)), .inr (.inr (.inr (7, 0, 2)))], h)) rfl ?_
    refine Ev.callw (a := [.inr (.inr (.inr (7, 0, 2))), .inl (iZ (1)), .inl (iZ (4))]) rfl (tc_note1 (n := 4) l.1 (by decide) (fun h6 q6 f6 => ?_))
    refine Ev.sts 2 (c' := (24, [some (.inr (.inr (.inr (7, 0, 2))))], [.inr (.inr (.inr (7, 0, 2))), .inr (.inr (.inr (7, 0, 2)))], h6)) rfl ?_
    refine Ev.gfr (r := (9, 0, 3)) rfl (sh_2_0 (h := h6) (qc_sh q6)) ?_
    refine Ev.callv (a := [.inr (.inr (.inr (9, 0, 3)))]) rfl (tc_number q6) ?_
    refine Ev.sts 1 (c' := (32, [some (.inr (.inr (.inr (7, 0, 2))))], [.inl (iZ (99)), .inl (iZ (tN T p)), .inr (.inr (.inr (7, 0, 2)))], h6)) rfl ?_
    refine Ev.brc (p := (iZ (tN T p)) ≤ (iZ (99))) (q := ((tN T p : Int)) ≤ 99) (c1 := (39, [some (.inr (.inr (.inr (7, 0, 2))))], [.inr (.inr (.inr (7, 0, 2)))], h6)) (c2 := (35, [some (.inr (.inr (.inr (7, 0, 2))))], [.inr (.inr (.inr (7, 0, 2)))], h6)) rfl (iZ_le ⟨by omega, by omega⟩ ⟨by omega, by omega⟩) (fun c1 => ?_) (fun c1 => ?_)
    · refine Ev.sts 2 (c' := (41, [some (.inr (.inr (.inr (7, 0, 2))))], [.inl (iZ (5)), .inl (iZ (0)), .inr (.inr (.inr (7, 0, 2)))], h6)) rfl ?_
      refine Ev.callv (a := [.inr (.inr (.inr (7, 0, 2))), .inl (iZ (0)), .inl (iZ (5))]) rfl (tc_note0) ?_
      refine Ev.sts 1 (c' := (45, [some (.inr (.inr (.inr (7, 0, 2))))], [.inr (.inr (.inr (7, 0, 2)))], h6)) rfl ?_
      refine Ev.gfr (r := (2, 0, b)) rfl (qc_24 q6) ?_
      refine Ev.sts 1 (c' := (49, [some (.inr (.inr (.inr (7, 0, 2))))], [.inr (.inr (.inr (7, 0, 2))), .inr (.inr (.inr (2, 0, b)))], h6)) rfl ?_
      refine Ev.gfr (r := (9, 0, 3)) rfl (sh_2_0 (h := h6) (qc_sh q6)) ?_
      refine Ev.callv (a := [.inr (.inr (.inr (9, 0, 3)))]) rfl (tc_number q6) ?_
      refine Ev.callw (a := [.inr (.inr (.inr (2, 0, b))), .inl (iZ (tN T p))]) rfl (tc_addPhase (LC_fP l f6 q6) (fun h7 l7 f7 => ?_))
      refine Ev.sts 1 (c' := (59, [some (.inr (.inr (.inr (7, 0, 2))))], [.inr (.inr (.inr (7, 0, 2)))], h7)) rfl ?_
      refine Ev.gfr (r := (9, 0, 3)) rfl (sh_2_0 (h := h7) (qc_sh l7.1)) ?_
      refine Ev.sts 1 (c' := (65, [some (.inr (.inr (.inr (7, 0, 2))))], [.inr (.inr (.inr (40, 0, 3))), .inr (.inr (.inr (9, 0, 3)))], h7)) rfl ?_
      refine Ev.callw (a := [.inr (.inr (.inr (9, 0, 3))), .inr (.inr (.inr (40, 0, 3)))]) rfl (tc_skip l7.1 (by first | decide | omega) (fun ky8 h8 q8 f8 => ?_) (fun ky8 => ?_))
      · have z8 := qc_p q8
        have l9 := (LC_fP l7 f8 q8)
        refine Ev.ret rfl (k1 (by assumption) _ ?_ (fB_t (fB_t (fB_t (fB_r b h) (fB_P f6)) f7) (fB_P f8)))
        by_cases m8 : M.length < 8
        · rw [if_pos m8] at l9 ⊢
          exact (by first | (exfalso; omega) | (unfold phE; (iterate 2 (first | rw [if_pos (by first | rfl | omega)] | rw [if_neg (by omega)] | skip)); first | exact l9 | exact LC_e0 l9 | (rw [← ntE_as]; exact l9) | (rw [← ntE_as]; exact LC_e0 l9)))
        · rw [if_neg m8] at l9 ⊢
          exact (by first | (exfalso; omega) | (unfold phE; (iterate 2 (first | rw [if_pos (by first | rfl | omega)] | rw [if_neg (by omega)] | skip)); first | exact l9 | exact LC_e0 l9 | (rw [← ntE_as]; exact l9) | (rw [← ntE_as]; exact LC_e0 l9)))
      · exact Ev.ret rfl (k0 (by assumption) _ _ _ _ _ l7.1 (fB_t (fB_t (fB_r b h) (fB_P f6)) f7))
    · refine Ev.sts 3 (c' := (41, [some (.inr (.inr (.inr (7, 0, 2))))], [.inl (iZ (5)), .inl (iZ (1)), .inr (.inr (.inr (7, 0, 2)))], h6)) rfl ?_
      refine Ev.callw (a := [.inr (.inr (.inr (7, 0, 2))), .inl (iZ (1)), .inl (iZ (5))]) rfl (tc_note1 (n := 5) q6 (by decide) (fun h9 q9 f9 => ?_))
      refine Ev.sts 1 (c' := (45, [some (.inr (.inr (.inr (7, 0, 2))))], [.inr (.inr (.inr (7, 0, 2)))], h9)) rfl ?_
      refine Ev.gfr (r := (2, 0, b)) rfl (qc_24 q9) ?_
      refine Ev.sts 1 (c' := (49, [some (.inr (.inr (.inr (7, 0, 2))))], [.inr (.inr (.inr (7, 0, 2))), .inr (.inr (.inr (2, 0, b)))], h9)) rfl ?_
      refine Ev.gfr (r := (9, 0, 3)) rfl (sh_2_0 (h := h9) (qc_sh q9)) ?_
      refine Ev.callv (a := [.inr (.inr (.inr (9, 0, 3)))]) rfl (tc_number q9) ?_
      refine Ev.callw (a := [.inr (.inr (.inr (2, 0, b))), .inl (iZ (tN T p))]) rfl (tc_addPhase (LC_fP (LC_fP l f6 q6) f9 q9) (fun h10 l10 f10 => ?_))
      refine Ev.sts 1 (c' := (59, [some (.inr (.inr (.inr (7, 0, 2))))], [.inr (.inr (.inr (7, 0, 2)))], h10)) rfl ?_
      refine Ev.gfr (r := (9, 0, 3)) rfl (sh_2_0 (h := h10) (qc_sh l10.1)) ?_
      refine Ev.sts 1 (c' := (65, [some (.inr (.inr (.inr (7, 0, 2))))], [.inr (.inr (.inr (40, 0, 3))), .inr (.inr (.inr (9, 0, 3)))], h10)) rfl ?_
      refine Ev.callw (a := [.inr (.inr (.inr (9, 0, 3))), .inr (.inr (.inr (40, 0, 3)))]) rfl (tc_skip l10.1 (by first | decide | omega) (fun ky11 h11 q11 f11 => ?_) (fun ky11 => ?_))
      · have z11 := qc_p q11
        have l9 := (LC_fP l10 f11 q11)
        refine Ev.ret rfl (k1 (by assumption) _ ?_ (fB_t (fB_t (fB_t (fB_t (fB_r b h) (fB_P f6)) (fB_P f9)) f10) (fB_P f11)))
        by_cases m8 : M.length < 8
        · rw [if_pos m8] at l9 ⊢
          exact (by first | (exfalso; omega) | (unfold phE; (iterate 2 (first | rw [if_pos (by first | rfl | omega)] | rw [if_neg (by omega)] | skip)); first | exact l9 | exact LC_e0 l9 | (rw [← ntE_as]; exact l9) | (rw [← ntE_as]; exact LC_e0 l9)))
        · rw [if_neg m8] at l9 ⊢
          exact (by first | (exfalso; omega) | (unfold phE; (iterate 2 (first | rw [if_pos (by first | rfl | omega)] | rw [if_neg (by omega)] | skip)); first | exact l9 | exact LC_e0 l9 | (rw [← ntE_as]; exact l9) | (rw [← ntE_as]; exact LC_e0 l9)))
      · exact Ev.ret rfl (k0 (by assumption) _ _ _ _ _ l10.1 (fB_t (fB_t (fB_t (fB_r b h) (fB_P f6)) (fB_P f9)) f10))

