/-! The class reads a book: the whole. -/
def clrH (h : PH) (b : Nat) : PH := setI (setI (setI (setI h b 5 (iZ 0)) b 6 (iZ 0)) b 7 (iZ 0)) (b + 5) 3 (iZ 0)
theorem LCs_0 {h h1 : PH} {b : Nat} {T : List Tok} (sh : Sh h) (hb : b = 13 ∨ b = 68) (h24 : h.2.2.1 2 4 = (2, 0, b)) (w : tkW T) (c : tkC h1 T) (c6 : h1.1 3 6 = iZ 0) (f : fK (setI (setI (clrH h b) 2 5 (iZ 0)) 3 6 (iZ 0)) h1) : LCs h1 b T 0 sm0 := by
  have sh0 : Sh (setI (setI (clrH h b) 2 5 (iZ 0)) 3 6 (iZ 0)) := Sh_eq sh rfl
  have e1 : ∀ a k, a ≠ 3 → a ≠ 7 → a ≠ 8 → a ≠ 2 → h1.1 a k = (clrH h b).1 a k := fun a k a1 a2 a3 a4 => (congrFun (f.2.1 a a1 a2 a3) k).trans ((setI_ne (by omega)).trans (setI_ne (by omega)))
  have e5 : h1.1 b 5 = iZ 0 := (e1 b 5 (by omega) (by omega) (by omega) (by omega)).trans ((setI_ne (by omega)).trans ((setI_ne (by omega)).trans ((setI_ne (by omega)).trans (setI_self _ _ _ _))))
  have e6 : h1.1 b 6 = iZ 0 := (e1 b 6 (by omega) (by omega) (by omega) (by omega)).trans ((setI_ne (by omega)).trans ((setI_ne (by omega)).trans (setI_self _ _ _ _)))
  have e7 : h1.1 b 7 = iZ 0 := (e1 b 7 (by omega) (by omega) (by omega) (by omega)).trans ((setI_ne (by omega)).trans (setI_self _ _ _ _))
  have e3 : h1.1 (b + 5) 3 = iZ 0 := (e1 (b + 5) 3 (by omega) (by omega) (by omega) (by omega)).trans (setI_self _ _ _ _)
  have e25 : h1.1 2 5 = iZ 0 := (congrFun (f.2.1 2 (by decide) (by decide) (by decide)) 5).trans ((setI_ne (by omega)).trans (setI_self _ _ _ _))
  exact ⟨⟨Sh_fK sh0 f, hb, by rw [f.2.2.2.2 2 (by decide)]; exact h24, c, w, ⟨w.1, fun z => absurd rfl z⟩, c6, ⟨e25, by decide, fun z => absurd rfl z⟩, ⟨e6, by decide, fun j hj => absurd hj (Nat.not_lt_zero _), e7, by decide, fun j hj => absurd hj (Nat.not_lt_zero _)⟩, ⟨e3, by decide, fun j hj => absurd hj (Nat.not_lt_zero _)⟩⟩, ⟨e5, by decide, fun j hj => absurd hj (Nat.not_lt_zero _)⟩, ⟨rfl, fun j hj => absurd hj (Nat.not_lt_zero _)⟩, ⟨rfl, fun j hj => absurd hj (Nat.not_lt_zero _)⟩⟩
theorem Sh_clr {h : PH} {b : Nat} (s : Sh h) : Sh (clrH h b) := Sh_eq s rfl
theorem fT_clr {h h1 : PH} {b : Nat} (f : fK (setI (setI (clrH h b) 2 5 (iZ 0)) 3 6 (iZ 0)) h1) : fTt b h h1 := by
  refine fT_t ?_ (fT_K f)
  refine fT_t (h1 := clrH h b) ?_ (fT_t (fT_2 (k := 5) (v := iZ 0)) ⟨rfl, fun a _ a2 _ _ _ _ => setI_oth a2, fun _ _ _ _ => rfl, fun _ _ _ => rfl⟩)
  exact fT_t (fT_b (a := b) (by omega)) (fT_t (fT_b (a := b) (by omega)) (fT_t (fT_b (a := b) (by omega)) (fT_b (a := b + 5) (by omega))))
theorem tc_clear {d b : Nat} {h : PH} (sh : Sh h) (hb : b = 13 ∨ b = 68) : Rv d 87 [.inr (.inr (.inr (2, 0, b)))] h (none) (clrH h b) := Rv.of fun Q q => by
  refine Ev.sts 10 (c' := (16, [some (.inr (.inr (.inr (2, 0, b))))], [.inr (.inr (.inr (2, 0, b)))], (setI (setI (setI h b 5 ((iZ (0)))) b 6 ((iZ (0)))) b 7 ((iZ (0)))))) rfl ?_
  refine Ev.gfr (r := (5, 0, (b + 5))) rfl (sh_b4 sh hb) ?_
  refine Ev.sts 2 (c' := (23, [some (.inr (.inr (.inr (2, 0, b))))], [], (setI (setI (setI (setI h b 5 ((iZ (0)))) b 6 ((iZ (0)))) b 7 ((iZ (0)))) (b + 5) 3 ((iZ (0)))))) rfl ?_
  exact Ev.ret rfl (q)

theorem tc_tail1 {d b p : Nat} {j : Int} {T : List Tok} {s : Sm} {h : PH} {Q : Rs → PH → Prop} (l : LCs h b T p s) (q : ∀ h1, h1.1 2 5 = iZ (smE s).1 → h1.1 2 7 = iZ (if (smE s).1 = 0 then -1 else tS T (smE s).2) → LCs h1 b T p s → fTt b h h1 → Q (.inl none) h1) : Ev (d + 1) 110 (61, [some (.inr (.inr (.inr (7, 0, 2)))), some (.inl (iZ (1))), some (.inl (iZ (j)))], [], h) Q := by
  have l1 := (qc_w l.1).2.1
  have e9 := (qc_er l.1).2.1
  refine Ev.sts 1 (c' := (62, [some (.inr (.inr (.inr (7, 0, 2)))), some (.inl (iZ (1))), some (.inl (iZ (j)))], [.inl (iZ (1))], h)) rfl ?_
  refine Ev.brT (p := ¬ (iZ (1)) = (iZ (0))) (c1 := (81, [some (.inr (.inr (.inr (7, 0, 2)))), some (.inl (iZ (1))), some (.inl (iZ (j)))], [], h)) (c2 := (65, [some (.inr (.inr (.inr (7, 0, 2)))), some (.inl (iZ (1))), some (.inl (iZ (j)))], [], h)) (by decide) rfl ?_
  refine Ev.sts 2 (c' := (83, [some (.inr (.inr (.inr (7, 0, 2)))), some (.inl (iZ (1))), some (.inl (iZ (j)))], [.inr (.inr (.inr (7, 0, 2))), .inr (.inr (.inr (7, 0, 2)))], h)) rfl ?_
  refine Ev.gv (w := (iZ ((smE s).1))) rfl (qc_er l.1).1 ?_
  refine Ev.brc (p := ¬ (iZ ((smE s).1)) = (iZ (0))) (q := ¬ (((smE s).1 : Int)) = 0) (c1 := (93, [some (.inr (.inr (.inr (7, 0, 2)))), some (.inl (iZ (1))), some (.inl (iZ (j)))], [.inr (.inr (.inr (7, 0, 2)))], h)) (c2 := (89, [some (.inr (.inr (.inr (7, 0, 2)))), some (.inl (iZ (1))), some (.inl (iZ (j)))], [.inr (.inr (.inr (7, 0, 2)))], h)) rfl (not_congr (iZ_eq ⟨by omega, by omega⟩ ⟨by omega, by omega⟩)) (fun c0 => ?_) (fun c0 => ?_)
  · have el2 := qc_el l.1 (by omega)
    refine Ev.sts 1 (c' := (94, [some (.inr (.inr (.inr (7, 0, 2)))), some (.inl (iZ (1))), some (.inl (iZ (j)))], [.inr (.inr (.inr (7, 0, 2))), .inr (.inr (.inr (7, 0, 2)))], h)) rfl ?_
    refine Ev.gfr (r := (9, 0, 3)) rfl (sh_2_0 (qc_sh l.1)) ?_
    refine Ev.gfr (r := (20, 401, 7)) rfl (sh_3_2 (qc_sh l.1)) ?_
    refine Ev.sts 1 (c' := (101, [some (.inr (.inr (.inr (7, 0, 2)))), some (.inl (iZ (1))), some (.inl (iZ (j)))], [.inr (.inr (.inr (7, 0, 2))), .inr (.inr (.inr (20, 401, 7))), .inr (.inr (.inr (7, 0, 2)))], h)) rfl ?_
    refine Ev.gv (w := (iZ ((smE s).2))) rfl ((qc_er l.1).2.2 (by omega)) ?_
    refine Ev.callv (a := [.inr (.inr (.inr (20, 401, 7))), .inl (iZ ((smE s).2))]) rfl (sp_at (k := (smE s).2) (by omega) (by omega) (by omega) ((qc_tk l.1).2 _ el2).2.1) ?_
    refine Ev.sts 1 (c' := (110, [some (.inr (.inr (.inr (7, 0, 2)))), some (.inl (iZ (1))), some (.inl (iZ (j)))], [], (setI h 2 7 ((iZ (tS T (smE s).2)))))) rfl ?_
    exact Ev.ret rfl (q _ ((setI_ne (by omega)).trans (qc_er l.1).1) (by first | (rw [if_neg (by omega)]; exact setI_self _ _ _ _) | (rw [if_pos (by omega)]; exact setI_self _ _ _ _)) (LCs_7 l) fT_2)
  · refine Ev.sts 3 (c' := (110, [some (.inr (.inr (.inr (7, 0, 2)))), some (.inl (iZ (1))), some (.inl (iZ (j)))], [], (setI h 2 7 ((iZ (-1)))))) rfl ?_
    exact Ev.ret rfl (q _ ((setI_ne (by omega)).trans (qc_er l.1).1) (by first | (rw [if_neg (by omega)]; exact setI_self _ _ _ _) | (rw [if_pos (by omega)]; exact setI_self _ _ _ _)) (LCs_7 l) fT_2)

theorem tc_tail0 {d b p : Nat} {j : Int} {T : List Tok} {e : Nat × Nat} {F G : List Int} {P : List Cmd} {h : PH} {Q : Rs → PH → Prop} (q0 : QC h b T p e F G P) (q : ∀ h1, h1.1 2 5 = iZ 1 → h1.1 2 7 = iZ (tS T p) → fTt b h h1 → Q (.inl none) h1) : Ev (d + 1) 110 (61, [some (.inr (.inr (.inr (7, 0, 2)))), some (.inl (iZ (0))), some (.inl (iZ (j)))], [], h) Q := by
  have l1 := (qc_w q0).2.1
  have p1 := qc_p q0
  refine Ev.sts 1 (c' := (62, [some (.inr (.inr (.inr (7, 0, 2)))), some (.inl (iZ (0))), some (.inl (iZ (j)))], [.inl (iZ (0))], h)) rfl ?_
  refine Ev.brF (p := ¬ (iZ (0)) = (iZ (0))) (c1 := (81, [some (.inr (.inr (.inr (7, 0, 2)))), some (.inl (iZ (0))), some (.inl (iZ (j)))], [], h)) (c2 := (65, [some (.inr (.inr (.inr (7, 0, 2)))), some (.inl (iZ (0))), some (.inl (iZ (j)))], [], h)) (by decide) rfl ?_
  refine Ev.sts 5 (c' := (72, [some (.inr (.inr (.inr (7, 0, 2)))), some (.inl (iZ (0))), some (.inl (iZ (j)))], [.inr (.inr (.inr (7, 0, 2))), .inr (.inr (.inr (7, 0, 2)))], (setI h 2 5 ((iZ (1)))))) rfl ?_
  refine Ev.gfr (r := (9, 0, 3)) rfl (sh_2_0 (h := h) (qc_sh q0)) ?_
  refine Ev.gv (w := (iZ (p))) rfl (show h.1 3 6 = iZ p from qc_36 q0) ?_
  refine Ev.sts 4 (c' := (86, [some (.inr (.inr (.inr (7, 0, 2)))), some (.inl (iZ (0))), some (.inl (iZ (j)))], [.inl (iZ (1)), .inr (.inr (.inr (7, 0, 2)))], (setI (setI h 2 5 ((iZ (1)))) 2 6 ((iZ (p)))))) rfl ?_
  refine Ev.brT (p := ¬ (iZ (1)) = (iZ (0))) (c1 := (93, [some (.inr (.inr (.inr (7, 0, 2)))), some (.inl (iZ (0))), some (.inl (iZ (j)))], [.inr (.inr (.inr (7, 0, 2)))], (setI (setI h 2 5 ((iZ (1)))) 2 6 ((iZ (p)))))) (c2 := (89, [some (.inr (.inr (.inr (7, 0, 2)))), some (.inl (iZ (0))), some (.inl (iZ (j)))], [.inr (.inr (.inr (7, 0, 2)))], (setI (setI h 2 5 ((iZ (1)))) 2 6 ((iZ (p)))))) (by decide) rfl ?_
  refine Ev.sts 1 (c' := (94, [some (.inr (.inr (.inr (7, 0, 2)))), some (.inl (iZ (0))), some (.inl (iZ (j)))], [.inr (.inr (.inr (7, 0, 2))), .inr (.inr (.inr (7, 0, 2)))], (setI (setI h 2 5 ((iZ (1)))) 2 6 ((iZ (p)))))) rfl ?_
  refine Ev.gfr (r := (9, 0, 3)) rfl (sh_2_0 (h := h) (qc_sh q0)) ?_
  refine Ev.gfr (r := (20, 401, 7)) rfl (sh_3_2 (h := h) (qc_sh q0)) ?_
  refine Ev.sts 2 (c' := (104, [some (.inr (.inr (.inr (7, 0, 2)))), some (.inl (iZ (0))), some (.inl (iZ (j)))], [.inl (iZ (p)), .inr (.inr (.inr (20, 401, 7))), .inr (.inr (.inr (7, 0, 2)))], (setI (setI h 2 5 ((iZ (1)))) 2 6 ((iZ (p)))))) rfl ?_
  refine Ev.callv (a := [.inr (.inr (.inr (20, 401, 7))), .inl (iZ (p))]) rfl (sp_at (k := p) (by omega) (by omega) (by omega) ((qc_tk q0).2 p (qc_p q0)).2.1) ?_
  refine Ev.sts 1 (c' := (110, [some (.inr (.inr (.inr (7, 0, 2)))), some (.inl (iZ (0))), some (.inl (iZ (j)))], [], (setI (setI (setI h 2 5 ((iZ (1)))) 2 6 ((iZ (p)))) 2 7 ((iZ (tS T p)))))) rfl ?_
  exact Ev.ret rfl (q _ ((setI_ne (by omega)).trans ((setI_ne (by omega)).trans (setI_self _ _ _ _))) (setI_self _ _ _ _) (fT_t (fT_2 (k := 5) (v := iZ 1)) (fT_t (fT_2 (k := 6) (v := iZ p)) fT_2)))

theorem tpC_clr {h : PH} {b : Nat} {tp : List Int} (hb : b = 13 ∨ b = 68) (t : tpC h tp) : tpC (setI (clrH h b) 2 5 (iZ 0)) tp := by
  unfold clrH
  exact ⟨(setI_ne (by omega)).trans ((setI_ne (by omega)).trans ((setI_ne (by omega)).trans ((setI_ne (by omega)).trans ((setI_ne (by omega)).trans t.1)))), fun j hj => (setI_ne (by omega)).trans ((setI_ne (by omega)).trans ((setI_ne (by omega)).trans ((setI_ne (by omega)).trans ((setI_ne (by omega)).trans (t.2 j hj)))))⟩
theorem tc_read {d b : Nat} {tp : List Int} {h : PH} {Q : Rs → PH → Prop} (sh : Sh h) (hb : b = 13 ∨ b = 68) (h24 : h.2.2.1 2 4 = (2, 0, b)) (t : tpC h tp) (ht : tp.length ≤ 1600) (hb8 : byT tp) (q : ∀ h1, (rdE (lex tp)).1 ≤ 9 → h1.1 2 5 = iZ (rdE (lex tp)).1 → h1.1 2 7 = iZ (rdE (lex tp)).2 → ((rdE (lex tp)).1 = 0 → ∃ p, LCs h1 b (lex tp) p (rdS (lex tp))) → fTt b h h1 → Q (.inl none) h1) : Rn (d + 46) 110 [.inr (.inr (.inr (7, 0, 2)))] h Q := by
  refine Ev.sts 1 (c' := (1, [some (.inr (.inr (.inr (7, 0, 2)))), none, none], [.inr (.inr (.inr (7, 0, 2)))], h)) rfl ?_
  refine Ev.gfr (r := (2, 0, b)) rfl h24 ?_
  refine Ev.callv (a := [.inr (.inr (.inr (2, 0, b)))]) rfl (tc_clear sh hb) ?_
  refine Ev.sts 4 (c' := (13, [some (.inr (.inr (.inr (7, 0, 2)))), none, none], [.inr (.inr (.inr (7, 0, 2)))], (setI (clrH h b) 2 5 ((iZ (0)))))) rfl ?_
  refine Ev.gfr (r := (9, 0, 3)) rfl (sh_2_0 (h := clrH h b) (Sh_clr sh)) ?_
  refine Ev.callw (a := [.inr (.inr (.inr (9, 0, 3)))]) rfl (sl_cut (Sh_eq sh rfl) (tpC_clr hb t) ht hb8 (fun h1 c1 c6 f1 => ?_))
  have l1 := LCs_0 sh hb h24 (lex_w ht hb8) c1 c6 f1
  refine Ev.sts 1 (c' := (20, [some (.inr (.inr (.inr (7, 0, 2)))), none, none], [.inr (.inr (.inr (7, 0, 2)))], h1)) rfl ?_
  refine Ev.callw (a := [.inr (.inr (.inr (7, 0, 2)))]) rfl (tc_moon l1 (fun rm h2 l2 f2 => ?_) (fun rm g2 e2 F2 G2 P2 q2 f2 => ?_))
  · refine Ev.sts 3 (c' := (26, [some (.inr (.inr (.inr (7, 0, 2)))), some (.inl (iZ (1))), some (.inl (iZ (0)))], [], h2)) rfl ?_
    refine tc_lines_lp (d := d) 400 0 _ _ ((rdM (lex tp)).2.2.foldl (smQ (lex tp)) sm0) _ rfl l2 (by rw [smP_Q]; exact Nat.zero_le _) (fun rr h3 j3 l3 f3 => ?_) (fun rr h3 j3 e3 F3 G3 P3 q3 f3 => ?_)
    · refine tc_tail1 (d := (d + 45)) l3 (fun h4 x5 x7 l4 f4 => ?_)
      have eE : rdE (lex tp) = if (smE (rdS (lex tp))).1 = 0 then (0, -1) else ((smE (rdS (lex tp))).1, tS (lex tp) (smE (rdS (lex tp))).2) := by
        unfold rdE
        rw [if_pos (show (rdM (lex tp)).1 = true from rm), if_pos (show (rdL (lex tp)).1 = true from rr)]
      have e9 : (smE (rdS (lex tp))).1 ≤ 9 := (qc_er l3.1).2.1
      refine q h4 (by rw [eE]; split <;> first | exact Nat.zero_le _ | exact e9) ?_ ?_ (fun z_ => ⟨_, l4⟩) (fT_t (fT_clr f1) (fT_t (fT_B f2) (fT_t (fT_B f3) f4)))
      · rw [eE, x5]
        show iZ ((smE (rdS (lex tp))).1 : Int) = _
        by_cases c : (smE (rdS (lex tp))).1 = 0
        · rw [if_pos c, c]
        · rw [if_neg c]
      · rw [eE, x7]
        show iZ (if (smE (rdS (lex tp))).1 = 0 then -1 else tS (lex tp) (smE (rdS (lex tp))).2) = _
        by_cases c : (smE (rdS (lex tp))).1 = 0
        · rw [if_pos c, if_pos c]
        · rw [if_neg c, if_neg c]
    · refine tc_tail0 (d := (d + 45)) q3 (fun h4 x5 x7 f4 => ?_)
      have eE : rdE (lex tp) = (1, tS (lex tp) (rdL (lex tp)).2.1) := by
        unfold rdE
        rw [if_pos (show (rdM (lex tp)).1 = true from rm), if_neg (by rw [show (rdL (lex tp)).1 = false from rr]; decide)]
      refine q h4 (by rw [eE]; exact (by decide : (1 : Nat) ≤ 9)) (by rw [eE]; exact x5) (by rw [eE]; exact x7) (fun z_ => ?_) (fT_t (fT_clr f1) (fT_t (fT_B f2) (fT_t (fT_B f3) f4)))
      rw [eE] at z_
      exact absurd z_ (by show ¬ (1 : Nat) = 0; decide)
  · refine Ev.sts 3 (c' := (26, [some (.inr (.inr (.inr (7, 0, 2)))), some (.inl (iZ (0))), some (.inl (iZ (0)))], [], g2)) rfl ?_
    refine tc_ln_x (d := (d + 46)) (i := 0) (by decide) ?_
    refine tc_tail0 (d := (d + 45)) q2 (fun h3 x5 x7 f3 => ?_)
    refine q h3 (by unfold rdE rdM; rw [rm]; exact (by decide : (1 : Nat) ≤ 9)) ?_ ?_ (fun z_ => ?_) (fT_t (fT_clr f1) (fT_t (fT_B f2) f3))
    · rw [x5]; unfold rdE rdM; rw [rm]; rfl
    · rw [x7]; unfold rdE rdM; rw [rm]; rfl
    · unfold rdE rdM at z_; rw [rm] at z_; exact absurd z_ (by show ¬ (1 : Nat) = 0; decide)

