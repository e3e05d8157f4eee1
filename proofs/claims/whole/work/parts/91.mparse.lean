/-! The reference reads a book: a walk. -/
def f92 (h h1 : PH) : Prop := h1.2 = h.2 ∧ ∀ a, a ≠ 92 → h1.1 a = h.1 a
theorem f92_r (h : PH) : f92 h h := ⟨rfl, fun _ _ => rfl⟩
theorem f92_t {h h1 h2 : PH} (a : f92 h h1) (b : f92 h1 h2) : f92 h h2 := ⟨b.1.trans a.1, fun x hx => (b.2 x hx).trans (a.2 x hx)⟩
theorem f92_I {h : PH} {k : Nat} {v : Int32} : f92 h (setI h 92 k v) := ⟨rfl, fun a ha => setI_oth ha⟩
theorem fQ_92 {h h1 : PH} (f : f92 h h1) : fQ 0 h h1 := ⟨by rw [f.1], fun a _ => by rw [f.1], fun a _ _ _ a4 _ => f.2 a a4, fun k _ _ _ _ _ => by rw [f.2 83 (by decide)], by unfold hN; rw [f.1]; exact Nat.le_refl _, by unfold hN; rw [f.1]; exact Nat.le_refl _, by unfold hS; rw [f.1]; exact Nat.le_refl _⟩
theorem tmC_92 {h h1 : PH} {T : List Tok} (f : f92 h h1) (t : tmC h T) : tmC h1 T := fun j hj => by
  have x := t j hj
  unfold tmJ at x ⊢
  rw [f.2 85 (by decide), f.2 87 (by decide), f.1]
  exact x
/-- a walk begins -/
def pzH (h : PH) : PH := setI (setI (setI (setI (setI h 92 2 (iZ 1)) 92 3 (iZ 5)) 83 7 (iZ 0)) 83 14 (iZ 0)) 83 16 (iZ 0)
theorem pzH_o {h : PH} {a k : Nat} (h1 : ¬ (a = 92 ∧ (k = 2 ∨ k = 3))) (h2 : ¬ (a = 83 ∧ (k = 7 ∨ k = 14 ∨ k = 16))) : (pzH h).1 a k = h.1 a k := (setI_ne (by omega)).trans ((setI_ne (by omega)).trans ((setI_ne (by omega)).trans ((setI_ne (by omega)).trans (setI_ne (by omega)))))
theorem QM_0 {h : PH} {T : List Tok} {sc : Nat} (sh : Sh h) (tk : tmC h T) (w : tkW T) (s1 : sc ≤ 1) (s8 : h.1 83 8 = iZ sc) (ky : kyM h) : QM (pzH h) T sc 0 [] [] := by
  refine ⟨Sh_eq sh rfl, fun j hj => ?_, w, w.1, (setI_ne (by omega)).trans ((setI_ne (by omega)).trans (setI_self _ _ _ _)), (pzH_o (by omega) (by omega)).trans s8, s1, ⟨(setI_ne (by omega)).trans (setI_self _ _ _ _), by decide, fun j hj => absurd hj (Nat.not_lt_zero _)⟩, setI_self _ _ _ _, fun _ j hj => absurd hj (Nat.not_lt_zero _), ky⟩
  have x := tk j hj
  unfold tmJ at x ⊢
  rw [pzH_o (h := h) (a := 85) (k := j) (by omega) (by omega), pzH_o (h := h) (a := 87) (k := j) (by omega) (by omega)]
  exact x
theorem fQ_pz {h : PH} : fQ 0 h (pzH h) := ⟨rfl, fun _ _ => rfl, fun a a1 _ _ a4 _ => (setI_oth a1).trans ((setI_oth a1).trans ((setI_oth a1).trans ((setI_oth a4).trans (setI_oth a4)))), fun k k1 _ _ k4 k5 => pzH_o (by omega) (by omega), Nat.le_refl _, Nat.le_refl _, Nat.le_refl _⟩
theorem pz_r {h : PH} (z : ∀ i, i < 64 → h.1 92 i = iZ 0) : (pzH h).1 92 0 = iZ 0 ∧ (pzH h).1 92 1 = iZ 0 := ⟨(pzH_o (by omega) (by omega)).trans (z 0 (by decide)), (pzH_o (by omega) (by omega)).trans (z 1 (by decide))⟩
theorem moonF_4 {T : List Tok} {p : Nat} (h : tK T p = 4) : moonF T p = mnN T 400 (p + 1) := by
  unfold moonF mnN
  rw [if_pos h]
theorem moonF_n {T : List Tok} {p : Nat} (h : ¬ tK T p = 4) : moonF T p = (true, p, []) := by
  unfold moonF
  rw [if_neg h]
theorem MOQ_0 {h : PH} {T : List Tok} (q : QM (pzH h) T 1 0 [] []) (z : ∀ i, i < 64 → h.1 92 i = iZ 0) : MOQ (pzH h) T 0 sm0 := ⟨q, (pz_r z).1, (pz_r z).2, fun j hj => absurd hj (Nat.not_lt_zero _), by decide, rfl⟩
theorem fold_Q {T : List Tok} : ∀ (l : List Nat) (s : Sm), (l.foldl (smQ T) s).2.2 = s.2.2 := by
  intro l
  induction l with
  | nil => intro s; rfl
  | cons q l ih => intro s; exact ih (smQ T s q)
theorem fold_M {T : List Tok} : ∀ (l : List Nat) (s : Sm), (smM s).length ≤ (smM (l.foldl (smQ T) s)).length := by
  intro l
  induction l with
  | nil => intro s; exact Nat.le_refl _
  | cons q l ih =>
    intro s
    have a := ih (smQ T s q)
    have b : (smM s).length ≤ (smM (smQ T s q)).length := by
      show (smM s).length ≤ (if (smM s).length < 8 then smM s ++ [tN T q] else smM s).length
      by_cases c : (smM s).length < 8
      · rw [if_pos c, app_len']; omega
      · rw [if_neg c]; exact Nat.le_refl _
    exact Nat.le_trans b a
theorem nmR_0 {s : Sm} (hF : smF s = []) (hG : smG s = []) : nmR [] s := by
  refine ⟨fun w => by rw [hF]; rfl, fun w => ?_, by rw [hF, hG]; rfl⟩
  rw [hF, hG]
  constructor
  · intro z; obtain ⟨_, h, _⟩ := z; cases h
  · intro z
    rcases z with a | a
    · exact absurd a (by show ¬ (0 : Int) ≤ -1; decide)
    · exact absurd a (by show ¬ (0 : Int) ≤ -1; decide)
theorem RMS_m {h : PH} {T : List Tok} {p : Nat} {s : Sm} (m : MOQ h T p s) (e : s.2.2 = sm0.2.2) (ok : smOk s) (e2 : mnR2 h (moL (smM s))) : RMS h T p [] s := by
  obtain ⟨m1, m2, m3, m4, m5, m6⟩ := m
  have eF : smF s = [] := congrArg (fun y => y.1) e
  have eG : smG s = [] := congrArg (fun y => y.2.1) e
  have eP : smP s = [] := congrArg (fun y => y.2.2.1) e
  have eT : smT s = [] := congrArg (fun y => y.2.2.2.1) e
  have eX : smX s = [] := congrArg (fun y => y.2.2.2.2) e
  refine ⟨by rw [eP]; exact m1, by rw [eF]; exact m2, by rw [eG]; exact m3, e2, fun f hf => ?_, fun g hg => ?_, nmR_0 eF eG, ok, m6, by rw [eP]; exact Nat.zero_le _⟩
  · rw [eT] at hf; exact absurd hf (Nat.not_lt_zero _)
  · rw [eX] at hg; exact absurd hg (Nat.not_lt_zero _)
theorem mnR2_0 {h : PH} : mnR2 (pzH h) (moL (smM sm0)) := by
  refine ⟨(setI_ne (by omega)).trans ((setI_ne (by omega)).trans ((setI_ne (by omega)).trans ((setI_ne (by omega)).trans (setI_self _ _ _ _)))), fun j hj => ?_⟩
  have e : j = 0 := by
    have : (moL (smM sm0)).length = 1 := rfl
    omega
  subst e
  exact (setI_ne (by omega)).trans ((setI_ne (by omega)).trans ((setI_ne (by omega)).trans (setI_self _ _ _ _)))
theorem mnR2_R {h h1 : PH} {M : List Int} (m : mnR2 h M) (f : fR h h1) : mnR2 h1 M := by
  have g : ∀ k, h1.1 92 k = h.1 92 k := fun k => congrFun (f.2.1 92 (by decide) (by decide)) k
  exact ⟨(g _).trans m.1, fun j hj => (g _).trans (m.2 j hj)⟩
theorem mnR2_M {h : PH} {T : List Tok} {p : Nat} {s : Sm} (m : MOQ h T p s) (e : h.1 92 2 = iZ (smM s).length) (h1 : 1 ≤ (smM s).length) : mnR2 h (moL (smM s)) := by
  have x : moL (smM s) = smM s := if_neg (fun z => by rw [z] at h1; exact absurd h1 (by decide))
  rw [x]
  exact ⟨e, m.2.2.2.1⟩
theorem mn_1 {T : List Tok} {n p : Nat} (h : (mnN T n p).1 = true) : ∃ l, (mnN T n p).2.2 = p :: l := by
  by_cases a : tK T p = 3
  · rw [mnN_t a]; exact ⟨_, rfl⟩
  · rw [mnN_f a] at h; cases h

theorem mf_init_lp {d : Nat} {Q : Rs → PH → Prop} (m : Nat) : ∀ (j : Nat) (h : PH), j ≤ 64 → 64 < j + m → Sh h → (∀ i, i < j → h.1 92 i = iZ 0) → (∀ h1, (∀ i, i < 64 → h1.1 92 i = iZ 0) → f92 h h1 → Ev d 180 (24, [some (.inr (.inr (.inr (11, 0, 83)))), some (.inl (iZ (((64 : Nat) : Int))))], [], h1) Q) → Ev d 180 (2, [some (.inr (.inr (.inr (11, 0, 83)))), some (.inl (iZ (j)))], [], h) Q := by
  induction m with
  | zero => intro j h h1 h2; omega
  | succ m ih =>
    intro j h h1 h2 sh z0 q
    refine Ev.sts 2 (c' := (4, [some (.inr (.inr (.inr (11, 0, 83)))), some (.inl (iZ (j)))], [.inr (.inr (.inr (11, 0, 83))), .inl (iZ (j))], h)) rfl ?_
    refine Ev.gfr (r := (20, 64, 92)) rfl (sh_83_17 (h := h) sh) ?_
    refine Ev.sts 1 (c' := (8, [some (.inr (.inr (.inr (11, 0, 83)))), some (.inl (iZ (j)))], [.inl (iZ (64)), .inl (iZ (j))], h)) rfl ?_
    refine Ev.brc (p := (iZ (64)) ≤ (iZ (j))) (q := ((64 : Int)) ≤ j) (c1 := (24, [some (.inr (.inr (.inr (11, 0, 83)))), some (.inl (iZ (j)))], [], h)) (c2 := (11, [some (.inr (.inr (.inr (11, 0, 83)))), some (.inl (iZ (j)))], [], h)) rfl (iZ_le ⟨by omega, by omega⟩ ⟨by omega, by omega⟩) (fun c0 => ?_) (fun c0 => ?_)
    · obtain rfl : j = 64 := by omega
      exact q h z0 (f92_r h)
    · refine Ev.sts 1 (c' := (12, [some (.inr (.inr (.inr (11, 0, 83)))), some (.inl (iZ (j)))], [.inr (.inr (.inr (11, 0, 83)))], h)) rfl ?_
      refine Ev.gfr (r := (20, 64, 92)) rfl (sh_83_17 (h := h) sh) ?_
      refine Ev.sts 2 (c' := (17, [some (.inr (.inr (.inr (11, 0, 83)))), some (.inl (iZ (j)))], [.inl (iZ (0)), .inl (iZ (j)), .inr (.inr (.inr (20, 64, 92)))], h)) rfl ?_
      refine Ev.sto (j := (iZ (j))) (n := 64) (h2 := (setI h 92 j ((iZ (0))))) (iZ_in (by omega) (by omega) (by omega)) rfl (by rw [iZ_ix (n := j) (by omega) (by omega)]) ?_
      refine Ev.stc (c1 := (21, [some (.inr (.inr (.inr (11, 0, 83)))), some (.inl ((iZ (j)) + (iZ (1))))], [], (setI h 92 j ((iZ (0)))))) (c2 := (21, [some (.inr (.inr (.inr (11, 0, 83)))), some (.inl (iZ (j + 1)))], [], (setI h 92 j ((iZ (0)))))) rfl (by rw [iZ_add]) ?_
      refine Ev.sts 1 (c' := (2, [some (.inr (.inr (.inr (11, 0, 83)))), some (.inl (iZ (j + 1)))], [], (setI h 92 j ((iZ (0)))))) rfl ?_
      refine ih (j + 1) _ (by omega) (by omega) (Sh_eq sh rfl) (fun i hi => ?_) (fun h1 z1 f1 => q h1 z1 (f92_t f92_I f1))
      by_cases e : i = j
      · rw [e]; exact setI_self _ _ _ _
      · exact (setI_ne (by omega)).trans (z0 i (by omega))

theorem mf_p0_t {d : Nat} {jx : Int} {T : List Tok} {h : PH} {Q : Rs → PH → Prop} (sh : Sh h) (tk : tmC h T) (w0 : tkW T) (s8 : h.1 83 8 = iZ (0 : Nat)) (ky : kyM h) (z0 : ∀ i, i < 64 → h.1 92 i = iZ 0) (hn : 103 ≤ hN h) (k1 : (rdM T).1 = true → (rdL T).1 = true → ∀ h1 p W, QM h1 T 0 p [] W → fQ 0 h h1 → Q (.inl (some (.inl (iZ 1)))) h1) (kM : (rdM T).1 = false → ∀ h1, erM h1 T 1 (rdM T).2.1 → fQ 0 h h1 → Q (.inl (some (.inl (iZ 0)))) h1) (kL : (rdM T).1 = true → (rdL T).1 = false → ∀ h1, erM h1 T 1 (rdL T).2.1 → fQ 0 h h1 → Q (.inl (some (.inl (iZ 0)))) h1) : Ev (d + 71) 180 (24, [some (.inr (.inr (.inr (11, 0, 83)))), some (.inl (iZ (jx)))], [], h) Q := by
  refine Ev.sts 1 (c' := (25, [some (.inr (.inr (.inr (11, 0, 83)))), some (.inl (iZ (jx)))], [.inr (.inr (.inr (11, 0, 83)))], h)) rfl ?_
  refine Ev.gfr (r := (20, 64, 92)) rfl (sh_83_17 (h := h) sh) ?_
  refine Ev.sts 2 (c' := (30, [some (.inr (.inr (.inr (11, 0, 83)))), some (.inl (iZ (jx)))], [.inl (iZ (1)), .inl (iZ (2)), .inr (.inr (.inr (20, 64, 92)))], h)) rfl ?_
  refine Ev.sto (j := (iZ (2))) (n := 64) (h2 := (setI h 92 2 ((iZ (1))))) (by decide) rfl rfl ?_
  refine Ev.sts 1 (c' := (32, [some (.inr (.inr (.inr (11, 0, 83)))), some (.inl (iZ (jx)))], [.inr (.inr (.inr (11, 0, 83)))], (setI h 92 2 ((iZ (1)))))) rfl ?_
  refine Ev.gfr (r := (20, 64, 92)) rfl (sh_83_17 (h := h) sh) ?_
  refine Ev.sts 2 (c' := (37, [some (.inr (.inr (.inr (11, 0, 83)))), some (.inl (iZ (jx)))], [.inl (iZ (5)), .inl (iZ (3)), .inr (.inr (.inr (20, 64, 92)))], (setI h 92 2 ((iZ (1)))))) rfl ?_
  refine Ev.sto (j := (iZ (3))) (n := 64) (h2 := (setI (setI h 92 2 ((iZ (1)))) 92 3 ((iZ (5))))) (by decide) rfl rfl ?_
  refine Ev.sts 9 (c' := (53, [some (.inr (.inr (.inr (11, 0, 83)))), some (.inl (iZ (jx)))], [], (setI (setI (setI (setI (setI h 92 2 ((iZ (1)))) 92 3 ((iZ (5)))) 83 7 ((iZ (0)))) 83 14 ((iZ (0)))) 83 16 ((iZ (0)))))) rfl ?_
  have q1 : QM (setI (setI (setI (setI (setI h 92 2 ((iZ (1)))) 92 3 ((iZ (5)))) 83 7 ((iZ (0)))) 83 14 ((iZ (0)))) 83 16 ((iZ (0)))) T 0 0 [] [] := QM_0 sh tk w0 (by decide) s8 ky
  have f1 : fQ 0 h (setI (setI (setI (setI (setI h 92 2 ((iZ (1)))) 92 3 ((iZ (5)))) 83 7 ((iZ (0)))) 83 14 ((iZ (0)))) 83 16 ((iZ (0)))) := fQ_pz
  have r1 : (setI (setI (setI (setI (setI h 92 2 ((iZ (1)))) 92 3 ((iZ (5)))) 83 7 ((iZ (0)))) 83 14 ((iZ (0)))) 83 16 ((iZ (0)))).1 92 0 = iZ 0 ∧ (setI (setI (setI (setI (setI h 92 2 ((iZ (1)))) 92 3 ((iZ (5)))) 83 7 ((iZ (0)))) 83 14 ((iZ (0)))) 83 16 ((iZ (0)))).1 92 1 = iZ 0 := pz_r z0
  generalize (setI (setI (setI (setI (setI h 92 2 ((iZ (1)))) 92 3 ((iZ (5)))) 83 7 ((iZ (0)))) 83 14 ((iZ (0)))) 83 16 ((iZ (0)))) = h1 at q1 f1 r1 ⊢
  refine Ev.sts 2 (c' := (57, [some (.inr (.inr (.inr (11, 0, 83)))), some (.inl (iZ (jx)))], [.inr (.inl ((441838 : Int64))), .inr (.inr (.inr (11, 0, 83)))], h1)) rfl ?_
  refine Ev.callw (a := [.inr (.inr (.inr (11, 0, 83))), .inr (.inl ((441838 : Int64)))]) rfl (mf_ifWord (K := 4) q1 (by decide) (by decide) (fun ky2 h2 q2 f2 => ?_) (fun ky2 => ?_))
  · have z2 := qm_p q2
    refine Ev.brF (p := (iZ (1)) = (iZ (0))) (c1 := (72, [some (.inr (.inr (.inr (11, 0, 83)))), some (.inl (iZ (jx)))], [], h2)) (c2 := (63, [some (.inr (.inr (.inr (11, 0, 83)))), some (.inl (iZ (jx)))], [], h2)) (by decide) rfl ?_
    refine Ev.sts 1 (c' := (64, [some (.inr (.inr (.inr (11, 0, 83)))), some (.inl (iZ (jx)))], [.inr (.inr (.inr (11, 0, 83)))], h2)) rfl ?_
    refine Ev.callw (a := [.inr (.inr (.inr (11, 0, 83)))]) rfl (mf_moon0 q2 (Nat.zero_le _) (by have := (fQ_t hn f1 (fQ_R f2)).2.2.2.2.1; omega) (r0_R r1 f2) (fun m3 h3 W3 q3 w3 r3 f3 => ?_) (fun m3 g3 a3 f3 => ?_))
    · refine Ev.brT (p := ¬ (iZ (1)) = (iZ (0))) (c1 := (72, [some (.inr (.inr (.inr (11, 0, 83)))), some (.inl (iZ (jx)))], [], h3)) (c2 := (70, [some (.inr (.inr (.inr (11, 0, 83)))), some (.inl (iZ (jx)))], [], h3)) (by decide) rfl ?_
      have eM : rdM T = mnN T 400 (0 + 1) := moonF_4 (by assumption)
      have eL : rdL T = lnsF T 400 ((mnN T 400 (0 + 1)).2.1) := by unfold rdL; rw [eM]
      have bM : (rdM T).1 = true := by rw [eM]; exact m3
      refine mf_lines0_lp 400 _ _ _ _ _ (by omega) q3 w3 r3 (fun rr hz Wz qz fz => ?_) (fun rr hz az fz => ?_)
      · exact k1 bM (by rw [eL]; exact rr) hz _ Wz qz (fQ_t hn (fQ_t hn (fQ_t hn f1 (fQ_R f2)) f3) (fQ_R fz))
      · exact kL bM (by rw [eL]; exact rr) hz (by rw [eL]; exact az) (fQ_t hn (fQ_t hn (fQ_t hn f1 (fQ_R f2)) f3) (fQ_R fz))
    · refine Ev.brF (p := ¬ (iZ (0)) = (iZ (0))) (c1 := (72, [some (.inr (.inr (.inr (11, 0, 83)))), some (.inl (iZ (jx)))], [], g3)) (c2 := (70, [some (.inr (.inr (.inr (11, 0, 83)))), some (.inl (iZ (jx)))], [], g3)) (by decide) rfl ?_
      refine Ev.sts 1 (c' := (71, [some (.inr (.inr (.inr (11, 0, 83)))), some (.inl (iZ (jx)))], [.inl (iZ (0))], g3)) rfl ?_
      have eM : rdM T = mnN T 400 (0 + 1) := moonF_4 (by assumption)
      exact Ev.ret rfl (kM (by rw [eM]; exact m3) _ (by rw [eM]; exact a3) (fQ_t hn (fQ_t hn f1 (fQ_R f2)) f3))
  · refine Ev.brT (p := (iZ (0)) = (iZ (0))) (c1 := (72, [some (.inr (.inr (.inr (11, 0, 83)))), some (.inl (iZ (jx)))], [], h1)) (c2 := (63, [some (.inr (.inr (.inr (11, 0, 83)))), some (.inl (iZ (jx)))], [], h1)) (by decide) rfl ?_
    have eM : rdM T = (true, 0, []) := moonF_n (by assumption)
    have eL : rdL T = lnsF T 400 0 := by unfold rdL; rw [eM]
    have bM : (rdM T).1 = true := by rw [eM]
    refine mf_lines0_lp 400 _ _ _ _ _ (by omega) q1 (Nat.zero_le _) r1 (fun rr hz Wz qz fz => ?_) (fun rr hz az fz => ?_)
    · exact k1 bM (by rw [eL]; exact rr) hz _ Wz qz (fQ_t hn f1 (fQ_R fz))
    · exact kL bM (by rw [eL]; exact rr) hz (by rw [eL]; exact az) (fQ_t hn f1 (fQ_R fz))

theorem mf_parse0 {d : Nat} {T : List Tok} {h : PH} {Q : Rs → PH → Prop} (sh : Sh h) (tk : tmC h T) (w0 : tkW T) (s8 : h.1 83 8 = iZ (0 : Nat)) (ky : kyM h) (hn : 103 ≤ hN h) (k1 : (rdM T).1 = true → (rdL T).1 = true → ∀ h1 p W, QM h1 T 0 p [] W → fQ 0 h h1 → Q (.inl (some (.inl (iZ 1)))) h1) (kM : (rdM T).1 = false → ∀ h1, erM h1 T 1 (rdM T).2.1 → fQ 0 h h1 → Q (.inl (some (.inl (iZ 0)))) h1) (kL : (rdM T).1 = true → (rdL T).1 = false → ∀ h1, erM h1 T 1 (rdL T).2.1 → fQ 0 h h1 → Q (.inl (some (.inl (iZ 0)))) h1) : Rn (d + 71) 180 [.inr (.inr (.inr (11, 0, 83)))] h Q := by
  refine Ev.sts 2 (c' := (2, [some (.inr (.inr (.inr (11, 0, 83)))), some (.inl (iZ (0)))], [], h)) rfl ?_
  refine mf_init_lp (d := d + 71) 65 0 _ (by decide) (by decide) sh (fun i hi => absurd hi (Nat.not_lt_zero _)) (fun h1 z1 f1 => ?_)
  exact mf_p0_t (Sh_eq sh f1.1) (tmC_92 f1 tk) w0 (by rw [f1.2 83 (by decide)]; exact s8) (by unfold kyM at ky ⊢; rw [f1.1]; exact ky) z1 (by have := (fQ_92 f1).2.2.2.2.1; omega) (fun a b hz p W qz fz => k1 a b hz p W qz (fQ_t hn (fQ_92 f1) fz)) (fun a hz az fz => kM a hz az (fQ_t hn (fQ_92 f1) fz)) (fun a b hz az fz => kL a b hz az (fQ_t hn (fQ_92 f1) fz))

theorem mf_p1_t {d : Nat} {jx : Int} {T : List Tok} {h : PH} {Q : Rs → PH → Prop} (sh : Sh h) (tk : tmC h T) (w0 : tkW T) (s8 : h.1 83 8 = iZ (1 : Nat)) (ky : kyM h) (z0 : ∀ i, i < 64 → h.1 92 i = iZ 0) (hn : 103 ≤ hN h) (hsM : (rdM T).1 = true) (hsL : (rdL T).1 = true) (k1 : (smE (rdS T)).1 = 0 → ∀ h1 N1 p1, RMS h1 T p1 N1 (rdS T) → fQ 7 h h1 → Q (.inl (some (.inl (iZ 1)))) h1) (k0 : (smE (rdS T)).1 ≠ 0 → ∀ h1, erM h1 T (smE (rdS T)).1 (smE (rdS T)).2 → fQ 7 h h1 → Q (.inl (some (.inl (iZ 0)))) h1) : Ev (d + 71) 180 (24, [some (.inr (.inr (.inr (11, 0, 83)))), some (.inl (iZ (jx)))], [], h) Q := by
  refine Ev.sts 1 (c' := (25, [some (.inr (.inr (.inr (11, 0, 83)))), some (.inl (iZ (jx)))], [.inr (.inr (.inr (11, 0, 83)))], h)) rfl ?_
  refine Ev.gfr (r := (20, 64, 92)) rfl (sh_83_17 (h := h) sh) ?_
  refine Ev.sts 2 (c' := (30, [some (.inr (.inr (.inr (11, 0, 83)))), some (.inl (iZ (jx)))], [.inl (iZ (1)), .inl (iZ (2)), .inr (.inr (.inr (20, 64, 92)))], h)) rfl ?_
  refine Ev.sto (j := (iZ (2))) (n := 64) (h2 := (setI h 92 2 ((iZ (1))))) (by decide) rfl rfl ?_
  refine Ev.sts 1 (c' := (32, [some (.inr (.inr (.inr (11, 0, 83)))), some (.inl (iZ (jx)))], [.inr (.inr (.inr (11, 0, 83)))], (setI h 92 2 ((iZ (1)))))) rfl ?_
  refine Ev.gfr (r := (20, 64, 92)) rfl (sh_83_17 (h := h) sh) ?_
  refine Ev.sts 2 (c' := (37, [some (.inr (.inr (.inr (11, 0, 83)))), some (.inl (iZ (jx)))], [.inl (iZ (5)), .inl (iZ (3)), .inr (.inr (.inr (20, 64, 92)))], (setI h 92 2 ((iZ (1)))))) rfl ?_
  refine Ev.sto (j := (iZ (3))) (n := 64) (h2 := (setI (setI h 92 2 ((iZ (1)))) 92 3 ((iZ (5))))) (by decide) rfl rfl ?_
  refine Ev.sts 9 (c' := (53, [some (.inr (.inr (.inr (11, 0, 83)))), some (.inl (iZ (jx)))], [], (setI (setI (setI (setI (setI h 92 2 ((iZ (1)))) 92 3 ((iZ (5)))) 83 7 ((iZ (0)))) 83 14 ((iZ (0)))) 83 16 ((iZ (0)))))) rfl ?_
  have q1 : QM (setI (setI (setI (setI (setI h 92 2 ((iZ (1)))) 92 3 ((iZ (5)))) 83 7 ((iZ (0)))) 83 14 ((iZ (0)))) 83 16 ((iZ (0)))) T 1 0 [] [] := QM_0 sh tk w0 (by decide) s8 ky
  have f1 : fQ 0 h (setI (setI (setI (setI (setI h 92 2 ((iZ (1)))) 92 3 ((iZ (5)))) 83 7 ((iZ (0)))) 83 14 ((iZ (0)))) 83 16 ((iZ (0)))) := fQ_pz
  have m1 : MOQ (setI (setI (setI (setI (setI h 92 2 ((iZ (1)))) 92 3 ((iZ (5)))) 83 7 ((iZ (0)))) 83 14 ((iZ (0)))) 83 16 ((iZ (0)))) T 0 sm0 := MOQ_0 q1 z0
  have e1 : mnR2 (setI (setI (setI (setI (setI h 92 2 ((iZ (1)))) 92 3 ((iZ (5)))) 83 7 ((iZ (0)))) 83 14 ((iZ (0)))) 83 16 ((iZ (0)))) (moL (smM sm0)) := mnR2_0
  generalize (setI (setI (setI (setI (setI h 92 2 ((iZ (1)))) 92 3 ((iZ (5)))) 83 7 ((iZ (0)))) 83 14 ((iZ (0)))) 83 16 ((iZ (0)))) = h1 at q1 f1 m1 e1 ⊢
  refine Ev.sts 2 (c' := (57, [some (.inr (.inr (.inr (11, 0, 83)))), some (.inl (iZ (jx)))], [.inr (.inl ((441838 : Int64))), .inr (.inr (.inr (11, 0, 83)))], h1)) rfl ?_
  refine Ev.callw (a := [.inr (.inr (.inr (11, 0, 83))), .inr (.inl ((441838 : Int64)))]) rfl (mf_ifWord (K := 4) q1 (by decide) (by decide) (fun ky2 h2 q2 f2 => ?_) (fun ky2 => ?_))
  · have z2 := qm_p q2
    refine Ev.brF (p := (iZ (1)) = (iZ (0))) (c1 := (72, [some (.inr (.inr (.inr (11, 0, 83)))), some (.inl (iZ (jx)))], [], h2)) (c2 := (63, [some (.inr (.inr (.inr (11, 0, 83)))), some (.inl (iZ (jx)))], [], h2)) (by decide) rfl ?_
    refine Ev.sts 1 (c' := (64, [some (.inr (.inr (.inr (11, 0, 83)))), some (.inl (iZ (jx)))], [.inr (.inr (.inr (11, 0, 83)))], h2)) rfl ?_
    refine Ev.callw (a := [.inr (.inr (.inr (11, 0, 83)))]) rfl (mf_moon1 (s := sm0) (MOQ_R m1 q2 f2) (by have := (fQ_t hn f1 (fQ_R f2)).2.2.2.2.1; omega) rfl (by have y_ := hsM; rw [show rdM T = mnN T 400 (0 + 1) from moonF_4 (by assumption)] at y_; exact y_) (fun z3 h3 m3 x3 f3 => ?_) (fun z3 g3 a3 f3 => ?_))
    · refine Ev.brT (p := ¬ (iZ (1)) = (iZ (0))) (c1 := (72, [some (.inr (.inr (.inr (11, 0, 83)))), some (.inl (iZ (jx)))], [], h3)) (c2 := (70, [some (.inr (.inr (.inr (11, 0, 83)))), some (.inl (iZ (jx)))], [], h3)) (by decide) rfl ?_
      have eM : rdM T = mnN T 400 (0 + 1) := moonF_4 (by assumption)
      have h1M : 1 ≤ (smM (List.foldl (smQ T) sm0 (mnN T 400 (0 + 1)).2.2)).length := by
        have y_ := hsM
        rw [eM] at y_
        obtain ⟨l_, e_⟩ := mn_1 y_
        rw [e_]
        exact Nat.le_trans (by rw [smQ_M (by decide)]; exact Nat.le_refl 1) (fold_M l_ (smQ T sm0 (0 + 1)))
      have rz : RMS h3 T ((mnN T 400 (0 + 1)).2.1) [] (List.foldl (smQ T) sm0 (mnN T 400 (0 + 1)).2.2) := RMS_m m3 (fold_Q _ _) (smOk_fQ w0 _ _ smOk_0) (mnR2_M m3 x3 h1M)
      have eS : (List.foldl (smQ T) sm0 (mnN T 400 (0 + 1)).2.2) = (List.foldl (smQ T) sm0 (rdM T).2.2) := by rw [eM]
      have eL : rdL T = lnsF T 400 ((mnN T 400 (0 + 1)).2.1) := by unfold rdL; rw [eM]
      have eR : rdS T = List.foldl (smL T) (List.foldl (smQ T) sm0 (mnN T 400 (0 + 1)).2.2) (lnsF T 400 ((mnN T 400 (0 + 1)).2.1)).2.2 := by unfold rdS; rw [eL, ← eS]
      refine mf_lines1_lp 400 _ _ _ _ (List.foldl (smQ T) sm0 (mnN T 400 (0 + 1)).2.2) _ (by omega) (by have := (fQ_t hn (fQ_t hn f1 (fQ_R f2)) f3).2.2.2.2.1; omega) rz (by rw [← eL]; exact hsL) (fun rr hz Nz pz qz fz => ?_) (fun rr hz az fz => ?_)
      · rw [← eR] at rr qz
        exact k1 rr hz Nz pz qz (fQ_up (fQ_t hn (fQ_t hn (fQ_t hn f1 (fQ_R f2)) f3) fz) (by omega))
      · rw [← eR] at rr az
        exact k0 rr hz az (fQ_up (fQ_t hn (fQ_t hn (fQ_t hn f1 (fQ_R f2)) f3) fz) (by omega))
    · refine Ev.brF (p := ¬ (iZ (0)) = (iZ (0))) (c1 := (72, [some (.inr (.inr (.inr (11, 0, 83)))), some (.inl (iZ (jx)))], [], g3)) (c2 := (70, [some (.inr (.inr (.inr (11, 0, 83)))), some (.inl (iZ (jx)))], [], g3)) (by decide) rfl ?_
      refine Ev.sts 1 (c' := (71, [some (.inr (.inr (.inr (11, 0, 83)))), some (.inl (iZ (jx)))], [.inl (iZ (0))], g3)) rfl ?_
      have eM : rdM T = mnN T 400 (0 + 1) := moonF_4 (by assumption)
      have eR : smE (rdS T) = smE (List.foldl (smQ T) sm0 (mnN T 400 (0 + 1)).2.2) := by unfold rdS; rw [eM]; exact smE_L _ _ z3
      exact Ev.ret rfl (k0 (by rw [eR]; exact z3) _ (by rw [eR]; exact a3) (fQ_up (fQ_t hn (fQ_t hn f1 (fQ_R f2)) f3) (by decide)))
  · refine Ev.brT (p := (iZ (0)) = (iZ (0))) (c1 := (72, [some (.inr (.inr (.inr (11, 0, 83)))), some (.inl (iZ (jx)))], [], h1)) (c2 := (63, [some (.inr (.inr (.inr (11, 0, 83)))), some (.inl (iZ (jx)))], [], h1)) (by decide) rfl ?_
    have eM : rdM T = (true, 0, []) := moonF_n (by assumption)
    have rz : RMS h1 T 0 [] sm0 := RMS_m m1 rfl smOk_0 e1
    have eS : sm0 = (List.foldl (smQ T) sm0 (rdM T).2.2) := by rw [eM]; rfl
    have eL : rdL T = lnsF T 400 0 := by unfold rdL; rw [eM]
    have eR : rdS T = List.foldl (smL T) sm0 (lnsF T 400 0).2.2 := by unfold rdS; rw [eL, ← eS]
    refine mf_lines1_lp 400 _ _ _ _ sm0 _ (by omega) (by have := f1.2.2.2.2.1; omega) rz (by rw [← eL]; exact hsL) (fun rr hz Nz pz qz fz => ?_) (fun rr hz az fz => ?_)
    · rw [← eR] at rr qz
      exact k1 rr hz Nz pz qz (fQ_up (fQ_t hn f1 fz) (by omega))
    · rw [← eR] at rr az
      exact k0 rr hz az (fQ_up (fQ_t hn f1 fz) (by omega))

theorem mf_parse1 {d : Nat} {T : List Tok} {h : PH} {Q : Rs → PH → Prop} (sh : Sh h) (tk : tmC h T) (w0 : tkW T) (s8 : h.1 83 8 = iZ (1 : Nat)) (ky : kyM h) (hn : 103 ≤ hN h) (hsM : (rdM T).1 = true) (hsL : (rdL T).1 = true) (k1 : (smE (rdS T)).1 = 0 → ∀ h1 N1 p1, RMS h1 T p1 N1 (rdS T) → fQ 7 h h1 → Q (.inl (some (.inl (iZ 1)))) h1) (k0 : (smE (rdS T)).1 ≠ 0 → ∀ h1, erM h1 T (smE (rdS T)).1 (smE (rdS T)).2 → fQ 7 h h1 → Q (.inl (some (.inl (iZ 0)))) h1) : Rn (d + 71) 180 [.inr (.inr (.inr (11, 0, 83)))] h Q := by
  refine Ev.sts 2 (c' := (2, [some (.inr (.inr (.inr (11, 0, 83)))), some (.inl (iZ (0)))], [], h)) rfl ?_
  refine mf_init_lp (d := d + 71) 65 0 _ (by decide) (by decide) sh (fun i hi => absurd hi (Nat.not_lt_zero _)) (fun h1 z1 f1 => ?_)
  exact mf_p1_t (Sh_eq sh f1.1) (tmC_92 f1 tk) w0 (by rw [f1.2 83 (by decide)]; exact s8) (by unfold kyM at ky ⊢; rw [f1.1]; exact ky) z1 (by have := (fQ_92 f1).2.2.2.2.1; omega) hsM hsL (fun a hz Nz pz qz fz => k1 a hz Nz pz qz (fQ_up (fQ_t hn (fQ_92 f1) fz) (by decide))) (fun a hz az fz => k0 a hz az (fQ_up (fQ_t hn (fQ_92 f1) fz) (by decide)))

