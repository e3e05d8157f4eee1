/-! The reference reads a book: the second walk. -/
theorem smE_Q {T : List Tok} : ∀ (l : List Nat) (s : Sm), (smE s).1 ≠ 0 → smE (l.foldl (smQ T) s) = smE s := by
  intro l
  induction l with
  | nil => intro s _; rfl
  | cons q l ih =>
    intro s h
    have e : smE (smQ T s q) = smE s := ntE_n h
    show smE (l.foldl (smQ T) (smQ T s q)) = smE s
    rw [ih _ (by rw [e]; exact h), e]
theorem smE_L {T : List Tok} : ∀ (l : List Ln) (s : Sm), (smE s).1 ≠ 0 → smE (l.foldl (smL T) s) = smE s := by
  intro l
  induction l with
  | nil => intro s _; rfl
  | cons q l ih =>
    intro s h
    have e : smE (smL T s q) = smE s := by
      unfold smL
      by_cases c : q.1 = 0
      · rw [if_pos c]; exact ntE_n h
      · rw [if_neg c]; exact ntE_n h
    show smE (l.foldl (smL T) (smL T s q)) = smE s
    rw [ih _ (by rw [e]; exact h), e]
theorem smQ_4 {T : List Tok} {s : Sm} {q : Nat} (e : (smE s).1 = 0) (h : 8 ≤ (smM s).length) : smE (smQ T s q) = (4, q) := by
  show ntE (smE s) (phE T (smM s) q) = (4, q)
  rw [ntE_p e]
  unfold phE
  rw [if_pos h]
  exact ntE_n (by show ¬ (4 : Nat) = 0; decide)
theorem smQ_5 {T : List Tok} {s : Sm} {q : Nat} (e : (smE s).1 = 0) (h : (smM s).length < 8) (b : 99 < tN T q) : smE (smQ T s q) = (5, q) := by
  show ntE (smE s) (phE T (smM s) q) = (5, q)
  rw [ntE_p e]
  unfold phE
  rw [if_neg (by omega), ntE_p rfl, if_pos b]
theorem smQ_0 {T : List Tok} {s : Sm} {q : Nat} (e : (smE s).1 = 0) (h : (smM s).length < 8) (b : tN T q ≤ 99) : (smE (smQ T s q)).1 = 0 := by
  show (ntE (smE s) (phE T (smM s) q)).1 = 0
  rw [ntE_p e]
  unfold phE
  rw [if_neg (by omega), ntE_p rfl, if_neg (by omega)]
theorem smQ_M {T : List Tok} {s : Sm} {q : Nat} (h : (smM s).length < 8) : smM (smQ T s q) = smM s ++ [tN T q] := if_pos h
/-- the moon being read in the second walk -/
def MOQ (h : PH) (T : List Tok) (p : Nat) (s : Sm) : Prop := QM h T 1 p [] [] ∧ h.1 92 0 = iZ 0 ∧ h.1 92 1 = iZ 0 ∧ (∀ j, j < (smM s).length → h.1 92 (3 + j) = iZ ((smM s).getD j 0)) ∧ (smM s).length ≤ 8 ∧ (smE s).1 = 0
theorem MOQ_R {h h2 : PH} {T : List Tok} {p q : Nat} {s : Sm} (m : MOQ h T p s) (q2 : QM h2 T 1 q [] []) (f : fR h h2) : MOQ h2 T q s := by
  obtain ⟨m1, m2, m3, m4, m5, m6⟩ := m
  have g : ∀ k, h2.1 92 k = h.1 92 k := fun k => congrFun (f.2.1 92 (by decide) (by decide)) k
  exact ⟨q2, (g 0).trans m2, (g 1).trans m3, fun j hj => (g _).trans (m4 j hj), m5, m6⟩
theorem MOQ_put {h : PH} {T : List Tok} {p q mm : Nat} {s : Sm} (m : MOQ h T q s) (hm : (smM s).length = mm) (h8 : mm < 8) (b : tN T p ≤ 99) : MOQ (setI h 92 (3 + mm) (iZ (tN T p))) T q (smQ T s p) := by
  obtain ⟨m1, m2, m3, m4, m5, m6⟩ := m
  subst hm
  have eM := smQ_M (T := T) (q := p) h8
  refine ⟨QM_92 m1, (setI_ne (by omega)).trans m2, (setI_ne (by omega)).trans m3, fun j hj => ?_, by rw [eM, app_len']; omega, smQ_0 m6 h8 b⟩
  rw [eM, app_len'] at hj
  rw [eM, app_get' _ _ _ _ hj]
  by_cases e : j = (smM s).length
  · rw [if_pos e, e]; exact setI_self _ _ _ _
  · rw [if_neg e]; exact (setI_ne (by omega)).trans (m4 j (by omega))
theorem MOQ_2 {h : PH} {T : List Tok} {q : Nat} {s : Sm} {v : Int32} (m : MOQ h T q s) : MOQ (setI h 92 2 v) T q s := by
  obtain ⟨m1, m2, m3, m4, m5, m6⟩ := m
  exact ⟨QM_92 m1, (setI_ne (by omega)).trans m2, (setI_ne (by omega)).trans m3, fun j hj => (setI_ne (by omega)).trans (m4 j hj), m5, m6⟩
theorem mn_k {T : List Tok} {n p : Nat} (h : (mnN T (n + 1) p).1 = true) : tK T p = 3 ∧ ((tK T (p + 1) = 31 ∧ (mnN T n (p + 2)).1 = true) ∨ (¬ tK T (p + 1) = 31 ∧ tK T (p + 1) = 30)) := by
  by_cases a : tK T p = 3
  · refine ⟨a, ?_⟩
    rw [mnN_t a] at h
    by_cases b : tK T (p + 1) = 31
    · rw [mnN_c b] at h
      exact .inl ⟨b, h⟩
    · rw [mns_d b] at h
      by_cases c : tK T (p + 1) = 30
      · exact .inr ⟨b, c⟩
      · rw [if_neg c] at h; cases h
  · rw [mnN_f a] at h; cases h
theorem mn_k0 {T : List Tok} {p : Nat} (h : (mnN T 0 p).1 = true) : tK T p = 3 := by
  by_cases a : tK T p = 3
  · exact a
  · rw [mnN_f a] at h; cases h
theorem RMS_R {h h2 : PH} {T : List Tok} {p q : Nat} {N : List (Int × Int)} {s : Sm} (r : RMS h T p N s) (q2 : QM h2 T 1 q N (wds (smP s))) (f : fR h h2) (hq : p ≤ q) : RMS h2 T q N s := by
  obtain ⟨r1, r2, r3, r4, r5, r6, r7, ok, r9, r10⟩ := r
  have g : ∀ k, h2.1 92 k = h.1 92 k := fun k => congrFun (f.2.1 92 (by decide) (by decide)) k
  exact ⟨q2, (g 0).trans r2, (g 1).trans r3, ⟨(g 2).trans r4.1, fun j hj => (g _).trans (r4.2 j hj)⟩, fun j hj => ⟨(g _).trans (r5 j hj).1, (g _).trans (r5 j hj).2⟩, fun j hj => ⟨(g _).trans (r6 j hj).1, (g _).trans (r6 j hj).2.1, (g _).trans (r6 j hj).2.2.1, (g _).trans (r6 j hj).2.2.2.1, (g _).trans (r6 j hj).2.2.2.2.1, (g _).trans (r6 j hj).2.2.2.2.2⟩, r7, ok, r9, by omega⟩
theorem lns_k {T : List Tok} {n p : Nat} (h : (lnsF T (n + 1) p).1 = true) (k : ¬ tK T p = 0) : (linF T p).1 = true ∧ (lnsF T n (linF T p).2.1).1 = true := by
  by_cases c : (linF T p).1 = true
  · rw [lns_l k c] at h; exact ⟨c, h⟩
  · rw [lns_x k (Bool.eq_false_iff.mpr c)] at h; cases h
theorem lin_k {T : List Tok} {p : Nat} (h : (linF T p).1 = true) : (tK T p = 5 ∧ (flkF T (p + 1)).1 = true ∧ tK T (flkF T (p + 1)).2.1 = 30) ∨ (tK T p = 15 ∧ (gooF T (p + 1)).1 = true ∧ tK T (gooF T (p + 1)).2.1 = 30) := by
  have sk : ∀ r : Lz, (semF T r).1 = true → r.1 = true ∧ tK T r.2.1 = 30 := by
    intro r z
    by_cases a : r.1 = true
    · by_cases b : tK T r.2.1 = 30
      · exact ⟨a, b⟩
      · rw [semF_k a b] at z; cases z
    · rw [semF_f (Bool.eq_false_iff.mpr a)] at z; cases z
  unfold linF at h
  by_cases a : tK T p = 5
  · rw [if_pos a] at h; exact .inl ⟨a, sk _ h⟩
  · rw [if_neg a] at h
    by_cases b : tK T p = 15
    · rw [if_pos b] at h; exact .inr ⟨b, sk _ h⟩
    · rw [if_neg b] at h; cases h

theorem mf_moon1_lp {d : Nat} {T : List Tok} (n : Nat) : ∀ (mm : Nat) (h : PH) (p : Nat) (s : Sm) (Q : Rs → PH → Prop), 400 ≤ p + n → mm ≤ p → 103 ≤ hN h → MOQ h T p s → (smM s).length = mm → (mnN T n p).1 = true → ((smE (List.foldl (smQ T) s (mnN T n p).2.2)).1 = 0 → ∀ h1, MOQ h1 T (mnN T n p).2.1 (List.foldl (smQ T) s (mnN T n p).2.2) → h1.1 92 2 = iZ (smM (List.foldl (smQ T) s (mnN T n p).2.2)).length → fQ 0 h h1 → Q (.inl (some (.inl (iZ 1)))) h1) → ((smE (List.foldl (smQ T) s (mnN T n p).2.2)).1 ≠ 0 → ∀ h1, erM h1 T (smE (List.foldl (smQ T) s (mnN T n p).2.2)).1 (smE (List.foldl (smQ T) s (mnN T n p).2.2)).2 → fQ 0 h h1 → Q (.inl (some (.inl (iZ 0)))) h1) → Ev (d + 3) 183 (4, [some (.inr (.inr (.inr (11, 0, 83)))), some (.inl (iZ (mm))), some (.inl (iZ (1)))], [], h) Q := by
  induction n with
  | zero =>
    intro mm h p s Q hn0 hmp hn m0 hm hs k1 k0
    have q0 := m0.1
    have sh := qm_sh q0
    have w0 := qm_w q0
    have p0 := qm_p q0
    have t0 := qm_tk q0
    have l1 := w0.2.1
    have tb0 := tBk w0 p
    have sb0 := sr_b (tK T p)
    have kz := tK_400 w0 (show 400 ≤ p by omega)
    have := mn_k0 hs
    omega
  | succ n ih =>
    intro mm h p s Q hn0 hmp hn m0 hm hs k1 k0
    have q0 := m0.1
    have sh := qm_sh q0
    have w0 := qm_w q0
    have p0 := qm_p q0
    have t0 := qm_tk q0
    have l1 := w0.2.1
    have tb0 := tBk w0 p
    have sb0 := sr_b (tK T p)
    have mk := mn_k hs
    have mk1 := mk.1
    have h88 := m0.2.2.2.2.1
    have ne1 : srK (tK T p) = 1 := sr_1.mpr mk.1
    have nb := tN_b w0 p
    refine Ev.sts 1 (c' := (5, [some (.inr (.inr (.inr (11, 0, 83)))), some (.inl (iZ (mm))), some (.inl (iZ (1)))], [.inl (iZ (1))], h)) rfl ?_
    refine Ev.brF (p := (iZ (1)) = (iZ (0))) (c1 := (89, [some (.inr (.inr (.inr (11, 0, 83)))), some (.inl (iZ (mm))), some (.inl (iZ (1)))], [], h)) (c2 := (8, [some (.inr (.inr (.inr (11, 0, 83)))), some (.inl (iZ (mm))), some (.inl (iZ (1)))], [], h)) (by decide) rfl ?_
    refine Ev.sts 1 (c' := (9, [some (.inr (.inr (.inr (11, 0, 83)))), some (.inl (iZ (mm))), some (.inl (iZ (1)))], [.inr (.inr (.inr (11, 0, 83)))], h)) rfl ?_
    refine Ev.gfr (r := (20, 402, 85)) rfl (sh_83_3 (h := h) (qm_sh q0)) ?_
    refine Ev.sts 1 (c' := (13, [some (.inr (.inr (.inr (11, 0, 83)))), some (.inl (iZ (mm))), some (.inl (iZ (1)))], [.inr (.inr (.inr (11, 0, 83))), .inr (.inr (.inr (20, 402, 85)))], h)) rfl ?_
    refine Ev.gv (w := (iZ (p))) rfl (qm_7 q0) ?_
    refine Ev.ldv (j := (iZ (p))) (n := 402) (w := .inl (iZ (srK (tK T p)))) (iZ_in (by omega) (by omega) (by omega)) rfl (by rw [iZ_ix (n := p) (by omega) (by omega)]; exact congrArg vI (qm_tk q0 _ (qm_p q0)).1) ?_
    refine Ev.sts 1 (c' := (18, [some (.inr (.inr (.inr (11, 0, 83)))), some (.inl (iZ (mm))), some (.inl (iZ (1)))], [.inl (iZ (1)), .inl (iZ (srK (tK T p)))], h)) rfl ?_
    refine Ev.brc (p := ¬ (iZ (srK (tK T p))) = (iZ (1))) (q := ¬ ((srK (tK T p) : Int)) = 1) (c1 := (46, [some (.inr (.inr (.inr (11, 0, 83)))), some (.inl (iZ (mm))), some (.inl (iZ (1)))], [], h)) (c2 := (21, [some (.inr (.inr (.inr (11, 0, 83)))), some (.inl (iZ (mm))), some (.inl (iZ (1)))], [], h)) rfl (not_congr (iZ_eq ⟨by omega, by omega⟩ ⟨by omega, by omega⟩)) (fun c0 => ?_) (fun c0 => ?_)
    · refine Ev.sts 3 (c' := (50, [some (.inr (.inr (.inr (11, 0, 83)))), some (.inl (iZ (mm))), some (.inl (iZ (1)))], [.inl (iZ (99)), .inl (iZ (0)), .inr (.inr (.inr (11, 0, 83)))], h)) rfl ?_
      refine Ev.callw (a := [.inr (.inr (.inr (11, 0, 83))), .inl (iZ (0)), .inl (iZ (99))]) rfl (mf_number q0 ⟨by omega, by omega⟩ ⟨by omega, by omega⟩ (fun ky1 b1 h1 q1 f1 => ?_) (fun ky1 g1 a1 f1 => ?_) (fun ky1 _ v1 b1 a1 f1 => ?_))
      · have z1 := qm_p q1
        have c1_ := b1 rfl
        refine Ev.brT (p := ¬ (iZ (1)) = (iZ (0))) (c1 := (58, [some (.inr (.inr (.inr (11, 0, 83)))), some (.inl (iZ (mm))), some (.inl (iZ (1)))], [], h1)) (c2 := (56, [some (.inr (.inr (.inr (11, 0, 83)))), some (.inl (iZ (mm))), some (.inl (iZ (1)))], [], h1)) (by decide) rfl ?_
        refine Ev.sts 2 (c' := (61, [some (.inr (.inr (.inr (11, 0, 83)))), some (.inl (iZ (mm))), some (.inl (iZ (1)))], [.inl (iZ (8)), .inl (iZ (mm))], h1)) rfl ?_
        refine Ev.brc (p := (iZ (8)) ≤ (iZ (mm))) (q := ((8 : Int)) ≤ mm) (c1 := (76, [some (.inr (.inr (.inr (11, 0, 83)))), some (.inl (iZ (mm))), some (.inl (iZ (1)))], [], h1)) (c2 := (64, [some (.inr (.inr (.inr (11, 0, 83)))), some (.inl (iZ (mm))), some (.inl (iZ (1)))], [], h1)) rfl (iZ_le ⟨by omega, by omega⟩ ⟨by omega, by omega⟩) (fun c1 => ?_) (fun c1 => ?_)
        · exfalso; omega
        · refine Ev.sts 1 (c' := (65, [some (.inr (.inr (.inr (11, 0, 83)))), some (.inl (iZ (mm))), some (.inl (iZ (1)))], [.inr (.inr (.inr (11, 0, 83)))], h1)) rfl ?_
          refine Ev.gfr (r := (20, 64, 92)) rfl (sh_83_17 (h := h1) (qm_sh q1)) ?_
          refine Ev.sts 2 (c' := (70, [some (.inr (.inr (.inr (11, 0, 83)))), some (.inl (iZ (mm))), some (.inl (iZ (1)))], [.inl (iZ (mm)), .inl (iZ (3)), .inr (.inr (.inr (20, 64, 92)))], h1)) rfl ?_
          refine Ev.gv (w := (iZ (3 + mm))) rfl (iZ_add _ _) ?_
          refine Ev.sts 1 (c' := (72, [some (.inr (.inr (.inr (11, 0, 83)))), some (.inl (iZ (mm))), some (.inl (iZ (1)))], [.inr (.inr (.inr (11, 0, 83))), .inl (iZ (3 + mm)), .inr (.inr (.inr (20, 64, 92)))], h1)) rfl ?_
          refine Ev.callv (a := [.inr (.inr (.inr (11, 0, 83)))]) rfl (mf_last (p := p) q1 (by assumption)) ?_
          refine Ev.sto (j := (iZ (3 + mm))) (n := 64) (h2 := (setI h1 92 (3 + mm) ((iZ (tN T p))))) (iZ_in (by omega) (by omega) (by omega)) rfl (by rw [iZ_ix (n := 3 + mm) (by omega) (by omega)]) ?_
          have m2 : MOQ (setI h1 92 (3 + mm) ((iZ (tN T p)))) T (p + 1) (smQ T s p) := MOQ_put (MOQ_R m0 q1 f1) hm (by omega) (by omega)
          have f2 : fQ 0 h (setI h1 92 (3 + mm) ((iZ (tN T p)))) := fQ_t hn (fQ_t hn (fQ_r h) (fQ_R f1)) (fQ_I (by omega))
          generalize (setI h1 92 (3 + mm) ((iZ (tN T p)))) = h2 at m2 f2 ⊢
          have q2 := m2.1
          refine Ev.stc (c1 := (79, [some (.inr (.inr (.inr (11, 0, 83)))), some (.inl ((iZ (mm)) + (iZ (1)))), some (.inl (iZ (1)))], [], h2)) (c2 := (79, [some (.inr (.inr (.inr (11, 0, 83)))), some (.inl (iZ (mm + 1))), some (.inl (iZ (1)))], [], h2)) rfl (by rw [iZ_add]) ?_
          refine Ev.sts 2 (c' := (82, [some (.inr (.inr (.inr (11, 0, 83)))), some (.inl (iZ (mm + 1))), some (.inl (iZ (1)))], [.inl (iZ (44)), .inr (.inr (.inr (11, 0, 83)))], h2)) rfl ?_
          refine Ev.callw (a := [.inr (.inr (.inr (11, 0, 83))), .inl (iZ (44))]) rfl (mf_ifSign (K := 31) q2 (by decide) (by decide) (fun ky3 h3 q3 f3 => ?_) (fun ky3 => ?_))
          · have z3 := qm_p q3
            refine Ev.sts 2 (c' := (4, [some (.inr (.inr (.inr (11, 0, 83)))), some (.inl (iZ (mm + 1))), some (.inl (iZ (1)))], [], h3)) rfl ?_
            have e0 := mnN_t (n := n + 1) (show tK T p = 3 by assumption)
            have e1 := mnN_c (n := n) (show tK T (p + 1) = 31 by assumption)
            rw [e1] at e0
            have ml : (smM (smQ T s p)).length = mm + 1 := by rw [smQ_M (by omega), app_len', hm]
            refine ih (mm + 1) _ (p + 2) (smQ T s p) _ (by omega) (by omega) (by have := (fQ_t hn f2 (fQ_R f3)).2.2.2.2.1; omega) (MOQ_R m2 q3 f3) ml (by rcases mk.2 with y_ | y_; exact y_.2; exact absurd (by assumption) y_.1) (fun rr hz mz ez fz => ?_) (fun rr hz az fz => ?_)
            · rw [e0] at k1
              exact k1 rr hz mz ez (fQ_t hn (fQ_t hn f2 (fQ_R f3)) fz)
            · rw [e0] at k0
              exact k0 rr hz az (fQ_t hn (fQ_t hn f2 (fQ_R f3)) fz)
          · refine Ev.sts 2 (c' := (4, [some (.inr (.inr (.inr (11, 0, 83)))), some (.inl (iZ (mm + 1))), some (.inl (iZ (0)))], [], h2)) rfl ?_
            refine Ev.sts 1 (c' := (5, [some (.inr (.inr (.inr (11, 0, 83)))), some (.inl (iZ (mm + 1))), some (.inl (iZ (0)))], [.inl (iZ (0))], h2)) rfl ?_
            refine Ev.brT (p := (iZ (0)) = (iZ (0))) (c1 := (89, [some (.inr (.inr (.inr (11, 0, 83)))), some (.inl (iZ (mm + 1))), some (.inl (iZ (0)))], [], h2)) (c2 := (8, [some (.inr (.inr (.inr (11, 0, 83)))), some (.inl (iZ (mm + 1))), some (.inl (iZ (0)))], [], h2)) (by decide) rfl ?_
            refine Ev.sts 1 (c' := (90, [some (.inr (.inr (.inr (11, 0, 83)))), some (.inl (iZ (mm + 1))), some (.inl (iZ (0)))], [.inr (.inr (.inr (11, 0, 83)))], h2)) rfl ?_
            refine Ev.gfr (r := (20, 64, 92)) rfl (sh_83_17 (h := h2) (qm_sh q2)) ?_
            refine Ev.sts 2 (c' := (95, [some (.inr (.inr (.inr (11, 0, 83)))), some (.inl (iZ (mm + 1))), some (.inl (iZ (0)))], [.inl (iZ (mm + 1)), .inl (iZ (2)), .inr (.inr (.inr (20, 64, 92)))], h2)) rfl ?_
            refine Ev.sto (j := (iZ (2))) (n := 64) (h2 := (setI h2 92 2 ((iZ (mm + 1))))) (by decide) rfl rfl ?_
            have m4 : MOQ (setI h2 92 2 ((iZ (mm + 1)))) T (p + 1) (smQ T s p) := MOQ_2 m2
            have e4 : (setI h2 92 2 ((iZ (mm + 1)))).1 92 2 = iZ ((mm : Int) + 1) := setI_self _ _ _ _
            have f4 : fQ 0 h (setI h2 92 2 ((iZ (mm + 1)))) := fQ_t hn f2 (fQ_I (by omega))
            generalize (setI h2 92 2 ((iZ (mm + 1)))) = h4 at m4 e4 f4 ⊢
            have q4 := m4.1
            refine Ev.sts 2 (c' := (99, [some (.inr (.inr (.inr (11, 0, 83)))), some (.inl (iZ (mm + 1))), some (.inl (iZ (0)))], [.inl (iZ (59)), .inr (.inr (.inr (11, 0, 83)))], h4)) rfl ?_
            refine Ev.callw (a := [.inr (.inr (.inr (11, 0, 83))), .inl (iZ (59))]) rfl (mf_sign (K := 30) q4 (by decide) (by decide) (fun ky5 h5 q5 f5 => ?_) (fun ky5 g5 a5 f5 => ?_))
            · have z5 := qm_p q5
              have e1 : mnN T (n + 1) p = (true, p + 1 + 1, [p]) := (by rw [mnN_t (by assumption), mns_d (by assumption), if_pos (by assumption)])
              rw [e1] at k1
              have ml : (smM (smQ T s p)).length = mm + 1 := by rw [smQ_M (by omega), app_len', hm]
              exact Ev.ret rfl (k1 (MOQ_R m4 q5 f5).2.2.2.2.2 _ (MOQ_R m4 q5 f5) (by show _ = iZ ((smM (smQ T s p)).length : Int); rw [ml]; exact ((congrFun (f5.2.1 92 (by decide) (by decide)) 2).trans e4)) (fQ_t hn f4 (fQ_R f5)))
            · first | (exfalso; omega) | (have e2 : smE (smQ T s p) = (4, p) := smQ_4 m0.2.2.2.2.2 (by omega); have e3 : smE (List.foldl (smQ T) s (mnN T (n + 1) p).2.2) = (4, p) := (by rw [mnN_t (by assumption)]; show smE (List.foldl (smQ T) (smQ T s p) _) = _; rw [smE_Q _ _ (by rw [e2]; show ¬ (4 : Nat) = 0; decide), e2]); rw [e3] at k0; exact Ev.ret rfl (k0 (by show ¬ (4 : Nat) = 0; decide) _ a5 (fQ_t hn f4 (fQ_R f5)))) | (have e2 : smE (smQ T s p) = (5, p) := smQ_5 m0.2.2.2.2.2 (by omega) (by omega); have e3 : smE (List.foldl (smQ T) s (mnN T (n + 1) p).2.2) = (5, p) := (by rw [mnN_t (by assumption)]; show smE (List.foldl (smQ T) (smQ T s p) _) = _; rw [smE_Q _ _ (by rw [e2]; show ¬ (5 : Nat) = 0; decide), e2]); rw [e3] at k0; exact Ev.ret rfl (k0 (by show ¬ (5 : Nat) = 0; decide) _ a5 (fQ_t hn f4 (fQ_R f5))))
      · refine Ev.brF (p := ¬ (iZ (0)) = (iZ (0))) (c1 := (58, [some (.inr (.inr (.inr (11, 0, 83)))), some (.inl (iZ (mm))), some (.inl (iZ (1)))], [], g1)) (c2 := (56, [some (.inr (.inr (.inr (11, 0, 83)))), some (.inl (iZ (mm))), some (.inl (iZ (1)))], [], g1)) (by decide) rfl ?_
        refine Ev.sts 1 (c' := (57, [some (.inr (.inr (.inr (11, 0, 83)))), some (.inl (iZ (mm))), some (.inl (iZ (1)))], [.inl (iZ (0))], g1)) rfl ?_
        first | (exfalso; omega) | (have e2 : smE (smQ T s p) = (4, p) := smQ_4 m0.2.2.2.2.2 (by omega); have e3 : smE (List.foldl (smQ T) s (mnN T (n + 1) p).2.2) = (4, p) := (by rw [mnN_t (by assumption)]; show smE (List.foldl (smQ T) (smQ T s p) _) = _; rw [smE_Q _ _ (by rw [e2]; show ¬ (4 : Nat) = 0; decide), e2]); rw [e3] at k0; exact Ev.ret rfl (k0 (by show ¬ (4 : Nat) = 0; decide) _ a1 (fQ_t hn (fQ_r h) (fQ_R f1)))) | (have e2 : smE (smQ T s p) = (5, p) := smQ_5 m0.2.2.2.2.2 (by omega) (by omega); have e3 : smE (List.foldl (smQ T) s (mnN T (n + 1) p).2.2) = (5, p) := (by rw [mnN_t (by assumption)]; show smE (List.foldl (smQ T) (smQ T s p) _) = _; rw [smE_Q _ _ (by rw [e2]; show ¬ (5 : Nat) = 0; decide), e2]); rw [e3] at k0; exact Ev.ret rfl (k0 (by show ¬ (5 : Nat) = 0; decide) _ a1 (fQ_t hn (fQ_r h) (fQ_R f1))))
      · refine Ev.brF (p := ¬ (iZ (0)) = (iZ (0))) (c1 := (58, [some (.inr (.inr (.inr (11, 0, 83)))), some (.inl (iZ (mm))), some (.inl (iZ (1)))], [], b1)) (c2 := (56, [some (.inr (.inr (.inr (11, 0, 83)))), some (.inl (iZ (mm))), some (.inl (iZ (1)))], [], b1)) (by decide) rfl ?_
        refine Ev.sts 1 (c' := (57, [some (.inr (.inr (.inr (11, 0, 83)))), some (.inl (iZ (mm))), some (.inl (iZ (1)))], [.inl (iZ (0))], b1)) rfl ?_
        first | (exfalso; omega) | (have e2 : smE (smQ T s p) = (4, p) := smQ_4 m0.2.2.2.2.2 (by omega); have e3 : smE (List.foldl (smQ T) s (mnN T (n + 1) p).2.2) = (4, p) := (by rw [mnN_t (by assumption)]; show smE (List.foldl (smQ T) (smQ T s p) _) = _; rw [smE_Q _ _ (by rw [e2]; show ¬ (4 : Nat) = 0; decide), e2]); rw [e3] at k0; exact Ev.ret rfl (k0 (by show ¬ (4 : Nat) = 0; decide) _ a1 (fQ_t hn (fQ_r h) (fQ_R f1)))) | (have e2 : smE (smQ T s p) = (5, p) := smQ_5 m0.2.2.2.2.2 (by omega) (by omega); have e3 : smE (List.foldl (smQ T) s (mnN T (n + 1) p).2.2) = (5, p) := (by rw [mnN_t (by assumption)]; show smE (List.foldl (smQ T) (smQ T s p) _) = _; rw [smE_Q _ _ (by rw [e2]; show ¬ (5 : Nat) = 0; decide), e2]); rw [e3] at k0; exact Ev.ret rfl (k0 (by show ¬ (5 : Nat) = 0; decide) _ a1 (fQ_t hn (fQ_r h) (fQ_R f1))))
    · refine Ev.sts 4 (c' := (26, [some (.inr (.inr (.inr (11, 0, 83)))), some (.inl (iZ (mm))), some (.inl (iZ (1)))], [.inl (iZ (8)), .inl (iZ (mm)), .inl (iZ (4)), .inr (.inr (.inr (11, 0, 83)))], h)) rfl ?_
      refine Ev.brc (p := (iZ (8)) ≤ (iZ (mm))) (q := ((8 : Int)) ≤ mm) (c1 := (33, [some (.inr (.inr (.inr (11, 0, 83)))), some (.inl (iZ (mm))), some (.inl (iZ (1)))], [.inl (iZ (4)), .inr (.inr (.inr (11, 0, 83)))], h)) (c2 := (29, [some (.inr (.inr (.inr (11, 0, 83)))), some (.inl (iZ (mm))), some (.inl (iZ (1)))], [.inl (iZ (4)), .inr (.inr (.inr (11, 0, 83)))], h)) rfl (iZ_le ⟨by omega, by omega⟩ ⟨by omega, by omega⟩) (fun c1 => ?_) (fun c1 => ?_)
      · refine Ev.sts 2 (c' := (35, [some (.inr (.inr (.inr (11, 0, 83)))), some (.inl (iZ (mm))), some (.inl (iZ (1)))], [.inr (.inr (.inr (11, 0, 83))), .inl (iZ (0)), .inl (iZ (4)), .inr (.inr (.inr (11, 0, 83)))], h)) rfl ?_
        refine Ev.gv (w := (iZ (p))) rfl (qm_7 q0) ?_
        refine Ev.callw (a := [.inr (.inr (.inr (11, 0, 83))), .inl (iZ (4)), .inl (iZ (0)), .inl (iZ (p))]) rfl (mf_check0 (nn := 4) (yn := p) q0 rfl (by omega) (by omega) (fun z_ => absurd z_ (by decide)) (fun _ g6 a6 f6 => ?_))
        refine Ev.brF (p := ¬ (iZ (0)) = (iZ (0))) (c1 := (46, [some (.inr (.inr (.inr (11, 0, 83)))), some (.inl (iZ (mm))), some (.inl (iZ (1)))], [], g6)) (c2 := (44, [some (.inr (.inr (.inr (11, 0, 83)))), some (.inl (iZ (mm))), some (.inl (iZ (1)))], [], g6)) (by decide) rfl ?_
        refine Ev.sts 1 (c' := (45, [some (.inr (.inr (.inr (11, 0, 83)))), some (.inl (iZ (mm))), some (.inl (iZ (1)))], [.inl (iZ (0))], g6)) rfl ?_
        first | (exfalso; omega) | (have e2 : smE (smQ T s p) = (4, p) := smQ_4 m0.2.2.2.2.2 (by omega); have e3 : smE (List.foldl (smQ T) s (mnN T (n + 1) p).2.2) = (4, p) := (by rw [mnN_t (by assumption)]; show smE (List.foldl (smQ T) (smQ T s p) _) = _; rw [smE_Q _ _ (by rw [e2]; show ¬ (4 : Nat) = 0; decide), e2]); rw [e3] at k0; exact Ev.ret rfl (k0 (by show ¬ (4 : Nat) = 0; decide) _ a6 (fQ_t hn (fQ_r h) (fQ_R f6)))) | (have e2 : smE (smQ T s p) = (5, p) := smQ_5 m0.2.2.2.2.2 (by omega) (by omega); have e3 : smE (List.foldl (smQ T) s (mnN T (n + 1) p).2.2) = (5, p) := (by rw [mnN_t (by assumption)]; show smE (List.foldl (smQ T) (smQ T s p) _) = _; rw [smE_Q _ _ (by rw [e2]; show ¬ (5 : Nat) = 0; decide), e2]); rw [e3] at k0; exact Ev.ret rfl (k0 (by show ¬ (5 : Nat) = 0; decide) _ a6 (fQ_t hn (fQ_r h) (fQ_R f6))))
      · refine Ev.sts 3 (c' := (35, [some (.inr (.inr (.inr (11, 0, 83)))), some (.inl (iZ (mm))), some (.inl (iZ (1)))], [.inr (.inr (.inr (11, 0, 83))), .inl (iZ (1)), .inl (iZ (4)), .inr (.inr (.inr (11, 0, 83)))], h)) rfl ?_
        refine Ev.gv (w := (iZ (p))) rfl (qm_7 q0) ?_
        refine Ev.callv (a := [.inr (.inr (.inr (11, 0, 83))), .inl (iZ (4)), .inl (iZ (1)), .inl (iZ (p))]) rfl (mf_check1 q0) ?_
        refine Ev.brT (p := ¬ (iZ (1)) = (iZ (0))) (c1 := (46, [some (.inr (.inr (.inr (11, 0, 83)))), some (.inl (iZ (mm))), some (.inl (iZ (1)))], [], h)) (c2 := (44, [some (.inr (.inr (.inr (11, 0, 83)))), some (.inl (iZ (mm))), some (.inl (iZ (1)))], [], h)) (by decide) rfl ?_
        refine Ev.sts 3 (c' := (50, [some (.inr (.inr (.inr (11, 0, 83)))), some (.inl (iZ (mm))), some (.inl (iZ (1)))], [.inl (iZ (99)), .inl (iZ (0)), .inr (.inr (.inr (11, 0, 83)))], h)) rfl ?_
        refine Ev.callw (a := [.inr (.inr (.inr (11, 0, 83))), .inl (iZ (0)), .inl (iZ (99))]) rfl (mf_number q0 ⟨by omega, by omega⟩ ⟨by omega, by omega⟩ (fun ky7 b7 h7 q7 f7 => ?_) (fun ky7 g7 a7 f7 => ?_) (fun ky7 _ v7 b7 a7 f7 => ?_))
        · have z7 := qm_p q7
          have c7_ := b7 rfl
          refine Ev.brT (p := ¬ (iZ (1)) = (iZ (0))) (c1 := (58, [some (.inr (.inr (.inr (11, 0, 83)))), some (.inl (iZ (mm))), some (.inl (iZ (1)))], [], h7)) (c2 := (56, [some (.inr (.inr (.inr (11, 0, 83)))), some (.inl (iZ (mm))), some (.inl (iZ (1)))], [], h7)) (by decide) rfl ?_
          refine Ev.sts 2 (c' := (61, [some (.inr (.inr (.inr (11, 0, 83)))), some (.inl (iZ (mm))), some (.inl (iZ (1)))], [.inl (iZ (8)), .inl (iZ (mm))], h7)) rfl ?_
          refine Ev.brc (p := (iZ (8)) ≤ (iZ (mm))) (q := ((8 : Int)) ≤ mm) (c1 := (76, [some (.inr (.inr (.inr (11, 0, 83)))), some (.inl (iZ (mm))), some (.inl (iZ (1)))], [], h7)) (c2 := (64, [some (.inr (.inr (.inr (11, 0, 83)))), some (.inl (iZ (mm))), some (.inl (iZ (1)))], [], h7)) rfl (iZ_le ⟨by omega, by omega⟩ ⟨by omega, by omega⟩) (fun c2 => ?_) (fun c2 => ?_)
          · exfalso; omega
          · refine Ev.sts 1 (c' := (65, [some (.inr (.inr (.inr (11, 0, 83)))), some (.inl (iZ (mm))), some (.inl (iZ (1)))], [.inr (.inr (.inr (11, 0, 83)))], h7)) rfl ?_
            refine Ev.gfr (r := (20, 64, 92)) rfl (sh_83_17 (h := h7) (qm_sh q7)) ?_
            refine Ev.sts 2 (c' := (70, [some (.inr (.inr (.inr (11, 0, 83)))), some (.inl (iZ (mm))), some (.inl (iZ (1)))], [.inl (iZ (mm)), .inl (iZ (3)), .inr (.inr (.inr (20, 64, 92)))], h7)) rfl ?_
            refine Ev.gv (w := (iZ (3 + mm))) rfl (iZ_add _ _) ?_
            refine Ev.sts 1 (c' := (72, [some (.inr (.inr (.inr (11, 0, 83)))), some (.inl (iZ (mm))), some (.inl (iZ (1)))], [.inr (.inr (.inr (11, 0, 83))), .inl (iZ (3 + mm)), .inr (.inr (.inr (20, 64, 92)))], h7)) rfl ?_
            refine Ev.callv (a := [.inr (.inr (.inr (11, 0, 83)))]) rfl (mf_last (p := p) q7 (by assumption)) ?_
            refine Ev.sto (j := (iZ (3 + mm))) (n := 64) (h2 := (setI h7 92 (3 + mm) ((iZ (tN T p))))) (iZ_in (by omega) (by omega) (by omega)) rfl (by rw [iZ_ix (n := 3 + mm) (by omega) (by omega)]) ?_
            have m8 : MOQ (setI h7 92 (3 + mm) ((iZ (tN T p)))) T (p + 1) (smQ T s p) := MOQ_put (MOQ_R m0 q7 f7) hm (by omega) (by omega)
            have f8 : fQ 0 h (setI h7 92 (3 + mm) ((iZ (tN T p)))) := fQ_t hn (fQ_t hn (fQ_r h) (fQ_R f7)) (fQ_I (by omega))
            generalize (setI h7 92 (3 + mm) ((iZ (tN T p)))) = h8 at m8 f8 ⊢
            have q8 := m8.1
            refine Ev.stc (c1 := (79, [some (.inr (.inr (.inr (11, 0, 83)))), some (.inl ((iZ (mm)) + (iZ (1)))), some (.inl (iZ (1)))], [], h8)) (c2 := (79, [some (.inr (.inr (.inr (11, 0, 83)))), some (.inl (iZ (mm + 1))), some (.inl (iZ (1)))], [], h8)) rfl (by rw [iZ_add]) ?_
            refine Ev.sts 2 (c' := (82, [some (.inr (.inr (.inr (11, 0, 83)))), some (.inl (iZ (mm + 1))), some (.inl (iZ (1)))], [.inl (iZ (44)), .inr (.inr (.inr (11, 0, 83)))], h8)) rfl ?_
            refine Ev.callw (a := [.inr (.inr (.inr (11, 0, 83))), .inl (iZ (44))]) rfl (mf_ifSign (K := 31) q8 (by decide) (by decide) (fun ky9 h9 q9 f9 => ?_) (fun ky9 => ?_))
            · have z9 := qm_p q9
              refine Ev.sts 2 (c' := (4, [some (.inr (.inr (.inr (11, 0, 83)))), some (.inl (iZ (mm + 1))), some (.inl (iZ (1)))], [], h9)) rfl ?_
              have e0 := mnN_t (n := n + 1) (show tK T p = 3 by assumption)
              have e1 := mnN_c (n := n) (show tK T (p + 1) = 31 by assumption)
              rw [e1] at e0
              have ml : (smM (smQ T s p)).length = mm + 1 := by rw [smQ_M (by omega), app_len', hm]
              refine ih (mm + 1) _ (p + 2) (smQ T s p) _ (by omega) (by omega) (by have := (fQ_t hn f8 (fQ_R f9)).2.2.2.2.1; omega) (MOQ_R m8 q9 f9) ml (by rcases mk.2 with y_ | y_; exact y_.2; exact absurd (by assumption) y_.1) (fun rr hz mz ez fz => ?_) (fun rr hz az fz => ?_)
              · rw [e0] at k1
                exact k1 rr hz mz ez (fQ_t hn (fQ_t hn f8 (fQ_R f9)) fz)
              · rw [e0] at k0
                exact k0 rr hz az (fQ_t hn (fQ_t hn f8 (fQ_R f9)) fz)
            · refine Ev.sts 2 (c' := (4, [some (.inr (.inr (.inr (11, 0, 83)))), some (.inl (iZ (mm + 1))), some (.inl (iZ (0)))], [], h8)) rfl ?_
              refine Ev.sts 1 (c' := (5, [some (.inr (.inr (.inr (11, 0, 83)))), some (.inl (iZ (mm + 1))), some (.inl (iZ (0)))], [.inl (iZ (0))], h8)) rfl ?_
              refine Ev.brT (p := (iZ (0)) = (iZ (0))) (c1 := (89, [some (.inr (.inr (.inr (11, 0, 83)))), some (.inl (iZ (mm + 1))), some (.inl (iZ (0)))], [], h8)) (c2 := (8, [some (.inr (.inr (.inr (11, 0, 83)))), some (.inl (iZ (mm + 1))), some (.inl (iZ (0)))], [], h8)) (by decide) rfl ?_
              refine Ev.sts 1 (c' := (90, [some (.inr (.inr (.inr (11, 0, 83)))), some (.inl (iZ (mm + 1))), some (.inl (iZ (0)))], [.inr (.inr (.inr (11, 0, 83)))], h8)) rfl ?_
              refine Ev.gfr (r := (20, 64, 92)) rfl (sh_83_17 (h := h8) (qm_sh q8)) ?_
              refine Ev.sts 2 (c' := (95, [some (.inr (.inr (.inr (11, 0, 83)))), some (.inl (iZ (mm + 1))), some (.inl (iZ (0)))], [.inl (iZ (mm + 1)), .inl (iZ (2)), .inr (.inr (.inr (20, 64, 92)))], h8)) rfl ?_
              refine Ev.sto (j := (iZ (2))) (n := 64) (h2 := (setI h8 92 2 ((iZ (mm + 1))))) (by decide) rfl rfl ?_
              have m10 : MOQ (setI h8 92 2 ((iZ (mm + 1)))) T (p + 1) (smQ T s p) := MOQ_2 m8
              have e10 : (setI h8 92 2 ((iZ (mm + 1)))).1 92 2 = iZ ((mm : Int) + 1) := setI_self _ _ _ _
              have f10 : fQ 0 h (setI h8 92 2 ((iZ (mm + 1)))) := fQ_t hn f8 (fQ_I (by omega))
              generalize (setI h8 92 2 ((iZ (mm + 1)))) = h10 at m10 e10 f10 ⊢
              have q10 := m10.1
              refine Ev.sts 2 (c' := (99, [some (.inr (.inr (.inr (11, 0, 83)))), some (.inl (iZ (mm + 1))), some (.inl (iZ (0)))], [.inl (iZ (59)), .inr (.inr (.inr (11, 0, 83)))], h10)) rfl ?_
              refine Ev.callw (a := [.inr (.inr (.inr (11, 0, 83))), .inl (iZ (59))]) rfl (mf_sign (K := 30) q10 (by decide) (by decide) (fun ky11 h11 q11 f11 => ?_) (fun ky11 g11 a11 f11 => ?_))
              · have z11 := qm_p q11
                have e1 : mnN T (n + 1) p = (true, p + 1 + 1, [p]) := (by rw [mnN_t (by assumption), mns_d (by assumption), if_pos (by assumption)])
                rw [e1] at k1
                have ml : (smM (smQ T s p)).length = mm + 1 := by rw [smQ_M (by omega), app_len', hm]
                exact Ev.ret rfl (k1 (MOQ_R m10 q11 f11).2.2.2.2.2 _ (MOQ_R m10 q11 f11) (by show _ = iZ ((smM (smQ T s p)).length : Int); rw [ml]; exact ((congrFun (f11.2.1 92 (by decide) (by decide)) 2).trans e10)) (fQ_t hn f10 (fQ_R f11)))
              · first | (exfalso; omega) | (have e2 : smE (smQ T s p) = (4, p) := smQ_4 m0.2.2.2.2.2 (by omega); have e3 : smE (List.foldl (smQ T) s (mnN T (n + 1) p).2.2) = (4, p) := (by rw [mnN_t (by assumption)]; show smE (List.foldl (smQ T) (smQ T s p) _) = _; rw [smE_Q _ _ (by rw [e2]; show ¬ (4 : Nat) = 0; decide), e2]); rw [e3] at k0; exact Ev.ret rfl (k0 (by show ¬ (4 : Nat) = 0; decide) _ a11 (fQ_t hn f10 (fQ_R f11)))) | (have e2 : smE (smQ T s p) = (5, p) := smQ_5 m0.2.2.2.2.2 (by omega) (by omega); have e3 : smE (List.foldl (smQ T) s (mnN T (n + 1) p).2.2) = (5, p) := (by rw [mnN_t (by assumption)]; show smE (List.foldl (smQ T) (smQ T s p) _) = _; rw [smE_Q _ _ (by rw [e2]; show ¬ (5 : Nat) = 0; decide), e2]); rw [e3] at k0; exact Ev.ret rfl (k0 (by show ¬ (5 : Nat) = 0; decide) _ a11 (fQ_t hn f10 (fQ_R f11))))
        · refine Ev.brF (p := ¬ (iZ (0)) = (iZ (0))) (c1 := (58, [some (.inr (.inr (.inr (11, 0, 83)))), some (.inl (iZ (mm))), some (.inl (iZ (1)))], [], g7)) (c2 := (56, [some (.inr (.inr (.inr (11, 0, 83)))), some (.inl (iZ (mm))), some (.inl (iZ (1)))], [], g7)) (by decide) rfl ?_
          refine Ev.sts 1 (c' := (57, [some (.inr (.inr (.inr (11, 0, 83)))), some (.inl (iZ (mm))), some (.inl (iZ (1)))], [.inl (iZ (0))], g7)) rfl ?_
          first | (exfalso; omega) | (have e2 : smE (smQ T s p) = (4, p) := smQ_4 m0.2.2.2.2.2 (by omega); have e3 : smE (List.foldl (smQ T) s (mnN T (n + 1) p).2.2) = (4, p) := (by rw [mnN_t (by assumption)]; show smE (List.foldl (smQ T) (smQ T s p) _) = _; rw [smE_Q _ _ (by rw [e2]; show ¬ (4 : Nat) = 0; decide), e2]); rw [e3] at k0; exact Ev.ret rfl (k0 (by show ¬ (4 : Nat) = 0; decide) _ a7 (fQ_t hn (fQ_r h) (fQ_R f7)))) | (have e2 : smE (smQ T s p) = (5, p) := smQ_5 m0.2.2.2.2.2 (by omega) (by omega); have e3 : smE (List.foldl (smQ T) s (mnN T (n + 1) p).2.2) = (5, p) := (by rw [mnN_t (by assumption)]; show smE (List.foldl (smQ T) (smQ T s p) _) = _; rw [smE_Q _ _ (by rw [e2]; show ¬ (5 : Nat) = 0; decide), e2]); rw [e3] at k0; exact Ev.ret rfl (k0 (by show ¬ (5 : Nat) = 0; decide) _ a7 (fQ_t hn (fQ_r h) (fQ_R f7))))
        · refine Ev.brF (p := ¬ (iZ (0)) = (iZ (0))) (c1 := (58, [some (.inr (.inr (.inr (11, 0, 83)))), some (.inl (iZ (mm))), some (.inl (iZ (1)))], [], b7)) (c2 := (56, [some (.inr (.inr (.inr (11, 0, 83)))), some (.inl (iZ (mm))), some (.inl (iZ (1)))], [], b7)) (by decide) rfl ?_
          refine Ev.sts 1 (c' := (57, [some (.inr (.inr (.inr (11, 0, 83)))), some (.inl (iZ (mm))), some (.inl (iZ (1)))], [.inl (iZ (0))], b7)) rfl ?_
          first | (exfalso; omega) | (have e2 : smE (smQ T s p) = (4, p) := smQ_4 m0.2.2.2.2.2 (by omega); have e3 : smE (List.foldl (smQ T) s (mnN T (n + 1) p).2.2) = (4, p) := (by rw [mnN_t (by assumption)]; show smE (List.foldl (smQ T) (smQ T s p) _) = _; rw [smE_Q _ _ (by rw [e2]; show ¬ (4 : Nat) = 0; decide), e2]); rw [e3] at k0; exact Ev.ret rfl (k0 (by show ¬ (4 : Nat) = 0; decide) _ a7 (fQ_t hn (fQ_r h) (fQ_R f7)))) | (have e2 : smE (smQ T s p) = (5, p) := smQ_5 m0.2.2.2.2.2 (by omega) (by omega); have e3 : smE (List.foldl (smQ T) s (mnN T (n + 1) p).2.2) = (5, p) := (by rw [mnN_t (by assumption)]; show smE (List.foldl (smQ T) (smQ T s p) _) = _; rw [smE_Q _ _ (by rw [e2]; show ¬ (5 : Nat) = 0; decide), e2]); rw [e3] at k0; exact Ev.ret rfl (k0 (by show ¬ (5 : Nat) = 0; decide) _ a7 (fQ_t hn (fQ_r h) (fQ_R f7))))

theorem mf_moon1 {d p : Nat} {T : List Tok} {s : Sm} {h : PH} {Q : Rs → PH → Prop} (m0 : MOQ h T p s) (hn : 103 ≤ hN h) (hm : (smM s).length = 0) (hs : (mnN T 400 p).1 = true) (k1 : ((smE (List.foldl (smQ T) s (mnN T 400 p).2.2)).1 = 0 → ∀ h1, MOQ h1 T (mnN T 400 p).2.1 (List.foldl (smQ T) s (mnN T 400 p).2.2) → h1.1 92 2 = iZ (smM (List.foldl (smQ T) s (mnN T 400 p).2.2)).length → fQ 0 h h1 → Q (.inl (some (.inl (iZ 1)))) h1)) (k0 : ((smE (List.foldl (smQ T) s (mnN T 400 p).2.2)).1 ≠ 0 → ∀ h1, erM h1 T (smE (List.foldl (smQ T) s (mnN T 400 p).2.2)).1 (smE (List.foldl (smQ T) s (mnN T 400 p).2.2)).2 → fQ 0 h h1 → Q (.inl (some (.inl (iZ 0)))) h1)) : Rn (d + 3) 183 [.inr (.inr (.inr (11, 0, 83)))] h Q := by
  have q0 := m0.1
  have sh := qm_sh q0
  have w0 := qm_w q0
  have p0 := qm_p q0
  have t0 := qm_tk q0
  have l1 := w0.2.1
  have tb0 := tBk w0 p
  have sb0 := sr_b (tK T p)
  refine Ev.sts 4 (c' := (4, [some (.inr (.inr (.inr (11, 0, 83)))), some (.inl (iZ (0))), some (.inl (iZ (1)))], [], h)) rfl ?_
  exact mf_moon1_lp 400 0 _ _ s _ (by omega) (Nat.zero_le _) hn m0 hm hs k1 k0

theorem smGo_G {T : List Tok} {s : Sm} {p on gap nu st tl : Nat} {raw : List Cmd} (h : (smG s).length < 6) : (smG (smGo T s p raw on gap nu st tl)).length = (smG s).length + 1 := by
  have e : smG (smGo T s p raw on gap nu st tl) = smG s ++ [tW T p] := if_pos h
  rw [e, app_len']
theorem goE_G {T : List Tok} {F G : List Int} {p on nu st : Nat} (h : (goE T F G p on nu st).1 = 0) : G.length < 6 := by
  by_cases c : G.length < 6
  · exact c
  · exfalso
    rcases (Decidable.em (0 ≤ lk F (tW T p) ∨ 0 ≤ lk G (tW T p))) with t | t
    · rw [goE_2 t] at h; exact absurd h (by show ¬ (2 : Nat) = 0; decide)
    · rw [goE_4 t (by omega)] at h; exact absurd h (by show ¬ (4 : Nat) = 0; decide)
theorem mf_lines1_lp {d : Nat} {T : List Tok} (n : Nat) : ∀ (jv : Option VV) (h : PH) (p : Nat) (N : List (Int × Int)) (s : Sm) (Q : Rs → PH → Prop), 402 ≤ p + 3 * n → 103 ≤ hN h → RMS h T p N s → (lnsF T n p).1 = true → ((smE (List.foldl (smL T) s (lnsF T n p).2.2)).1 = 0 → ∀ h1 N1 p1, RMS h1 T p1 N1 (List.foldl (smL T) s (lnsF T n p).2.2) → fQ (7 - (smG s).length) h h1 → Q (.inl (some (.inl (iZ 1)))) h1) → ((smE (List.foldl (smL T) s (lnsF T n p).2.2)).1 ≠ 0 → ∀ h1, erM h1 T (smE (List.foldl (smL T) s (lnsF T n p).2.2)).1 (smE (List.foldl (smL T) s (lnsF T n p).2.2)).2 → fQ (7 - (smG s).length) h h1 → Q (.inl (some (.inl (iZ 0)))) h1) → Ev (d + 71) 180 (72, [some (.inr (.inr (.inr (11, 0, 83)))), jv], [], h) Q := by
  induction n with
  | zero =>
    intro jv h p N s Q hn0 hn r0 hs k1 k0
    have q0 := r0.1
    have hp := r0.2.2.2.2.2.2.2.2.2
    have sh := qm_sh q0
    have w0 := qm_w q0
    have p0 := qm_p q0
    have t0 := qm_tk q0
    have l1 := w0.2.1
    have s1 := qm_s q0
    have tb0 := tBk w0 p
    have sb0 := sr_b (tK T p)
    have ok := r0.2.2.2.2.2.2.2.1
    have hF8 := ok.2.1
    have hG6 := ok.2.2.2.1
    have nl := r0.2.2.2.2.2.2.1.2.2
    have hN := r0.2.2.2.2.2.2.1.1
    have hI := r0.2.2.2.2.2.2.1.2.1
    omega
  | succ n ih =>
    intro jv h p N s Q hn0 hn r0 hs k1 k0
    have q0 := r0.1
    have hp := r0.2.2.2.2.2.2.2.2.2
    have sh := qm_sh q0
    have w0 := qm_w q0
    have p0 := qm_p q0
    have t0 := qm_tk q0
    have l1 := w0.2.1
    have s1 := qm_s q0
    have tb0 := tBk w0 p
    have sb0 := sr_b (tK T p)
    have ok := r0.2.2.2.2.2.2.2.1
    have hF8 := ok.2.1
    have hG6 := ok.2.2.2.1
    have nl := r0.2.2.2.2.2.2.1.2.2
    have hN := r0.2.2.2.2.2.2.1.1
    have hI := r0.2.2.2.2.2.2.1.2.1
    have lk0 : srK (tK T p) = 4 ∨ (tK T p = 5 ∧ (flkF T (p + 1)).1 = true ∧ tK T (flkF T (p + 1)).2.1 = 30) ∨ (tK T p = 15 ∧ (gooF T (p + 1)).1 = true ∧ tK T (gooF T (p + 1)).2.1 = 30) := by
      by_cases c : tK T p = 0
      · exact .inl (sr_4.mpr c)
      · exact .inr (lin_k (lns_k hs c).1)
    have s4 := sr_4 (k := tK T p)
    have lf : tK T p = 5 → (flkF T (p + 1)).1 = true ∧ tK T (flkF T (p + 1)).2.1 = 30 := fun c => by
      rcases lk0 with y | y | y
      · omega
      · exact y.2
      · omega
    have lg : tK T p = 15 → (gooF T (p + 1)).1 = true ∧ tK T (gooF T (p + 1)).2.1 = 30 := fun c => by
      rcases lk0 with y | y | y
      · omega
      · omega
      · exact y.2
    have lf3 : tK T p = 5 → p + 1 + 3 ≤ (flkF T (p + 1)).2.1 ∧ tK T (flkF T (p + 1)).2.1 = 30 := fun c => ⟨(flkF_g w0 (lf c).1).2, (lf c).2⟩
    have lg3 : tK T p = 15 → p + 1 + 3 ≤ (gooF T (p + 1)).2.1 ∧ tK T (gooF T (p + 1)).2.1 = 30 := fun c => ⟨gooF_g w0 (lg c).1, (lg c).2⟩
    have lkk : srK (tK T p) = 4 ∨ tK T p = 5 ∨ tK T p = 15 := by omega
    refine Ev.sts 1 (c' := (73, [some (.inr (.inr (.inr (11, 0, 83)))), jv], [.inr (.inr (.inr (11, 0, 83)))], h)) rfl ?_
    refine Ev.gfr (r := (20, 402, 85)) rfl (sh_83_3 (h := h) (qm_sh q0)) ?_
    refine Ev.sts 1 (c' := (77, [some (.inr (.inr (.inr (11, 0, 83)))), jv], [.inr (.inr (.inr (11, 0, 83))), .inr (.inr (.inr (20, 402, 85)))], h)) rfl ?_
    refine Ev.gv (w := (iZ (p))) rfl (qm_7 q0) ?_
    refine Ev.ldv (j := (iZ (p))) (n := 402) (w := .inl (iZ (srK (tK T p)))) (iZ_in (by omega) (by omega) (by omega)) rfl (by rw [iZ_ix (n := p) (by omega) (by omega)]; exact congrArg vI (qm_tk q0 _ (qm_p q0)).1) ?_
    refine Ev.sts 1 (c' := (82, [some (.inr (.inr (.inr (11, 0, 83)))), jv], [.inl (iZ (4)), .inl (iZ (srK (tK T p)))], h)) rfl ?_
    refine Ev.brc (p := (iZ (srK (tK T p))) = (iZ (4))) (q := ((srK (tK T p) : Int)) = 4) (c1 := (147, [some (.inr (.inr (.inr (11, 0, 83)))), jv], [], h)) (c2 := (85, [some (.inr (.inr (.inr (11, 0, 83)))), jv], [], h)) rfl (iZ_eq ⟨by omega, by omega⟩ ⟨by omega, by omega⟩) (fun c0 => ?_) (fun c0 => ?_)
    · refine Ev.sts 1 (c' := (148, [some (.inr (.inr (.inr (11, 0, 83)))), jv], [.inl (iZ (1))], h)) rfl ?_
      have e1 := lns_e (n := n) (show tK T p = 0 from sr_4.mp (by omega))
      rw [e1] at k1
      exact Ev.ret rfl (k1 r0.2.2.2.2.2.2.2.2.1 _ _ _ r0 (fQ_up (fQ_r h) (by omega)))
    · refine Ev.sts 2 (c' := (89, [some (.inr (.inr (.inr (11, 0, 83)))), jv], [.inr (.inl ((6700139 : Int64))), .inr (.inr (.inr (11, 0, 83)))], h)) rfl ?_
      refine Ev.callw (a := [.inr (.inr (.inr (11, 0, 83))), .inr (.inl ((6700139 : Int64)))]) rfl (mf_ifWord (K := 5) q0 (by decide) (by decide) (fun ky1 h1 q1 f1 => ?_) (fun ky1 => ?_))
      · have z1 := qm_p q1
        refine Ev.brF (p := (iZ (1)) = (iZ (0))) (c1 := (102, [some (.inr (.inr (.inr (11, 0, 83)))), jv], [], h1)) (c2 := (95, [some (.inr (.inr (.inr (11, 0, 83)))), jv], [], h1)) (by decide) rfl ?_
        refine Ev.sts 1 (c' := (96, [some (.inr (.inr (.inr (11, 0, 83)))), jv], [.inr (.inr (.inr (11, 0, 83)))], h1)) rfl ?_
        refine Ev.callw (a := [.inr (.inr (.inr (11, 0, 83)))]) rfl (mf_flock1 (RMS_R r0 q1 f1 (by omega)) (lf (by omega)).1 (by have := (fQ_t hn (fQ_r h) (fQ_R f1)).2.2.2.2.1; omega) (fun ze2 h2 N2 r2 f2 => ?_) (fun ze2 g2 a2 f2 => ?_))
        · have z2 := qm_p r2.1
          refine Ev.sts 3 (c' := (130, [some (.inr (.inr (.inr (11, 0, 83)))), some (.inl (iZ (1)))], [.inl (iZ (1))], h2)) rfl ?_
          refine Ev.brF (p := (iZ (1)) = (iZ (0))) (c1 := (142, [some (.inr (.inr (.inr (11, 0, 83)))), some (.inl (iZ (1)))], [], h2)) (c2 := (133, [some (.inr (.inr (.inr (11, 0, 83)))), some (.inl (iZ (1)))], [], h2)) (by decide) rfl ?_
          refine Ev.sts 2 (c' := (136, [some (.inr (.inr (.inr (11, 0, 83)))), some (.inl (iZ (1)))], [.inl (iZ (59)), .inr (.inr (.inr (11, 0, 83)))], h2)) rfl ?_
          refine Ev.callw (a := [.inr (.inr (.inr (11, 0, 83))), .inl (iZ (59))]) rfl (mf_sign (K := 30) r2.1 (by decide) (by decide) (fun ky3 h3 q3 f3 => ?_) (fun ky3 g3 a3 f3 => ?_))
          · have z3 := qm_p q3
            refine Ev.brT (p := ¬ (iZ (1)) = (iZ (0))) (c1 := (144, [some (.inr (.inr (.inr (11, 0, 83)))), some (.inl (iZ (1)))], [], h3)) (c2 := (142, [some (.inr (.inr (.inr (11, 0, 83)))), some (.inl (iZ (1)))], [], h3)) (by decide) rfl ?_
            refine Ev.sts 1 (c' := (72, [some (.inr (.inr (.inr (11, 0, 83)))), some (.inl (iZ (1)))], [], h3)) rfl ?_
            have e2 : linF T p = (true, (flkF T (p + 1)).2.1 + 1, (flkF T (p + 1)).2.2) := (show linF T p = semF T (flkF T (p + 1)) from by unfold linF; rw [if_pos (by assumption)]).trans (semF_t (lf (by omega)).1 (lf (by omega)).2)
            have e1 := lns_l (n := n) (T := T) (p := p) (fun z_ => by have := sr_4.mpr z_; omega) (by rw [e2])
            rw [e2] at e1
            have e3 : smL T s (flkF T (p + 1)).2.2 = smFl T s (p + 1) (flkF T (p + 1)).2.2.2.2.1 := by rw [(flk_t (lf (by omega)).1).2.2.2]; rfl
            have sz := lns_k hs (fun z_ => by have := sr_4.mpr z_; omega)
            rw [e2] at sz
            have rz := RMS_R r2 q3 f3 (Nat.le_succ _)
            have gz : (smG (smFl T s (p + 1) (flkF T (p + 1)).2.2.2.2.1)).length = (smG s).length := by rfl
            have g6 := rz.2.2.2.2.2.2.2.1.2.2.2.1
            have fz0 := (fQ_t hn (fQ_t hn (fQ_t hn (fQ_r h) (fQ_R f1)) f2) (fQ_R f3))
            refine ih _ _ _ _ (smFl T s (p + 1) (flkF T (p + 1)).2.2.2.2.1) _ (by omega) (by have := fz0.2.2.2.2.1; omega) rz sz.2 (fun rr hz Nz pz qz fz => ?_) (fun rr hz az fz => ?_)
            · rw [e1] at k1
              have k2 := k1
              rw [show List.foldl (smL T) s ((flkF T (p + 1)).2.2 :: (lnsF T n ((flkF T (p + 1)).2.1 + 1)).2.2) = List.foldl (smL T) (smFl T s (p + 1) (flkF T (p + 1)).2.2.2.2.1) (lnsF T n ((flkF T (p + 1)).2.1 + 1)).2.2 from by show List.foldl (smL T) (smL T s (flkF T (p + 1)).2.2) _ = _; rw [e3]] at k2
              exact k2 rr hz Nz pz qz (fQ_up (fQ_t hn fz0 fz) (by omega))
            · rw [e1] at k0
              have k2 := k0
              rw [show List.foldl (smL T) s ((flkF T (p + 1)).2.2 :: (lnsF T n ((flkF T (p + 1)).2.1 + 1)).2.2) = List.foldl (smL T) (smFl T s (p + 1) (flkF T (p + 1)).2.2.2.2.1) (lnsF T n ((flkF T (p + 1)).2.1 + 1)).2.2 from by show List.foldl (smL T) (smL T s (flkF T (p + 1)).2.2) _ = _; rw [e3]] at k2
              exact k2 rr hz az (fQ_up (fQ_t hn fz0 fz) (by omega))
          · refine Ev.brF (p := ¬ (iZ (0)) = (iZ (0))) (c1 := (144, [some (.inr (.inr (.inr (11, 0, 83)))), some (.inl (iZ (1)))], [], g3)) (c2 := (142, [some (.inr (.inr (.inr (11, 0, 83)))), some (.inl (iZ (1)))], [], g3)) (by decide) rfl ?_
            refine Ev.sts 1 (c' := (143, [some (.inr (.inr (.inr (11, 0, 83)))), some (.inl (iZ (1)))], [.inl (iZ (0))], g3)) rfl ?_
            exfalso; omega
        · refine Ev.sts 3 (c' := (130, [some (.inr (.inr (.inr (11, 0, 83)))), some (.inl (iZ (0)))], [.inl (iZ (0))], g2)) rfl ?_
          refine Ev.brT (p := (iZ (0)) = (iZ (0))) (c1 := (142, [some (.inr (.inr (.inr (11, 0, 83)))), some (.inl (iZ (0)))], [], g2)) (c2 := (133, [some (.inr (.inr (.inr (11, 0, 83)))), some (.inl (iZ (0)))], [], g2)) (by decide) rfl ?_
          refine Ev.sts 1 (c' := (143, [some (.inr (.inr (.inr (11, 0, 83)))), some (.inl (iZ (0)))], [.inl (iZ (0))], g2)) rfl ?_
          have e2 : linF T p = (true, (flkF T (p + 1)).2.1 + 1, (flkF T (p + 1)).2.2) := (show linF T p = semF T (flkF T (p + 1)) from by unfold linF; rw [if_pos (by assumption)]).trans (semF_t (lf (by omega)).1 (lf (by omega)).2)
          have e1 := lns_l (n := n) (T := T) (p := p) (fun z_ => by have := sr_4.mpr z_; omega) (by rw [e2])
          rw [e2] at e1
          have e3 : smL T s (flkF T (p + 1)).2.2 = smFl T s (p + 1) (flkF T (p + 1)).2.2.2.2.1 := by rw [(flk_t (lf (by omega)).1).2.2.2]; rfl
          have e4 : smE (smFl T s (p + 1) (flkF T (p + 1)).2.2.2.2.1) = (flE T (smF s) (smG s) (p + 1) (flkF T (p + 1)).2.2.2.2.1) := ntE_p r0.2.2.2.2.2.2.2.2.1
          have e5 : smE (List.foldl (smL T) s (lnsF T (n + 1) p).2.2) = (flE T (smF s) (smG s) (p + 1) (flkF T (p + 1)).2.2.2.2.1) := by rw [e1]; show smE (List.foldl (smL T) (smL T s (flkF T (p + 1)).2.2) _) = _; rw [e3, smE_L _ _ (by rw [e4]; exact ze2), e4]
          rw [e5] at k0
          exact Ev.ret rfl (k0 ze2 _ a2 (fQ_up (fQ_t hn (fQ_t hn (fQ_r h) (fQ_R f1)) f2) (by omega)))
      · refine Ev.brT (p := (iZ (0)) = (iZ (0))) (c1 := (102, [some (.inr (.inr (.inr (11, 0, 83)))), jv], [], h)) (c2 := (95, [some (.inr (.inr (.inr (11, 0, 83)))), jv], [], h)) (by decide) rfl ?_
        refine Ev.sts 2 (c' := (106, [some (.inr (.inr (.inr (11, 0, 83)))), jv], [.inr (.inl ((7847525 : Int64))), .inr (.inr (.inr (11, 0, 83)))], h)) rfl ?_
        refine Ev.callw (a := [.inr (.inr (.inr (11, 0, 83))), .inr (.inl ((7847525 : Int64)))]) rfl (mf_ifWord (K := 15) q0 (by decide) (by decide) (fun ky4 h4 q4 f4 => ?_) (fun ky4 => ?_))
        · have z4 := qm_p q4
          refine Ev.brF (p := (iZ (1)) = (iZ (0))) (c1 := (119, [some (.inr (.inr (.inr (11, 0, 83)))), jv], [], h4)) (c2 := (112, [some (.inr (.inr (.inr (11, 0, 83)))), jv], [], h4)) (by decide) rfl ?_
          refine Ev.sts 1 (c' := (113, [some (.inr (.inr (.inr (11, 0, 83)))), jv], [.inr (.inr (.inr (11, 0, 83)))], h4)) rfl ?_
          refine Ev.callw (a := [.inr (.inr (.inr (11, 0, 83)))]) rfl (mf_goose1 (RMS_R r0 q4 f4 (by omega)) (lg (by omega)).1 (by have := (fQ_t hn (fQ_r h) (fQ_R f4)).2.2.2.2.1; omega) (fun ze5 h5 N5 r5 f5 => ?_) (fun ze5 g5 a5 f5 => ?_))
          · rw [show (telF T ((winF T (p + 1 + 3)).2.1 + 1)).2.1 = (gooF T (p + 1)).2.1 from by rw [(goo_t (lg (by omega)).1).2.2.2.2.2.2]] at r5
            have z5 := qm_p r5.1
            refine Ev.sts 3 (c' := (130, [some (.inr (.inr (.inr (11, 0, 83)))), some (.inl (iZ (1)))], [.inl (iZ (1))], h5)) rfl ?_
            refine Ev.brF (p := (iZ (1)) = (iZ (0))) (c1 := (142, [some (.inr (.inr (.inr (11, 0, 83)))), some (.inl (iZ (1)))], [], h5)) (c2 := (133, [some (.inr (.inr (.inr (11, 0, 83)))), some (.inl (iZ (1)))], [], h5)) (by decide) rfl ?_
            refine Ev.sts 2 (c' := (136, [some (.inr (.inr (.inr (11, 0, 83)))), some (.inl (iZ (1)))], [.inl (iZ (59)), .inr (.inr (.inr (11, 0, 83)))], h5)) rfl ?_
            refine Ev.callw (a := [.inr (.inr (.inr (11, 0, 83))), .inl (iZ (59))]) rfl (mf_sign (K := 30) r5.1 (by decide) (by decide) (fun ky6 h6 q6 f6 => ?_) (fun ky6 g6 a6 f6 => ?_))
            · have z6 := qm_p q6
              refine Ev.brT (p := ¬ (iZ (1)) = (iZ (0))) (c1 := (144, [some (.inr (.inr (.inr (11, 0, 83)))), some (.inl (iZ (1)))], [], h6)) (c2 := (142, [some (.inr (.inr (.inr (11, 0, 83)))), some (.inl (iZ (1)))], [], h6)) (by decide) rfl ?_
              refine Ev.sts 1 (c' := (72, [some (.inr (.inr (.inr (11, 0, 83)))), some (.inl (iZ (1)))], [], h6)) rfl ?_
              have e2 : linF T p = (true, (gooF T (p + 1)).2.1 + 1, (gooF T (p + 1)).2.2) := (show linF T p = semF T (gooF T (p + 1)) from by unfold linF; rw [if_neg (by omega), if_pos (by assumption)]).trans (semF_t (lg (by omega)).1 (lg (by omega)).2)
              have e1 := lns_l (n := n) (T := T) (p := p) (fun z_ => by have := sr_4.mpr z_; omega) (by rw [e2])
              rw [e2] at e1
              have e3 : smL T s (gooF T (p + 1)).2.2 = smGo T s (p + 1) (telF T ((winF T (p + 1 + 3)).2.1 + 1)).2.2.2 (p + 1 + 2) (winF T (p + 1 + 3)).2.2.1 (winF T (p + 1 + 3)).2.2.2.1 (winF T (p + 1 + 3)).2.2.2.2 (telF T ((winF T (p + 1 + 3)).2.1 + 1)).2.2.1 := by rw [(goo_t (lg (by omega)).1).2.2.2.2.2.2]; rfl
              have sz := lns_k hs (fun z_ => by have := sr_4.mpr z_; omega)
              rw [e2] at sz
              have rz := RMS_R r5 q6 f6 (Nat.le_succ _)
              have gz : (smG (smGo T s (p + 1) (telF T ((winF T (p + 1 + 3)).2.1 + 1)).2.2.2 (p + 1 + 2) (winF T (p + 1 + 3)).2.2.1 (winF T (p + 1 + 3)).2.2.2.1 (winF T (p + 1 + 3)).2.2.2.2 (telF T ((winF T (p + 1 + 3)).2.1 + 1)).2.2.1)).length = (smG s).length + 1 := by exact smGo_G (by have := ze5; exact goE_G this)
              have g6 := rz.2.2.2.2.2.2.2.1.2.2.2.1
              have fz0 := (fQ_t hn (fQ_t hn (fQ_t hn (fQ_r h) (fQ_R f4)) f5) (fQ_R f6))
              refine ih _ _ _ _ (smGo T s (p + 1) (telF T ((winF T (p + 1 + 3)).2.1 + 1)).2.2.2 (p + 1 + 2) (winF T (p + 1 + 3)).2.2.1 (winF T (p + 1 + 3)).2.2.2.1 (winF T (p + 1 + 3)).2.2.2.2 (telF T ((winF T (p + 1 + 3)).2.1 + 1)).2.2.1) _ (by omega) (by have := fz0.2.2.2.2.1; omega) rz sz.2 (fun rr hz Nz pz qz fz => ?_) (fun rr hz az fz => ?_)
              · rw [e1] at k1
                have k2 := k1
                rw [show List.foldl (smL T) s ((gooF T (p + 1)).2.2 :: (lnsF T n ((gooF T (p + 1)).2.1 + 1)).2.2) = List.foldl (smL T) (smGo T s (p + 1) (telF T ((winF T (p + 1 + 3)).2.1 + 1)).2.2.2 (p + 1 + 2) (winF T (p + 1 + 3)).2.2.1 (winF T (p + 1 + 3)).2.2.2.1 (winF T (p + 1 + 3)).2.2.2.2 (telF T ((winF T (p + 1 + 3)).2.1 + 1)).2.2.1) (lnsF T n ((gooF T (p + 1)).2.1 + 1)).2.2 from by show List.foldl (smL T) (smL T s (gooF T (p + 1)).2.2) _ = _; rw [e3]] at k2
                exact k2 rr hz Nz pz qz (fQ_up (fQ_t hn fz0 fz) (by omega))
              · rw [e1] at k0
                have k2 := k0
                rw [show List.foldl (smL T) s ((gooF T (p + 1)).2.2 :: (lnsF T n ((gooF T (p + 1)).2.1 + 1)).2.2) = List.foldl (smL T) (smGo T s (p + 1) (telF T ((winF T (p + 1 + 3)).2.1 + 1)).2.2.2 (p + 1 + 2) (winF T (p + 1 + 3)).2.2.1 (winF T (p + 1 + 3)).2.2.2.1 (winF T (p + 1 + 3)).2.2.2.2 (telF T ((winF T (p + 1 + 3)).2.1 + 1)).2.2.1) (lnsF T n ((gooF T (p + 1)).2.1 + 1)).2.2 from by show List.foldl (smL T) (smL T s (gooF T (p + 1)).2.2) _ = _; rw [e3]] at k2
                exact k2 rr hz az (fQ_up (fQ_t hn fz0 fz) (by omega))
            · refine Ev.brF (p := ¬ (iZ (0)) = (iZ (0))) (c1 := (144, [some (.inr (.inr (.inr (11, 0, 83)))), some (.inl (iZ (1)))], [], g6)) (c2 := (142, [some (.inr (.inr (.inr (11, 0, 83)))), some (.inl (iZ (1)))], [], g6)) (by decide) rfl ?_
              refine Ev.sts 1 (c' := (143, [some (.inr (.inr (.inr (11, 0, 83)))), some (.inl (iZ (1)))], [.inl (iZ (0))], g6)) rfl ?_
              exfalso; omega
          · refine Ev.sts 3 (c' := (130, [some (.inr (.inr (.inr (11, 0, 83)))), some (.inl (iZ (0)))], [.inl (iZ (0))], g5)) rfl ?_
            refine Ev.brT (p := (iZ (0)) = (iZ (0))) (c1 := (142, [some (.inr (.inr (.inr (11, 0, 83)))), some (.inl (iZ (0)))], [], g5)) (c2 := (133, [some (.inr (.inr (.inr (11, 0, 83)))), some (.inl (iZ (0)))], [], g5)) (by decide) rfl ?_
            refine Ev.sts 1 (c' := (143, [some (.inr (.inr (.inr (11, 0, 83)))), some (.inl (iZ (0)))], [.inl (iZ (0))], g5)) rfl ?_
            have e2 : linF T p = (true, (gooF T (p + 1)).2.1 + 1, (gooF T (p + 1)).2.2) := (show linF T p = semF T (gooF T (p + 1)) from by unfold linF; rw [if_neg (by omega), if_pos (by assumption)]).trans (semF_t (lg (by omega)).1 (lg (by omega)).2)
            have e1 := lns_l (n := n) (T := T) (p := p) (fun z_ => by have := sr_4.mpr z_; omega) (by rw [e2])
            rw [e2] at e1
            have e3 : smL T s (gooF T (p + 1)).2.2 = smGo T s (p + 1) (telF T ((winF T (p + 1 + 3)).2.1 + 1)).2.2.2 (p + 1 + 2) (winF T (p + 1 + 3)).2.2.1 (winF T (p + 1 + 3)).2.2.2.1 (winF T (p + 1 + 3)).2.2.2.2 (telF T ((winF T (p + 1 + 3)).2.1 + 1)).2.2.1 := by rw [(goo_t (lg (by omega)).1).2.2.2.2.2.2]; rfl
            have e4 : smE (smGo T s (p + 1) (telF T ((winF T (p + 1 + 3)).2.1 + 1)).2.2.2 (p + 1 + 2) (winF T (p + 1 + 3)).2.2.1 (winF T (p + 1 + 3)).2.2.2.1 (winF T (p + 1 + 3)).2.2.2.2 (telF T ((winF T (p + 1 + 3)).2.1 + 1)).2.2.1) = (goE T (smF s) (smG s) (p + 1) (p + 1 + 2) (winF T (p + 1 + 3)).2.2.2.1 (winF T (p + 1 + 3)).2.2.2.2) := ntE_p r0.2.2.2.2.2.2.2.2.1
            have e5 : smE (List.foldl (smL T) s (lnsF T (n + 1) p).2.2) = (goE T (smF s) (smG s) (p + 1) (p + 1 + 2) (winF T (p + 1 + 3)).2.2.2.1 (winF T (p + 1 + 3)).2.2.2.2) := by rw [e1]; show smE (List.foldl (smL T) (smL T s (gooF T (p + 1)).2.2) _) = _; rw [e3, smE_L _ _ (by rw [e4]; exact ze5), e4]
            rw [e5] at k0
            exact Ev.ret rfl (k0 ze5 _ a5 (fQ_up (fQ_t hn (fQ_t hn (fQ_r h) (fQ_R f4)) f5) (by omega)))
        · refine Ev.brT (p := (iZ (0)) = (iZ (0))) (c1 := (119, [some (.inr (.inr (.inr (11, 0, 83)))), jv], [], h)) (c2 := (112, [some (.inr (.inr (.inr (11, 0, 83)))), jv], [], h)) (by decide) rfl ?_
          refine Ev.sts 3 (c' := (122, [some (.inr (.inr (.inr (11, 0, 83)))), jv], [.inr (.inr (.inr (11, 0, 83))), .inl (iZ (1)), .inr (.inr (.inr (11, 0, 83)))], h)) rfl ?_
          refine Ev.gv (w := (iZ (p))) rfl (qm_7 q0) ?_
          refine Ev.callv (a := [.inr (.inr (.inr (11, 0, 83))), .inl (iZ (1)), .inl (iZ (p))]) rfl (mf_fault (yn := p) (qm_sh q0) (qm_tk q0) (by omega) (by have := qm_p q0; omega) l1) ?_
          refine Ev.sts 2 (c' := (130, [some (.inr (.inr (.inr (11, 0, 83)))), some (.inl (iZ (0)))], [.inl (iZ (0))], (setI (setI h 83 9 (iZ (1))) 83 10 (iZ (tS T p))))) rfl ?_
          refine Ev.brT (p := (iZ (0)) = (iZ (0))) (c1 := (142, [some (.inr (.inr (.inr (11, 0, 83)))), some (.inl (iZ (0)))], [], (setI (setI h 83 9 (iZ (1))) 83 10 (iZ (tS T p))))) (c2 := (133, [some (.inr (.inr (.inr (11, 0, 83)))), some (.inl (iZ (0)))], [], (setI (setI h 83 9 (iZ (1))) 83 10 (iZ (tS T p))))) (by decide) rfl ?_
          refine Ev.sts 1 (c' := (143, [some (.inr (.inr (.inr (11, 0, 83)))), some (.inl (iZ (0)))], [.inl (iZ (0))], (setI (setI h 83 9 (iZ (1))) 83 10 (iZ (tS T p))))) rfl ?_
          exfalso; omega

