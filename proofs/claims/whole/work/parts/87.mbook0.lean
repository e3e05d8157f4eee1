/-! The reference reads a book: the first walk. -/
/-- what a walk changes, c new rows -/
def fQ (c : Nat) (h h1 : PH) : Prop := h1.2.2.1 = h.2.2.1 ∧ (∀ a, a ≠ 89 → h1.2.1 a = h.2.1 a) ∧ (∀ a, a ≠ 83 → a ≠ 90 → a ≠ 91 → a ≠ 92 → a < hN h → h1.1 a = h.1 a) ∧ (∀ k, k ≠ 7 → k ≠ 9 → k ≠ 10 → k ≠ 14 → k ≠ 16 → h1.1 83 k = h.1 83 k) ∧ hN h ≤ hN h1 ∧ hN h1 ≤ hN h + c ∧ hS h1 ≤ hS h + 6 * c
theorem fQ_r (h : PH) : fQ 0 h h := ⟨rfl, fun _ _ => rfl, fun _ _ _ _ _ _ => rfl, fun _ _ _ _ _ _ => rfl, Nat.le_refl _, Nat.le_refl _, Nat.le_refl _⟩
theorem fQ_t {c c2 : Nat} {h h1 h2 : PH} (hn : 103 ≤ hN h) (a : fQ c h h1) (b : fQ c2 h1 h2) : fQ (c + c2) h h2 := ⟨b.1.trans a.1, fun x x1 => (b.2.1 x x1).trans (a.2.1 x x1), fun x x1 x2 x3 x4 x5 => (b.2.2.1 x x1 x2 x3 x4 (by have := a.2.2.2.2.1; omega)).trans (a.2.2.1 x x1 x2 x3 x4 x5), fun k k1 k2 k3 k4 k5 => (b.2.2.2.1 k k1 k2 k3 k4 k5).trans (a.2.2.2.1 k k1 k2 k3 k4 k5), by have := a.2.2.2.2.1; have := b.2.2.2.2.1; omega, by have := a.2.2.2.2.2.1; have := b.2.2.2.2.2.1; omega, by have := a.2.2.2.2.2.2; have := b.2.2.2.2.2.2; omega⟩
theorem fQ_R {h h1 : PH} (f : fR h h1) : fQ 0 h h1 := ⟨by rw [f.1], fun a _ => by rw [f.1], fun a a1 _ a3 _ _ => f.2.1 a a1 a3, fun k k1 k2 k3 _ k5 => f.2.2 k k1 k2 k3 k5, by unfold hN; rw [f.1]; exact Nat.le_refl _, by unfold hN; rw [f.1]; exact Nat.le_refl _, by unfold hS; rw [f.1]; exact Nat.le_refl _⟩
theorem fQ_I {h : PH} {a k : Nat} {v : Int32} (ha : a = 90 ∨ a = 91 ∨ a = 92 ∨ (a = 83 ∧ (k = 7 ∨ k = 9 ∨ k = 10 ∨ k = 14 ∨ k = 16))) : fQ 0 h (setI h a k v) := ⟨rfl, fun _ _ => rfl, fun b b1 b2 b3 b4 _ => setI_oth (by omega), fun j _ _ _ _ _ => setI_ne (by omega), Nat.le_refl _, Nat.le_refl _, Nat.le_refl _⟩
theorem QM_92 {h : PH} {T : List Tok} {sc p k : Nat} {N : List (Int × Int)} {W : List Int} {v : Int32} (q : QM h T sc p N W) : QM (setI h 92 k v) T sc p N W := by
  obtain ⟨q1, q2, q3, q4, q5, q6, q7, ⟨n1, n2, n3⟩, q9, q10, q11⟩ := q
  exact ⟨Sh_eq q1 rfl, fun j hj => ⟨(setI_ne (by omega)).trans (q2 j hj).1, (setI_ne (by omega)).trans (q2 j hj).2.1, (q2 j hj).2.2⟩, q3, q4, (setI_ne (by omega)).trans q5, (setI_ne (by omega)).trans q6, q7, ⟨(setI_ne (by omega)).trans n1, n2, fun j hj => ⟨(n3 j hj).1, (n3 j hj).2.1, (n3 j hj).2.2.1, (setI_ne (by omega)).trans (n3 j hj).2.2.2.1, (n3 j hj).2.2.2.2⟩⟩, (setI_ne (by omega)).trans q9, fun z j hj => (setI_ne (by omega)).trans (q10 z j hj), q11⟩
theorem r0_R {h h1 : PH} (r : h.1 92 0 = iZ 0 ∧ h.1 92 1 = iZ 0) (f : fR h h1) : h1.1 92 0 = iZ 0 ∧ h1.1 92 1 = iZ 0 := ⟨(congrFun (f.2.1 92 (by decide) (by decide)) 0).trans r.1, (congrFun (f.2.1 92 (by decide) (by decide)) 1).trans r.2⟩
/-- the moon's numbers from a number's place on -/
def mnN (T : List Tok) (n p : Nat) : Mz := if tK T p = 3 then ((mns T n (p + 1)).1, (mns T n (p + 1)).2.1, p :: (mns T n (p + 1)).2.2) else (false, p, [])
theorem mnN_c {T : List Tok} {n p : Nat} (h : tK T p = 31) : mns T (n + 1) p = mnN T n (p + 1) := by
  unfold mnN
  by_cases k : tK T (p + 1) = 3
  · rw [mns_c h k, if_pos k]
  · rw [mns_x h k, if_neg k]
theorem mnN_t {T : List Tok} {n p : Nat} (h : tK T p = 3) : mnN T n p = ((mns T n (p + 1)).1, (mns T n (p + 1)).2.1, p :: (mns T n (p + 1)).2.2) := if_pos h
theorem mnN_f {T : List Tok} {n p : Nat} (h : ¬ tK T p = 3) : mnN T n p = (false, p, []) := if_neg h
theorem mns_d {T : List Tok} {n p : Nat} (h : ¬ tK T p = 31) : mns T (n + 1) p = if tK T p = 30 then (true, p + 1, []) else (false, p, []) := by
  by_cases k : tK T p = 30
  · rw [mns_s h k, if_pos k]
  · rw [mns_n h k, if_neg k]
theorem mf_moon0_lp {d : Nat} {T : List Tok} (n : Nat) : ∀ (mm : Nat) (h : PH) (p : Nat) (W : List Int) (Q : Rs → PH → Prop), 400 ≤ p + n → mm ≤ p → 103 ≤ hN h → QM h T 0 p [] W → W.length ≤ 2 * p → h.1 92 0 = iZ 0 ∧ h.1 92 1 = iZ 0 → ((mnN T n p).1 = true → ∀ h1 W1, QM h1 T 0 (mnN T n p).2.1 [] W1 → W1.length ≤ 2 * (mnN T n p).2.1 → h1.1 92 0 = iZ 0 ∧ h1.1 92 1 = iZ 0 → fQ 0 h h1 → Q (.inl (some (.inl (iZ 1)))) h1) → ((mnN T n p).1 = false → ∀ h1, erM h1 T 1 (mnN T n p).2.1 → fQ 0 h h1 → Q (.inl (some (.inl (iZ 0)))) h1) → Ev (d + 3) 183 (4, [some (.inr (.inr (.inr (11, 0, 83)))), some (.inl (iZ (mm))), some (.inl (iZ (1)))], [], h) Q := by
  induction n with
  | zero =>
    intro mm h p W Q hn0 hm hn q0 hp r0 k1 k0
    have sh := qm_sh q0
    have w0 := qm_w q0
    have p0 := qm_p q0
    have t0 := qm_tk q0
    have l1 := w0.2.1
    have tb0 := tBk w0 p
    have sb0 := sr_b (tK T p)
    have kz := tK_400 w0 (show 400 ≤ p by omega)
    refine Ev.sts 1 (c' := (5, [some (.inr (.inr (.inr (11, 0, 83)))), some (.inl (iZ (mm))), some (.inl (iZ (1)))], [.inl (iZ (1))], h)) rfl ?_
    refine Ev.brF (p := (iZ (1)) = (iZ (0))) (c1 := (89, [some (.inr (.inr (.inr (11, 0, 83)))), some (.inl (iZ (mm))), some (.inl (iZ (1)))], [], h)) (c2 := (8, [some (.inr (.inr (.inr (11, 0, 83)))), some (.inl (iZ (mm))), some (.inl (iZ (1)))], [], h)) (by decide) rfl ?_
    refine Ev.sts 1 (c' := (9, [some (.inr (.inr (.inr (11, 0, 83)))), some (.inl (iZ (mm))), some (.inl (iZ (1)))], [.inr (.inr (.inr (11, 0, 83)))], h)) rfl ?_
    refine Ev.gfr (r := (20, 402, 85)) rfl (sh_83_3 (h := h) (qm_sh q0)) ?_
    refine Ev.sts 1 (c' := (13, [some (.inr (.inr (.inr (11, 0, 83)))), some (.inl (iZ (mm))), some (.inl (iZ (1)))], [.inr (.inr (.inr (11, 0, 83))), .inr (.inr (.inr (20, 402, 85)))], h)) rfl ?_
    refine Ev.gv (w := (iZ (p))) rfl (qm_7 q0) ?_
    refine Ev.ldv (j := (iZ (p))) (n := 402) (w := .inl (iZ (srK (tK T p)))) (iZ_in (by omega) (by omega) (by omega)) rfl (by rw [iZ_ix (n := p) (by omega) (by omega)]; exact congrArg vI (qm_tk q0 _ (qm_p q0)).1) ?_
    refine Ev.sts 1 (c' := (18, [some (.inr (.inr (.inr (11, 0, 83)))), some (.inl (iZ (mm))), some (.inl (iZ (1)))], [.inl (iZ (1)), .inl (iZ (srK (tK T p)))], h)) rfl ?_
    refine Ev.brc (p := ¬ (iZ (srK (tK T p))) = (iZ (1))) (q := ¬ ((srK (tK T p) : Int)) = 1) (c1 := (46, [some (.inr (.inr (.inr (11, 0, 83)))), some (.inl (iZ (mm))), some (.inl (iZ (1)))], [], h)) (c2 := (21, [some (.inr (.inr (.inr (11, 0, 83)))), some (.inl (iZ (mm))), some (.inl (iZ (1)))], [], h)) rfl (not_congr (iZ_eq ⟨by omega, by omega⟩ ⟨by omega, by omega⟩)) (fun c0 => ?_) (fun c0 => ?_)
    · refine Ev.sts 3 (c' := (50, [some (.inr (.inr (.inr (11, 0, 83)))), some (.inl (iZ (mm))), some (.inl (iZ (1)))], [.inl (iZ (99)), .inl (iZ (0)), .inr (.inr (.inr (11, 0, 83)))], h)) rfl ?_
      refine Ev.callw (a := [.inr (.inr (.inr (11, 0, 83))), .inl (iZ (0)), .inl (iZ (99))]) rfl (mf_number q0 ⟨by omega, by omega⟩ ⟨by omega, by omega⟩ (fun ky1 _ h1 q1 f1 => ?_) (fun ky1 g1 a1 f1 => ?_) (fun _ z_ => absurd z_ (by decide)))
      · have z1 := qm_p q1
        refine Ev.brT (p := ¬ (iZ (1)) = (iZ (0))) (c1 := (58, [some (.inr (.inr (.inr (11, 0, 83)))), some (.inl (iZ (mm))), some (.inl (iZ (1)))], [], h1)) (c2 := (56, [some (.inr (.inr (.inr (11, 0, 83)))), some (.inl (iZ (mm))), some (.inl (iZ (1)))], [], h1)) (by decide) rfl ?_
        exfalso; omega
      · refine Ev.brF (p := ¬ (iZ (0)) = (iZ (0))) (c1 := (58, [some (.inr (.inr (.inr (11, 0, 83)))), some (.inl (iZ (mm))), some (.inl (iZ (1)))], [], g1)) (c2 := (56, [some (.inr (.inr (.inr (11, 0, 83)))), some (.inl (iZ (mm))), some (.inl (iZ (1)))], [], g1)) (by decide) rfl ?_
        refine Ev.sts 1 (c' := (57, [some (.inr (.inr (.inr (11, 0, 83)))), some (.inl (iZ (mm))), some (.inl (iZ (1)))], [.inl (iZ (0))], g1)) rfl ?_
        have e1 : mnN T 0 p = (false, p, []) := mnN_f (by omega)
        rw [e1] at k0
        exact Ev.ret rfl (k0 rfl _ a1 (fQ_t hn (fQ_r h) (fQ_R f1)))
    · have y_ := sr_1 (k := tK T p)
      exfalso; omega
  | succ n ih =>
    intro mm h p W Q hn0 hm hn q0 hp r0 k1 k0
    have sh := qm_sh q0
    have w0 := qm_w q0
    have p0 := qm_p q0
    have t0 := qm_tk q0
    have l1 := w0.2.1
    have tb0 := tBk w0 p
    have sb0 := sr_b (tK T p)
    refine Ev.sts 1 (c' := (5, [some (.inr (.inr (.inr (11, 0, 83)))), some (.inl (iZ (mm))), some (.inl (iZ (1)))], [.inl (iZ (1))], h)) rfl ?_
    refine Ev.brF (p := (iZ (1)) = (iZ (0))) (c1 := (89, [some (.inr (.inr (.inr (11, 0, 83)))), some (.inl (iZ (mm))), some (.inl (iZ (1)))], [], h)) (c2 := (8, [some (.inr (.inr (.inr (11, 0, 83)))), some (.inl (iZ (mm))), some (.inl (iZ (1)))], [], h)) (by decide) rfl ?_
    refine Ev.sts 1 (c' := (9, [some (.inr (.inr (.inr (11, 0, 83)))), some (.inl (iZ (mm))), some (.inl (iZ (1)))], [.inr (.inr (.inr (11, 0, 83)))], h)) rfl ?_
    refine Ev.gfr (r := (20, 402, 85)) rfl (sh_83_3 (h := h) (qm_sh q0)) ?_
    refine Ev.sts 1 (c' := (13, [some (.inr (.inr (.inr (11, 0, 83)))), some (.inl (iZ (mm))), some (.inl (iZ (1)))], [.inr (.inr (.inr (11, 0, 83))), .inr (.inr (.inr (20, 402, 85)))], h)) rfl ?_
    refine Ev.gv (w := (iZ (p))) rfl (qm_7 q0) ?_
    refine Ev.ldv (j := (iZ (p))) (n := 402) (w := .inl (iZ (srK (tK T p)))) (iZ_in (by omega) (by omega) (by omega)) rfl (by rw [iZ_ix (n := p) (by omega) (by omega)]; exact congrArg vI (qm_tk q0 _ (qm_p q0)).1) ?_
    refine Ev.sts 1 (c' := (18, [some (.inr (.inr (.inr (11, 0, 83)))), some (.inl (iZ (mm))), some (.inl (iZ (1)))], [.inl (iZ (1)), .inl (iZ (srK (tK T p)))], h)) rfl ?_
    refine Ev.brc (p := ¬ (iZ (srK (tK T p))) = (iZ (1))) (q := ¬ ((srK (tK T p) : Int)) = 1) (c1 := (46, [some (.inr (.inr (.inr (11, 0, 83)))), some (.inl (iZ (mm))), some (.inl (iZ (1)))], [], h)) (c2 := (21, [some (.inr (.inr (.inr (11, 0, 83)))), some (.inl (iZ (mm))), some (.inl (iZ (1)))], [], h)) rfl (not_congr (iZ_eq ⟨by omega, by omega⟩ ⟨by omega, by omega⟩)) (fun c0 => ?_) (fun c0 => ?_)
    · refine Ev.sts 3 (c' := (50, [some (.inr (.inr (.inr (11, 0, 83)))), some (.inl (iZ (mm))), some (.inl (iZ (1)))], [.inl (iZ (99)), .inl (iZ (0)), .inr (.inr (.inr (11, 0, 83)))], h)) rfl ?_
      refine Ev.callw (a := [.inr (.inr (.inr (11, 0, 83))), .inl (iZ (0)), .inl (iZ (99))]) rfl (mf_number q0 ⟨by omega, by omega⟩ ⟨by omega, by omega⟩ (fun ky1 _ h1 q1 f1 => ?_) (fun ky1 g1 a1 f1 => ?_) (fun _ z_ => absurd z_ (by decide)))
      · have z1 := qm_p q1
        refine Ev.brT (p := ¬ (iZ (1)) = (iZ (0))) (c1 := (58, [some (.inr (.inr (.inr (11, 0, 83)))), some (.inl (iZ (mm))), some (.inl (iZ (1)))], [], h1)) (c2 := (56, [some (.inr (.inr (.inr (11, 0, 83)))), some (.inl (iZ (mm))), some (.inl (iZ (1)))], [], h1)) (by decide) rfl ?_
        refine Ev.sts 2 (c' := (61, [some (.inr (.inr (.inr (11, 0, 83)))), some (.inl (iZ (mm))), some (.inl (iZ (1)))], [.inl (iZ (8)), .inl (iZ (mm))], h1)) rfl ?_
        refine Ev.brc (p := (iZ (8)) ≤ (iZ (mm))) (q := ((8 : Int)) ≤ mm) (c1 := (76, [some (.inr (.inr (.inr (11, 0, 83)))), some (.inl (iZ (mm))), some (.inl (iZ (1)))], [], h1)) (c2 := (64, [some (.inr (.inr (.inr (11, 0, 83)))), some (.inl (iZ (mm))), some (.inl (iZ (1)))], [], h1)) rfl (iZ_le ⟨by omega, by omega⟩ ⟨by omega, by omega⟩) (fun c1 => ?_) (fun c1 => ?_)
        · refine Ev.stc (c1 := (79, [some (.inr (.inr (.inr (11, 0, 83)))), some (.inl ((iZ (mm)) + (iZ (1)))), some (.inl (iZ (1)))], [], h1)) (c2 := (79, [some (.inr (.inr (.inr (11, 0, 83)))), some (.inl (iZ (mm + 1))), some (.inl (iZ (1)))], [], h1)) rfl (by rw [iZ_add]) ?_
          refine Ev.sts 2 (c' := (82, [some (.inr (.inr (.inr (11, 0, 83)))), some (.inl (iZ (mm + 1))), some (.inl (iZ (1)))], [.inl (iZ (44)), .inr (.inr (.inr (11, 0, 83)))], h1)) rfl ?_
          refine Ev.callw (a := [.inr (.inr (.inr (11, 0, 83))), .inl (iZ (44))]) rfl (mf_ifSign (K := 31) q1 (by decide) (by decide) (fun ky2 h2 q2 f2 => ?_) (fun ky2 => ?_))
          · have z2 := qm_p q2
            refine Ev.sts 2 (c' := (4, [some (.inr (.inr (.inr (11, 0, 83)))), some (.inl (iZ (mm + 1))), some (.inl (iZ (1)))], [], h2)) rfl ?_
            have e0 := mnN_t (n := n + 1) (show tK T p = 3 by assumption)
            have e1 := mnN_c (n := n) (show tK T (p + 1) = 31 by assumption)
            rw [e1] at e0
            refine ih (mm + 1) _ (p + 2) _ _ (by omega) (by omega) (by have := (fQ_t hn (fQ_t hn (fQ_r h) (fQ_R f1)) (fQ_R f2)).2.2.2.2.1; omega) q2 (by omega) (r0_R (r0_R r0 f1) f2) (fun rr hz Wz qz wz rz fz => ?_) (fun rr hz az fz => ?_)
            · rw [e0] at k1
              exact k1 rr hz Wz qz wz rz (fQ_t hn (fQ_t hn (fQ_t hn (fQ_r h) (fQ_R f1)) (fQ_R f2)) fz)
            · rw [e0] at k0
              exact k0 rr hz az (fQ_t hn (fQ_t hn (fQ_t hn (fQ_r h) (fQ_R f1)) (fQ_R f2)) fz)
          · refine Ev.sts 2 (c' := (4, [some (.inr (.inr (.inr (11, 0, 83)))), some (.inl (iZ (mm + 1))), some (.inl (iZ (0)))], [], h1)) rfl ?_
            refine Ev.sts 1 (c' := (5, [some (.inr (.inr (.inr (11, 0, 83)))), some (.inl (iZ (mm + 1))), some (.inl (iZ (0)))], [.inl (iZ (0))], h1)) rfl ?_
            refine Ev.brT (p := (iZ (0)) = (iZ (0))) (c1 := (89, [some (.inr (.inr (.inr (11, 0, 83)))), some (.inl (iZ (mm + 1))), some (.inl (iZ (0)))], [], h1)) (c2 := (8, [some (.inr (.inr (.inr (11, 0, 83)))), some (.inl (iZ (mm + 1))), some (.inl (iZ (0)))], [], h1)) (by decide) rfl ?_
            refine Ev.sts 1 (c' := (90, [some (.inr (.inr (.inr (11, 0, 83)))), some (.inl (iZ (mm + 1))), some (.inl (iZ (0)))], [.inr (.inr (.inr (11, 0, 83)))], h1)) rfl ?_
            refine Ev.gfr (r := (20, 64, 92)) rfl (sh_83_17 (h := h1) (qm_sh q1)) ?_
            refine Ev.sts 2 (c' := (95, [some (.inr (.inr (.inr (11, 0, 83)))), some (.inl (iZ (mm + 1))), some (.inl (iZ (0)))], [.inl (iZ (mm + 1)), .inl (iZ (2)), .inr (.inr (.inr (20, 64, 92)))], h1)) rfl ?_
            refine Ev.sto (j := (iZ (2))) (n := 64) (h2 := (setI h1 92 2 ((iZ (mm + 1))))) (by decide) rfl rfl ?_
            have q3 : QM (setI h1 92 2 ((iZ (mm + 1)))) T 0 (p + 1) [] _ := QM_92 q1
            have f3 : fQ 0 h1 (setI h1 92 2 ((iZ (mm + 1)))) := fQ_I (by omega)
            have r3 : (setI h1 92 2 ((iZ (mm + 1)))).1 92 0 = iZ 0 ∧ (setI h1 92 2 ((iZ (mm + 1)))).1 92 1 = iZ 0 := ⟨(setI_ne (by omega)).trans ((r0_R r0 f1)).1, (setI_ne (by omega)).trans ((r0_R r0 f1)).2⟩
            generalize (setI h1 92 2 ((iZ (mm + 1)))) = h3 at q3 f3 r3 ⊢
            refine Ev.sts 2 (c' := (99, [some (.inr (.inr (.inr (11, 0, 83)))), some (.inl (iZ (mm + 1))), some (.inl (iZ (0)))], [.inl (iZ (59)), .inr (.inr (.inr (11, 0, 83)))], h3)) rfl ?_
            refine Ev.callw (a := [.inr (.inr (.inr (11, 0, 83))), .inl (iZ (59))]) rfl (mf_sign (K := 30) q3 (by decide) (by decide) (fun ky4 h4 q4 f4 => ?_) (fun ky4 g4 a4 f4 => ?_))
            · have z4 := qm_p q4
              have e1 : mnN T (n + 1) p = (true, p + 1 + 1, [p]) := (by rw [mnN_t (by assumption), mns_d (by assumption), if_pos (by assumption)])
              rw [e1] at k1
              exact Ev.ret rfl (k1 rfl _ _ q4 (by dsimp only; first | omega | (simp only [List.length_append, List.length_cons, List.length_nil, List.length_map]; omega)) (r0_R r3 f4) (fQ_t hn (fQ_t hn (fQ_t hn (fQ_r h) (fQ_R f1)) f3) (fQ_R f4)))
            · first | (have e1 : mnN T (n + 1) p = (false, p, []) := mnN_f (by assumption); rw [e1] at k0; exact Ev.ret rfl (k0 rfl _ a4 (fQ_t hn (fQ_t hn (fQ_t hn (fQ_r h) (fQ_R f1)) f3) (fQ_R f4)))) | (have e1 : mnN T (n + 1) p = (false, p + 1, [p]) := (by rw [mnN_t (by assumption), mns_d (by assumption), if_neg (by assumption)]); rw [e1] at k0; exact Ev.ret rfl (k0 rfl _ a4 (fQ_t hn (fQ_t hn (fQ_t hn (fQ_r h) (fQ_R f1)) f3) (fQ_R f4))))
        · refine Ev.sts 1 (c' := (65, [some (.inr (.inr (.inr (11, 0, 83)))), some (.inl (iZ (mm))), some (.inl (iZ (1)))], [.inr (.inr (.inr (11, 0, 83)))], h1)) rfl ?_
          refine Ev.gfr (r := (20, 64, 92)) rfl (sh_83_17 (h := h1) (qm_sh q1)) ?_
          refine Ev.sts 2 (c' := (70, [some (.inr (.inr (.inr (11, 0, 83)))), some (.inl (iZ (mm))), some (.inl (iZ (1)))], [.inl (iZ (mm)), .inl (iZ (3)), .inr (.inr (.inr (20, 64, 92)))], h1)) rfl ?_
          refine Ev.gv (w := (iZ (3 + mm))) rfl (iZ_add _ _) ?_
          refine Ev.sts 1 (c' := (72, [some (.inr (.inr (.inr (11, 0, 83)))), some (.inl (iZ (mm))), some (.inl (iZ (1)))], [.inr (.inr (.inr (11, 0, 83))), .inl (iZ (3 + mm)), .inr (.inr (.inr (20, 64, 92)))], h1)) rfl ?_
          refine Ev.callv (a := [.inr (.inr (.inr (11, 0, 83)))]) rfl (mf_last (p := p) q1 (by assumption)) ?_
          refine Ev.sto (j := (iZ (3 + mm))) (n := 64) (h2 := (setI h1 92 (3 + mm) ((iZ (tN T p))))) (iZ_in (by omega) (by omega) (by omega)) rfl (by rw [iZ_ix (n := 3 + mm) (by omega) (by omega)]) ?_
          have q5 : QM (setI h1 92 (3 + mm) ((iZ (tN T p)))) T 0 (p + 1) [] _ := QM_92 q1
          have f5 : fQ 0 h1 (setI h1 92 (3 + mm) ((iZ (tN T p)))) := fQ_I (by omega)
          have r5 : (setI h1 92 (3 + mm) ((iZ (tN T p)))).1 92 0 = iZ 0 ∧ (setI h1 92 (3 + mm) ((iZ (tN T p)))).1 92 1 = iZ 0 := ⟨(setI_ne (by omega)).trans ((r0_R r0 f1)).1, (setI_ne (by omega)).trans ((r0_R r0 f1)).2⟩
          generalize (setI h1 92 (3 + mm) ((iZ (tN T p)))) = h5 at q5 f5 r5 ⊢
          refine Ev.stc (c1 := (79, [some (.inr (.inr (.inr (11, 0, 83)))), some (.inl ((iZ (mm)) + (iZ (1)))), some (.inl (iZ (1)))], [], h5)) (c2 := (79, [some (.inr (.inr (.inr (11, 0, 83)))), some (.inl (iZ (mm + 1))), some (.inl (iZ (1)))], [], h5)) rfl (by rw [iZ_add]) ?_
          refine Ev.sts 2 (c' := (82, [some (.inr (.inr (.inr (11, 0, 83)))), some (.inl (iZ (mm + 1))), some (.inl (iZ (1)))], [.inl (iZ (44)), .inr (.inr (.inr (11, 0, 83)))], h5)) rfl ?_
          refine Ev.callw (a := [.inr (.inr (.inr (11, 0, 83))), .inl (iZ (44))]) rfl (mf_ifSign (K := 31) q5 (by decide) (by decide) (fun ky6 h6 q6 f6 => ?_) (fun ky6 => ?_))
          · have z6 := qm_p q6
            refine Ev.sts 2 (c' := (4, [some (.inr (.inr (.inr (11, 0, 83)))), some (.inl (iZ (mm + 1))), some (.inl (iZ (1)))], [], h6)) rfl ?_
            have e0 := mnN_t (n := n + 1) (show tK T p = 3 by assumption)
            have e1 := mnN_c (n := n) (show tK T (p + 1) = 31 by assumption)
            rw [e1] at e0
            refine ih (mm + 1) _ (p + 2) _ _ (by omega) (by omega) (by have := (fQ_t hn (fQ_t hn (fQ_t hn (fQ_r h) (fQ_R f1)) f5) (fQ_R f6)).2.2.2.2.1; omega) q6 (by omega) (r0_R r5 f6) (fun rr hz Wz qz wz rz fz => ?_) (fun rr hz az fz => ?_)
            · rw [e0] at k1
              exact k1 rr hz Wz qz wz rz (fQ_t hn (fQ_t hn (fQ_t hn (fQ_t hn (fQ_r h) (fQ_R f1)) f5) (fQ_R f6)) fz)
            · rw [e0] at k0
              exact k0 rr hz az (fQ_t hn (fQ_t hn (fQ_t hn (fQ_t hn (fQ_r h) (fQ_R f1)) f5) (fQ_R f6)) fz)
          · refine Ev.sts 2 (c' := (4, [some (.inr (.inr (.inr (11, 0, 83)))), some (.inl (iZ (mm + 1))), some (.inl (iZ (0)))], [], h5)) rfl ?_
            refine Ev.sts 1 (c' := (5, [some (.inr (.inr (.inr (11, 0, 83)))), some (.inl (iZ (mm + 1))), some (.inl (iZ (0)))], [.inl (iZ (0))], h5)) rfl ?_
            refine Ev.brT (p := (iZ (0)) = (iZ (0))) (c1 := (89, [some (.inr (.inr (.inr (11, 0, 83)))), some (.inl (iZ (mm + 1))), some (.inl (iZ (0)))], [], h5)) (c2 := (8, [some (.inr (.inr (.inr (11, 0, 83)))), some (.inl (iZ (mm + 1))), some (.inl (iZ (0)))], [], h5)) (by decide) rfl ?_
            refine Ev.sts 1 (c' := (90, [some (.inr (.inr (.inr (11, 0, 83)))), some (.inl (iZ (mm + 1))), some (.inl (iZ (0)))], [.inr (.inr (.inr (11, 0, 83)))], h5)) rfl ?_
            refine Ev.gfr (r := (20, 64, 92)) rfl (sh_83_17 (h := h5) (qm_sh q5)) ?_
            refine Ev.sts 2 (c' := (95, [some (.inr (.inr (.inr (11, 0, 83)))), some (.inl (iZ (mm + 1))), some (.inl (iZ (0)))], [.inl (iZ (mm + 1)), .inl (iZ (2)), .inr (.inr (.inr (20, 64, 92)))], h5)) rfl ?_
            refine Ev.sto (j := (iZ (2))) (n := 64) (h2 := (setI h5 92 2 ((iZ (mm + 1))))) (by decide) rfl rfl ?_
            have q7 : QM (setI h5 92 2 ((iZ (mm + 1)))) T 0 (p + 1) [] _ := QM_92 q5
            have f7 : fQ 0 h5 (setI h5 92 2 ((iZ (mm + 1)))) := fQ_I (by omega)
            have r7 : (setI h5 92 2 ((iZ (mm + 1)))).1 92 0 = iZ 0 ∧ (setI h5 92 2 ((iZ (mm + 1)))).1 92 1 = iZ 0 := ⟨(setI_ne (by omega)).trans (r5).1, (setI_ne (by omega)).trans (r5).2⟩
            generalize (setI h5 92 2 ((iZ (mm + 1)))) = h7 at q7 f7 r7 ⊢
            refine Ev.sts 2 (c' := (99, [some (.inr (.inr (.inr (11, 0, 83)))), some (.inl (iZ (mm + 1))), some (.inl (iZ (0)))], [.inl (iZ (59)), .inr (.inr (.inr (11, 0, 83)))], h7)) rfl ?_
            refine Ev.callw (a := [.inr (.inr (.inr (11, 0, 83))), .inl (iZ (59))]) rfl (mf_sign (K := 30) q7 (by decide) (by decide) (fun ky8 h8 q8 f8 => ?_) (fun ky8 g8 a8 f8 => ?_))
            · have z8 := qm_p q8
              have e1 : mnN T (n + 1) p = (true, p + 1 + 1, [p]) := (by rw [mnN_t (by assumption), mns_d (by assumption), if_pos (by assumption)])
              rw [e1] at k1
              exact Ev.ret rfl (k1 rfl _ _ q8 (by dsimp only; first | omega | (simp only [List.length_append, List.length_cons, List.length_nil, List.length_map]; omega)) (r0_R r7 f8) (fQ_t hn (fQ_t hn (fQ_t hn (fQ_t hn (fQ_r h) (fQ_R f1)) f5) f7) (fQ_R f8)))
            · first | (have e1 : mnN T (n + 1) p = (false, p, []) := mnN_f (by assumption); rw [e1] at k0; exact Ev.ret rfl (k0 rfl _ a8 (fQ_t hn (fQ_t hn (fQ_t hn (fQ_t hn (fQ_r h) (fQ_R f1)) f5) f7) (fQ_R f8)))) | (have e1 : mnN T (n + 1) p = (false, p + 1, [p]) := (by rw [mnN_t (by assumption), mns_d (by assumption), if_neg (by assumption)]); rw [e1] at k0; exact Ev.ret rfl (k0 rfl _ a8 (fQ_t hn (fQ_t hn (fQ_t hn (fQ_t hn (fQ_r h) (fQ_R f1)) f5) f7) (fQ_R f8))))
      · refine Ev.brF (p := ¬ (iZ (0)) = (iZ (0))) (c1 := (58, [some (.inr (.inr (.inr (11, 0, 83)))), some (.inl (iZ (mm))), some (.inl (iZ (1)))], [], g1)) (c2 := (56, [some (.inr (.inr (.inr (11, 0, 83)))), some (.inl (iZ (mm))), some (.inl (iZ (1)))], [], g1)) (by decide) rfl ?_
        refine Ev.sts 1 (c' := (57, [some (.inr (.inr (.inr (11, 0, 83)))), some (.inl (iZ (mm))), some (.inl (iZ (1)))], [.inl (iZ (0))], g1)) rfl ?_
        first | (have e1 : mnN T (n + 1) p = (false, p, []) := mnN_f (by assumption); rw [e1] at k0; exact Ev.ret rfl (k0 rfl _ a1 (fQ_t hn (fQ_r h) (fQ_R f1)))) | (have e1 : mnN T (n + 1) p = (false, p + 1, [p]) := (by rw [mnN_t (by assumption), mns_d (by assumption), if_neg (by assumption)]); rw [e1] at k0; exact Ev.ret rfl (k0 rfl _ a1 (fQ_t hn (fQ_r h) (fQ_R f1))))
    · refine Ev.sts 4 (c' := (26, [some (.inr (.inr (.inr (11, 0, 83)))), some (.inl (iZ (mm))), some (.inl (iZ (1)))], [.inl (iZ (8)), .inl (iZ (mm)), .inl (iZ (4)), .inr (.inr (.inr (11, 0, 83)))], h)) rfl ?_
      refine Ev.brc (p := (iZ (8)) ≤ (iZ (mm))) (q := ((8 : Int)) ≤ mm) (c1 := (33, [some (.inr (.inr (.inr (11, 0, 83)))), some (.inl (iZ (mm))), some (.inl (iZ (1)))], [.inl (iZ (4)), .inr (.inr (.inr (11, 0, 83)))], h)) (c2 := (29, [some (.inr (.inr (.inr (11, 0, 83)))), some (.inl (iZ (mm))), some (.inl (iZ (1)))], [.inl (iZ (4)), .inr (.inr (.inr (11, 0, 83)))], h)) rfl (iZ_le ⟨by omega, by omega⟩ ⟨by omega, by omega⟩) (fun c1 => ?_) (fun c1 => ?_)
      · refine Ev.sts 2 (c' := (35, [some (.inr (.inr (.inr (11, 0, 83)))), some (.inl (iZ (mm))), some (.inl (iZ (1)))], [.inr (.inr (.inr (11, 0, 83))), .inl (iZ (0)), .inl (iZ (4)), .inr (.inr (.inr (11, 0, 83)))], h)) rfl ?_
        refine Ev.gv (w := (iZ (p))) rfl (qm_7 q0) ?_
        refine Ev.callw (a := [.inr (.inr (.inr (11, 0, 83))), .inl (iZ (4)), .inl (iZ (0)), .inl (iZ (p))]) rfl (mf_check0 (nn := 4) (yn := p) q0 rfl (by omega) (by omega) (fun _ => ?_) (fun z_ => absurd z_ (by decide)))
        refine Ev.brT (p := ¬ (iZ (1)) = (iZ (0))) (c1 := (46, [some (.inr (.inr (.inr (11, 0, 83)))), some (.inl (iZ (mm))), some (.inl (iZ (1)))], [], h)) (c2 := (44, [some (.inr (.inr (.inr (11, 0, 83)))), some (.inl (iZ (mm))), some (.inl (iZ (1)))], [], h)) (by decide) rfl ?_
        refine Ev.sts 3 (c' := (50, [some (.inr (.inr (.inr (11, 0, 83)))), some (.inl (iZ (mm))), some (.inl (iZ (1)))], [.inl (iZ (99)), .inl (iZ (0)), .inr (.inr (.inr (11, 0, 83)))], h)) rfl ?_
        refine Ev.callw (a := [.inr (.inr (.inr (11, 0, 83))), .inl (iZ (0)), .inl (iZ (99))]) rfl (mf_number q0 ⟨by omega, by omega⟩ ⟨by omega, by omega⟩ (fun ky10 _ h10 q10 f10 => ?_) (fun ky10 g10 a10 f10 => ?_) (fun _ z_ => absurd z_ (by decide)))
        · have z10 := qm_p q10
          refine Ev.brT (p := ¬ (iZ (1)) = (iZ (0))) (c1 := (58, [some (.inr (.inr (.inr (11, 0, 83)))), some (.inl (iZ (mm))), some (.inl (iZ (1)))], [], h10)) (c2 := (56, [some (.inr (.inr (.inr (11, 0, 83)))), some (.inl (iZ (mm))), some (.inl (iZ (1)))], [], h10)) (by decide) rfl ?_
          refine Ev.sts 2 (c' := (61, [some (.inr (.inr (.inr (11, 0, 83)))), some (.inl (iZ (mm))), some (.inl (iZ (1)))], [.inl (iZ (8)), .inl (iZ (mm))], h10)) rfl ?_
          refine Ev.brc (p := (iZ (8)) ≤ (iZ (mm))) (q := ((8 : Int)) ≤ mm) (c1 := (76, [some (.inr (.inr (.inr (11, 0, 83)))), some (.inl (iZ (mm))), some (.inl (iZ (1)))], [], h10)) (c2 := (64, [some (.inr (.inr (.inr (11, 0, 83)))), some (.inl (iZ (mm))), some (.inl (iZ (1)))], [], h10)) rfl (iZ_le ⟨by omega, by omega⟩ ⟨by omega, by omega⟩) (fun c2 => ?_) (fun c2 => ?_)
          · refine Ev.stc (c1 := (79, [some (.inr (.inr (.inr (11, 0, 83)))), some (.inl ((iZ (mm)) + (iZ (1)))), some (.inl (iZ (1)))], [], h10)) (c2 := (79, [some (.inr (.inr (.inr (11, 0, 83)))), some (.inl (iZ (mm + 1))), some (.inl (iZ (1)))], [], h10)) rfl (by rw [iZ_add]) ?_
            refine Ev.sts 2 (c' := (82, [some (.inr (.inr (.inr (11, 0, 83)))), some (.inl (iZ (mm + 1))), some (.inl (iZ (1)))], [.inl (iZ (44)), .inr (.inr (.inr (11, 0, 83)))], h10)) rfl ?_
            refine Ev.callw (a := [.inr (.inr (.inr (11, 0, 83))), .inl (iZ (44))]) rfl (mf_ifSign (K := 31) q10 (by decide) (by decide) (fun ky11 h11 q11 f11 => ?_) (fun ky11 => ?_))
            · have z11 := qm_p q11
              refine Ev.sts 2 (c' := (4, [some (.inr (.inr (.inr (11, 0, 83)))), some (.inl (iZ (mm + 1))), some (.inl (iZ (1)))], [], h11)) rfl ?_
              have e0 := mnN_t (n := n + 1) (show tK T p = 3 by assumption)
              have e1 := mnN_c (n := n) (show tK T (p + 1) = 31 by assumption)
              rw [e1] at e0
              refine ih (mm + 1) _ (p + 2) _ _ (by omega) (by omega) (by have := (fQ_t hn (fQ_t hn (fQ_r h) (fQ_R f10)) (fQ_R f11)).2.2.2.2.1; omega) q11 (by omega) (r0_R (r0_R r0 f10) f11) (fun rr hz Wz qz wz rz fz => ?_) (fun rr hz az fz => ?_)
              · rw [e0] at k1
                exact k1 rr hz Wz qz wz rz (fQ_t hn (fQ_t hn (fQ_t hn (fQ_r h) (fQ_R f10)) (fQ_R f11)) fz)
              · rw [e0] at k0
                exact k0 rr hz az (fQ_t hn (fQ_t hn (fQ_t hn (fQ_r h) (fQ_R f10)) (fQ_R f11)) fz)
            · refine Ev.sts 2 (c' := (4, [some (.inr (.inr (.inr (11, 0, 83)))), some (.inl (iZ (mm + 1))), some (.inl (iZ (0)))], [], h10)) rfl ?_
              refine Ev.sts 1 (c' := (5, [some (.inr (.inr (.inr (11, 0, 83)))), some (.inl (iZ (mm + 1))), some (.inl (iZ (0)))], [.inl (iZ (0))], h10)) rfl ?_
              refine Ev.brT (p := (iZ (0)) = (iZ (0))) (c1 := (89, [some (.inr (.inr (.inr (11, 0, 83)))), some (.inl (iZ (mm + 1))), some (.inl (iZ (0)))], [], h10)) (c2 := (8, [some (.inr (.inr (.inr (11, 0, 83)))), some (.inl (iZ (mm + 1))), some (.inl (iZ (0)))], [], h10)) (by decide) rfl ?_
              refine Ev.sts 1 (c' := (90, [some (.inr (.inr (.inr (11, 0, 83)))), some (.inl (iZ (mm + 1))), some (.inl (iZ (0)))], [.inr (.inr (.inr (11, 0, 83)))], h10)) rfl ?_
              refine Ev.gfr (r := (20, 64, 92)) rfl (sh_83_17 (h := h10) (qm_sh q10)) ?_
              refine Ev.sts 2 (c' := (95, [some (.inr (.inr (.inr (11, 0, 83)))), some (.inl (iZ (mm + 1))), some (.inl (iZ (0)))], [.inl (iZ (mm + 1)), .inl (iZ (2)), .inr (.inr (.inr (20, 64, 92)))], h10)) rfl ?_
              refine Ev.sto (j := (iZ (2))) (n := 64) (h2 := (setI h10 92 2 ((iZ (mm + 1))))) (by decide) rfl rfl ?_
              have q12 : QM (setI h10 92 2 ((iZ (mm + 1)))) T 0 (p + 1) [] _ := QM_92 q10
              have f12 : fQ 0 h10 (setI h10 92 2 ((iZ (mm + 1)))) := fQ_I (by omega)
              have r12 : (setI h10 92 2 ((iZ (mm + 1)))).1 92 0 = iZ 0 ∧ (setI h10 92 2 ((iZ (mm + 1)))).1 92 1 = iZ 0 := ⟨(setI_ne (by omega)).trans ((r0_R r0 f10)).1, (setI_ne (by omega)).trans ((r0_R r0 f10)).2⟩
              generalize (setI h10 92 2 ((iZ (mm + 1)))) = h12 at q12 f12 r12 ⊢
              refine Ev.sts 2 (c' := (99, [some (.inr (.inr (.inr (11, 0, 83)))), some (.inl (iZ (mm + 1))), some (.inl (iZ (0)))], [.inl (iZ (59)), .inr (.inr (.inr (11, 0, 83)))], h12)) rfl ?_
              refine Ev.callw (a := [.inr (.inr (.inr (11, 0, 83))), .inl (iZ (59))]) rfl (mf_sign (K := 30) q12 (by decide) (by decide) (fun ky13 h13 q13 f13 => ?_) (fun ky13 g13 a13 f13 => ?_))
              · have z13 := qm_p q13
                have e1 : mnN T (n + 1) p = (true, p + 1 + 1, [p]) := (by rw [mnN_t (by assumption), mns_d (by assumption), if_pos (by assumption)])
                rw [e1] at k1
                exact Ev.ret rfl (k1 rfl _ _ q13 (by dsimp only; first | omega | (simp only [List.length_append, List.length_cons, List.length_nil, List.length_map]; omega)) (r0_R r12 f13) (fQ_t hn (fQ_t hn (fQ_t hn (fQ_r h) (fQ_R f10)) f12) (fQ_R f13)))
              · first | (have e1 : mnN T (n + 1) p = (false, p, []) := mnN_f (by assumption); rw [e1] at k0; exact Ev.ret rfl (k0 rfl _ a13 (fQ_t hn (fQ_t hn (fQ_t hn (fQ_r h) (fQ_R f10)) f12) (fQ_R f13)))) | (have e1 : mnN T (n + 1) p = (false, p + 1, [p]) := (by rw [mnN_t (by assumption), mns_d (by assumption), if_neg (by assumption)]); rw [e1] at k0; exact Ev.ret rfl (k0 rfl _ a13 (fQ_t hn (fQ_t hn (fQ_t hn (fQ_r h) (fQ_R f10)) f12) (fQ_R f13))))
          · refine Ev.sts 1 (c' := (65, [some (.inr (.inr (.inr (11, 0, 83)))), some (.inl (iZ (mm))), some (.inl (iZ (1)))], [.inr (.inr (.inr (11, 0, 83)))], h10)) rfl ?_
            refine Ev.gfr (r := (20, 64, 92)) rfl (sh_83_17 (h := h10) (qm_sh q10)) ?_
            refine Ev.sts 2 (c' := (70, [some (.inr (.inr (.inr (11, 0, 83)))), some (.inl (iZ (mm))), some (.inl (iZ (1)))], [.inl (iZ (mm)), .inl (iZ (3)), .inr (.inr (.inr (20, 64, 92)))], h10)) rfl ?_
            refine Ev.gv (w := (iZ (3 + mm))) rfl (iZ_add _ _) ?_
            refine Ev.sts 1 (c' := (72, [some (.inr (.inr (.inr (11, 0, 83)))), some (.inl (iZ (mm))), some (.inl (iZ (1)))], [.inr (.inr (.inr (11, 0, 83))), .inl (iZ (3 + mm)), .inr (.inr (.inr (20, 64, 92)))], h10)) rfl ?_
            refine Ev.callv (a := [.inr (.inr (.inr (11, 0, 83)))]) rfl (mf_last (p := p) q10 (by assumption)) ?_
            refine Ev.sto (j := (iZ (3 + mm))) (n := 64) (h2 := (setI h10 92 (3 + mm) ((iZ (tN T p))))) (iZ_in (by omega) (by omega) (by omega)) rfl (by rw [iZ_ix (n := 3 + mm) (by omega) (by omega)]) ?_
            have q14 : QM (setI h10 92 (3 + mm) ((iZ (tN T p)))) T 0 (p + 1) [] _ := QM_92 q10
            have f14 : fQ 0 h10 (setI h10 92 (3 + mm) ((iZ (tN T p)))) := fQ_I (by omega)
            have r14 : (setI h10 92 (3 + mm) ((iZ (tN T p)))).1 92 0 = iZ 0 ∧ (setI h10 92 (3 + mm) ((iZ (tN T p)))).1 92 1 = iZ 0 := ⟨(setI_ne (by omega)).trans ((r0_R r0 f10)).1, (setI_ne (by omega)).trans ((r0_R r0 f10)).2⟩
            generalize (setI h10 92 (3 + mm) ((iZ (tN T p)))) = h14 at q14 f14 r14 ⊢
            refine Ev.stc (c1 := (79, [some (.inr (.inr (.inr (11, 0, 83)))), some (.inl ((iZ (mm)) + (iZ (1)))), some (.inl (iZ (1)))], [], h14)) (c2 := (79, [some (.inr (.inr (.inr (11, 0, 83)))), some (.inl (iZ (mm + 1))), some (.inl (iZ (1)))], [], h14)) rfl (by rw [iZ_add]) ?_
            refine Ev.sts 2 (c' := (82, [some (.inr (.inr (.inr (11, 0, 83)))), some (.inl (iZ (mm + 1))), some (.inl (iZ (1)))], [.inl (iZ (44)), .inr (.inr (.inr (11, 0, 83)))], h14)) rfl ?_
            refine Ev.callw (a := [.inr (.inr (.inr (11, 0, 83))), .inl (iZ (44))]) rfl (mf_ifSign (K := 31) q14 (by decide) (by decide) (fun ky15 h15 q15 f15 => ?_) (fun ky15 => ?_))
            · have z15 := qm_p q15
              refine Ev.sts 2 (c' := (4, [some (.inr (.inr (.inr (11, 0, 83)))), some (.inl (iZ (mm + 1))), some (.inl (iZ (1)))], [], h15)) rfl ?_
              have e0 := mnN_t (n := n + 1) (show tK T p = 3 by assumption)
              have e1 := mnN_c (n := n) (show tK T (p + 1) = 31 by assumption)
              rw [e1] at e0
              refine ih (mm + 1) _ (p + 2) _ _ (by omega) (by omega) (by have := (fQ_t hn (fQ_t hn (fQ_t hn (fQ_r h) (fQ_R f10)) f14) (fQ_R f15)).2.2.2.2.1; omega) q15 (by omega) (r0_R r14 f15) (fun rr hz Wz qz wz rz fz => ?_) (fun rr hz az fz => ?_)
              · rw [e0] at k1
                exact k1 rr hz Wz qz wz rz (fQ_t hn (fQ_t hn (fQ_t hn (fQ_t hn (fQ_r h) (fQ_R f10)) f14) (fQ_R f15)) fz)
              · rw [e0] at k0
                exact k0 rr hz az (fQ_t hn (fQ_t hn (fQ_t hn (fQ_t hn (fQ_r h) (fQ_R f10)) f14) (fQ_R f15)) fz)
            · refine Ev.sts 2 (c' := (4, [some (.inr (.inr (.inr (11, 0, 83)))), some (.inl (iZ (mm + 1))), some (.inl (iZ (0)))], [], h14)) rfl ?_
              refine Ev.sts 1 (c' := (5, [some (.inr (.inr (.inr (11, 0, 83)))), some (.inl (iZ (mm + 1))), some (.inl (iZ (0)))], [.inl (iZ (0))], h14)) rfl ?_
              refine Ev.brT (p := (iZ (0)) = (iZ (0))) (c1 := (89, [some (.inr (.inr (.inr (11, 0, 83)))), some (.inl (iZ (mm + 1))), some (.inl (iZ (0)))], [], h14)) (c2 := (8, [some (.inr (.inr (.inr (11, 0, 83)))), some (.inl (iZ (mm + 1))), some (.inl (iZ (0)))], [], h14)) (by decide) rfl ?_
              refine Ev.sts 1 (c' := (90, [some (.inr (.inr (.inr (11, 0, 83)))), some (.inl (iZ (mm + 1))), some (.inl (iZ (0)))], [.inr (.inr (.inr (11, 0, 83)))], h14)) rfl ?_
              refine Ev.gfr (r := (20, 64, 92)) rfl (sh_83_17 (h := h14) (qm_sh q14)) ?_
              refine Ev.sts 2 (c' := (95, [some (.inr (.inr (.inr (11, 0, 83)))), some (.inl (iZ (mm + 1))), some (.inl (iZ (0)))], [.inl (iZ (mm + 1)), .inl (iZ (2)), .inr (.inr (.inr (20, 64, 92)))], h14)) rfl ?_
              refine Ev.sto (j := (iZ (2))) (n := 64) (h2 := (setI h14 92 2 ((iZ (mm + 1))))) (by decide) rfl rfl ?_
              have q16 : QM (setI h14 92 2 ((iZ (mm + 1)))) T 0 (p + 1) [] _ := QM_92 q14
              have f16 : fQ 0 h14 (setI h14 92 2 ((iZ (mm + 1)))) := fQ_I (by omega)
              have r16 : (setI h14 92 2 ((iZ (mm + 1)))).1 92 0 = iZ 0 ∧ (setI h14 92 2 ((iZ (mm + 1)))).1 92 1 = iZ 0 := ⟨(setI_ne (by omega)).trans (r14).1, (setI_ne (by omega)).trans (r14).2⟩
              generalize (setI h14 92 2 ((iZ (mm + 1)))) = h16 at q16 f16 r16 ⊢
              refine Ev.sts 2 (c' := (99, [some (.inr (.inr (.inr (11, 0, 83)))), some (.inl (iZ (mm + 1))), some (.inl (iZ (0)))], [.inl (iZ (59)), .inr (.inr (.inr (11, 0, 83)))], h16)) rfl ?_
              refine Ev.callw (a := [.inr (.inr (.inr (11, 0, 83))), .inl (iZ (59))]) rfl (mf_sign (K := 30) q16 (by decide) (by decide) (fun ky17 h17 q17 f17 => ?_) (fun ky17 g17 a17 f17 => ?_))
              · have z17 := qm_p q17
                have e1 : mnN T (n + 1) p = (true, p + 1 + 1, [p]) := (by rw [mnN_t (by assumption), mns_d (by assumption), if_pos (by assumption)])
                rw [e1] at k1
                exact Ev.ret rfl (k1 rfl _ _ q17 (by dsimp only; first | omega | (simp only [List.length_append, List.length_cons, List.length_nil, List.length_map]; omega)) (r0_R r16 f17) (fQ_t hn (fQ_t hn (fQ_t hn (fQ_t hn (fQ_r h) (fQ_R f10)) f14) f16) (fQ_R f17)))
              · first | (have e1 : mnN T (n + 1) p = (false, p, []) := mnN_f (by assumption); rw [e1] at k0; exact Ev.ret rfl (k0 rfl _ a17 (fQ_t hn (fQ_t hn (fQ_t hn (fQ_t hn (fQ_r h) (fQ_R f10)) f14) f16) (fQ_R f17)))) | (have e1 : mnN T (n + 1) p = (false, p + 1, [p]) := (by rw [mnN_t (by assumption), mns_d (by assumption), if_neg (by assumption)]); rw [e1] at k0; exact Ev.ret rfl (k0 rfl _ a17 (fQ_t hn (fQ_t hn (fQ_t hn (fQ_t hn (fQ_r h) (fQ_R f10)) f14) f16) (fQ_R f17))))
        · refine Ev.brF (p := ¬ (iZ (0)) = (iZ (0))) (c1 := (58, [some (.inr (.inr (.inr (11, 0, 83)))), some (.inl (iZ (mm))), some (.inl (iZ (1)))], [], g10)) (c2 := (56, [some (.inr (.inr (.inr (11, 0, 83)))), some (.inl (iZ (mm))), some (.inl (iZ (1)))], [], g10)) (by decide) rfl ?_
          refine Ev.sts 1 (c' := (57, [some (.inr (.inr (.inr (11, 0, 83)))), some (.inl (iZ (mm))), some (.inl (iZ (1)))], [.inl (iZ (0))], g10)) rfl ?_
          first | (have e1 : mnN T (n + 1) p = (false, p, []) := mnN_f (by assumption); rw [e1] at k0; exact Ev.ret rfl (k0 rfl _ a10 (fQ_t hn (fQ_r h) (fQ_R f10)))) | (have e1 : mnN T (n + 1) p = (false, p + 1, [p]) := (by rw [mnN_t (by assumption), mns_d (by assumption), if_neg (by assumption)]); rw [e1] at k0; exact Ev.ret rfl (k0 rfl _ a10 (fQ_t hn (fQ_r h) (fQ_R f10))))
      · refine Ev.sts 3 (c' := (35, [some (.inr (.inr (.inr (11, 0, 83)))), some (.inl (iZ (mm))), some (.inl (iZ (1)))], [.inr (.inr (.inr (11, 0, 83))), .inl (iZ (1)), .inl (iZ (4)), .inr (.inr (.inr (11, 0, 83)))], h)) rfl ?_
        refine Ev.gv (w := (iZ (p))) rfl (qm_7 q0) ?_
        refine Ev.callv (a := [.inr (.inr (.inr (11, 0, 83))), .inl (iZ (4)), .inl (iZ (1)), .inl (iZ (p))]) rfl (mf_check1 q0) ?_
        refine Ev.brT (p := ¬ (iZ (1)) = (iZ (0))) (c1 := (46, [some (.inr (.inr (.inr (11, 0, 83)))), some (.inl (iZ (mm))), some (.inl (iZ (1)))], [], h)) (c2 := (44, [some (.inr (.inr (.inr (11, 0, 83)))), some (.inl (iZ (mm))), some (.inl (iZ (1)))], [], h)) (by decide) rfl ?_
        refine Ev.sts 3 (c' := (50, [some (.inr (.inr (.inr (11, 0, 83)))), some (.inl (iZ (mm))), some (.inl (iZ (1)))], [.inl (iZ (99)), .inl (iZ (0)), .inr (.inr (.inr (11, 0, 83)))], h)) rfl ?_
        refine Ev.callw (a := [.inr (.inr (.inr (11, 0, 83))), .inl (iZ (0)), .inl (iZ (99))]) rfl (mf_number q0 ⟨by omega, by omega⟩ ⟨by omega, by omega⟩ (fun ky18 _ h18 q18 f18 => ?_) (fun ky18 g18 a18 f18 => ?_) (fun _ z_ => absurd z_ (by decide)))
        · have z18 := qm_p q18
          refine Ev.brT (p := ¬ (iZ (1)) = (iZ (0))) (c1 := (58, [some (.inr (.inr (.inr (11, 0, 83)))), some (.inl (iZ (mm))), some (.inl (iZ (1)))], [], h18)) (c2 := (56, [some (.inr (.inr (.inr (11, 0, 83)))), some (.inl (iZ (mm))), some (.inl (iZ (1)))], [], h18)) (by decide) rfl ?_
          refine Ev.sts 2 (c' := (61, [some (.inr (.inr (.inr (11, 0, 83)))), some (.inl (iZ (mm))), some (.inl (iZ (1)))], [.inl (iZ (8)), .inl (iZ (mm))], h18)) rfl ?_
          refine Ev.brc (p := (iZ (8)) ≤ (iZ (mm))) (q := ((8 : Int)) ≤ mm) (c1 := (76, [some (.inr (.inr (.inr (11, 0, 83)))), some (.inl (iZ (mm))), some (.inl (iZ (1)))], [], h18)) (c2 := (64, [some (.inr (.inr (.inr (11, 0, 83)))), some (.inl (iZ (mm))), some (.inl (iZ (1)))], [], h18)) rfl (iZ_le ⟨by omega, by omega⟩ ⟨by omega, by omega⟩) (fun c2 => ?_) (fun c2 => ?_)
          · refine Ev.stc (c1 := (79, [some (.inr (.inr (.inr (11, 0, 83)))), some (.inl ((iZ (mm)) + (iZ (1)))), some (.inl (iZ (1)))], [], h18)) (c2 := (79, [some (.inr (.inr (.inr (11, 0, 83)))), some (.inl (iZ (mm + 1))), some (.inl (iZ (1)))], [], h18)) rfl (by rw [iZ_add]) ?_
            refine Ev.sts 2 (c' := (82, [some (.inr (.inr (.inr (11, 0, 83)))), some (.inl (iZ (mm + 1))), some (.inl (iZ (1)))], [.inl (iZ (44)), .inr (.inr (.inr (11, 0, 83)))], h18)) rfl ?_
            refine Ev.callw (a := [.inr (.inr (.inr (11, 0, 83))), .inl (iZ (44))]) rfl (mf_ifSign (K := 31) q18 (by decide) (by decide) (fun ky19 h19 q19 f19 => ?_) (fun ky19 => ?_))
            · have z19 := qm_p q19
              refine Ev.sts 2 (c' := (4, [some (.inr (.inr (.inr (11, 0, 83)))), some (.inl (iZ (mm + 1))), some (.inl (iZ (1)))], [], h19)) rfl ?_
              have e0 := mnN_t (n := n + 1) (show tK T p = 3 by assumption)
              have e1 := mnN_c (n := n) (show tK T (p + 1) = 31 by assumption)
              rw [e1] at e0
              refine ih (mm + 1) _ (p + 2) _ _ (by omega) (by omega) (by have := (fQ_t hn (fQ_t hn (fQ_r h) (fQ_R f18)) (fQ_R f19)).2.2.2.2.1; omega) q19 (by omega) (r0_R (r0_R r0 f18) f19) (fun rr hz Wz qz wz rz fz => ?_) (fun rr hz az fz => ?_)
              · rw [e0] at k1
                exact k1 rr hz Wz qz wz rz (fQ_t hn (fQ_t hn (fQ_t hn (fQ_r h) (fQ_R f18)) (fQ_R f19)) fz)
              · rw [e0] at k0
                exact k0 rr hz az (fQ_t hn (fQ_t hn (fQ_t hn (fQ_r h) (fQ_R f18)) (fQ_R f19)) fz)
            · refine Ev.sts 2 (c' := (4, [some (.inr (.inr (.inr (11, 0, 83)))), some (.inl (iZ (mm + 1))), some (.inl (iZ (0)))], [], h18)) rfl ?_
              refine Ev.sts 1 (c' := (5, [some (.inr (.inr (.inr (11, 0, 83)))), some (.inl (iZ (mm + 1))), some (.inl (iZ (0)))], [.inl (iZ (0))], h18)) rfl ?_
              refine Ev.brT (p := (iZ (0)) = (iZ (0))) (c1 := (89, [some (.inr (.inr (.inr (11, 0, 83)))), some (.inl (iZ (mm + 1))), some (.inl (iZ (0)))], [], h18)) (c2 := (8, [some (.inr (.inr (.inr (11, 0, 83)))), some (.inl (iZ (mm + 1))), some (.inl (iZ (0)))], [], h18)) (by decide) rfl ?_
              refine Ev.sts 1 (c' := (90, [some (.inr (.inr (.inr (11, 0, 83)))), some (.inl (iZ (mm + 1))), some (.inl (iZ (0)))], [.inr (.inr (.inr (11, 0, 83)))], h18)) rfl ?_
              refine Ev.gfr (r := (20, 64, 92)) rfl (sh_83_17 (h := h18) (qm_sh q18)) ?_
              refine Ev.sts 2 (c' := (95, [some (.inr (.inr (.inr (11, 0, 83)))), some (.inl (iZ (mm + 1))), some (.inl (iZ (0)))], [.inl (iZ (mm + 1)), .inl (iZ (2)), .inr (.inr (.inr (20, 64, 92)))], h18)) rfl ?_
              refine Ev.sto (j := (iZ (2))) (n := 64) (h2 := (setI h18 92 2 ((iZ (mm + 1))))) (by decide) rfl rfl ?_
              have q20 : QM (setI h18 92 2 ((iZ (mm + 1)))) T 0 (p + 1) [] _ := QM_92 q18
              have f20 : fQ 0 h18 (setI h18 92 2 ((iZ (mm + 1)))) := fQ_I (by omega)
              have r20 : (setI h18 92 2 ((iZ (mm + 1)))).1 92 0 = iZ 0 ∧ (setI h18 92 2 ((iZ (mm + 1)))).1 92 1 = iZ 0 := ⟨(setI_ne (by omega)).trans ((r0_R r0 f18)).1, (setI_ne (by omega)).trans ((r0_R r0 f18)).2⟩
              generalize (setI h18 92 2 ((iZ (mm + 1)))) = h20 at q20 f20 r20 ⊢
              refine Ev.sts 2 (c' := (99, [some (.inr (.inr (.inr (11, 0, 83)))), some (.inl (iZ (mm + 1))), some (.inl (iZ (0)))], [.inl (iZ (59)), .inr (.inr (.inr (11, 0, 83)))], h20)) rfl ?_
              refine Ev.callw (a := [.inr (.inr (.inr (11, 0, 83))), .inl (iZ (59))]) rfl (mf_sign (K := 30) q20 (by decide) (by decide) (fun ky21 h21 q21 f21 => ?_) (fun ky21 g21 a21 f21 => ?_))
              · have z21 := qm_p q21
                have e1 : mnN T (n + 1) p = (true, p + 1 + 1, [p]) := (by rw [mnN_t (by assumption), mns_d (by assumption), if_pos (by assumption)])
                rw [e1] at k1
                exact Ev.ret rfl (k1 rfl _ _ q21 (by dsimp only; first | omega | (simp only [List.length_append, List.length_cons, List.length_nil, List.length_map]; omega)) (r0_R r20 f21) (fQ_t hn (fQ_t hn (fQ_t hn (fQ_r h) (fQ_R f18)) f20) (fQ_R f21)))
              · first | (have e1 : mnN T (n + 1) p = (false, p, []) := mnN_f (by assumption); rw [e1] at k0; exact Ev.ret rfl (k0 rfl _ a21 (fQ_t hn (fQ_t hn (fQ_t hn (fQ_r h) (fQ_R f18)) f20) (fQ_R f21)))) | (have e1 : mnN T (n + 1) p = (false, p + 1, [p]) := (by rw [mnN_t (by assumption), mns_d (by assumption), if_neg (by assumption)]); rw [e1] at k0; exact Ev.ret rfl (k0 rfl _ a21 (fQ_t hn (fQ_t hn (fQ_t hn (fQ_r h) (fQ_R f18)) f20) (fQ_R f21))))
          · refine Ev.sts 1 (c' := (65, [some (.inr (.inr (.inr (11, 0, 83)))), some (.inl (iZ (mm))), some (.inl (iZ (1)))], [.inr (.inr (.inr (11, 0, 83)))], h18)) rfl ?_
            refine Ev.gfr (r := (20, 64, 92)) rfl (sh_83_17 (h := h18) (qm_sh q18)) ?_
            refine Ev.sts 2 (c' := (70, [some (.inr (.inr (.inr (11, 0, 83)))), some (.inl (iZ (mm))), some (.inl (iZ (1)))], [.inl (iZ (mm)), .inl (iZ (3)), .inr (.inr (.inr (20, 64, 92)))], h18)) rfl ?_
            refine Ev.gv (w := (iZ (3 + mm))) rfl (iZ_add _ _) ?_
            refine Ev.sts 1 (c' := (72, [some (.inr (.inr (.inr (11, 0, 83)))), some (.inl (iZ (mm))), some (.inl (iZ (1)))], [.inr (.inr (.inr (11, 0, 83))), .inl (iZ (3 + mm)), .inr (.inr (.inr (20, 64, 92)))], h18)) rfl ?_
            refine Ev.callv (a := [.inr (.inr (.inr (11, 0, 83)))]) rfl (mf_last (p := p) q18 (by assumption)) ?_
            refine Ev.sto (j := (iZ (3 + mm))) (n := 64) (h2 := (setI h18 92 (3 + mm) ((iZ (tN T p))))) (iZ_in (by omega) (by omega) (by omega)) rfl (by rw [iZ_ix (n := 3 + mm) (by omega) (by omega)]) ?_
            have q22 : QM (setI h18 92 (3 + mm) ((iZ (tN T p)))) T 0 (p + 1) [] _ := QM_92 q18
            have f22 : fQ 0 h18 (setI h18 92 (3 + mm) ((iZ (tN T p)))) := fQ_I (by omega)
            have r22 : (setI h18 92 (3 + mm) ((iZ (tN T p)))).1 92 0 = iZ 0 ∧ (setI h18 92 (3 + mm) ((iZ (tN T p)))).1 92 1 = iZ 0 := ⟨(setI_ne (by omega)).trans ((r0_R r0 f18)).1, (setI_ne (by omega)).trans ((r0_R r0 f18)).2⟩
            generalize (setI h18 92 (3 + mm) ((iZ (tN T p)))) = h22 at q22 f22 r22 ⊢
            refine Ev.stc (c1 := (79, [some (.inr (.inr (.inr (11, 0, 83)))), some (.inl ((iZ (mm)) + (iZ (1)))), some (.inl (iZ (1)))], [], h22)) (c2 := (79, [some (.inr (.inr (.inr (11, 0, 83)))), some (.inl (iZ (mm + 1))), some (.inl (iZ (1)))], [], h22)) rfl (by rw [iZ_add]) ?_
            refine Ev.sts 2 (c' := (82, [some (.inr (.inr (.inr (11, 0, 83)))), some (.inl (iZ (mm + 1))), some (.inl (iZ (1)))], [.inl (iZ (44)), .inr (.inr (.inr (11, 0, 83)))], h22)) rfl ?_
            refine Ev.callw (a := [.inr (.inr (.inr (11, 0, 83))), .inl (iZ (44))]) rfl (mf_ifSign (K := 31) q22 (by decide) (by decide) (fun ky23 h23 q23 f23 => ?_) (fun ky23 => ?_))
            · have z23 := qm_p q23
              refine Ev.sts 2 (c' := (4, [some (.inr (.inr (.inr (11, 0, 83)))), some (.inl (iZ (mm + 1))), some (.inl (iZ (1)))], [], h23)) rfl ?_
              have e0 := mnN_t (n := n + 1) (show tK T p = 3 by assumption)
              have e1 := mnN_c (n := n) (show tK T (p + 1) = 31 by assumption)
              rw [e1] at e0
              refine ih (mm + 1) _ (p + 2) _ _ (by omega) (by omega) (by have := (fQ_t hn (fQ_t hn (fQ_t hn (fQ_r h) (fQ_R f18)) f22) (fQ_R f23)).2.2.2.2.1; omega) q23 (by omega) (r0_R r22 f23) (fun rr hz Wz qz wz rz fz => ?_) (fun rr hz az fz => ?_)
              · rw [e0] at k1
                exact k1 rr hz Wz qz wz rz (fQ_t hn (fQ_t hn (fQ_t hn (fQ_t hn (fQ_r h) (fQ_R f18)) f22) (fQ_R f23)) fz)
              · rw [e0] at k0
                exact k0 rr hz az (fQ_t hn (fQ_t hn (fQ_t hn (fQ_t hn (fQ_r h) (fQ_R f18)) f22) (fQ_R f23)) fz)
            · refine Ev.sts 2 (c' := (4, [some (.inr (.inr (.inr (11, 0, 83)))), some (.inl (iZ (mm + 1))), some (.inl (iZ (0)))], [], h22)) rfl ?_
              refine Ev.sts 1 (c' := (5, [some (.inr (.inr (.inr (11, 0, 83)))), some (.inl (iZ (mm + 1))), some (.inl (iZ (0)))], [.inl (iZ (0))], h22)) rfl ?_
              refine Ev.brT (p := (iZ (0)) = (iZ (0))) (c1 := (89, [some (.inr (.inr (.inr (11, 0, 83)))), some (.inl (iZ (mm + 1))), some (.inl (iZ (0)))], [], h22)) (c2 := (8, [some (.inr (.inr (.inr (11, 0, 83)))), some (.inl (iZ (mm + 1))), some (.inl (iZ (0)))], [], h22)) (by decide) rfl ?_
              refine Ev.sts 1 (c' := (90, [some (.inr (.inr (.inr (11, 0, 83)))), some (.inl (iZ (mm + 1))), some (.inl (iZ (0)))], [.inr (.inr (.inr (11, 0, 83)))], h22)) rfl ?_
              refine Ev.gfr (r := (20, 64, 92)) rfl (sh_83_17 (h := h22) (qm_sh q22)) ?_
              refine Ev.sts 2 (c' := (95, [some (.inr (.inr (.inr (11, 0, 83)))), some (.inl (iZ (mm + 1))), some (.inl (iZ (0)))], [.inl (iZ (mm + 1)), .inl (iZ (2)), .inr (.inr (.inr (20, 64, 92)))], h22)) rfl ?_
              refine Ev.sto (j := (iZ (2))) (n := 64) (h2 := (setI h22 92 2 ((iZ (mm + 1))))) (by decide) rfl rfl ?_
              have q24 : QM (setI h22 92 2 ((iZ (mm + 1)))) T 0 (p + 1) [] _ := QM_92 q22
              have f24 : fQ 0 h22 (setI h22 92 2 ((iZ (mm + 1)))) := fQ_I (by omega)
              have r24 : (setI h22 92 2 ((iZ (mm + 1)))).1 92 0 = iZ 0 ∧ (setI h22 92 2 ((iZ (mm + 1)))).1 92 1 = iZ 0 := ⟨(setI_ne (by omega)).trans (r22).1, (setI_ne (by omega)).trans (r22).2⟩
              generalize (setI h22 92 2 ((iZ (mm + 1)))) = h24 at q24 f24 r24 ⊢
              refine Ev.sts 2 (c' := (99, [some (.inr (.inr (.inr (11, 0, 83)))), some (.inl (iZ (mm + 1))), some (.inl (iZ (0)))], [.inl (iZ (59)), .inr (.inr (.inr (11, 0, 83)))], h24)) rfl ?_
              refine Ev.callw (a := [.inr (.inr (.inr (11, 0, 83))), .inl (iZ (59))]) rfl (mf_sign (K := 30) q24 (by decide) (by decide) (fun ky25 h25 q25 f25 => ?_) (fun ky25 g25 a25 f25 => ?_))
              · have z25 := qm_p q25
                have e1 : mnN T (n + 1) p = (true, p + 1 + 1, [p]) := (by rw [mnN_t (by assumption), mns_d (by assumption), if_pos (by assumption)])
                rw [e1] at k1
                exact Ev.ret rfl (k1 rfl _ _ q25 (by dsimp only; first | omega | (simp only [List.length_append, List.length_cons, List.length_nil, List.length_map]; omega)) (r0_R r24 f25) (fQ_t hn (fQ_t hn (fQ_t hn (fQ_t hn (fQ_r h) (fQ_R f18)) f22) f24) (fQ_R f25)))
              · first | (have e1 : mnN T (n + 1) p = (false, p, []) := mnN_f (by assumption); rw [e1] at k0; exact Ev.ret rfl (k0 rfl _ a25 (fQ_t hn (fQ_t hn (fQ_t hn (fQ_t hn (fQ_r h) (fQ_R f18)) f22) f24) (fQ_R f25)))) | (have e1 : mnN T (n + 1) p = (false, p + 1, [p]) := (by rw [mnN_t (by assumption), mns_d (by assumption), if_neg (by assumption)]); rw [e1] at k0; exact Ev.ret rfl (k0 rfl _ a25 (fQ_t hn (fQ_t hn (fQ_t hn (fQ_t hn (fQ_r h) (fQ_R f18)) f22) f24) (fQ_R f25))))
        · refine Ev.brF (p := ¬ (iZ (0)) = (iZ (0))) (c1 := (58, [some (.inr (.inr (.inr (11, 0, 83)))), some (.inl (iZ (mm))), some (.inl (iZ (1)))], [], g18)) (c2 := (56, [some (.inr (.inr (.inr (11, 0, 83)))), some (.inl (iZ (mm))), some (.inl (iZ (1)))], [], g18)) (by decide) rfl ?_
          refine Ev.sts 1 (c' := (57, [some (.inr (.inr (.inr (11, 0, 83)))), some (.inl (iZ (mm))), some (.inl (iZ (1)))], [.inl (iZ (0))], g18)) rfl ?_
          first | (have e1 : mnN T (n + 1) p = (false, p, []) := mnN_f (by assumption); rw [e1] at k0; exact Ev.ret rfl (k0 rfl _ a18 (fQ_t hn (fQ_r h) (fQ_R f18)))) | (have e1 : mnN T (n + 1) p = (false, p + 1, [p]) := (by rw [mnN_t (by assumption), mns_d (by assumption), if_neg (by assumption)]); rw [e1] at k0; exact Ev.ret rfl (k0 rfl _ a18 (fQ_t hn (fQ_r h) (fQ_R f18))))

theorem mf_moon0 {d p : Nat} {T : List Tok} {W : List Int} {h : PH} {Q : Rs → PH → Prop} (q0 : QM h T 0 p [] W) (hp : W.length ≤ 2 * p) (hn : 103 ≤ hN h) (r0 : h.1 92 0 = iZ 0 ∧ h.1 92 1 = iZ 0) (k1 : ((mnN T 400 p).1 = true → ∀ h1 W1, QM h1 T 0 (mnN T 400 p).2.1 [] W1 → W1.length ≤ 2 * (mnN T 400 p).2.1 → h1.1 92 0 = iZ 0 ∧ h1.1 92 1 = iZ 0 → fQ 0 h h1 → Q (.inl (some (.inl (iZ 1)))) h1)) (k0 : ((mnN T 400 p).1 = false → ∀ h1, erM h1 T 1 (mnN T 400 p).2.1 → fQ 0 h h1 → Q (.inl (some (.inl (iZ 0)))) h1)) : Rn (d + 3) 183 [.inr (.inr (.inr (11, 0, 83)))] h Q := by
  have sh := qm_sh q0
  have w0 := qm_w q0
  have p0 := qm_p q0
  have t0 := qm_tk q0
  have l1 := w0.2.1
  have tb0 := tBk w0 p
  have sb0 := sr_b (tK T p)
  refine Ev.sts 4 (c' := (4, [some (.inr (.inr (.inr (11, 0, 83)))), some (.inl (iZ (0))), some (.inl (iZ (1)))], [], h)) rfl ?_
  exact mf_moon0_lp 400 0 _ _ _ _ (by omega) (Nat.zero_le _) hn q0 hp r0 k1 k0

theorem gooF_g {T : List Tok} (w : tkW T) {p : Nat} (h : (gooF T p).1 = true) : p + 3 ≤ (gooF T p).2.1 := by
  unfold gooF at h ⊢
  by_cases a : tK T p = 2
  · rw [if_pos a] at h ⊢
    by_cases b : tK T (p + 1) = 16
    · rw [if_pos b] at h ⊢
      by_cases c : tK T (p + 2) = 2
      · rw [if_pos c] at h ⊢
        by_cases d : (winF T (p + 3)).1 = true
        · rw [if_pos d] at h ⊢
          by_cases e : tK T (winF T (p + 3)).2.1 = 20
          · rw [if_pos e] at h ⊢
            have g1 := winF_g d
            have g2 := (telF_g w h).2.1
            show p + 3 ≤ (telF T ((winF T (p + 3)).2.1 + 1)).2.1
            omega
          · rw [if_neg e] at h; cases h
        · rw [if_neg d] at h; cases h
      · rw [if_neg c] at h; cases h
    · rw [if_neg b] at h; cases h
  · rw [if_neg a] at h; cases h
theorem mf_lines0_lp {d : Nat} {T : List Tok} (n : Nat) : ∀ (jv : Option VV) (h : PH) (p : Nat) (W : List Int) (Q : Rs → PH → Prop), 402 ≤ p + 3 * n → QM h T 0 p [] W → W.length ≤ 2 * p → h.1 92 0 = iZ 0 ∧ h.1 92 1 = iZ 0 → ((lnsF T n p).1 = true → ∀ h1 W1, QM h1 T 0 (lnsF T n p).2.1 [] W1 → fR h h1 → Q (.inl (some (.inl (iZ 1)))) h1) → ((lnsF T n p).1 = false → ∀ h1, erM h1 T 1 (lnsF T n p).2.1 → fR h h1 → Q (.inl (some (.inl (iZ 0)))) h1) → Ev (d + 71) 180 (72, [some (.inr (.inr (.inr (11, 0, 83)))), jv], [], h) Q := by
  induction n with
  | zero =>
    intro jv h p W Q hn0 q0 hp r0 k1 k0
    have sh := qm_sh q0
    have w0 := qm_w q0
    have p0 := qm_p q0
    have t0 := qm_tk q0
    have l1 := w0.2.1
    have tb0 := tBk w0 p
    have sb0 := sr_b (tK T p)
    omega
  | succ n ih =>
    intro jv h p W Q hn0 q0 hp r0 k1 k0
    have sh := qm_sh q0
    have w0 := qm_w q0
    have p0 := qm_p q0
    have t0 := qm_tk q0
    have l1 := w0.2.1
    have tb0 := tBk w0 p
    have sb0 := sr_b (tK T p)
    refine Ev.sts 1 (c' := (73, [some (.inr (.inr (.inr (11, 0, 83)))), jv], [.inr (.inr (.inr (11, 0, 83)))], h)) rfl ?_
    refine Ev.gfr (r := (20, 402, 85)) rfl (sh_83_3 (h := h) (qm_sh q0)) ?_
    refine Ev.sts 1 (c' := (77, [some (.inr (.inr (.inr (11, 0, 83)))), jv], [.inr (.inr (.inr (11, 0, 83))), .inr (.inr (.inr (20, 402, 85)))], h)) rfl ?_
    refine Ev.gv (w := (iZ (p))) rfl (qm_7 q0) ?_
    refine Ev.ldv (j := (iZ (p))) (n := 402) (w := .inl (iZ (srK (tK T p)))) (iZ_in (by omega) (by omega) (by omega)) rfl (by rw [iZ_ix (n := p) (by omega) (by omega)]; exact congrArg vI (qm_tk q0 _ (qm_p q0)).1) ?_
    refine Ev.sts 1 (c' := (82, [some (.inr (.inr (.inr (11, 0, 83)))), jv], [.inl (iZ (4)), .inl (iZ (srK (tK T p)))], h)) rfl ?_
    refine Ev.brc (p := (iZ (srK (tK T p))) = (iZ (4))) (q := ((srK (tK T p) : Int)) = 4) (c1 := (147, [some (.inr (.inr (.inr (11, 0, 83)))), jv], [], h)) (c2 := (85, [some (.inr (.inr (.inr (11, 0, 83)))), jv], [], h)) rfl (iZ_eq ⟨by omega, by omega⟩ ⟨by omega, by omega⟩) (fun c0 => ?_) (fun c0 => ?_)
    · refine Ev.sts 1 (c' := (148, [some (.inr (.inr (.inr (11, 0, 83)))), jv], [.inl (iZ (1))], h)) rfl ?_
      have e1 := lns_e (n := n) (show tK T p = 0 from sr_4.mp (by omega))
      rw [e1] at k1
      exact Ev.ret rfl (k1 rfl _ _ q0 (fR_r h))
    · refine Ev.sts 2 (c' := (89, [some (.inr (.inr (.inr (11, 0, 83)))), jv], [.inr (.inl ((6700139 : Int64))), .inr (.inr (.inr (11, 0, 83)))], h)) rfl ?_
      refine Ev.callw (a := [.inr (.inr (.inr (11, 0, 83))), .inr (.inl ((6700139 : Int64)))]) rfl (mf_ifWord (K := 5) q0 (by decide) (by decide) (fun ky1 h1 q1 f1 => ?_) (fun ky1 => ?_))
      · have z1 := qm_p q1
        refine Ev.brF (p := (iZ (1)) = (iZ (0))) (c1 := (102, [some (.inr (.inr (.inr (11, 0, 83)))), jv], [], h1)) (c2 := (95, [some (.inr (.inr (.inr (11, 0, 83)))), jv], [], h1)) (by decide) rfl ?_
        refine Ev.sts 1 (c' := (96, [some (.inr (.inr (.inr (11, 0, 83)))), jv], [.inr (.inr (.inr (11, 0, 83)))], h1)) rfl ?_
        refine Ev.callw (a := [.inr (.inr (.inr (11, 0, 83)))]) rfl (mf_flock0 q1 (by first | omega | (simp only [List.length_append, List.length_cons, List.length_nil, List.length_map]; omega)) ((congrFun ((fR_t (fR_r h) f1).2.1 92 (by decide) (by decide)) 0).trans r0.1) ((congrFun ((fR_t (fR_r h) f1).2.1 92 (by decide) (by decide)) 1).trans r0.2) (fun r2 h2 W2 q2 w2 f2 => ?_) (fun r2 g2 a2 f2 => ?_))
        · have z2 := qm_p q2
          have g2 := (flkF_g w0 r2).2
          refine Ev.sts 3 (c' := (130, [some (.inr (.inr (.inr (11, 0, 83)))), some (.inl (iZ (1)))], [.inl (iZ (1))], h2)) rfl ?_
          refine Ev.brF (p := (iZ (1)) = (iZ (0))) (c1 := (142, [some (.inr (.inr (.inr (11, 0, 83)))), some (.inl (iZ (1)))], [], h2)) (c2 := (133, [some (.inr (.inr (.inr (11, 0, 83)))), some (.inl (iZ (1)))], [], h2)) (by decide) rfl ?_
          refine Ev.sts 2 (c' := (136, [some (.inr (.inr (.inr (11, 0, 83)))), some (.inl (iZ (1)))], [.inl (iZ (59)), .inr (.inr (.inr (11, 0, 83)))], h2)) rfl ?_
          refine Ev.callw (a := [.inr (.inr (.inr (11, 0, 83))), .inl (iZ (59))]) rfl (mf_sign (K := 30) q2 (by decide) (by decide) (fun ky3 h3 q3 f3 => ?_) (fun ky3 g3 a3 f3 => ?_))
          · have z3 := qm_p q3
            refine Ev.brT (p := ¬ (iZ (1)) = (iZ (0))) (c1 := (144, [some (.inr (.inr (.inr (11, 0, 83)))), some (.inl (iZ (1)))], [], h3)) (c2 := (142, [some (.inr (.inr (.inr (11, 0, 83)))), some (.inl (iZ (1)))], [], h3)) (by decide) rfl ?_
            refine Ev.sts 1 (c' := (72, [some (.inr (.inr (.inr (11, 0, 83)))), some (.inl (iZ (1)))], [], h3)) rfl ?_
            have e2 : linF T p = (true, (flkF T (p + 1)).2.1 + 1, (flkF T (p + 1)).2.2) := (show linF T p = semF T (flkF T (p + 1)) from by unfold linF; rw [if_pos (by assumption)]).trans (semF_t (show (flkF T (p + 1)).1 = true by assumption) (by assumption))
            have e1 := lns_l (n := n) (T := T) (p := p) (fun z_ => by have := sr_4.mpr z_; omega) (by rw [e2])
            rw [e2] at e1
            refine ih _ _ _ _ _ (by omega) q3 (by first | omega | (simp only [List.length_append, List.length_cons, List.length_nil, List.length_map]; omega)) ⟨((congrFun ((fR_t (fR_t (fR_t (fR_r h) f1) f2) f3).2.1 92 (by decide) (by decide)) 0).trans r0.1), ((congrFun ((fR_t (fR_t (fR_t (fR_r h) f1) f2) f3).2.1 92 (by decide) (by decide)) 1).trans r0.2)⟩ (fun rr hz Wz qz fz => ?_) (fun rr hz az fz => ?_)
            · rw [e1] at k1
              exact k1 rr hz Wz qz (fR_t (fR_t (fR_t (fR_t (fR_r h) f1) f2) f3) fz)
            · rw [e1] at k0
              exact k0 rr hz az (fR_t (fR_t (fR_t (fR_t (fR_r h) f1) f2) f3) fz)
          · refine Ev.brF (p := ¬ (iZ (0)) = (iZ (0))) (c1 := (144, [some (.inr (.inr (.inr (11, 0, 83)))), some (.inl (iZ (1)))], [], g3)) (c2 := (142, [some (.inr (.inr (.inr (11, 0, 83)))), some (.inl (iZ (1)))], [], g3)) (by decide) rfl ?_
            refine Ev.sts 1 (c' := (143, [some (.inr (.inr (.inr (11, 0, 83)))), some (.inl (iZ (1)))], [.inl (iZ (0))], g3)) rfl ?_
            first | (exfalso; omega) | (have e2 : linF T p = (false, p, l0) := (by unfold linF; rw [if_neg (by assumption), if_neg (by assumption)]); have e1 := lns_x (n := n) (T := T) (p := p) (fun z_ => by have := sr_4.mpr z_; omega) (by rw [e2]); rw [e1, e2] at k0; exact Ev.ret rfl (k0 rfl _ a3 (fR_t (fR_t (fR_t (fR_r h) f1) f2) f3))) | (have e2 : linF T p = (false, (flkF T (p + 1)).2.1, l0) := (show linF T p = semF T (flkF T (p + 1)) from by unfold linF; rw [if_pos (by assumption)]).trans (semF_f (show (flkF T (p + 1)).1 = false by assumption)); have e1 := lns_x (n := n) (T := T) (p := p) (fun z_ => by have := sr_4.mpr z_; omega) (by rw [e2]); rw [e1, e2] at k0; exact Ev.ret rfl (k0 rfl _ a3 (fR_t (fR_t (fR_t (fR_r h) f1) f2) f3))) | (have e2 : linF T p = (false, (flkF T (p + 1)).2.1, l0) := (show linF T p = semF T (flkF T (p + 1)) from by unfold linF; rw [if_pos (by assumption)]).trans (semF_k (show (flkF T (p + 1)).1 = true by assumption) (by assumption)); have e1 := lns_x (n := n) (T := T) (p := p) (fun z_ => by have := sr_4.mpr z_; omega) (by rw [e2]); rw [e1, e2] at k0; exact Ev.ret rfl (k0 rfl _ a3 (fR_t (fR_t (fR_t (fR_r h) f1) f2) f3))) | (have e2 : linF T p = (false, (gooF T (p + 1)).2.1, l0) := (show linF T p = semF T (gooF T (p + 1)) from by unfold linF; rw [if_neg (by omega), if_pos (by assumption)]).trans (semF_f (show (gooF T (p + 1)).1 = false by assumption)); have e1 := lns_x (n := n) (T := T) (p := p) (fun z_ => by have := sr_4.mpr z_; omega) (by rw [e2]); rw [e1, e2] at k0; exact Ev.ret rfl (k0 rfl _ a3 (fR_t (fR_t (fR_t (fR_r h) f1) f2) f3))) | (have e2 : linF T p = (false, (gooF T (p + 1)).2.1, l0) := (show linF T p = semF T (gooF T (p + 1)) from by unfold linF; rw [if_neg (by omega), if_pos (by assumption)]).trans (semF_k (show (gooF T (p + 1)).1 = true by assumption) (by assumption)); have e1 := lns_x (n := n) (T := T) (p := p) (fun z_ => by have := sr_4.mpr z_; omega) (by rw [e2]); rw [e1, e2] at k0; exact Ev.ret rfl (k0 rfl _ a3 (fR_t (fR_t (fR_t (fR_r h) f1) f2) f3)))
        · refine Ev.sts 3 (c' := (130, [some (.inr (.inr (.inr (11, 0, 83)))), some (.inl (iZ (0)))], [.inl (iZ (0))], g2)) rfl ?_
          refine Ev.brT (p := (iZ (0)) = (iZ (0))) (c1 := (142, [some (.inr (.inr (.inr (11, 0, 83)))), some (.inl (iZ (0)))], [], g2)) (c2 := (133, [some (.inr (.inr (.inr (11, 0, 83)))), some (.inl (iZ (0)))], [], g2)) (by decide) rfl ?_
          refine Ev.sts 1 (c' := (143, [some (.inr (.inr (.inr (11, 0, 83)))), some (.inl (iZ (0)))], [.inl (iZ (0))], g2)) rfl ?_
          first | (exfalso; omega) | (have e2 : linF T p = (false, p, l0) := (by unfold linF; rw [if_neg (by assumption), if_neg (by assumption)]); have e1 := lns_x (n := n) (T := T) (p := p) (fun z_ => by have := sr_4.mpr z_; omega) (by rw [e2]); rw [e1, e2] at k0; exact Ev.ret rfl (k0 rfl _ a2 (fR_t (fR_t (fR_r h) f1) f2))) | (have e2 : linF T p = (false, (flkF T (p + 1)).2.1, l0) := (show linF T p = semF T (flkF T (p + 1)) from by unfold linF; rw [if_pos (by assumption)]).trans (semF_f (show (flkF T (p + 1)).1 = false by assumption)); have e1 := lns_x (n := n) (T := T) (p := p) (fun z_ => by have := sr_4.mpr z_; omega) (by rw [e2]); rw [e1, e2] at k0; exact Ev.ret rfl (k0 rfl _ a2 (fR_t (fR_t (fR_r h) f1) f2))) | (have e2 : linF T p = (false, (flkF T (p + 1)).2.1, l0) := (show linF T p = semF T (flkF T (p + 1)) from by unfold linF; rw [if_pos (by assumption)]).trans (semF_k (show (flkF T (p + 1)).1 = true by assumption) (by assumption)); have e1 := lns_x (n := n) (T := T) (p := p) (fun z_ => by have := sr_4.mpr z_; omega) (by rw [e2]); rw [e1, e2] at k0; exact Ev.ret rfl (k0 rfl _ a2 (fR_t (fR_t (fR_r h) f1) f2))) | (have e2 : linF T p = (false, (gooF T (p + 1)).2.1, l0) := (show linF T p = semF T (gooF T (p + 1)) from by unfold linF; rw [if_neg (by omega), if_pos (by assumption)]).trans (semF_f (show (gooF T (p + 1)).1 = false by assumption)); have e1 := lns_x (n := n) (T := T) (p := p) (fun z_ => by have := sr_4.mpr z_; omega) (by rw [e2]); rw [e1, e2] at k0; exact Ev.ret rfl (k0 rfl _ a2 (fR_t (fR_t (fR_r h) f1) f2))) | (have e2 : linF T p = (false, (gooF T (p + 1)).2.1, l0) := (show linF T p = semF T (gooF T (p + 1)) from by unfold linF; rw [if_neg (by omega), if_pos (by assumption)]).trans (semF_k (show (gooF T (p + 1)).1 = true by assumption) (by assumption)); have e1 := lns_x (n := n) (T := T) (p := p) (fun z_ => by have := sr_4.mpr z_; omega) (by rw [e2]); rw [e1, e2] at k0; exact Ev.ret rfl (k0 rfl _ a2 (fR_t (fR_t (fR_r h) f1) f2)))
      · refine Ev.brT (p := (iZ (0)) = (iZ (0))) (c1 := (102, [some (.inr (.inr (.inr (11, 0, 83)))), jv], [], h)) (c2 := (95, [some (.inr (.inr (.inr (11, 0, 83)))), jv], [], h)) (by decide) rfl ?_
        refine Ev.sts 2 (c' := (106, [some (.inr (.inr (.inr (11, 0, 83)))), jv], [.inr (.inl ((7847525 : Int64))), .inr (.inr (.inr (11, 0, 83)))], h)) rfl ?_
        refine Ev.callw (a := [.inr (.inr (.inr (11, 0, 83))), .inr (.inl ((7847525 : Int64)))]) rfl (mf_ifWord (K := 15) q0 (by decide) (by decide) (fun ky4 h4 q4 f4 => ?_) (fun ky4 => ?_))
        · have z4 := qm_p q4
          refine Ev.brF (p := (iZ (1)) = (iZ (0))) (c1 := (119, [some (.inr (.inr (.inr (11, 0, 83)))), jv], [], h4)) (c2 := (112, [some (.inr (.inr (.inr (11, 0, 83)))), jv], [], h4)) (by decide) rfl ?_
          refine Ev.sts 1 (c' := (113, [some (.inr (.inr (.inr (11, 0, 83)))), jv], [.inr (.inr (.inr (11, 0, 83)))], h4)) rfl ?_
          refine Ev.callw (a := [.inr (.inr (.inr (11, 0, 83)))]) rfl (mf_goose0 q4 (by first | omega | (simp only [List.length_append, List.length_cons, List.length_nil, List.length_map]; omega)) ((congrFun ((fR_t (fR_r h) f4).2.1 92 (by decide) (by decide)) 0).trans r0.1) ((congrFun ((fR_t (fR_r h) f4).2.1 92 (by decide) (by decide)) 1).trans r0.2) (fun r5 h5 W5 q5 w5 f5 => ?_) (fun r5 g5 a5 f5 => ?_))
          · have z5 := qm_p q5
            have g5 := (gooF_g w0 r5)
            refine Ev.sts 3 (c' := (130, [some (.inr (.inr (.inr (11, 0, 83)))), some (.inl (iZ (1)))], [.inl (iZ (1))], h5)) rfl ?_
            refine Ev.brF (p := (iZ (1)) = (iZ (0))) (c1 := (142, [some (.inr (.inr (.inr (11, 0, 83)))), some (.inl (iZ (1)))], [], h5)) (c2 := (133, [some (.inr (.inr (.inr (11, 0, 83)))), some (.inl (iZ (1)))], [], h5)) (by decide) rfl ?_
            refine Ev.sts 2 (c' := (136, [some (.inr (.inr (.inr (11, 0, 83)))), some (.inl (iZ (1)))], [.inl (iZ (59)), .inr (.inr (.inr (11, 0, 83)))], h5)) rfl ?_
            refine Ev.callw (a := [.inr (.inr (.inr (11, 0, 83))), .inl (iZ (59))]) rfl (mf_sign (K := 30) q5 (by decide) (by decide) (fun ky6 h6 q6 f6 => ?_) (fun ky6 g6 a6 f6 => ?_))
            · have z6 := qm_p q6
              refine Ev.brT (p := ¬ (iZ (1)) = (iZ (0))) (c1 := (144, [some (.inr (.inr (.inr (11, 0, 83)))), some (.inl (iZ (1)))], [], h6)) (c2 := (142, [some (.inr (.inr (.inr (11, 0, 83)))), some (.inl (iZ (1)))], [], h6)) (by decide) rfl ?_
              refine Ev.sts 1 (c' := (72, [some (.inr (.inr (.inr (11, 0, 83)))), some (.inl (iZ (1)))], [], h6)) rfl ?_
              have e2 : linF T p = (true, (gooF T (p + 1)).2.1 + 1, (gooF T (p + 1)).2.2) := (show linF T p = semF T (gooF T (p + 1)) from by unfold linF; rw [if_neg (by omega), if_pos (by assumption)]).trans (semF_t (show (gooF T (p + 1)).1 = true by assumption) (by assumption))
              have e1 := lns_l (n := n) (T := T) (p := p) (fun z_ => by have := sr_4.mpr z_; omega) (by rw [e2])
              rw [e2] at e1
              refine ih _ _ _ _ _ (by omega) q6 (by first | omega | (simp only [List.length_append, List.length_cons, List.length_nil, List.length_map]; omega)) ⟨((congrFun ((fR_t (fR_t (fR_t (fR_r h) f4) f5) f6).2.1 92 (by decide) (by decide)) 0).trans r0.1), ((congrFun ((fR_t (fR_t (fR_t (fR_r h) f4) f5) f6).2.1 92 (by decide) (by decide)) 1).trans r0.2)⟩ (fun rr hz Wz qz fz => ?_) (fun rr hz az fz => ?_)
              · rw [e1] at k1
                exact k1 rr hz Wz qz (fR_t (fR_t (fR_t (fR_t (fR_r h) f4) f5) f6) fz)
              · rw [e1] at k0
                exact k0 rr hz az (fR_t (fR_t (fR_t (fR_t (fR_r h) f4) f5) f6) fz)
            · refine Ev.brF (p := ¬ (iZ (0)) = (iZ (0))) (c1 := (144, [some (.inr (.inr (.inr (11, 0, 83)))), some (.inl (iZ (1)))], [], g6)) (c2 := (142, [some (.inr (.inr (.inr (11, 0, 83)))), some (.inl (iZ (1)))], [], g6)) (by decide) rfl ?_
              refine Ev.sts 1 (c' := (143, [some (.inr (.inr (.inr (11, 0, 83)))), some (.inl (iZ (1)))], [.inl (iZ (0))], g6)) rfl ?_
              first | (exfalso; omega) | (have e2 : linF T p = (false, p, l0) := (by unfold linF; rw [if_neg (by assumption), if_neg (by assumption)]); have e1 := lns_x (n := n) (T := T) (p := p) (fun z_ => by have := sr_4.mpr z_; omega) (by rw [e2]); rw [e1, e2] at k0; exact Ev.ret rfl (k0 rfl _ a6 (fR_t (fR_t (fR_t (fR_r h) f4) f5) f6))) | (have e2 : linF T p = (false, (flkF T (p + 1)).2.1, l0) := (show linF T p = semF T (flkF T (p + 1)) from by unfold linF; rw [if_pos (by assumption)]).trans (semF_f (show (flkF T (p + 1)).1 = false by assumption)); have e1 := lns_x (n := n) (T := T) (p := p) (fun z_ => by have := sr_4.mpr z_; omega) (by rw [e2]); rw [e1, e2] at k0; exact Ev.ret rfl (k0 rfl _ a6 (fR_t (fR_t (fR_t (fR_r h) f4) f5) f6))) | (have e2 : linF T p = (false, (flkF T (p + 1)).2.1, l0) := (show linF T p = semF T (flkF T (p + 1)) from by unfold linF; rw [if_pos (by assumption)]).trans (semF_k (show (flkF T (p + 1)).1 = true by assumption) (by assumption)); have e1 := lns_x (n := n) (T := T) (p := p) (fun z_ => by have := sr_4.mpr z_; omega) (by rw [e2]); rw [e1, e2] at k0; exact Ev.ret rfl (k0 rfl _ a6 (fR_t (fR_t (fR_t (fR_r h) f4) f5) f6))) | (have e2 : linF T p = (false, (gooF T (p + 1)).2.1, l0) := (show linF T p = semF T (gooF T (p + 1)) from by unfold linF; rw [if_neg (by omega), if_pos (by assumption)]).trans (semF_f (show (gooF T (p + 1)).1 = false by assumption)); have e1 := lns_x (n := n) (T := T) (p := p) (fun z_ => by have := sr_4.mpr z_; omega) (by rw [e2]); rw [e1, e2] at k0; exact Ev.ret rfl (k0 rfl _ a6 (fR_t (fR_t (fR_t (fR_r h) f4) f5) f6))) | (have e2 : linF T p = (false, (gooF T (p + 1)).2.1, l0) := (show linF T p = semF T (gooF T (p + 1)) from by unfold linF; rw [if_neg (by omega), if_pos (by assumption)]).trans (semF_k (show (gooF T (p + 1)).1 = true by assumption) (by assumption)); have e1 := lns_x (n := n) (T := T) (p := p) (fun z_ => by have := sr_4.mpr z_; omega) (by rw [e2]); rw [e1, e2] at k0; exact Ev.ret rfl (k0 rfl _ a6 (fR_t (fR_t (fR_t (fR_r h) f4) f5) f6)))
          · refine Ev.sts 3 (c' := (130, [some (.inr (.inr (.inr (11, 0, 83)))), some (.inl (iZ (0)))], [.inl (iZ (0))], g5)) rfl ?_
            refine Ev.brT (p := (iZ (0)) = (iZ (0))) (c1 := (142, [some (.inr (.inr (.inr (11, 0, 83)))), some (.inl (iZ (0)))], [], g5)) (c2 := (133, [some (.inr (.inr (.inr (11, 0, 83)))), some (.inl (iZ (0)))], [], g5)) (by decide) rfl ?_
            refine Ev.sts 1 (c' := (143, [some (.inr (.inr (.inr (11, 0, 83)))), some (.inl (iZ (0)))], [.inl (iZ (0))], g5)) rfl ?_
            first | (exfalso; omega) | (have e2 : linF T p = (false, p, l0) := (by unfold linF; rw [if_neg (by assumption), if_neg (by assumption)]); have e1 := lns_x (n := n) (T := T) (p := p) (fun z_ => by have := sr_4.mpr z_; omega) (by rw [e2]); rw [e1, e2] at k0; exact Ev.ret rfl (k0 rfl _ a5 (fR_t (fR_t (fR_r h) f4) f5))) | (have e2 : linF T p = (false, (flkF T (p + 1)).2.1, l0) := (show linF T p = semF T (flkF T (p + 1)) from by unfold linF; rw [if_pos (by assumption)]).trans (semF_f (show (flkF T (p + 1)).1 = false by assumption)); have e1 := lns_x (n := n) (T := T) (p := p) (fun z_ => by have := sr_4.mpr z_; omega) (by rw [e2]); rw [e1, e2] at k0; exact Ev.ret rfl (k0 rfl _ a5 (fR_t (fR_t (fR_r h) f4) f5))) | (have e2 : linF T p = (false, (flkF T (p + 1)).2.1, l0) := (show linF T p = semF T (flkF T (p + 1)) from by unfold linF; rw [if_pos (by assumption)]).trans (semF_k (show (flkF T (p + 1)).1 = true by assumption) (by assumption)); have e1 := lns_x (n := n) (T := T) (p := p) (fun z_ => by have := sr_4.mpr z_; omega) (by rw [e2]); rw [e1, e2] at k0; exact Ev.ret rfl (k0 rfl _ a5 (fR_t (fR_t (fR_r h) f4) f5))) | (have e2 : linF T p = (false, (gooF T (p + 1)).2.1, l0) := (show linF T p = semF T (gooF T (p + 1)) from by unfold linF; rw [if_neg (by omega), if_pos (by assumption)]).trans (semF_f (show (gooF T (p + 1)).1 = false by assumption)); have e1 := lns_x (n := n) (T := T) (p := p) (fun z_ => by have := sr_4.mpr z_; omega) (by rw [e2]); rw [e1, e2] at k0; exact Ev.ret rfl (k0 rfl _ a5 (fR_t (fR_t (fR_r h) f4) f5))) | (have e2 : linF T p = (false, (gooF T (p + 1)).2.1, l0) := (show linF T p = semF T (gooF T (p + 1)) from by unfold linF; rw [if_neg (by omega), if_pos (by assumption)]).trans (semF_k (show (gooF T (p + 1)).1 = true by assumption) (by assumption)); have e1 := lns_x (n := n) (T := T) (p := p) (fun z_ => by have := sr_4.mpr z_; omega) (by rw [e2]); rw [e1, e2] at k0; exact Ev.ret rfl (k0 rfl _ a5 (fR_t (fR_t (fR_r h) f4) f5)))
        · refine Ev.brT (p := (iZ (0)) = (iZ (0))) (c1 := (119, [some (.inr (.inr (.inr (11, 0, 83)))), jv], [], h)) (c2 := (112, [some (.inr (.inr (.inr (11, 0, 83)))), jv], [], h)) (by decide) rfl ?_
          refine Ev.sts 3 (c' := (122, [some (.inr (.inr (.inr (11, 0, 83)))), jv], [.inr (.inr (.inr (11, 0, 83))), .inl (iZ (1)), .inr (.inr (.inr (11, 0, 83)))], h)) rfl ?_
          refine Ev.gv (w := (iZ (p))) rfl (qm_7 q0) ?_
          refine Ev.callv (a := [.inr (.inr (.inr (11, 0, 83))), .inl (iZ (1)), .inl (iZ (p))]) rfl (mf_fault (yn := p) (qm_sh q0) (qm_tk q0) (by omega) (by have := qm_p q0; omega) l1) ?_
          refine Ev.sts 2 (c' := (130, [some (.inr (.inr (.inr (11, 0, 83)))), some (.inl (iZ (0)))], [.inl (iZ (0))], (setI (setI h 83 9 (iZ (1))) 83 10 (iZ (tS T p))))) rfl ?_
          refine Ev.brT (p := (iZ (0)) = (iZ (0))) (c1 := (142, [some (.inr (.inr (.inr (11, 0, 83)))), some (.inl (iZ (0)))], [], (setI (setI h 83 9 (iZ (1))) 83 10 (iZ (tS T p))))) (c2 := (133, [some (.inr (.inr (.inr (11, 0, 83)))), some (.inl (iZ (0)))], [], (setI (setI h 83 9 (iZ (1))) 83 10 (iZ (tS T p))))) (by decide) rfl ?_
          refine Ev.sts 1 (c' := (143, [some (.inr (.inr (.inr (11, 0, 83)))), some (.inl (iZ (0)))], [.inl (iZ (0))], (setI (setI h 83 9 (iZ (1))) 83 10 (iZ (tS T p))))) rfl ?_
          first | (exfalso; omega) | (have e2 : linF T p = (false, p, l0) := (by unfold linF; rw [if_neg (by assumption), if_neg (by assumption)]); have e1 := lns_x (n := n) (T := T) (p := p) (fun z_ => by have := sr_4.mpr z_; omega) (by rw [e2]); rw [e1, e2] at k0; exact Ev.ret rfl (k0 rfl _ ⟨(setI_ne (by decide)).trans (setI_self _ _ _ _), setI_self _ _ _ _⟩ (fR_t (fR_r h) (fR_t (fR_8 (k := 9) (by omega)) (fR_8 (k := 10) (by omega)))))) | (have e2 : linF T p = (false, (flkF T (p + 1)).2.1, l0) := (show linF T p = semF T (flkF T (p + 1)) from by unfold linF; rw [if_pos (by assumption)]).trans (semF_f (show (flkF T (p + 1)).1 = false by assumption)); have e1 := lns_x (n := n) (T := T) (p := p) (fun z_ => by have := sr_4.mpr z_; omega) (by rw [e2]); rw [e1, e2] at k0; exact Ev.ret rfl (k0 rfl _ ⟨(setI_ne (by decide)).trans (setI_self _ _ _ _), setI_self _ _ _ _⟩ (fR_t (fR_r h) (fR_t (fR_8 (k := 9) (by omega)) (fR_8 (k := 10) (by omega)))))) | (have e2 : linF T p = (false, (flkF T (p + 1)).2.1, l0) := (show linF T p = semF T (flkF T (p + 1)) from by unfold linF; rw [if_pos (by assumption)]).trans (semF_k (show (flkF T (p + 1)).1 = true by assumption) (by assumption)); have e1 := lns_x (n := n) (T := T) (p := p) (fun z_ => by have := sr_4.mpr z_; omega) (by rw [e2]); rw [e1, e2] at k0; exact Ev.ret rfl (k0 rfl _ ⟨(setI_ne (by decide)).trans (setI_self _ _ _ _), setI_self _ _ _ _⟩ (fR_t (fR_r h) (fR_t (fR_8 (k := 9) (by omega)) (fR_8 (k := 10) (by omega)))))) | (have e2 : linF T p = (false, (gooF T (p + 1)).2.1, l0) := (show linF T p = semF T (gooF T (p + 1)) from by unfold linF; rw [if_neg (by omega), if_pos (by assumption)]).trans (semF_f (show (gooF T (p + 1)).1 = false by assumption)); have e1 := lns_x (n := n) (T := T) (p := p) (fun z_ => by have := sr_4.mpr z_; omega) (by rw [e2]); rw [e1, e2] at k0; exact Ev.ret rfl (k0 rfl _ ⟨(setI_ne (by decide)).trans (setI_self _ _ _ _), setI_self _ _ _ _⟩ (fR_t (fR_r h) (fR_t (fR_8 (k := 9) (by omega)) (fR_8 (k := 10) (by omega)))))) | (have e2 : linF T p = (false, (gooF T (p + 1)).2.1, l0) := (show linF T p = semF T (gooF T (p + 1)) from by unfold linF; rw [if_neg (by omega), if_pos (by assumption)]).trans (semF_k (show (gooF T (p + 1)).1 = true by assumption) (by assumption)); have e1 := lns_x (n := n) (T := T) (p := p) (fun z_ => by have := sr_4.mpr z_; omega) (by rw [e2]); rw [e1, e2] at k0; exact Ev.ret rfl (k0 rfl _ ⟨(setI_ne (by decide)).trans (setI_self _ _ _ _), setI_self _ _ _ _⟩ (fR_t (fR_r h) (fR_t (fR_8 (k := 9) (by omega)) (fR_8 (k := 10) (by omega))))))

