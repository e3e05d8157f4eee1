/-! The class teaches: the call. -/
def tauH (h : PH) (b : Nat) : PH := anH (setR (setR (setI h 4 1 (iZ 0)) 2 4 (2, 0, b)) 1 7 (2, 0, 81 - b))
theorem CI_tau {h h1 : PH} {S : Sta} {b n : Nat} {u : Q5} (I : CI h S b n u) (x7 : h1.1 2 7 = iZ (rdE (lex (tpS S))).2) (hl : ∃ p, LCs h1 (81 - b) (lex (tpS S)) p (rdS (lex (tpS S)))) (ok : smOk (rdS (lex (tpS S)))) (e0 : (smE (rdS (lex (tpS S)))).1 = 0) (f : fTt (81 - b) h h1) : CI (tauH h1 b) (tauS S) (81 - b) n u := by
  obtain ⟨i1, i2, i3, i4, i5, i6, i7, i8, i9, i10, i11, i12, i13, i14⟩ := I
  obtain ⟨p, l⟩ := hl
  have hc : 81 - b = 13 ∨ 81 - b = 68 := by omega
  have sh1 := Sh_fT hc i1 f
  have er : ∀ a k, ¬ (a = 2 ∧ k = 4) → ¬ (a = 1 ∧ k = 7) → (tauH h1 b).2.2.1 a k = h1.2.2.1 a k := fun a k a1 a2 => (setR_ne a2).trans (setR_ne a1)
  have bN := bkO_N ok e0
  have sh2 : Sh (setR (setR (setI h1 4 1 (iZ 0)) 2 4 (2, 0, b)) 1 7 (2, 0, 81 - b)) := Sh_R (Sh_R (Sh_eq sh1 rfl) rfl) rfl
  obtain ⟨t1, t2, t3, t4, t5, t6⟩ := i13
  refine ⟨Sh_eq sh2 rfl, hc, setR_self _ _ _ _, ?_, ⟨(an_o (by decide)).trans (setI_self h1 4 1 (iZ 0)), fun j hj => absurd hj (Nat.not_lt_zero _)⟩, (an_o (by decide)).trans ((setI_ne (h := h1) (a := 4) (k := 1) (b := 2) (j := 7) (v := iZ 0) (by decide)).trans x7), bkC_T bN.2.2.2.2.1 (fun a a1 a2 => funext fun k => (an_o (by omega)).trans (setI_ne (h := h1) (a := 4) (k := 1) (b := a) (j := k) (v := iZ 0) (by omega))) (fun a a1 a2 => funext fun k => er a k (by omega) (by omega)) (bkC_O l ok e0), ⟨an_1_8 _, fun j hj => absurd hj (Nat.not_lt_zero _)⟩, an_1_9 _, an_1_10 _, an_1_11 _, fun g hg => ?_, ⟨an_62_5 _, Nat.zero_le _, t3, ?_, ?_, fun j hj => absurd hj (Nat.not_lt_zero _)⟩, ?_⟩
  · show (setR (setR (setI h1 4 1 (iZ 0)) 2 4 (2, 0, b)) 1 7 (2, 0, 81 - b)).2.2.1 2 4 = _
    rw [setR_ne (by decide), setR_self, show 81 - (81 - b) = b by omega]
  · rcases lt6 hg with rfl | rfl | rfl | rfl | rfl | rfl
    · exact ⟨⟨an_32_4 _, Nat.zero_le _, fun j hj => absurd hj (Nat.not_lt_zero _)⟩, an_32_5 _⟩
    · exact ⟨⟨an_37_4 _, Nat.zero_le _, fun j hj => absurd hj (Nat.not_lt_zero _)⟩, an_37_5 _⟩
    · exact ⟨⟨an_42_4 _, Nat.zero_le _, fun j hj => absurd hj (Nat.not_lt_zero _)⟩, an_42_5 _⟩
    · exact ⟨⟨an_47_4 _, Nat.zero_le _, fun j hj => absurd hj (Nat.not_lt_zero _)⟩, an_47_5 _⟩
    · exact ⟨⟨an_52_4 _, Nat.zero_le _, fun j hj => absurd hj (Nat.not_lt_zero _)⟩, an_52_5 _⟩
    · exact ⟨⟨an_57_4 _, Nat.zero_le _, fun j hj => absurd hj (Nat.not_lt_zero _)⟩, an_57_5 _⟩
  · unfold qR
    rw [er 62 0 (by decide) (by decide), er 62 1 (by decide) (by decide), er 62 2 (by decide) (by decide), er 62 3 (by decide) (by decide), er 62 4 (by decide) (by decide), f.2.2.2 62 0 (by omega), f.2.2.2 62 1 (by omega), f.2.2.2 62 2 (by omega), f.2.2.2 62 3 (by omega), f.2.2.2 62 4 (by omega)]
    exact t4
  · have e : hN (tauH h1 b) = hN h := congrArg (fun z => z.1) f.1
    rw [e]; exact t5
  · show 83 ≤ h1.2.2.2.1
    rw [f.1]; exact i14
theorem fW_an {h : PH} : fW h (anH h) := ⟨rfl, fun a ha => by
  unfold pCl at ha
  exact ⟨funext fun k => an_o (by omega), rfl, rfl⟩⟩
theorem fW_tau {h : PH} {b : Nat} : fW h (tauH h b) := fW_t (fW_I (a := 4) (by unfold pCl; omega)) (fW_t (fW_R (a := 2) (by unfold pCl; omega)) (fW_t (fW_R (a := 1) (by unfold pCl; omega)) fW_an))
theorem cs_teach {d b n : Nat} {u : Q5} {S : Sta} {h : PH} {Q : Rs → PH → Prop} (I : CI h S b n u) (W : WN S) (hb8 : byT (tpS S)) (q1 : (rdE (lex (tpS S))).1 = 0 → ∀ h1, CI h1 (tauS S) (81 - b) n u → fW h h1 → Q (.inl (some (.inl (iZ ((0 : Nat) : Int))))) h1) (q0 : (rdE (lex (tpS S))).1 ≠ 0 → ∀ h1, CI h1 (terS S) b n u → fW h h1 → Q (.inl (some (.inl (iZ (rdE (lex (tpS S))).1)))) h1) : Rn (d + 47) 79 [.inr (.inr (.inr (1, 0, 1)))] h Q := by
  have sh := ci_sh I
  have hb := ci_b I
  have W0 := W
  obtain ⟨⟨w1, w2, w3, w4, w5, w6⟩, w7, w8, w9, w10, w11, w12, w13, w14, w15, w16, w17, w18⟩ := W0
  have hc : 81 - b = 13 ∨ 81 - b = 68 := by omega
  refine Ev.sts 1 (c' := (1, [some (.inr (.inr (.inr (1, 0, 1)))), none], [.inr (.inr (.inr (1, 0, 1)))], h)) rfl ?_
  refine Ev.gfr (r := (7, 0, 2)) rfl (sh_1_1 (h := h) sh) ?_
  refine Ev.callw (a := [.inr (.inr (.inr (7, 0, 2)))]) rfl (tc_read sh hc (ci_24 I) (ci_tp I) w18 hb8 (fun h1 r9 x5 x7 xl f1 => ?_))
  refine Ev.sts 1 (c' := (8, [some (.inr (.inr (.inr (1, 0, 1)))), none], [.inr (.inr (.inr (1, 0, 1)))], h1)) rfl ?_
  refine Ev.gfr (r := (6, 0, 4)) rfl (sh_1_0 (h := h1) (Sh_fT hc sh f1)) ?_
  refine Ev.sts 3 (c' := (16, [some (.inr (.inr (.inr (1, 0, 1)))), none], [.inr (.inr (.inr (1, 0, 1)))], (setI h1 4 1 ((iZ (0)))))) rfl ?_
  refine Ev.gfr (r := (7, 0, 2)) rfl (sh_1_1 (h := h1) (Sh_fT hc sh f1)) ?_
  refine Ev.gv (w := (iZ ((rdE (lex (tpS S))).1))) rfl (show h1.1 2 5 = iZ (rdE (lex (tpS S))).1 from x5) ?_
  refine Ev.brc (p := ¬ (iZ ((rdE (lex (tpS S))).1)) = (iZ (0))) (q := ¬ (((rdE (lex (tpS S))).1 : Int)) = 0) (c1 := (53, [some (.inr (.inr (.inr (1, 0, 1)))), none], [], (setI h1 4 1 ((iZ (0)))))) (c2 := (25, [some (.inr (.inr (.inr (1, 0, 1)))), none], [], (setI h1 4 1 ((iZ (0)))))) rfl (not_congr (iZ_eq ⟨by omega, by omega⟩ ⟨by omega, by omega⟩)) (fun c0 => ?_) (fun c0 => ?_)
  · refine Ev.sts 1 (c' := (54, [some (.inr (.inr (.inr (1, 0, 1)))), none], [.inr (.inr (.inr (1, 0, 1)))], (setI h1 4 1 ((iZ (0)))))) rfl ?_
    refine Ev.gfr (r := (7, 0, 2)) rfl (sh_1_1 (h := h1) (Sh_fT hc sh f1)) ?_
    refine Ev.gv (w := (iZ ((rdE (lex (tpS S))).1))) rfl (show h1.1 2 5 = iZ (rdE (lex (tpS S))).1 from x5) ?_
    exact Ev.ret rfl (q0 (by omega) _ (CI_ter I W x7 f1) (fW_t (fW_T hc f1) (fW_I (by unfold pCl; omega))))
  · refine Ev.sts 1 (c' := (26, [some (.inr (.inr (.inr (1, 0, 1)))), none], [.inr (.inr (.inr (1, 0, 1)))], (setI h1 4 1 ((iZ (0)))))) rfl ?_
    refine Ev.gfr (r := (7, 0, 2)) rfl (sh_1_1 (h := h1) (Sh_fT hc sh f1)) ?_
    refine Ev.gfr (r := (2, 0, (81 - b))) rfl (show h1.2.2.1 2 4 = (2, 0, 81 - b) from (f1.2.2.2 2 4 (by omega)).trans (ci_24 I)) ?_
    refine Ev.sts 2 (c' := (34, [some (.inr (.inr (.inr (1, 0, 1)))), some (.inr (.inr (.inr (2, 0, (81 - b)))))], [.inr (.inr (.inr (1, 0, 1)))], (setI h1 4 1 ((iZ (0)))))) rfl ?_
    refine Ev.gfr (r := (7, 0, 2)) rfl (sh_1_1 (h := h1) (Sh_fT hc sh f1)) ?_
    refine Ev.sts 1 (c' := (38, [some (.inr (.inr (.inr (1, 0, 1)))), some (.inr (.inr (.inr (2, 0, (81 - b)))))], [.inr (.inr (.inr (1, 0, 1))), .inr (.inr (.inr (7, 0, 2)))], (setI h1 4 1 ((iZ (0)))))) rfl ?_
    refine Ev.gfr (r := (2, 0, b)) rfl (show h1.2.2.1 1 7 = (2, 0, b) from (f1.2.2.2 1 7 (by omega)).trans (ci_17 I)) ?_
    refine Ev.sts 5 (c' := (50, [some (.inr (.inr (.inr (1, 0, 1)))), some (.inr (.inr (.inr (2, 0, (81 - b)))))], [.inr (.inr (.inr (1, 0, 1)))], (setR (setR (setI h1 4 1 ((iZ (0)))) 2 4 (2, 0, b)) 1 7 (2, 0, (81 - b))))) rfl ?_
    refine Ev.callv (a := [.inr (.inr (.inr (1, 0, 1)))]) rfl (tc_anew (Sh_R (Sh_R (Sh_eq (Sh_fT hc sh f1) rfl) rfl) rfl)) ?_
    refine Ev.sts 1 (c' := (54, [some (.inr (.inr (.inr (1, 0, 1)))), some (.inr (.inr (.inr (2, 0, (81 - b)))))], [.inr (.inr (.inr (1, 0, 1)))], (tauH h1 b))) rfl ?_
    refine Ev.gfr (r := (7, 0, 2)) rfl (sh_1_1 (h := tauH h1 b) (Sh_eq (Sh_R (Sh_R (Sh_eq (Sh_fT hc sh f1) rfl) rfl) rfl) rfl)) ?_
    refine Ev.gv (w := (iZ ((rdE (lex (tpS S))).1))) rfl ((an_o (by decide)).trans (show h1.1 2 5 = iZ (rdE (lex (tpS S))).1 from x5)) ?_
    have e9 : (rdE (lex (tpS S))).1 = 0 := (by omega)
    obtain ⟨ok1, ok2⟩ := rdS_ok (lex_w w18 hb8) e9
    rw [e9]
    exact Ev.ret rfl (q1 e9 _ (CI_tau I x7 (xl e9) ok1 ok2 f1) (fW_t (fW_T hc f1) fW_tau))

