/-! The reference's calls that only look: membership, the mean. -/
theorem mq_isIn1 {d : Nat} {y : Y4} {S : Sta} {h : PH} {Q : Rs → PH → Prop} (I : MI h S y) (W : WN S) {p w : Int} {k : Nat} (hp : 0 ≤ p ∧ p < (bkS S).2.1.length) (hw : w = (k : Int)) (hk : k < (csS S).length) (q1 : bitP ((csS S).getD k cd0).2 (iZ p) → Q (.inl (some (.inl (iZ 1)))) (setI h 83 0 (iZ 0))) (q0 : ¬ bitP ((csS S).getD k cd0).2 (iZ p) → Q (.inl (some (.inl (iZ 0)))) (setI h 83 0 (iZ 0))) : Rn (d + 2) 245 [.inr (.inr (.inr (11, 0, 83))), .inl (iZ (p)), .inl (iZ (w))] h Q := by
  have W0 := W
  obtain ⟨⟨w1, w2, w3, w4, w5, w6⟩, w7, w8, w9, w10, w11, w12, w13, w14, w15, w16, w17, w18⟩ := W0
  have wB : bkN (bkS S) := ⟨w1, w2, w3, w4, w5, w6⟩
  have sh0 := mi_sh I
  have al := alW_len (wdS S) 6 0
  have tl5 := lnL_le (ws := wdS S) (K := 128) (fun g => (w14 g).2) 6 0
  have alB_ := alW_B (ws := wdS S) (N := 1000) (fun g _ => (w14 g).1)
  have on1 := (mi_op I).2.1
  have on2 := (mi_op I).2.2.2.1
  have tn1 := (mi_tm I).2.1
  have tn2 := (mi_tm I).2.2.2.1
  refine Ev.sts 3 (c' := (3, [some (.inr (.inr (.inr (11, 0, 83)))), some (.inl (iZ (p))), some (.inl (iZ (w)))], [.inl (iZ (p)), .inr (.inr (.inr (11, 0, 83))), .inr (.inr (.inr (11, 0, 83)))], h)) rfl ?_
  refine Ev.callw (a := [.inr (.inr (.inr (11, 0, 83))), .inl (iZ (p))]) rfl (mp_isFlock I W ⟨by omega, by omega⟩ (fun _ => ?_) (fun z => absurd hp z))
  refine Ev.brF (p := (iZ (1)) = (iZ (0))) (c1 := (21, [some (.inr (.inr (.inr (11, 0, 83)))), some (.inl (iZ (p))), some (.inl (iZ (w)))], [.inr (.inr (.inr (11, 0, 83)))], h)) (c2 := (9, [some (.inr (.inr (.inr (11, 0, 83)))), some (.inl (iZ (p))), some (.inl (iZ (w)))], [.inr (.inr (.inr (11, 0, 83)))], h)) (by decide) rfl ?_
  refine Ev.sts 2 (c' := (11, [some (.inr (.inr (.inr (11, 0, 83)))), some (.inl (iZ (p))), some (.inl (iZ (w)))], [.inl (iZ (w)), .inr (.inr (.inr (11, 0, 83))), .inr (.inr (.inr (11, 0, 83)))], h)) rfl ?_
  refine Ev.callw (a := [.inr (.inr (.inr (11, 0, 83))), .inl (iZ (w))]) rfl (mx_isThere I W ⟨by omega, by omega⟩ (fun _ => ?_) (fun z => absurd (show _ from ⟨by omega, by omega⟩) z))
  refine Ev.brF (p := (iZ (1)) = (iZ (0))) (c1 := (21, [some (.inr (.inr (.inr (11, 0, 83)))), some (.inl (iZ (p))), some (.inl (iZ (w)))], [.inr (.inr (.inr (11, 0, 83)))], h)) (c2 := (17, [some (.inr (.inr (.inr (11, 0, 83)))), some (.inl (iZ (p))), some (.inl (iZ (w)))], [.inr (.inr (.inr (11, 0, 83)))], h)) (by decide) rfl ?_
  refine Ev.sts 5 (c' := (29, [some (.inr (.inr (.inr (11, 0, 83)))), some (.inl (iZ (p))), some (.inl (iZ (w)))], [.inl (iZ (0))], (setI h 83 0 ((iZ (0)))))) rfl ?_
  refine Ev.brF (p := ¬ (iZ (0)) = (iZ (0))) (c1 := (50, [some (.inr (.inr (.inr (11, 0, 83)))), some (.inl (iZ (p))), some (.inl (iZ (w)))], [], (setI h 83 0 ((iZ (0)))))) (c2 := (32, [some (.inr (.inr (.inr (11, 0, 83)))), some (.inl (iZ (p))), some (.inl (iZ (w)))], [], (setI h 83 0 ((iZ (0)))))) (by decide) rfl ?_
  refine Ev.sts 1 (c' := (33, [some (.inr (.inr (.inr (11, 0, 83)))), some (.inl (iZ (p))), some (.inl (iZ (w)))], [.inr (.inr (.inr (11, 0, 83)))], (setI h 83 0 ((iZ (0)))))) rfl ?_
  refine Ev.gfr (r := (20, 120, 97)) rfl (sh_83_23 sh0) ?_
  refine Ev.sts 1 (c' := (37, [some (.inr (.inr (.inr (11, 0, 83)))), some (.inl (iZ (p))), some (.inl (iZ (w)))], [.inl (iZ (w)), .inr (.inr (.inr (20, 120, 97)))], (setI h 83 0 ((iZ (0)))))) rfl ?_
  refine Ev.ldv (j := (iZ (w))) (n := 120) (w := .inl (((csS S).getD k cd0).2)) (iZ_in (by omega) (by omega) (by omega)) rfl (by rw [iZ_ix (n := k) (by omega) (by omega)]; exact congrArg vI ((mi_cs (MI_th I)).2 k (by omega)).2) ?_
  refine Ev.sts 5 (c' := (43, [some (.inr (.inr (.inr (11, 0, 83)))), some (.inl (iZ (p))), some (.inl (iZ (w)))], [.inl (iZ (1)), .inl (((((csS S).getD k cd0).2 >>> ((iZ (p)) &&& 31)) &&& (iZ (1))))], (setI h 83 0 ((iZ (0)))))) rfl ?_
  refine Ev.br (p := ¬ ((((csS S).getD k cd0).2 >>> ((iZ (p)) &&& 31)) &&& (iZ (1))) = (iZ (1))) (c1 := (50, [some (.inr (.inr (.inr (11, 0, 83)))), some (.inl (iZ (p))), some (.inl (iZ (w)))], [], (setI h 83 0 ((iZ (0)))))) (c2 := (46, [some (.inr (.inr (.inr (11, 0, 83)))), some (.inl (iZ (p))), some (.inl (iZ (w)))], [], (setI h 83 0 ((iZ (0)))))) rfl (fun c0 => ?_) (fun c0 => ?_)
  · refine Ev.sts 1 (c' := (51, [some (.inr (.inr (.inr (11, 0, 83)))), some (.inl (iZ (p))), some (.inl (iZ (w)))], [.inl (iZ (0))], (setI h 83 0 ((iZ (0)))))) rfl ?_
    exact Ev.ret rfl (q0 c0)
  · refine Ev.sts 2 (c' := (51, [some (.inr (.inr (.inr (11, 0, 83)))), some (.inl (iZ (p))), some (.inl (iZ (w)))], [.inl (iZ (1))], (setI h 83 0 ((iZ (0)))))) rfl ?_
    exact Ev.ret rfl (q1 (Classical.not_not.mp c0))

theorem mz_isIn1 {d : Nat} {y : Y4} {S : Sta} {h : PH} (I : MI h S y) (W : WN S) {p : Int} {w : Int32} (hpb : -2147483648 ≤ p ∧ p < 2147483648) (hc : ¬ (0 ≤ p ∧ p < (bkS S).2.1.length)) : Rv (d + 2) 245 [.inr (.inr (.inr (11, 0, 83))), .inl (iZ (p)), .inl (w)] h (some (.inl (iZ 0))) (setI h 83 0 (iZ 1)) := Rv.of fun Q q => by
  have W0 := W
  obtain ⟨⟨w1, w2, w3, w4, w5, w6⟩, w7, w8, w9, w10, w11, w12, w13, w14, w15, w16, w17, w18⟩ := W0
  have wB : bkN (bkS S) := ⟨w1, w2, w3, w4, w5, w6⟩
  have sh0 := mi_sh I
  have al := alW_len (wdS S) 6 0
  have tl5 := lnL_le (ws := wdS S) (K := 128) (fun g => (w14 g).2) 6 0
  have alB_ := alW_B (ws := wdS S) (N := 1000) (fun g _ => (w14 g).1)
  have on1 := (mi_op I).2.1
  have on2 := (mi_op I).2.2.2.1
  have tn1 := (mi_tm I).2.1
  have tn2 := (mi_tm I).2.2.2.1
  refine Ev.sts 3 (c' := (3, [some (.inr (.inr (.inr (11, 0, 83)))), some (.inl (iZ (p))), some (.inl (w))], [.inl (iZ (p)), .inr (.inr (.inr (11, 0, 83))), .inr (.inr (.inr (11, 0, 83)))], h)) rfl ?_
  refine Ev.callw (a := [.inr (.inr (.inr (11, 0, 83))), .inl (iZ (p))]) rfl (mp_isFlock I W ⟨by omega, by omega⟩ (fun z => absurd z hc) (fun _ => ?_))
  refine Ev.brT (p := (iZ (0)) = (iZ (0))) (c1 := (21, [some (.inr (.inr (.inr (11, 0, 83)))), some (.inl (iZ (p))), some (.inl (w))], [.inr (.inr (.inr (11, 0, 83)))], h)) (c2 := (9, [some (.inr (.inr (.inr (11, 0, 83)))), some (.inl (iZ (p))), some (.inl (w))], [.inr (.inr (.inr (11, 0, 83)))], h)) (by decide) rfl ?_
  refine Ev.sts 4 (c' := (29, [some (.inr (.inr (.inr (11, 0, 83)))), some (.inl (iZ (p))), some (.inl (w))], [.inl (iZ (1))], (setI h 83 0 ((iZ (1)))))) rfl ?_
  refine Ev.brT (p := ¬ (iZ (1)) = (iZ (0))) (c1 := (50, [some (.inr (.inr (.inr (11, 0, 83)))), some (.inl (iZ (p))), some (.inl (w))], [], (setI h 83 0 ((iZ (1)))))) (c2 := (32, [some (.inr (.inr (.inr (11, 0, 83)))), some (.inl (iZ (p))), some (.inl (w))], [], (setI h 83 0 ((iZ (1)))))) (by decide) rfl ?_
  refine Ev.sts 1 (c' := (51, [some (.inr (.inr (.inr (11, 0, 83)))), some (.inl (iZ (p))), some (.inl (w))], [.inl (iZ (0))], (setI h 83 0 ((iZ (1)))))) rfl ?_
  exact Ev.ret rfl (q)

theorem my_isIn1 {d : Nat} {y : Y4} {S : Sta} {h : PH} (I : MI h S y) (W : WN S) {p w : Int} (hp : 0 ≤ p ∧ p < (bkS S).2.1.length) (hwb : -2147483648 ≤ w ∧ w < 2147483648) (hc : ¬ (0 ≤ w ∧ w < (csS S).length)) : Rv (d + 2) 245 [.inr (.inr (.inr (11, 0, 83))), .inl (iZ (p)), .inl (iZ (w))] h (some (.inl (iZ 0))) (setI h 83 0 (iZ 1)) := Rv.of fun Q q => by
  have W0 := W
  obtain ⟨⟨w1, w2, w3, w4, w5, w6⟩, w7, w8, w9, w10, w11, w12, w13, w14, w15, w16, w17, w18⟩ := W0
  have wB : bkN (bkS S) := ⟨w1, w2, w3, w4, w5, w6⟩
  have sh0 := mi_sh I
  have al := alW_len (wdS S) 6 0
  have tl5 := lnL_le (ws := wdS S) (K := 128) (fun g => (w14 g).2) 6 0
  have alB_ := alW_B (ws := wdS S) (N := 1000) (fun g _ => (w14 g).1)
  have on1 := (mi_op I).2.1
  have on2 := (mi_op I).2.2.2.1
  have tn1 := (mi_tm I).2.1
  have tn2 := (mi_tm I).2.2.2.1
  refine Ev.sts 3 (c' := (3, [some (.inr (.inr (.inr (11, 0, 83)))), some (.inl (iZ (p))), some (.inl (iZ (w)))], [.inl (iZ (p)), .inr (.inr (.inr (11, 0, 83))), .inr (.inr (.inr (11, 0, 83)))], h)) rfl ?_
  refine Ev.callw (a := [.inr (.inr (.inr (11, 0, 83))), .inl (iZ (p))]) rfl (mp_isFlock I W ⟨by omega, by omega⟩ (fun _ => ?_) (fun z => absurd hp z))
  refine Ev.brF (p := (iZ (1)) = (iZ (0))) (c1 := (21, [some (.inr (.inr (.inr (11, 0, 83)))), some (.inl (iZ (p))), some (.inl (iZ (w)))], [.inr (.inr (.inr (11, 0, 83)))], h)) (c2 := (9, [some (.inr (.inr (.inr (11, 0, 83)))), some (.inl (iZ (p))), some (.inl (iZ (w)))], [.inr (.inr (.inr (11, 0, 83)))], h)) (by decide) rfl ?_
  refine Ev.sts 2 (c' := (11, [some (.inr (.inr (.inr (11, 0, 83)))), some (.inl (iZ (p))), some (.inl (iZ (w)))], [.inl (iZ (w)), .inr (.inr (.inr (11, 0, 83))), .inr (.inr (.inr (11, 0, 83)))], h)) rfl ?_
  refine Ev.callw (a := [.inr (.inr (.inr (11, 0, 83))), .inl (iZ (w))]) rfl (mx_isThere I W ⟨by omega, by omega⟩ (fun z => absurd z hc) (fun _ => ?_))
  refine Ev.brT (p := (iZ (0)) = (iZ (0))) (c1 := (21, [some (.inr (.inr (.inr (11, 0, 83)))), some (.inl (iZ (p))), some (.inl (iZ (w)))], [.inr (.inr (.inr (11, 0, 83)))], h)) (c2 := (17, [some (.inr (.inr (.inr (11, 0, 83)))), some (.inl (iZ (p))), some (.inl (iZ (w)))], [.inr (.inr (.inr (11, 0, 83)))], h)) (by decide) rfl ?_
  refine Ev.sts 4 (c' := (29, [some (.inr (.inr (.inr (11, 0, 83)))), some (.inl (iZ (p))), some (.inl (iZ (w)))], [.inl (iZ (1))], (setI h 83 0 ((iZ (1)))))) rfl ?_
  refine Ev.brT (p := ¬ (iZ (1)) = (iZ (0))) (c1 := (50, [some (.inr (.inr (.inr (11, 0, 83)))), some (.inl (iZ (p))), some (.inl (iZ (w)))], [], (setI h 83 0 ((iZ (1)))))) (c2 := (32, [some (.inr (.inr (.inr (11, 0, 83)))), some (.inl (iZ (p))), some (.inl (iZ (w)))], [], (setI h 83 0 ((iZ (1)))))) (by decide) rfl ?_
  refine Ev.sts 1 (c' := (51, [some (.inr (.inr (.inr (11, 0, 83)))), some (.inl (iZ (p))), some (.inl (iZ (w)))], [.inl (iZ (0))], (setI h 83 0 ((iZ (1)))))) rfl ?_
  exact Ev.ret rfl (q)

theorem mx_mean_lp {d : Nat} {y : Y4} {S : Sta} {h : PH} {Q : Rs → PH → Prop} (I : MI h S y) (W : WN S) (hT : 1 ≤ (tlS S).length) (m : Nat) : ∀ (k : Nat) (c : Int), k ≤ (tlS S).length → (tlS S).length < k + m → c + sumC ((tlS S).drop k) = sumC (tlS S) → Q (.inl (some (.inr (.inr (.inl (FP.ddiv (FP.i2d (iZ (sumC (tlS S)))) (FP.i2d (iZ (tlS S).length)))))))) h → (FP.ddiv (FP.i2d (iZ (sumC (tlS S)))) (FP.i2d (iZ (tlS S).length))) &&& 0x7fffffffffffffff ≤ 0x7ff0000000000000 → Ev d 277 (9, [some (.inr (.inr (.inr (11, 0, 83)))), some (.inl (iZ (c))), some (.inl (iZ (k)))], [], h) Q := by
  have W0 := W
  obtain ⟨⟨w1, w2, w3, w4, w5, w6⟩, w7, w8, w9, w10, w11, w12, w13, w14, w15, w16, w17, w18⟩ := W0
  have wB : bkN (bkS S) := ⟨w1, w2, w3, w4, w5, w6⟩
  have sh0 := mi_sh I
  have al := alW_len (wdS S) 6 0
  have tl5 := lnL_le (ws := wdS S) (K := 128) (fun g => (w14 g).2) 6 0
  have alB_ := alW_B (ws := wdS S) (N := 1000) (fun g _ => (w14 g).1)
  have on1 := (mi_op I).2.1
  have on2 := (mi_op I).2.2.2.1
  have tn1 := (mi_tm I).2.1
  have tn2 := (mi_tm I).2.2.2.1
  induction m with
  | zero => intro k c h1 h2 hc q mn; omega
  | succ m ih =>
    intro k c h1 h2 hc q mn
    refine Ev.sts 2 (c' := (11, [some (.inr (.inr (.inr (11, 0, 83)))), some (.inl (iZ (c))), some (.inl (iZ (k)))], [.inr (.inr (.inr (11, 0, 83))), .inl (iZ (k))], h)) rfl ?_
    refine Ev.gv (w := (iZ ((tlS S).length))) rfl (mi_tm I).1 ?_
    refine Ev.brc (p := (iZ ((tlS S).length)) ≤ (iZ (k))) (q := (((tlS S).length : Int)) ≤ k) (c1 := (36, [some (.inr (.inr (.inr (11, 0, 83)))), some (.inl (iZ (c))), some (.inl (iZ (k)))], [], h)) (c2 := (17, [some (.inr (.inr (.inr (11, 0, 83)))), some (.inl (iZ (c))), some (.inl (iZ (k)))], [], h)) rfl (iZ_le ⟨by omega, by omega⟩ ⟨by omega, by omega⟩) (fun c0 => ?_) (fun c0 => ?_)
    · refine Ev.sts 1 (c' := (37, [some (.inr (.inr (.inr (11, 0, 83)))), some (.inl (iZ (c))), some (.inl (iZ (k)))], [.inr (.inr (.inr (11, 0, 83)))], h)) rfl ?_
      refine Ev.gv (w := (iZ ((tlS S).length))) rfl (mi_tm I).1 ?_
      refine Ev.brT (p := ¬ (iZ ((tlS S).length)) = (iZ (0))) (c1 := (47, [some (.inr (.inr (.inr (11, 0, 83)))), some (.inl (iZ (c))), some (.inl (iZ (k)))], [], h)) (c2 := (43, [some (.inr (.inr (.inr (11, 0, 83)))), some (.inl (iZ (c))), some (.inl (iZ (k)))], [], h)) ((not_congr (iZ_eq ⟨by omega, by omega⟩ ⟨by omega, by omega⟩)).mpr (by omega)) rfl ?_
      refine Ev.sts 3 (c' := (50, [some (.inr (.inr (.inr (11, 0, 83)))), some (.inl (iZ (c))), some (.inl (iZ (k)))], [.inr (.inr (.inr (11, 0, 83))), .inr (.inr (.inl ((FP.i2d ((iZ (c)))))))], h)) rfl ?_
      refine Ev.gv (w := (iZ ((tlS S).length))) rfl (mi_tm I).1 ?_
      refine Ev.sts 1 (c' := (54, [some (.inr (.inr (.inr (11, 0, 83)))), some (.inl (iZ (c))), some (.inl (iZ (k)))], [.inr (.inr (.inl ((FP.i2d ((iZ ((tlS S).length))))))), .inr (.inr (.inl ((FP.i2d ((iZ (c)))))))], h)) rfl ?_
      have e : (c : Int) = sumC (tlS S) := by rw [List.drop_eq_nil_of_le (show (tlS S).length ≤ k by omega)] at hc; exact (Int.add_zero c).symm.trans hc
      rw [← e] at q mn
      refine Ev.dv (x := FP.ddiv (FP.i2d ((iZ (c)))) (FP.i2d ((iZ ((tlS S).length))))) mn rfl ?_
      exact Ev.ret rfl (q)
    · have e0 := drop_getD t0 (tlS S) k (by omega)
      refine Ev.sts 2 (c' := (19, [some (.inr (.inr (.inr (11, 0, 83)))), some (.inl (iZ (c))), some (.inl (iZ (k)))], [.inr (.inr (.inr (11, 0, 83))), .inl (iZ (c))], h)) rfl ?_
      refine Ev.gfr (r := (20, y.2.2.1, y.2.2.2)) rfl (mi_tm I).2.2.2.2.1 ?_
      refine Ev.sts 2 (c' := (24, [some (.inr (.inr (.inr (11, 0, 83)))), some (.inl (iZ (c))), some (.inl (iZ (k)))], [.inl (iZ (k)), .inl (iZ (5)), .inr (.inr (.inr (20, y.2.2.1, y.2.2.2))), .inl (iZ (c))], h)) rfl ?_
      refine Ev.gv (w := (iZ (5 * k))) rfl (iZ_mul _ _) ?_
      refine Ev.sts 1 (c' := (26, [some (.inr (.inr (.inr (11, 0, 83)))), some (.inl (iZ (c))), some (.inl (iZ (k)))], [.inl (iZ (3)), .inl (iZ (5 * k)), .inr (.inr (.inr (20, y.2.2.1, y.2.2.2))), .inl (iZ (c))], h)) rfl ?_
      refine Ev.gv (w := (iZ ((5 * k) + 3))) rfl (iZ_add _ _) ?_
      refine Ev.ldv (j := (iZ ((5 * k) + 3))) (n := y.2.2.1) (w := .inl (iZ (((tlS S).getD k t0).2.2.2.1))) (iZ_in (by omega) (by omega) (by omega)) rfl (by rw [iZ_ix (n := (5 * k) + 3) (by omega) (by omega)]; exact congrArg vI ((mi_tm I).2.2.2.2.2.2 k (by omega)).2.2.2.1) ?_
      refine Ev.gv (w := (iZ (c + (((tlS S).getD k t0).2.2.2.1)))) rfl (iZ_add _ _) ?_
      refine Ev.sts 1 (c' := (30, [some (.inr (.inr (.inr (11, 0, 83)))), some (.inl (iZ (c + (((tlS S).getD k t0).2.2.2.1)))), some (.inl (iZ (k)))], [], h)) rfl ?_
      refine Ev.stc (c1 := (33, [some (.inr (.inr (.inr (11, 0, 83)))), some (.inl (iZ (c + (((tlS S).getD k t0).2.2.2.1)))), some (.inl ((iZ (k)) + (iZ (1))))], [], h)) (c2 := (33, [some (.inr (.inr (.inr (11, 0, 83)))), some (.inl (iZ (c + (((tlS S).getD k t0).2.2.2.1)))), some (.inl (iZ (k + 1)))], [], h)) rfl (by rw [iZ_add]) ?_
      refine Ev.sts 1 (c' := (9, [some (.inr (.inr (.inr (11, 0, 83)))), some (.inl (iZ (c + (((tlS S).getD k t0).2.2.2.1)))), some (.inl (iZ (k + 1)))], [], h)) rfl ?_
      refine ih (k + 1) _ (by omega) (by omega) ?_ q mn
      rw [e0] at hc
      rw [Int.add_assoc]
      exact hc

theorem mx_mean {d : Nat} {y : Y4} {S : Sta} {h : PH} {Q : Rs → PH → Prop} (I : MI h S y) (W : WN S) (hT : 1 ≤ (tlS S).length) (mn : meanN (tlS S)) (q : Q (.inl (some (.inr (.inr (.inl (FP.ddiv (FP.i2d (iZ (sumC (tlS S)))) (FP.i2d (iZ (tlS S).length)))))))) (setI h 83 0 (iZ 0))) : Rn d 277 [.inr (.inr (.inr (11, 0, 83)))] h Q := by
  have W0 := W
  obtain ⟨⟨w1, w2, w3, w4, w5, w6⟩, w7, w8, w9, w10, w11, w12, w13, w14, w15, w16, w17, w18⟩ := W0
  have wB : bkN (bkS S) := ⟨w1, w2, w3, w4, w5, w6⟩
  have sh0 := mi_sh I
  have al := alW_len (wdS S) 6 0
  have tl5 := lnL_le (ws := wdS S) (K := 128) (fun g => (w14 g).2) 6 0
  have alB_ := alW_B (ws := wdS S) (N := 1000) (fun g _ => (w14 g).1)
  have on1 := (mi_op I).2.1
  have on2 := (mi_op I).2.2.2.1
  have tn1 := (mi_tm I).2.1
  have tn2 := (mi_tm I).2.2.2.1
  refine Ev.sts 7 (c' := (9, [some (.inr (.inr (.inr (11, 0, 83)))), some (.inl (iZ (0))), some (.inl (iZ (0)))], [], (setI h 83 0 ((iZ (0)))))) rfl ?_
  exact mx_mean_lp (MI_th (v := iZ 0) I) W hT ((tlS S).length + 1) 0 0 (by omega) (by omega) (by rw [List.drop_zero]; omega) q mn

theorem mx_mean0 {d : Nat} {y : Y4} {S : Sta} {h : PH} {Q : Rs → PH → Prop} (I : MI h S y) (W : WN S) (hT : (tlS S).length = 0) (q : Q (.inl (some (.inr (.inr (.inl FP.dconst0))))) (setI h 83 0 (iZ 0))) : Rn d 277 [.inr (.inr (.inr (11, 0, 83)))] h Q := by
  have W0 := W
  obtain ⟨⟨w1, w2, w3, w4, w5, w6⟩, w7, w8, w9, w10, w11, w12, w13, w14, w15, w16, w17, w18⟩ := W0
  have wB : bkN (bkS S) := ⟨w1, w2, w3, w4, w5, w6⟩
  have sh0 := mi_sh I
  have al := alW_len (wdS S) 6 0
  have tl5 := lnL_le (ws := wdS S) (K := 128) (fun g => (w14 g).2) 6 0
  have alB_ := alW_B (ws := wdS S) (N := 1000) (fun g _ => (w14 g).1)
  have on1 := (mi_op I).2.1
  have on2 := (mi_op I).2.2.2.1
  have tn1 := (mi_tm I).2.1
  have tn2 := (mi_tm I).2.2.2.1
  refine Ev.sts 9 (c' := (11, [some (.inr (.inr (.inr (11, 0, 83)))), some (.inl (iZ (0))), some (.inl (iZ (0)))], [.inr (.inr (.inr (11, 0, 83))), .inl (iZ (0))], (setI h 83 0 ((iZ (0)))))) rfl ?_
  refine Ev.gv (w := (iZ ((tlS S).length))) rfl (mi_tm (MI_th I)).1 ?_
  refine Ev.brT (p := (iZ ((tlS S).length)) ≤ (iZ (0))) (c1 := (36, [some (.inr (.inr (.inr (11, 0, 83)))), some (.inl (iZ (0))), some (.inl (iZ (0)))], [], (setI h 83 0 ((iZ (0)))))) (c2 := (17, [some (.inr (.inr (.inr (11, 0, 83)))), some (.inl (iZ (0))), some (.inl (iZ (0)))], [], (setI h 83 0 ((iZ (0)))))) ((iZ_le ⟨by omega, by omega⟩ ⟨by omega, by omega⟩).mpr (by omega)) rfl ?_
  refine Ev.sts 1 (c' := (37, [some (.inr (.inr (.inr (11, 0, 83)))), some (.inl (iZ (0))), some (.inl (iZ (0)))], [.inr (.inr (.inr (11, 0, 83)))], (setI h 83 0 ((iZ (0)))))) rfl ?_
  refine Ev.gv (w := (iZ ((tlS S).length))) rfl (mi_tm (MI_th I)).1 ?_
  refine Ev.brF (p := ¬ (iZ ((tlS S).length)) = (iZ (0))) (c1 := (47, [some (.inr (.inr (.inr (11, 0, 83)))), some (.inl (iZ (0))), some (.inl (iZ (0)))], [], (setI h 83 0 ((iZ (0)))))) (c2 := (43, [some (.inr (.inr (.inr (11, 0, 83)))), some (.inl (iZ (0))), some (.inl (iZ (0)))], [], (setI h 83 0 ((iZ (0)))))) (fun c_ => absurd ((not_congr (iZ_eq ⟨by omega, by omega⟩ ⟨by omega, by omega⟩)).mp c_) (by omega)) rfl ?_
  refine Ev.sts 2 (c' := (55, [some (.inr (.inr (.inr (11, 0, 83)))), some (.inl (iZ (0))), some (.inl (iZ (0)))], [.inr (.inr (.inl (FP.dconst0)))], (setI h 83 0 ((iZ (0)))))) rfl ?_
  exact Ev.ret rfl (q)

