/-! The class's calls that look at windows and tellings. -/
def fulR : List Tel → Int → Int → Int → Int
  | [], _, f, _ => f
  | t :: T, k, f, m => if m < t.2.2.2.1 then fulR T (k + 1) k t.2.2.2.1 else fulR T (k + 1) f m
def sumC : List Tel → Int
  | [] => 0
  | t :: T => t.2.2.2.1 + sumC T
theorem cx_ful_lp {d b n : Nat} {u : Q5} {S : Sta} {h : PH} {Q : Rs → PH → Prop} (I : CI h S b n u) (W : WN S) (m : Nat) : ∀ (k : Nat) (f x : Int), k ≤ (tlS S).length → (tlS S).length < k + m → 0 ≤ x ∧ x ≤ 1000 → Q (.inl (some (.inl (iZ (fulR ((tlS S).drop k) k f x))))) h → Ev (d + 1) 43 (6, [some (.inr (.inr (.inr (1, 0, 1)))), some (.inl (iZ (f))), some (.inl (iZ (x))), some (.inl (iZ (k)))], [], h) Q := by
  have sh := ci_sh I
  have hb := ci_b I
  have W0 := W
  obtain ⟨⟨w1, w2, w3, w4, w5, w6⟩, w7, w8, w9, w10, w11, w12, w13, w14, w15, w16, w17, w18⟩ := W0
  have hnl := (nL_facts (ci_tl I).2.2.1).2.1
  have hnn := (ci_tl I).2.1
  induction m with
  | zero => intro k f x h1 h2 hx q; omega
  | succ m ih =>
    intro k f x h1 h2 hx q
    refine Ev.sts 2 (c' := (8, [some (.inr (.inr (.inr (1, 0, 1)))), some (.inl (iZ (f))), some (.inl (iZ (x))), some (.inl (iZ (k)))], [.inr (.inr (.inr (1, 0, 1))), .inl (iZ (k))], h)) rfl ?_
    refine Ev.gfr (r := (8, 0, 62)) rfl (sh_1_6 sh) ?_
    refine Ev.gv (w := (iZ ((tlS S).length))) rfl (ci_tl I).1 ?_
    refine Ev.brc (p := (iZ ((tlS S).length)) ≤ (iZ (k))) (q := (((tlS S).length : Int)) ≤ k) (c1 := (52, [some (.inr (.inr (.inr (1, 0, 1)))), some (.inl (iZ (f))), some (.inl (iZ (x))), some (.inl (iZ (k)))], [], h)) (c2 := (17, [some (.inr (.inr (.inr (1, 0, 1)))), some (.inl (iZ (f))), some (.inl (iZ (x))), some (.inl (iZ (k)))], [], h)) rfl (iZ_le ⟨by omega, by omega⟩ ⟨by omega, by omega⟩) (fun c0 => ?_) (fun c0 => ?_)
    · refine Ev.sts 1 (c' := (53, [some (.inr (.inr (.inr (1, 0, 1)))), some (.inl (iZ (f))), some (.inl (iZ (x))), some (.inl (iZ (k)))], [.inl (iZ (f))], h)) rfl ?_
      rw [List.drop_eq_nil_of_le (show (tlS S).length ≤ k by omega)] at q
      exact Ev.ret rfl q
    · obtain ⟨b1, b2, b3, b4, b5, b6⟩ := w17 k (by omega)
      have e0 := drop_getD t0 (tlS S) k (by omega)
      refine Ev.sts 1 (c' := (18, [some (.inr (.inr (.inr (1, 0, 1)))), some (.inl (iZ (f))), some (.inl (iZ (x))), some (.inl (iZ (k)))], [.inr (.inr (.inr (1, 0, 1)))], h)) rfl ?_
      refine Ev.gfr (r := (8, 0, 62)) rfl (sh_1_6 sh) ?_
      refine Ev.gfr (r := (20, n, u.2.2.2.1)) rfl (ci_tl I).2.2.2.1.2.2.2.1 ?_
      refine Ev.sts 1 (c' := (25, [some (.inr (.inr (.inr (1, 0, 1)))), some (.inl (iZ (f))), some (.inl (iZ (x))), some (.inl (iZ (k)))], [.inl (iZ (k)), .inr (.inr (.inr (20, n, u.2.2.2.1)))], h)) rfl ?_
      refine Ev.callv (a := [.inr (.inr (.inr (20, n, u.2.2.2.1))), .inl (iZ (k))]) rfl (sp_at (k := k) (by omega) (by omega) (by omega) ((ci_tl I).2.2.2.2.2 k (by omega)).2.2.2.1) ?_
      refine Ev.sts 1 (c' := (29, [some (.inr (.inr (.inr (1, 0, 1)))), some (.inl (iZ (f))), some (.inl (iZ (x))), some (.inl (iZ (k)))], [.inl (iZ (x)), .inl (iZ (((tlS S).getD k t0).2.2.2.1))], h)) rfl ?_
      refine Ev.brc (p := (iZ (((tlS S).getD k t0).2.2.2.1)) ≤ (iZ (x))) (q := ((((tlS S).getD k t0).2.2.2.1 : Int)) ≤ x) (c1 := (46, [some (.inr (.inr (.inr (1, 0, 1)))), some (.inl (iZ (f))), some (.inl (iZ (x))), some (.inl (iZ (k)))], [], h)) (c2 := (32, [some (.inr (.inr (.inr (1, 0, 1)))), some (.inl (iZ (f))), some (.inl (iZ (x))), some (.inl (iZ (k)))], [], h)) rfl (iZ_le ⟨by omega, by omega⟩ ⟨by omega, by omega⟩) (fun c1 => ?_) (fun c1 => ?_)
      · refine Ev.stc (c1 := (49, [some (.inr (.inr (.inr (1, 0, 1)))), some (.inl (iZ (f))), some (.inl (iZ (x))), some (.inl ((iZ (k)) + (iZ (1))))], [], h)) (c2 := (49, [some (.inr (.inr (.inr (1, 0, 1)))), some (.inl (iZ (f))), some (.inl (iZ (x))), some (.inl (iZ (k + 1)))], [], h)) rfl (by rw [iZ_add]) ?_
        refine Ev.sts 1 (c' := (6, [some (.inr (.inr (.inr (1, 0, 1)))), some (.inl (iZ (f))), some (.inl (iZ (x))), some (.inl (iZ (k + 1)))], [], h)) rfl ?_
        refine ih (k + 1) f x (by omega) (by omega) ⟨by omega, by omega⟩ ?_
        rw [e0] at q
        rw [show fulR ((tlS S).getD k t0 :: (tlS S).drop (k + 1)) k f x = fulR ((tlS S).drop (k + 1)) (k + 1) f x from if_neg (by omega)] at q
        exact q
      · refine Ev.sts 3 (c' := (35, [some (.inr (.inr (.inr (1, 0, 1)))), some (.inl (iZ (k))), some (.inl (iZ (x))), some (.inl (iZ (k)))], [.inr (.inr (.inr (1, 0, 1)))], h)) rfl ?_
        refine Ev.gfr (r := (8, 0, 62)) rfl (sh_1_6 sh) ?_
        refine Ev.gfr (r := (20, n, u.2.2.2.1)) rfl (ci_tl I).2.2.2.1.2.2.2.1 ?_
        refine Ev.sts 1 (c' := (42, [some (.inr (.inr (.inr (1, 0, 1)))), some (.inl (iZ (k))), some (.inl (iZ (x))), some (.inl (iZ (k)))], [.inl (iZ (k)), .inr (.inr (.inr (20, n, u.2.2.2.1)))], h)) rfl ?_
        refine Ev.callv (a := [.inr (.inr (.inr (20, n, u.2.2.2.1))), .inl (iZ (k))]) rfl (sp_at (k := k) (by omega) (by omega) (by omega) ((ci_tl I).2.2.2.2.2 k (by omega)).2.2.2.1) ?_
        refine Ev.sts 1 (c' := (46, [some (.inr (.inr (.inr (1, 0, 1)))), some (.inl (iZ (k))), some (.inl (iZ (((tlS S).getD k t0).2.2.2.1))), some (.inl (iZ (k)))], [], h)) rfl ?_
        refine Ev.stc (c1 := (49, [some (.inr (.inr (.inr (1, 0, 1)))), some (.inl (iZ (k))), some (.inl (iZ (((tlS S).getD k t0).2.2.2.1))), some (.inl ((iZ (k)) + (iZ (1))))], [], h)) (c2 := (49, [some (.inr (.inr (.inr (1, 0, 1)))), some (.inl (iZ (k))), some (.inl (iZ (((tlS S).getD k t0).2.2.2.1))), some (.inl (iZ (k + 1)))], [], h)) rfl (by rw [iZ_add]) ?_
        refine Ev.sts 1 (c' := (6, [some (.inr (.inr (.inr (1, 0, 1)))), some (.inl (iZ (k))), some (.inl (iZ (((tlS S).getD k t0).2.2.2.1))), some (.inl (iZ (k + 1)))], [], h)) rfl ?_
        refine ih (k + 1) (k : Int) ((tlS S).getD k t0).2.2.2.1 (by omega) (by omega) ⟨by omega, by omega⟩ ?_
        rw [e0] at q
        rw [show fulR ((tlS S).getD k t0 :: (tlS S).drop (k + 1)) k f x = fulR ((tlS S).drop (k + 1)) (k + 1) k ((tlS S).getD k t0).2.2.2.1 from if_pos (by omega)] at q
        exact q

theorem cx_fullest {d b n : Nat} {u : Q5} {S : Sta} {h : PH} (I : CI h S b n u) (W : WN S) : Rv (d + 1) 43 [.inr (.inr (.inr (1, 0, 1)))] h (some (.inl (iZ (fulR (tlS S) 0 (-1) 0)))) h := Rv.of fun Q q => by
  have sh := ci_sh I
  have hb := ci_b I
  have W0 := W
  obtain ⟨⟨w1, w2, w3, w4, w5, w6⟩, w7, w8, w9, w10, w11, w12, w13, w14, w15, w16, w17, w18⟩ := W0
  refine Ev.sts 6 (c' := (6, [some (.inr (.inr (.inr (1, 0, 1)))), some (.inl (iZ (-1))), some (.inl (iZ (0))), some (.inl (iZ (0)))], [], h)) rfl ?_
  exact cx_ful_lp I W ((tlS S).length + 1) 0 (-1) 0 (by omega) (by omega) ⟨by omega, by omega⟩ q

/-- the mean, where it is a number -/
def meanN (T : List Tel) : Prop := FP.ddiv (FP.i2d (iZ (sumC T))) (FP.i2d (iZ T.length)) &&& 0x7fffffffffffffff ≤ 0x7ff0000000000000
theorem Ev.dv {d m pc : Nat} {c : Cf} {ls : LV} {st : List VV} {h : PH} {x : UInt64} {Q : Rs → PH → Prop} (hin : x &&& 0x7fffffffffffffff ≤ 0x7ff0000000000000) (hs : step m c = if x &&& 0x7fffffffffffffff ≤ 0x7ff0000000000000 then some (.inl (pc, ls, .inr (.inr (.inl x)) :: st, h)) else none) (kk : Ev d m (pc, ls, .inr (.inr (.inl x)) :: st, h) Q) : Ev d m c Q := by
  rw [if_pos hin] at hs
  exact Ev.st hs kk
theorem cx_mean_lp {d b n : Nat} {u : Q5} {S : Sta} {h : PH} {Q : Rs → PH → Prop} (I : CI h S b n u) (W : WN S) (m : Nat) : ∀ (k : Nat) (c : Int), k ≤ (tlS S).length → (tlS S).length < k + m → c + sumC ((tlS S).drop k) = sumC (tlS S) → Q (.inl (some (.inr (.inr (.inl (FP.ddiv (FP.i2d (iZ (sumC (tlS S)))) (FP.i2d (iZ (tlS S).length)))))))) h → FP.ddiv (FP.i2d (iZ (sumC (tlS S)))) (FP.i2d (iZ (tlS S).length)) &&& 0x7fffffffffffffff ≤ 0x7ff0000000000000 → Ev (d + 1) 47 (17, [some (.inr (.inr (.inr (1, 0, 1)))), some (.inl (iZ (c))), some (.inl (iZ (k)))], [], h) Q := by
  have sh := ci_sh I
  have hb := ci_b I
  have W0 := W
  obtain ⟨⟨w1, w2, w3, w4, w5, w6⟩, w7, w8, w9, w10, w11, w12, w13, w14, w15, w16, w17, w18⟩ := W0
  have hnl := (nL_facts (ci_tl I).2.2.1).2.1
  have hnn := (ci_tl I).2.1
  induction m with
  | zero => intro k c h1 h2 hc q mn; omega
  | succ m ih =>
    intro k c h1 h2 hc q mn
    refine Ev.sts 2 (c' := (19, [some (.inr (.inr (.inr (1, 0, 1)))), some (.inl (iZ (c))), some (.inl (iZ (k)))], [.inr (.inr (.inr (1, 0, 1))), .inl (iZ (k))], h)) rfl ?_
    refine Ev.gfr (r := (8, 0, 62)) rfl (sh_1_6 sh) ?_
    refine Ev.gv (w := (iZ ((tlS S).length))) rfl (ci_tl I).1 ?_
    refine Ev.brc (p := (iZ ((tlS S).length)) ≤ (iZ (k))) (q := (((tlS S).length : Int)) ≤ k) (c1 := (48, [some (.inr (.inr (.inr (1, 0, 1)))), some (.inl (iZ (c))), some (.inl (iZ (k)))], [], h)) (c2 := (28, [some (.inr (.inr (.inr (1, 0, 1)))), some (.inl (iZ (c))), some (.inl (iZ (k)))], [], h)) rfl (iZ_le ⟨by omega, by omega⟩ ⟨by omega, by omega⟩) (fun c0 => ?_) (fun c0 => ?_)
    · refine Ev.sts 3 (c' := (51, [some (.inr (.inr (.inr (1, 0, 1)))), some (.inl (iZ (c))), some (.inl (iZ (k)))], [.inr (.inr (.inr (1, 0, 1))), .inr (.inr (.inl ((FP.i2d ((iZ (c)))))))], h)) rfl ?_
      refine Ev.gfr (r := (8, 0, 62)) rfl (sh_1_6 sh) ?_
      refine Ev.gv (w := (iZ ((tlS S).length))) rfl (ci_tl I).1 ?_
      refine Ev.sts 1 (c' := (58, [some (.inr (.inr (.inr (1, 0, 1)))), some (.inl (iZ (c))), some (.inl (iZ (k)))], [.inr (.inr (.inl ((FP.i2d ((iZ ((tlS S).length))))))), .inr (.inr (.inl ((FP.i2d ((iZ (c)))))))], h)) rfl ?_
      have e : (c : Int) = sumC (tlS S) := by rw [List.drop_eq_nil_of_le (show (tlS S).length ≤ k by omega)] at hc; exact (Int.add_zero c).symm.trans hc
      rw [← e] at q mn
      refine Ev.dv (x := FP.ddiv (FP.i2d ((iZ (c)))) (FP.i2d ((iZ ((tlS S).length))))) mn rfl ?_
      exact Ev.ret rfl (q)
    · have e0 := drop_getD t0 (tlS S) k (by omega)
      refine Ev.sts 2 (c' := (30, [some (.inr (.inr (.inr (1, 0, 1)))), some (.inl (iZ (c))), some (.inl (iZ (k)))], [.inr (.inr (.inr (1, 0, 1))), .inl (iZ (c))], h)) rfl ?_
      refine Ev.gfr (r := (8, 0, 62)) rfl (sh_1_6 sh) ?_
      refine Ev.gfr (r := (20, n, u.2.2.2.1)) rfl (ci_tl I).2.2.2.1.2.2.2.1 ?_
      refine Ev.sts 1 (c' := (37, [some (.inr (.inr (.inr (1, 0, 1)))), some (.inl (iZ (c))), some (.inl (iZ (k)))], [.inl (iZ (k)), .inr (.inr (.inr (20, n, u.2.2.2.1))), .inl (iZ (c))], h)) rfl ?_
      refine Ev.callv (a := [.inr (.inr (.inr (20, n, u.2.2.2.1))), .inl (iZ (k))]) rfl (sp_at (k := k) (by omega) (by omega) (by omega) ((ci_tl I).2.2.2.2.2 k (by omega)).2.2.2.1) ?_
      refine Ev.gv (w := (iZ (c + (((tlS S).getD k t0).2.2.2.1)))) rfl (iZ_add _ _) ?_
      refine Ev.sts 1 (c' := (42, [some (.inr (.inr (.inr (1, 0, 1)))), some (.inl (iZ (c + (((tlS S).getD k t0).2.2.2.1)))), some (.inl (iZ (k)))], [], h)) rfl ?_
      refine Ev.stc (c1 := (45, [some (.inr (.inr (.inr (1, 0, 1)))), some (.inl (iZ (c + (((tlS S).getD k t0).2.2.2.1)))), some (.inl ((iZ (k)) + (iZ (1))))], [], h)) (c2 := (45, [some (.inr (.inr (.inr (1, 0, 1)))), some (.inl (iZ (c + (((tlS S).getD k t0).2.2.2.1)))), some (.inl (iZ (k + 1)))], [], h)) rfl (by rw [iZ_add]) ?_
      refine Ev.sts 1 (c' := (17, [some (.inr (.inr (.inr (1, 0, 1)))), some (.inl (iZ (c + (((tlS S).getD k t0).2.2.2.1)))), some (.inl (iZ (k + 1)))], [], h)) rfl ?_
      refine ih (k + 1) _ (by omega) (by omega) ?_ q mn
      rw [e0] at hc
      rw [Int.add_assoc]
      exact hc

theorem cx_mean {d b n : Nat} {u : Q5} {S : Sta} {h : PH} {Q : Rs → PH → Prop} (I : CI h S b n u) (W : WN S) (hT : 1 ≤ (tlS S).length) (mn : meanN (tlS S)) (q : Q (.inl (some (.inr (.inr (.inl (FP.ddiv (FP.i2d (iZ (sumC (tlS S)))) (FP.i2d (iZ (tlS S).length)))))))) h) : Rn (d + 1) 47 [.inr (.inr (.inr (1, 0, 1)))] h Q := by
  have sh := ci_sh I
  have hb := ci_b I
  have W0 := W
  obtain ⟨⟨w1, w2, w3, w4, w5, w6⟩, w7, w8, w9, w10, w11, w12, w13, w14, w15, w16, w17, w18⟩ := W0
  refine Ev.sts 1 (c' := (1, [some (.inr (.inr (.inr (1, 0, 1)))), none, none], [.inr (.inr (.inr (1, 0, 1)))], h)) rfl ?_
  refine Ev.gfr (r := (8, 0, 62)) rfl (sh_1_6 sh) ?_
  refine Ev.gv (w := (iZ ((tlS S).length))) rfl (ci_tl I).1 ?_
  refine Ev.sts 1 (c' := (8, [some (.inr (.inr (.inr (1, 0, 1)))), none, none], [.inl (iZ (1)), .inl (iZ ((tlS S).length))], h)) rfl ?_
  refine Ev.brT (p := (iZ (1)) ≤ (iZ ((tlS S).length))) (c1 := (13, [some (.inr (.inr (.inr (1, 0, 1)))), none, none], [], h)) (c2 := (11, [some (.inr (.inr (.inr (1, 0, 1)))), none, none], [], h)) ((iZ_le ⟨by omega, by omega⟩ ⟨by omega, by omega⟩).mpr (by omega)) rfl ?_
  refine Ev.sts 4 (c' := (17, [some (.inr (.inr (.inr (1, 0, 1)))), some (.inl (iZ (0))), some (.inl (iZ (0)))], [], h)) rfl ?_
  exact cx_mean_lp I W ((tlS S).length + 1) 0 0 (by omega) (by omega) (by rw [List.drop_zero]; omega) q mn

theorem cx_mean0 {d b n : Nat} {u : Q5} {S : Sta} {h : PH} {Q : Rs → PH → Prop} (I : CI h S b n u) (W : WN S) (hT : (tlS S).length = 0) (q : Q (.inl (some (.inr (.inr (.inl FP.dconst0))))) h) : Rn d 47 [.inr (.inr (.inr (1, 0, 1)))] h Q := by
  have sh := ci_sh I
  have hb := ci_b I
  have W0 := W
  obtain ⟨⟨w1, w2, w3, w4, w5, w6⟩, w7, w8, w9, w10, w11, w12, w13, w14, w15, w16, w17, w18⟩ := W0
  refine Ev.sts 1 (c' := (1, [some (.inr (.inr (.inr (1, 0, 1)))), none, none], [.inr (.inr (.inr (1, 0, 1)))], h)) rfl ?_
  refine Ev.gfr (r := (8, 0, 62)) rfl (sh_1_6 sh) ?_
  refine Ev.gv (w := (iZ ((tlS S).length))) rfl (ci_tl I).1 ?_
  refine Ev.sts 1 (c' := (8, [some (.inr (.inr (.inr (1, 0, 1)))), none, none], [.inl (iZ (1)), .inl (iZ ((tlS S).length))], h)) rfl ?_
  refine Ev.brF (p := (iZ (1)) ≤ (iZ ((tlS S).length))) (c1 := (13, [some (.inr (.inr (.inr (1, 0, 1)))), none, none], [], h)) (c2 := (11, [some (.inr (.inr (.inr (1, 0, 1)))), none, none], [], h)) (fun c_ => absurd ((iZ_le ⟨by omega, by omega⟩ ⟨by omega, by omega⟩).mp c_) (by omega)) rfl ?_
  refine Ev.sts 1 (c' := (12, [some (.inr (.inr (.inr (1, 0, 1)))), none, none], [.inr (.inr (.inl (FP.dconst0)))], h)) rfl ?_
  exact Ev.ret rfl (q)

theorem cx_wmb {d b n : Nat} {u : Q5} {S : Sta} {h : PH} (I : CI h S b n u) (W : WN S) {y x : Int} (hx : 0 ≤ x ∧ x < 100000) (hy : -1 ≤ y ∧ y ≤ 2000) : Rv (d + 2) 45 [.inr (.inr (.inr (1, 0, 1))), .inl (iZ (y)), .inl (iZ (x))] h (some (.inl (iZ (max (wmS S) (y - alB (bkS S) x))))) h := Rv.of fun Q q => by
  have sh := ci_sh I
  have hb := ci_b I
  have W0 := W
  obtain ⟨⟨w1, w2, w3, w4, w5, w6⟩, w7, w8, w9, w10, w11, w12, w13, w14, w15, w16, w17, w18⟩ := W0
  refine Ev.sts 1 (c' := (1, [some (.inr (.inr (.inr (1, 0, 1)))), some (.inl (iZ (y))), some (.inl (iZ (x)))], [.inr (.inr (.inr (1, 0, 1)))], h)) rfl ?_
  refine Ev.gv (w := (iZ (wmS S))) rfl (ci_wm I) ?_
  refine Ev.sts 2 (c' := (6, [some (.inr (.inr (.inr (1, 0, 1)))), some (.inl (iZ (y))), some (.inl (iZ (x)))], [.inr (.inr (.inr (1, 0, 1))), .inl (iZ (y)), .inl (iZ (wmS S))], h)) rfl ?_
  refine Ev.gfr (r := (2, 0, b)) rfl (ci_17 I) ?_
  refine Ev.sts 1 (c' := (10, [some (.inr (.inr (.inr (1, 0, 1)))), some (.inl (iZ (y))), some (.inl (iZ (x)))], [.inl (iZ (x)), .inr (.inr (.inr (2, 0, b))), .inl (iZ (y)), .inl (iZ (wmS S))], h)) rfl ?_
  refine Ev.callv (a := [.inr (.inr (.inr (2, 0, b))), .inl (iZ (x))]) rfl (sp_allowanceIn sh hb (ci_bk I).1 ⟨w1, w2⟩ ⟨by omega, by omega⟩) ?_
  have ab := alB_b (show bkN (bkS S) from ⟨w1, w2, w3, w4, w5, w6⟩) x
  refine Ev.gv (w := (iZ (y - (alB (bkS S) x)))) rfl (iZ_sub _ _) ?_
  refine Ev.gv (w := (iZ (max (wmS S) (y - (alB (bkS S) x))))) rfl (iZ_max ⟨by omega, by omega⟩ ⟨by omega, by omega⟩) ?_
  exact Ev.ret rfl (q)

/-- how many open windows are over at m -/
def ovA (ws : Nat → List Win) (m : Int) : Nat := cntO (ws 0) m + cntO (ws 1) m + cntO (ws 2) m + cntO (ws 3) m + cntO (ws 4) m + cntO (ws 5) m
theorem cx_anyOver {d b n : Nat} {u : Q5} {S : Sta} {h : PH} {Q : Rs → PH → Prop} (I : CI h S b n u) (W : WN S) {y : Int} (hy : -2147483648 ≤ y ∧ y < 2147483648) (q1 : 0 < ovA (wdS S) y → Q (.inl (some (.inl (iZ 1)))) h) (q0 : ovA (wdS S) y = 0 → Q (.inl (some (.inl (iZ 0)))) h) : Rn (d + 2) 46 [.inr (.inr (.inr (1, 0, 1))), .inl (iZ (y))] h Q := by
  have sh := ci_sh I
  have hb := ci_b I
  have W0 := W
  obtain ⟨⟨w1, w2, w3, w4, w5, w6⟩, w7, w8, w9, w10, w11, w12, w13, w14, w15, w16, w17, w18⟩ := W0
  have cb0 := cntO_le (wdS S 0) y
  have cl0 := (w14 0).2
  have cb1 := cntO_le (wdS S 1) y
  have cl1 := (w14 1).2
  have cb2 := cntO_le (wdS S 2) y
  have cl2 := (w14 2).2
  have cb3 := cntO_le (wdS S 3) y
  have cl3 := (w14 3).2
  have cb4 := cntO_le (wdS S 4) y
  have cl4 := (w14 4).2
  have cb5 := cntO_le (wdS S 5) y
  have cl5 := (w14 5).2
  refine Ev.sts 4 (c' := (4, [some (.inr (.inr (.inr (1, 0, 1)))), some (.inl (iZ (y))), some (.inl (iZ (0)))], [.inr (.inr (.inr (1, 0, 1))), .inl (iZ (0))], h)) rfl ?_
  refine Ev.gfr (r := (25, 6, 31)) rfl (sh_1_5 sh) ?_
  refine Ev.sts 1 (c' := (8, [some (.inr (.inr (.inr (1, 0, 1)))), some (.inl (iZ (y))), some (.inl (iZ (0)))], [.inl (iZ (6)), .inl (iZ (0))], h)) rfl ?_
  refine Ev.brF (p := (iZ (6)) ≤ (iZ (0))) (c1 := (32, [some (.inr (.inr (.inr (1, 0, 1)))), some (.inl (iZ (y))), some (.inl (iZ (0)))], [], h)) (c2 := (11, [some (.inr (.inr (.inr (1, 0, 1)))), some (.inl (iZ (y))), some (.inl (iZ (0)))], [], h)) (by decide) rfl ?_
  refine Ev.sts 1 (c' := (12, [some (.inr (.inr (.inr (1, 0, 1)))), some (.inl (iZ (y))), some (.inl (iZ (0)))], [.inr (.inr (.inr (1, 0, 1)))], h)) rfl ?_
  refine Ev.gfr (r := (25, 6, 31)) rfl (sh_1_5 sh) ?_
  refine Ev.sts 1 (c' := (16, [some (.inr (.inr (.inr (1, 0, 1)))), some (.inl (iZ (y))), some (.inl (iZ (0)))], [.inl (iZ (0)), .inr (.inr (.inr (25, 6, 31)))], h)) rfl ?_
  refine Ev.ldv (j := (iZ (0))) (n := 6) (w := .inr (.inr (.inr (10, 0, 32)))) (by decide) rfl (congrArg vR (sh_31_0 sh)) ?_
  refine Ev.sts 1 (c' := (18, [some (.inr (.inr (.inr (1, 0, 1)))), some (.inl (iZ (y))), some (.inl (iZ (0)))], [.inl (iZ (y)), .inr (.inr (.inr (10, 0, 32)))], h)) rfl ?_
  refine Ev.callv (a := [.inr (.inr (.inr (10, 0, 32))), .inl (iZ (y))]) rfl (sp_countOver (g := 0) sh (by omega) (ci_ws I 0 (by omega)).1 (w14 0).1 (by omega) ⟨by omega, by omega⟩) ?_
  refine Ev.brc (p := (iZ (cntO (wdS S 0) y)) ≤ (iZ (0))) (q := ((cntO (wdS S 0) y : Int)) ≤ 0) (c1 := (26, [some (.inr (.inr (.inr (1, 0, 1)))), some (.inl (iZ (y))), some (.inl (iZ (0)))], [], h)) (c2 := (24, [some (.inr (.inr (.inr (1, 0, 1)))), some (.inl (iZ (y))), some (.inl (iZ (0)))], [], h)) rfl (iZ_le ⟨by omega, by omega⟩ ⟨by omega, by omega⟩) (fun c0 => ?_) (fun c0 => ?_)
  · refine Ev.stc (c1 := (29, [some (.inr (.inr (.inr (1, 0, 1)))), some (.inl (iZ (y))), some (.inl ((iZ (0)) + (iZ (1))))], [], h)) (c2 := (29, [some (.inr (.inr (.inr (1, 0, 1)))), some (.inl (iZ (y))), some (.inl (iZ (1)))], [], h)) rfl (by rw [iZ_add]; rfl) ?_
    refine Ev.sts 3 (c' := (4, [some (.inr (.inr (.inr (1, 0, 1)))), some (.inl (iZ (y))), some (.inl (iZ (1)))], [.inr (.inr (.inr (1, 0, 1))), .inl (iZ (1))], h)) rfl ?_
    refine Ev.gfr (r := (25, 6, 31)) rfl (sh_1_5 sh) ?_
    refine Ev.sts 1 (c' := (8, [some (.inr (.inr (.inr (1, 0, 1)))), some (.inl (iZ (y))), some (.inl (iZ (1)))], [.inl (iZ (6)), .inl (iZ (1))], h)) rfl ?_
    refine Ev.brF (p := (iZ (6)) ≤ (iZ (1))) (c1 := (32, [some (.inr (.inr (.inr (1, 0, 1)))), some (.inl (iZ (y))), some (.inl (iZ (1)))], [], h)) (c2 := (11, [some (.inr (.inr (.inr (1, 0, 1)))), some (.inl (iZ (y))), some (.inl (iZ (1)))], [], h)) (by decide) rfl ?_
    refine Ev.sts 1 (c' := (12, [some (.inr (.inr (.inr (1, 0, 1)))), some (.inl (iZ (y))), some (.inl (iZ (1)))], [.inr (.inr (.inr (1, 0, 1)))], h)) rfl ?_
    refine Ev.gfr (r := (25, 6, 31)) rfl (sh_1_5 sh) ?_
    refine Ev.sts 1 (c' := (16, [some (.inr (.inr (.inr (1, 0, 1)))), some (.inl (iZ (y))), some (.inl (iZ (1)))], [.inl (iZ (1)), .inr (.inr (.inr (25, 6, 31)))], h)) rfl ?_
    refine Ev.ldv (j := (iZ (1))) (n := 6) (w := .inr (.inr (.inr (10, 0, 37)))) (by decide) rfl (congrArg vR (sh_31_1 sh)) ?_
    refine Ev.sts 1 (c' := (18, [some (.inr (.inr (.inr (1, 0, 1)))), some (.inl (iZ (y))), some (.inl (iZ (1)))], [.inl (iZ (y)), .inr (.inr (.inr (10, 0, 37)))], h)) rfl ?_
    refine Ev.callv (a := [.inr (.inr (.inr (10, 0, 37))), .inl (iZ (y))]) rfl (sp_countOver (g := 1) sh (by omega) (ci_ws I 1 (by omega)).1 (w14 1).1 (by omega) ⟨by omega, by omega⟩) ?_
    refine Ev.brc (p := (iZ (cntO (wdS S 1) y)) ≤ (iZ (0))) (q := ((cntO (wdS S 1) y : Int)) ≤ 0) (c1 := (26, [some (.inr (.inr (.inr (1, 0, 1)))), some (.inl (iZ (y))), some (.inl (iZ (1)))], [], h)) (c2 := (24, [some (.inr (.inr (.inr (1, 0, 1)))), some (.inl (iZ (y))), some (.inl (iZ (1)))], [], h)) rfl (iZ_le ⟨by omega, by omega⟩ ⟨by omega, by omega⟩) (fun c1 => ?_) (fun c1 => ?_)
    · refine Ev.stc (c1 := (29, [some (.inr (.inr (.inr (1, 0, 1)))), some (.inl (iZ (y))), some (.inl ((iZ (1)) + (iZ (1))))], [], h)) (c2 := (29, [some (.inr (.inr (.inr (1, 0, 1)))), some (.inl (iZ (y))), some (.inl (iZ (2)))], [], h)) rfl (by rw [iZ_add]; rfl) ?_
      refine Ev.sts 3 (c' := (4, [some (.inr (.inr (.inr (1, 0, 1)))), some (.inl (iZ (y))), some (.inl (iZ (2)))], [.inr (.inr (.inr (1, 0, 1))), .inl (iZ (2))], h)) rfl ?_
      refine Ev.gfr (r := (25, 6, 31)) rfl (sh_1_5 sh) ?_
      refine Ev.sts 1 (c' := (8, [some (.inr (.inr (.inr (1, 0, 1)))), some (.inl (iZ (y))), some (.inl (iZ (2)))], [.inl (iZ (6)), .inl (iZ (2))], h)) rfl ?_
      refine Ev.brF (p := (iZ (6)) ≤ (iZ (2))) (c1 := (32, [some (.inr (.inr (.inr (1, 0, 1)))), some (.inl (iZ (y))), some (.inl (iZ (2)))], [], h)) (c2 := (11, [some (.inr (.inr (.inr (1, 0, 1)))), some (.inl (iZ (y))), some (.inl (iZ (2)))], [], h)) (by decide) rfl ?_
      refine Ev.sts 1 (c' := (12, [some (.inr (.inr (.inr (1, 0, 1)))), some (.inl (iZ (y))), some (.inl (iZ (2)))], [.inr (.inr (.inr (1, 0, 1)))], h)) rfl ?_
      refine Ev.gfr (r := (25, 6, 31)) rfl (sh_1_5 sh) ?_
      refine Ev.sts 1 (c' := (16, [some (.inr (.inr (.inr (1, 0, 1)))), some (.inl (iZ (y))), some (.inl (iZ (2)))], [.inl (iZ (2)), .inr (.inr (.inr (25, 6, 31)))], h)) rfl ?_
      refine Ev.ldv (j := (iZ (2))) (n := 6) (w := .inr (.inr (.inr (10, 0, 42)))) (by decide) rfl (congrArg vR (sh_31_2 sh)) ?_
      refine Ev.sts 1 (c' := (18, [some (.inr (.inr (.inr (1, 0, 1)))), some (.inl (iZ (y))), some (.inl (iZ (2)))], [.inl (iZ (y)), .inr (.inr (.inr (10, 0, 42)))], h)) rfl ?_
      refine Ev.callv (a := [.inr (.inr (.inr (10, 0, 42))), .inl (iZ (y))]) rfl (sp_countOver (g := 2) sh (by omega) (ci_ws I 2 (by omega)).1 (w14 2).1 (by omega) ⟨by omega, by omega⟩) ?_
      refine Ev.brc (p := (iZ (cntO (wdS S 2) y)) ≤ (iZ (0))) (q := ((cntO (wdS S 2) y : Int)) ≤ 0) (c1 := (26, [some (.inr (.inr (.inr (1, 0, 1)))), some (.inl (iZ (y))), some (.inl (iZ (2)))], [], h)) (c2 := (24, [some (.inr (.inr (.inr (1, 0, 1)))), some (.inl (iZ (y))), some (.inl (iZ (2)))], [], h)) rfl (iZ_le ⟨by omega, by omega⟩ ⟨by omega, by omega⟩) (fun c2 => ?_) (fun c2 => ?_)
      · refine Ev.stc (c1 := (29, [some (.inr (.inr (.inr (1, 0, 1)))), some (.inl (iZ (y))), some (.inl ((iZ (2)) + (iZ (1))))], [], h)) (c2 := (29, [some (.inr (.inr (.inr (1, 0, 1)))), some (.inl (iZ (y))), some (.inl (iZ (3)))], [], h)) rfl (by rw [iZ_add]; rfl) ?_
        refine Ev.sts 3 (c' := (4, [some (.inr (.inr (.inr (1, 0, 1)))), some (.inl (iZ (y))), some (.inl (iZ (3)))], [.inr (.inr (.inr (1, 0, 1))), .inl (iZ (3))], h)) rfl ?_
        refine Ev.gfr (r := (25, 6, 31)) rfl (sh_1_5 sh) ?_
        refine Ev.sts 1 (c' := (8, [some (.inr (.inr (.inr (1, 0, 1)))), some (.inl (iZ (y))), some (.inl (iZ (3)))], [.inl (iZ (6)), .inl (iZ (3))], h)) rfl ?_
        refine Ev.brF (p := (iZ (6)) ≤ (iZ (3))) (c1 := (32, [some (.inr (.inr (.inr (1, 0, 1)))), some (.inl (iZ (y))), some (.inl (iZ (3)))], [], h)) (c2 := (11, [some (.inr (.inr (.inr (1, 0, 1)))), some (.inl (iZ (y))), some (.inl (iZ (3)))], [], h)) (by decide) rfl ?_
        refine Ev.sts 1 (c' := (12, [some (.inr (.inr (.inr (1, 0, 1)))), some (.inl (iZ (y))), some (.inl (iZ (3)))], [.inr (.inr (.inr (1, 0, 1)))], h)) rfl ?_
        refine Ev.gfr (r := (25, 6, 31)) rfl (sh_1_5 sh) ?_
        refine Ev.sts 1 (c' := (16, [some (.inr (.inr (.inr (1, 0, 1)))), some (.inl (iZ (y))), some (.inl (iZ (3)))], [.inl (iZ (3)), .inr (.inr (.inr (25, 6, 31)))], h)) rfl ?_
        refine Ev.ldv (j := (iZ (3))) (n := 6) (w := .inr (.inr (.inr (10, 0, 47)))) (by decide) rfl (congrArg vR (sh_31_3 sh)) ?_
        refine Ev.sts 1 (c' := (18, [some (.inr (.inr (.inr (1, 0, 1)))), some (.inl (iZ (y))), some (.inl (iZ (3)))], [.inl (iZ (y)), .inr (.inr (.inr (10, 0, 47)))], h)) rfl ?_
        refine Ev.callv (a := [.inr (.inr (.inr (10, 0, 47))), .inl (iZ (y))]) rfl (sp_countOver (g := 3) sh (by omega) (ci_ws I 3 (by omega)).1 (w14 3).1 (by omega) ⟨by omega, by omega⟩) ?_
        refine Ev.brc (p := (iZ (cntO (wdS S 3) y)) ≤ (iZ (0))) (q := ((cntO (wdS S 3) y : Int)) ≤ 0) (c1 := (26, [some (.inr (.inr (.inr (1, 0, 1)))), some (.inl (iZ (y))), some (.inl (iZ (3)))], [], h)) (c2 := (24, [some (.inr (.inr (.inr (1, 0, 1)))), some (.inl (iZ (y))), some (.inl (iZ (3)))], [], h)) rfl (iZ_le ⟨by omega, by omega⟩ ⟨by omega, by omega⟩) (fun c3 => ?_) (fun c3 => ?_)
        · refine Ev.stc (c1 := (29, [some (.inr (.inr (.inr (1, 0, 1)))), some (.inl (iZ (y))), some (.inl ((iZ (3)) + (iZ (1))))], [], h)) (c2 := (29, [some (.inr (.inr (.inr (1, 0, 1)))), some (.inl (iZ (y))), some (.inl (iZ (4)))], [], h)) rfl (by rw [iZ_add]; rfl) ?_
          refine Ev.sts 3 (c' := (4, [some (.inr (.inr (.inr (1, 0, 1)))), some (.inl (iZ (y))), some (.inl (iZ (4)))], [.inr (.inr (.inr (1, 0, 1))), .inl (iZ (4))], h)) rfl ?_
          refine Ev.gfr (r := (25, 6, 31)) rfl (sh_1_5 sh) ?_
          refine Ev.sts 1 (c' := (8, [some (.inr (.inr (.inr (1, 0, 1)))), some (.inl (iZ (y))), some (.inl (iZ (4)))], [.inl (iZ (6)), .inl (iZ (4))], h)) rfl ?_
          refine Ev.brF (p := (iZ (6)) ≤ (iZ (4))) (c1 := (32, [some (.inr (.inr (.inr (1, 0, 1)))), some (.inl (iZ (y))), some (.inl (iZ (4)))], [], h)) (c2 := (11, [some (.inr (.inr (.inr (1, 0, 1)))), some (.inl (iZ (y))), some (.inl (iZ (4)))], [], h)) (by decide) rfl ?_
          refine Ev.sts 1 (c' := (12, [some (.inr (.inr (.inr (1, 0, 1)))), some (.inl (iZ (y))), some (.inl (iZ (4)))], [.inr (.inr (.inr (1, 0, 1)))], h)) rfl ?_
          refine Ev.gfr (r := (25, 6, 31)) rfl (sh_1_5 sh) ?_
          refine Ev.sts 1 (c' := (16, [some (.inr (.inr (.inr (1, 0, 1)))), some (.inl (iZ (y))), some (.inl (iZ (4)))], [.inl (iZ (4)), .inr (.inr (.inr (25, 6, 31)))], h)) rfl ?_
          refine Ev.ldv (j := (iZ (4))) (n := 6) (w := .inr (.inr (.inr (10, 0, 52)))) (by decide) rfl (congrArg vR (sh_31_4 sh)) ?_
          refine Ev.sts 1 (c' := (18, [some (.inr (.inr (.inr (1, 0, 1)))), some (.inl (iZ (y))), some (.inl (iZ (4)))], [.inl (iZ (y)), .inr (.inr (.inr (10, 0, 52)))], h)) rfl ?_
          refine Ev.callv (a := [.inr (.inr (.inr (10, 0, 52))), .inl (iZ (y))]) rfl (sp_countOver (g := 4) sh (by omega) (ci_ws I 4 (by omega)).1 (w14 4).1 (by omega) ⟨by omega, by omega⟩) ?_
          refine Ev.brc (p := (iZ (cntO (wdS S 4) y)) ≤ (iZ (0))) (q := ((cntO (wdS S 4) y : Int)) ≤ 0) (c1 := (26, [some (.inr (.inr (.inr (1, 0, 1)))), some (.inl (iZ (y))), some (.inl (iZ (4)))], [], h)) (c2 := (24, [some (.inr (.inr (.inr (1, 0, 1)))), some (.inl (iZ (y))), some (.inl (iZ (4)))], [], h)) rfl (iZ_le ⟨by omega, by omega⟩ ⟨by omega, by omega⟩) (fun c4 => ?_) (fun c4 => ?_)
          · refine Ev.stc (c1 := (29, [some (.inr (.inr (.inr (1, 0, 1)))), some (.inl (iZ (y))), some (.inl ((iZ (4)) + (iZ (1))))], [], h)) (c2 := (29, [some (.inr (.inr (.inr (1, 0, 1)))), some (.inl (iZ (y))), some (.inl (iZ (5)))], [], h)) rfl (by rw [iZ_add]; rfl) ?_
            refine Ev.sts 3 (c' := (4, [some (.inr (.inr (.inr (1, 0, 1)))), some (.inl (iZ (y))), some (.inl (iZ (5)))], [.inr (.inr (.inr (1, 0, 1))), .inl (iZ (5))], h)) rfl ?_
            refine Ev.gfr (r := (25, 6, 31)) rfl (sh_1_5 sh) ?_
            refine Ev.sts 1 (c' := (8, [some (.inr (.inr (.inr (1, 0, 1)))), some (.inl (iZ (y))), some (.inl (iZ (5)))], [.inl (iZ (6)), .inl (iZ (5))], h)) rfl ?_
            refine Ev.brF (p := (iZ (6)) ≤ (iZ (5))) (c1 := (32, [some (.inr (.inr (.inr (1, 0, 1)))), some (.inl (iZ (y))), some (.inl (iZ (5)))], [], h)) (c2 := (11, [some (.inr (.inr (.inr (1, 0, 1)))), some (.inl (iZ (y))), some (.inl (iZ (5)))], [], h)) (by decide) rfl ?_
            refine Ev.sts 1 (c' := (12, [some (.inr (.inr (.inr (1, 0, 1)))), some (.inl (iZ (y))), some (.inl (iZ (5)))], [.inr (.inr (.inr (1, 0, 1)))], h)) rfl ?_
            refine Ev.gfr (r := (25, 6, 31)) rfl (sh_1_5 sh) ?_
            refine Ev.sts 1 (c' := (16, [some (.inr (.inr (.inr (1, 0, 1)))), some (.inl (iZ (y))), some (.inl (iZ (5)))], [.inl (iZ (5)), .inr (.inr (.inr (25, 6, 31)))], h)) rfl ?_
            refine Ev.ldv (j := (iZ (5))) (n := 6) (w := .inr (.inr (.inr (10, 0, 57)))) (by decide) rfl (congrArg vR (sh_31_5 sh)) ?_
            refine Ev.sts 1 (c' := (18, [some (.inr (.inr (.inr (1, 0, 1)))), some (.inl (iZ (y))), some (.inl (iZ (5)))], [.inl (iZ (y)), .inr (.inr (.inr (10, 0, 57)))], h)) rfl ?_
            refine Ev.callv (a := [.inr (.inr (.inr (10, 0, 57))), .inl (iZ (y))]) rfl (sp_countOver (g := 5) sh (by omega) (ci_ws I 5 (by omega)).1 (w14 5).1 (by omega) ⟨by omega, by omega⟩) ?_
            refine Ev.brc (p := (iZ (cntO (wdS S 5) y)) ≤ (iZ (0))) (q := ((cntO (wdS S 5) y : Int)) ≤ 0) (c1 := (26, [some (.inr (.inr (.inr (1, 0, 1)))), some (.inl (iZ (y))), some (.inl (iZ (5)))], [], h)) (c2 := (24, [some (.inr (.inr (.inr (1, 0, 1)))), some (.inl (iZ (y))), some (.inl (iZ (5)))], [], h)) rfl (iZ_le ⟨by omega, by omega⟩ ⟨by omega, by omega⟩) (fun c5 => ?_) (fun c5 => ?_)
            · refine Ev.stc (c1 := (29, [some (.inr (.inr (.inr (1, 0, 1)))), some (.inl (iZ (y))), some (.inl ((iZ (5)) + (iZ (1))))], [], h)) (c2 := (29, [some (.inr (.inr (.inr (1, 0, 1)))), some (.inl (iZ (y))), some (.inl (iZ (6)))], [], h)) rfl (by rw [iZ_add]; rfl) ?_
              refine Ev.sts 3 (c' := (4, [some (.inr (.inr (.inr (1, 0, 1)))), some (.inl (iZ (y))), some (.inl (iZ (6)))], [.inr (.inr (.inr (1, 0, 1))), .inl (iZ (6))], h)) rfl ?_
              refine Ev.gfr (r := (25, 6, 31)) rfl (sh_1_5 sh) ?_
              refine Ev.sts 1 (c' := (8, [some (.inr (.inr (.inr (1, 0, 1)))), some (.inl (iZ (y))), some (.inl (iZ (6)))], [.inl (iZ (6)), .inl (iZ (6))], h)) rfl ?_
              refine Ev.brT (p := (iZ (6)) ≤ (iZ (6))) (c1 := (32, [some (.inr (.inr (.inr (1, 0, 1)))), some (.inl (iZ (y))), some (.inl (iZ (6)))], [], h)) (c2 := (11, [some (.inr (.inr (.inr (1, 0, 1)))), some (.inl (iZ (y))), some (.inl (iZ (6)))], [], h)) (by decide) rfl ?_
              refine Ev.sts 1 (c' := (33, [some (.inr (.inr (.inr (1, 0, 1)))), some (.inl (iZ (y))), some (.inl (iZ (6)))], [.inl (iZ (0))], h)) rfl ?_
              exact Ev.ret rfl (q0 (by unfold ovA; omega))
            · refine Ev.sts 1 (c' := (25, [some (.inr (.inr (.inr (1, 0, 1)))), some (.inl (iZ (y))), some (.inl (iZ (5)))], [.inl (iZ (1))], h)) rfl ?_
              exact Ev.ret rfl (q1 (by unfold ovA; omega))
          · refine Ev.sts 1 (c' := (25, [some (.inr (.inr (.inr (1, 0, 1)))), some (.inl (iZ (y))), some (.inl (iZ (4)))], [.inl (iZ (1))], h)) rfl ?_
            exact Ev.ret rfl (q1 (by unfold ovA; omega))
        · refine Ev.sts 1 (c' := (25, [some (.inr (.inr (.inr (1, 0, 1)))), some (.inl (iZ (y))), some (.inl (iZ (3)))], [.inl (iZ (1))], h)) rfl ?_
          exact Ev.ret rfl (q1 (by unfold ovA; omega))
      · refine Ev.sts 1 (c' := (25, [some (.inr (.inr (.inr (1, 0, 1)))), some (.inl (iZ (y))), some (.inl (iZ (2)))], [.inl (iZ (1))], h)) rfl ?_
        exact Ev.ret rfl (q1 (by unfold ovA; omega))
    · refine Ev.sts 1 (c' := (25, [some (.inr (.inr (.inr (1, 0, 1)))), some (.inl (iZ (y))), some (.inl (iZ (1)))], [.inl (iZ (1))], h)) rfl ?_
      exact Ev.ret rfl (q1 (by unfold ovA; omega))
  · refine Ev.sts 1 (c' := (25, [some (.inr (.inr (.inr (1, 0, 1)))), some (.inl (iZ (y))), some (.inl (iZ (0)))], [.inl (iZ (1))], h)) rfl ?_
    exact Ev.ret rfl (q1 (by unfold ovA; omega))

theorem cq_wouldTell {d b n : Nat} {u : Q5} {S : Sta} {h : PH} (I : CI h S b n u) (W : WN S) {p : Int} (hc : 0 ≤ p ∧ p ≤ 999) : Rv (d + 3) 86 [.inr (.inr (.inr (1, 0, 1))), .inl (iZ (p))] h (some (.inl (iZ (ovA (wdS S) (max (wmS S) ((max (grS S) p) - alB (bkS S) (ntS S))))))) h := Rv.of fun Q q => by
  have sh := ci_sh I
  have hb := ci_b I
  have W0 := W
  obtain ⟨⟨w1, w2, w3, w4, w5, w6⟩, w7, w8, w9, w10, w11, w12, w13, w14, w15, w16, w17, w18⟩ := W0
  have ab := alB_b (show bkN (bkS S) from ⟨w1, w2, w3, w4, w5, w6⟩) (ntS S)
  refine Ev.sts 2 (c' := (2, [some (.inr (.inr (.inr (1, 0, 1)))), some (.inl (iZ (p))), none, none, none], [.inl (iZ (p)), .inr (.inr (.inr (1, 0, 1)))], h)) rfl ?_
  refine Ev.callv (a := [.inr (.inr (.inr (1, 0, 1))), .inl (iZ (p))]) rfl (cr_hour hc) ?_
  refine Ev.sts 2 (c' := (7, [some (.inr (.inr (.inr (1, 0, 1)))), some (.inl (iZ (p))), none, none, none], [.inr (.inr (.inr (1, 0, 1))), .inr (.inr (.inr (1, 0, 1)))], h)) rfl ?_
  refine Ev.gv (w := (iZ (grS S))) rfl (ci_gr I) ?_
  refine Ev.sts 1 (c' := (11, [some (.inr (.inr (.inr (1, 0, 1)))), some (.inl (iZ (p))), none, none, none], [.inl (iZ (p)), .inl (iZ (grS S)), .inr (.inr (.inr (1, 0, 1)))], h)) rfl ?_
  refine Ev.gv (w := (iZ (max (grS S) p))) rfl (iZ_max ⟨by omega, by omega⟩ ⟨by omega, by omega⟩) ?_
  refine Ev.sts 1 (c' := (15, [some (.inr (.inr (.inr (1, 0, 1)))), some (.inl (iZ (p))), none, none, none], [.inr (.inr (.inr (1, 0, 1))), .inl (iZ (max (grS S) p)), .inr (.inr (.inr (1, 0, 1)))], h)) rfl ?_
  refine Ev.gv (w := (iZ (ntS S))) rfl (ci_nt I) ?_
  refine Ev.callv (a := [.inr (.inr (.inr (1, 0, 1))), .inl (iZ (max (grS S) p)), .inl (iZ (ntS S))]) rfl (cx_wmb I W ⟨by omega, by omega⟩ ⟨by omega, by omega⟩) ?_
  refine Ev.sts 7 (c' := (30, [some (.inr (.inr (.inr (1, 0, 1)))), some (.inl (iZ (p))), some (.inl (iZ (max (wmS S) ((max (grS S) p) - alB (bkS S) (ntS S))))), some (.inl (iZ (0))), some (.inl (iZ (0)))], [.inr (.inr (.inr (1, 0, 1))), .inl (iZ (0))], h)) rfl ?_
  refine Ev.gfr (r := (25, 6, 31)) rfl (sh_1_5 sh) ?_
  refine Ev.sts 1 (c' := (34, [some (.inr (.inr (.inr (1, 0, 1)))), some (.inl (iZ (p))), some (.inl (iZ (max (wmS S) ((max (grS S) p) - alB (bkS S) (ntS S))))), some (.inl (iZ (0))), some (.inl (iZ (0)))], [.inl (iZ (6)), .inl (iZ (0))], h)) rfl ?_
  refine Ev.brF (p := (iZ (6)) ≤ (iZ (0))) (c1 := (57, [some (.inr (.inr (.inr (1, 0, 1)))), some (.inl (iZ (p))), some (.inl (iZ (max (wmS S) ((max (grS S) p) - alB (bkS S) (ntS S))))), some (.inl (iZ (0))), some (.inl (iZ (0)))], [], h)) (c2 := (37, [some (.inr (.inr (.inr (1, 0, 1)))), some (.inl (iZ (p))), some (.inl (iZ (max (wmS S) ((max (grS S) p) - alB (bkS S) (ntS S))))), some (.inl (iZ (0))), some (.inl (iZ (0)))], [], h)) (by decide) rfl ?_
  refine Ev.sts 2 (c' := (39, [some (.inr (.inr (.inr (1, 0, 1)))), some (.inl (iZ (p))), some (.inl (iZ (max (wmS S) ((max (grS S) p) - alB (bkS S) (ntS S))))), some (.inl (iZ (0))), some (.inl (iZ (0)))], [.inr (.inr (.inr (1, 0, 1))), .inl (iZ (0))], h)) rfl ?_
  refine Ev.gfr (r := (25, 6, 31)) rfl (sh_1_5 sh) ?_
  refine Ev.sts 1 (c' := (44, [some (.inr (.inr (.inr (1, 0, 1)))), some (.inl (iZ (p))), some (.inl (iZ (max (wmS S) ((max (grS S) p) - alB (bkS S) (ntS S))))), some (.inl (iZ (0))), some (.inl (iZ (0)))], [.inl (iZ (0)), .inr (.inr (.inr (25, 6, 31))), .inl (iZ (0))], h)) rfl ?_
  refine Ev.ldv (j := (iZ (0))) (n := 6) (w := .inr (.inr (.inr (10, 0, 32)))) (by decide) rfl (congrArg vR (sh_31_0 sh)) ?_
  refine Ev.sts 1 (c' := (46, [some (.inr (.inr (.inr (1, 0, 1)))), some (.inl (iZ (p))), some (.inl (iZ (max (wmS S) ((max (grS S) p) - alB (bkS S) (ntS S))))), some (.inl (iZ (0))), some (.inl (iZ (0)))], [.inl (iZ (max (wmS S) ((max (grS S) p) - alB (bkS S) (ntS S)))), .inr (.inr (.inr (10, 0, 32))), .inl (iZ (0))], h)) rfl ?_
  refine Ev.callv (a := [.inr (.inr (.inr (10, 0, 32))), .inl (iZ (max (wmS S) ((max (grS S) p) - alB (bkS S) (ntS S))))]) rfl (sp_countOver (g := 0) sh (by omega) (ci_ws I 0 (by omega)).1 (w14 0).1 (by omega) ⟨by omega, by omega⟩) ?_
  refine Ev.gv (w := (iZ (0 + (cntO (wdS S 0) (max (wmS S) ((max (grS S) p) - alB (bkS S) (ntS S))))))) rfl (iZ_add _ _) ?_
  refine Ev.sts 1 (c' := (51, [some (.inr (.inr (.inr (1, 0, 1)))), some (.inl (iZ (p))), some (.inl (iZ (max (wmS S) ((max (grS S) p) - alB (bkS S) (ntS S))))), some (.inl (iZ (0 + (cntO (wdS S 0) (max (wmS S) ((max (grS S) p) - alB (bkS S) (ntS S))))))), some (.inl (iZ (0)))], [], h)) rfl ?_
  refine Ev.stc (c1 := (54, [some (.inr (.inr (.inr (1, 0, 1)))), some (.inl (iZ (p))), some (.inl (iZ (max (wmS S) ((max (grS S) p) - alB (bkS S) (ntS S))))), some (.inl (iZ (0 + (cntO (wdS S 0) (max (wmS S) ((max (grS S) p) - alB (bkS S) (ntS S))))))), some (.inl ((iZ (0)) + (iZ (1))))], [], h)) (c2 := (54, [some (.inr (.inr (.inr (1, 0, 1)))), some (.inl (iZ (p))), some (.inl (iZ (max (wmS S) ((max (grS S) p) - alB (bkS S) (ntS S))))), some (.inl (iZ (0 + (cntO (wdS S 0) (max (wmS S) ((max (grS S) p) - alB (bkS S) (ntS S))))))), some (.inl (iZ (1)))], [], h)) rfl (by rw [iZ_add]; rfl) ?_
  refine Ev.sts 3 (c' := (30, [some (.inr (.inr (.inr (1, 0, 1)))), some (.inl (iZ (p))), some (.inl (iZ (max (wmS S) ((max (grS S) p) - alB (bkS S) (ntS S))))), some (.inl (iZ (0 + (cntO (wdS S 0) (max (wmS S) ((max (grS S) p) - alB (bkS S) (ntS S))))))), some (.inl (iZ (1)))], [.inr (.inr (.inr (1, 0, 1))), .inl (iZ (1))], h)) rfl ?_
  refine Ev.gfr (r := (25, 6, 31)) rfl (sh_1_5 sh) ?_
  refine Ev.sts 1 (c' := (34, [some (.inr (.inr (.inr (1, 0, 1)))), some (.inl (iZ (p))), some (.inl (iZ (max (wmS S) ((max (grS S) p) - alB (bkS S) (ntS S))))), some (.inl (iZ (0 + (cntO (wdS S 0) (max (wmS S) ((max (grS S) p) - alB (bkS S) (ntS S))))))), some (.inl (iZ (1)))], [.inl (iZ (6)), .inl (iZ (1))], h)) rfl ?_
  refine Ev.brF (p := (iZ (6)) ≤ (iZ (1))) (c1 := (57, [some (.inr (.inr (.inr (1, 0, 1)))), some (.inl (iZ (p))), some (.inl (iZ (max (wmS S) ((max (grS S) p) - alB (bkS S) (ntS S))))), some (.inl (iZ (0 + (cntO (wdS S 0) (max (wmS S) ((max (grS S) p) - alB (bkS S) (ntS S))))))), some (.inl (iZ (1)))], [], h)) (c2 := (37, [some (.inr (.inr (.inr (1, 0, 1)))), some (.inl (iZ (p))), some (.inl (iZ (max (wmS S) ((max (grS S) p) - alB (bkS S) (ntS S))))), some (.inl (iZ (0 + (cntO (wdS S 0) (max (wmS S) ((max (grS S) p) - alB (bkS S) (ntS S))))))), some (.inl (iZ (1)))], [], h)) (by decide) rfl ?_
  refine Ev.sts 2 (c' := (39, [some (.inr (.inr (.inr (1, 0, 1)))), some (.inl (iZ (p))), some (.inl (iZ (max (wmS S) ((max (grS S) p) - alB (bkS S) (ntS S))))), some (.inl (iZ (0 + (cntO (wdS S 0) (max (wmS S) ((max (grS S) p) - alB (bkS S) (ntS S))))))), some (.inl (iZ (1)))], [.inr (.inr (.inr (1, 0, 1))), .inl (iZ (0 + (cntO (wdS S 0) (max (wmS S) ((max (grS S) p) - alB (bkS S) (ntS S))))))], h)) rfl ?_
  refine Ev.gfr (r := (25, 6, 31)) rfl (sh_1_5 sh) ?_
  refine Ev.sts 1 (c' := (44, [some (.inr (.inr (.inr (1, 0, 1)))), some (.inl (iZ (p))), some (.inl (iZ (max (wmS S) ((max (grS S) p) - alB (bkS S) (ntS S))))), some (.inl (iZ (0 + (cntO (wdS S 0) (max (wmS S) ((max (grS S) p) - alB (bkS S) (ntS S))))))), some (.inl (iZ (1)))], [.inl (iZ (1)), .inr (.inr (.inr (25, 6, 31))), .inl (iZ (0 + (cntO (wdS S 0) (max (wmS S) ((max (grS S) p) - alB (bkS S) (ntS S))))))], h)) rfl ?_
  refine Ev.ldv (j := (iZ (1))) (n := 6) (w := .inr (.inr (.inr (10, 0, 37)))) (by decide) rfl (congrArg vR (sh_31_1 sh)) ?_
  refine Ev.sts 1 (c' := (46, [some (.inr (.inr (.inr (1, 0, 1)))), some (.inl (iZ (p))), some (.inl (iZ (max (wmS S) ((max (grS S) p) - alB (bkS S) (ntS S))))), some (.inl (iZ (0 + (cntO (wdS S 0) (max (wmS S) ((max (grS S) p) - alB (bkS S) (ntS S))))))), some (.inl (iZ (1)))], [.inl (iZ (max (wmS S) ((max (grS S) p) - alB (bkS S) (ntS S)))), .inr (.inr (.inr (10, 0, 37))), .inl (iZ (0 + (cntO (wdS S 0) (max (wmS S) ((max (grS S) p) - alB (bkS S) (ntS S))))))], h)) rfl ?_
  refine Ev.callv (a := [.inr (.inr (.inr (10, 0, 37))), .inl (iZ (max (wmS S) ((max (grS S) p) - alB (bkS S) (ntS S))))]) rfl (sp_countOver (g := 1) sh (by omega) (ci_ws I 1 (by omega)).1 (w14 1).1 (by omega) ⟨by omega, by omega⟩) ?_
  refine Ev.gv (w := (iZ ((0 + (cntO (wdS S 0) (max (wmS S) ((max (grS S) p) - alB (bkS S) (ntS S))))) + (cntO (wdS S 1) (max (wmS S) ((max (grS S) p) - alB (bkS S) (ntS S))))))) rfl (iZ_add _ _) ?_
  refine Ev.sts 1 (c' := (51, [some (.inr (.inr (.inr (1, 0, 1)))), some (.inl (iZ (p))), some (.inl (iZ (max (wmS S) ((max (grS S) p) - alB (bkS S) (ntS S))))), some (.inl (iZ ((0 + (cntO (wdS S 0) (max (wmS S) ((max (grS S) p) - alB (bkS S) (ntS S))))) + (cntO (wdS S 1) (max (wmS S) ((max (grS S) p) - alB (bkS S) (ntS S))))))), some (.inl (iZ (1)))], [], h)) rfl ?_
  refine Ev.stc (c1 := (54, [some (.inr (.inr (.inr (1, 0, 1)))), some (.inl (iZ (p))), some (.inl (iZ (max (wmS S) ((max (grS S) p) - alB (bkS S) (ntS S))))), some (.inl (iZ ((0 + (cntO (wdS S 0) (max (wmS S) ((max (grS S) p) - alB (bkS S) (ntS S))))) + (cntO (wdS S 1) (max (wmS S) ((max (grS S) p) - alB (bkS S) (ntS S))))))), some (.inl ((iZ (1)) + (iZ (1))))], [], h)) (c2 := (54, [some (.inr (.inr (.inr (1, 0, 1)))), some (.inl (iZ (p))), some (.inl (iZ (max (wmS S) ((max (grS S) p) - alB (bkS S) (ntS S))))), some (.inl (iZ ((0 + (cntO (wdS S 0) (max (wmS S) ((max (grS S) p) - alB (bkS S) (ntS S))))) + (cntO (wdS S 1) (max (wmS S) ((max (grS S) p) - alB (bkS S) (ntS S))))))), some (.inl (iZ (2)))], [], h)) rfl (by rw [iZ_add]; rfl) ?_
  refine Ev.sts 3 (c' := (30, [some (.inr (.inr (.inr (1, 0, 1)))), some (.inl (iZ (p))), some (.inl (iZ (max (wmS S) ((max (grS S) p) - alB (bkS S) (ntS S))))), some (.inl (iZ ((0 + (cntO (wdS S 0) (max (wmS S) ((max (grS S) p) - alB (bkS S) (ntS S))))) + (cntO (wdS S 1) (max (wmS S) ((max (grS S) p) - alB (bkS S) (ntS S))))))), some (.inl (iZ (2)))], [.inr (.inr (.inr (1, 0, 1))), .inl (iZ (2))], h)) rfl ?_
  refine Ev.gfr (r := (25, 6, 31)) rfl (sh_1_5 sh) ?_
  refine Ev.sts 1 (c' := (34, [some (.inr (.inr (.inr (1, 0, 1)))), some (.inl (iZ (p))), some (.inl (iZ (max (wmS S) ((max (grS S) p) - alB (bkS S) (ntS S))))), some (.inl (iZ ((0 + (cntO (wdS S 0) (max (wmS S) ((max (grS S) p) - alB (bkS S) (ntS S))))) + (cntO (wdS S 1) (max (wmS S) ((max (grS S) p) - alB (bkS S) (ntS S))))))), some (.inl (iZ (2)))], [.inl (iZ (6)), .inl (iZ (2))], h)) rfl ?_
  refine Ev.brF (p := (iZ (6)) ≤ (iZ (2))) (c1 := (57, [some (.inr (.inr (.inr (1, 0, 1)))), some (.inl (iZ (p))), some (.inl (iZ (max (wmS S) ((max (grS S) p) - alB (bkS S) (ntS S))))), some (.inl (iZ ((0 + (cntO (wdS S 0) (max (wmS S) ((max (grS S) p) - alB (bkS S) (ntS S))))) + (cntO (wdS S 1) (max (wmS S) ((max (grS S) p) - alB (bkS S) (ntS S))))))), some (.inl (iZ (2)))], [], h)) (c2 := (37, [some (.inr (.inr (.inr (1, 0, 1)))), some (.inl (iZ (p))), some (.inl (iZ (max (wmS S) ((max (grS S) p) - alB (bkS S) (ntS S))))), some (.inl (iZ ((0 + (cntO (wdS S 0) (max (wmS S) ((max (grS S) p) - alB (bkS S) (ntS S))))) + (cntO (wdS S 1) (max (wmS S) ((max (grS S) p) - alB (bkS S) (ntS S))))))), some (.inl (iZ (2)))], [], h)) (by decide) rfl ?_
  refine Ev.sts 2 (c' := (39, [some (.inr (.inr (.inr (1, 0, 1)))), some (.inl (iZ (p))), some (.inl (iZ (max (wmS S) ((max (grS S) p) - alB (bkS S) (ntS S))))), some (.inl (iZ ((0 + (cntO (wdS S 0) (max (wmS S) ((max (grS S) p) - alB (bkS S) (ntS S))))) + (cntO (wdS S 1) (max (wmS S) ((max (grS S) p) - alB (bkS S) (ntS S))))))), some (.inl (iZ (2)))], [.inr (.inr (.inr (1, 0, 1))), .inl (iZ ((0 + (cntO (wdS S 0) (max (wmS S) ((max (grS S) p) - alB (bkS S) (ntS S))))) + (cntO (wdS S 1) (max (wmS S) ((max (grS S) p) - alB (bkS S) (ntS S))))))], h)) rfl ?_
  refine Ev.gfr (r := (25, 6, 31)) rfl (sh_1_5 sh) ?_
  refine Ev.sts 1 (c' := (44, [some (.inr (.inr (.inr (1, 0, 1)))), some (.inl (iZ (p))), some (.inl (iZ (max (wmS S) ((max (grS S) p) - alB (bkS S) (ntS S))))), some (.inl (iZ ((0 + (cntO (wdS S 0) (max (wmS S) ((max (grS S) p) - alB (bkS S) (ntS S))))) + (cntO (wdS S 1) (max (wmS S) ((max (grS S) p) - alB (bkS S) (ntS S))))))), some (.inl (iZ (2)))], [.inl (iZ (2)), .inr (.inr (.inr (25, 6, 31))), .inl (iZ ((0 + (cntO (wdS S 0) (max (wmS S) ((max (grS S) p) - alB (bkS S) (ntS S))))) + (cntO (wdS S 1) (max (wmS S) ((max (grS S) p) - alB (bkS S) (ntS S))))))], h)) rfl ?_
  refine Ev.ldv (j := (iZ (2))) (n := 6) (w := .inr (.inr (.inr (10, 0, 42)))) (by decide) rfl (congrArg vR (sh_31_2 sh)) ?_
  refine Ev.sts 1 (c' := (46, [some (.inr (.inr (.inr (1, 0, 1)))), some (.inl (iZ (p))), some (.inl (iZ (max (wmS S) ((max (grS S) p) - alB (bkS S) (ntS S))))), some (.inl (iZ ((0 + (cntO (wdS S 0) (max (wmS S) ((max (grS S) p) - alB (bkS S) (ntS S))))) + (cntO (wdS S 1) (max (wmS S) ((max (grS S) p) - alB (bkS S) (ntS S))))))), some (.inl (iZ (2)))], [.inl (iZ (max (wmS S) ((max (grS S) p) - alB (bkS S) (ntS S)))), .inr (.inr (.inr (10, 0, 42))), .inl (iZ ((0 + (cntO (wdS S 0) (max (wmS S) ((max (grS S) p) - alB (bkS S) (ntS S))))) + (cntO (wdS S 1) (max (wmS S) ((max (grS S) p) - alB (bkS S) (ntS S))))))], h)) rfl ?_
  refine Ev.callv (a := [.inr (.inr (.inr (10, 0, 42))), .inl (iZ (max (wmS S) ((max (grS S) p) - alB (bkS S) (ntS S))))]) rfl (sp_countOver (g := 2) sh (by omega) (ci_ws I 2 (by omega)).1 (w14 2).1 (by omega) ⟨by omega, by omega⟩) ?_
  refine Ev.gv (w := (iZ (((0 + (cntO (wdS S 0) (max (wmS S) ((max (grS S) p) - alB (bkS S) (ntS S))))) + (cntO (wdS S 1) (max (wmS S) ((max (grS S) p) - alB (bkS S) (ntS S))))) + (cntO (wdS S 2) (max (wmS S) ((max (grS S) p) - alB (bkS S) (ntS S))))))) rfl (iZ_add _ _) ?_
  refine Ev.sts 1 (c' := (51, [some (.inr (.inr (.inr (1, 0, 1)))), some (.inl (iZ (p))), some (.inl (iZ (max (wmS S) ((max (grS S) p) - alB (bkS S) (ntS S))))), some (.inl (iZ (((0 + (cntO (wdS S 0) (max (wmS S) ((max (grS S) p) - alB (bkS S) (ntS S))))) + (cntO (wdS S 1) (max (wmS S) ((max (grS S) p) - alB (bkS S) (ntS S))))) + (cntO (wdS S 2) (max (wmS S) ((max (grS S) p) - alB (bkS S) (ntS S))))))), some (.inl (iZ (2)))], [], h)) rfl ?_
  refine Ev.stc (c1 := (54, [some (.inr (.inr (.inr (1, 0, 1)))), some (.inl (iZ (p))), some (.inl (iZ (max (wmS S) ((max (grS S) p) - alB (bkS S) (ntS S))))), some (.inl (iZ (((0 + (cntO (wdS S 0) (max (wmS S) ((max (grS S) p) - alB (bkS S) (ntS S))))) + (cntO (wdS S 1) (max (wmS S) ((max (grS S) p) - alB (bkS S) (ntS S))))) + (cntO (wdS S 2) (max (wmS S) ((max (grS S) p) - alB (bkS S) (ntS S))))))), some (.inl ((iZ (2)) + (iZ (1))))], [], h)) (c2 := (54, [some (.inr (.inr (.inr (1, 0, 1)))), some (.inl (iZ (p))), some (.inl (iZ (max (wmS S) ((max (grS S) p) - alB (bkS S) (ntS S))))), some (.inl (iZ (((0 + (cntO (wdS S 0) (max (wmS S) ((max (grS S) p) - alB (bkS S) (ntS S))))) + (cntO (wdS S 1) (max (wmS S) ((max (grS S) p) - alB (bkS S) (ntS S))))) + (cntO (wdS S 2) (max (wmS S) ((max (grS S) p) - alB (bkS S) (ntS S))))))), some (.inl (iZ (3)))], [], h)) rfl (by rw [iZ_add]; rfl) ?_
  refine Ev.sts 3 (c' := (30, [some (.inr (.inr (.inr (1, 0, 1)))), some (.inl (iZ (p))), some (.inl (iZ (max (wmS S) ((max (grS S) p) - alB (bkS S) (ntS S))))), some (.inl (iZ (((0 + (cntO (wdS S 0) (max (wmS S) ((max (grS S) p) - alB (bkS S) (ntS S))))) + (cntO (wdS S 1) (max (wmS S) ((max (grS S) p) - alB (bkS S) (ntS S))))) + (cntO (wdS S 2) (max (wmS S) ((max (grS S) p) - alB (bkS S) (ntS S))))))), some (.inl (iZ (3)))], [.inr (.inr (.inr (1, 0, 1))), .inl (iZ (3))], h)) rfl ?_
  refine Ev.gfr (r := (25, 6, 31)) rfl (sh_1_5 sh) ?_
  refine Ev.sts 1 (c' := (34, [some (.inr (.inr (.inr (1, 0, 1)))), some (.inl (iZ (p))), some (.inl (iZ (max (wmS S) ((max (grS S) p) - alB (bkS S) (ntS S))))), some (.inl (iZ (((0 + (cntO (wdS S 0) (max (wmS S) ((max (grS S) p) - alB (bkS S) (ntS S))))) + (cntO (wdS S 1) (max (wmS S) ((max (grS S) p) - alB (bkS S) (ntS S))))) + (cntO (wdS S 2) (max (wmS S) ((max (grS S) p) - alB (bkS S) (ntS S))))))), some (.inl (iZ (3)))], [.inl (iZ (6)), .inl (iZ (3))], h)) rfl ?_
  refine Ev.brF (p := (iZ (6)) ≤ (iZ (3))) (c1 := (57, [some (.inr (.inr (.inr (1, 0, 1)))), some (.inl (iZ (p))), some (.inl (iZ (max (wmS S) ((max (grS S) p) - alB (bkS S) (ntS S))))), some (.inl (iZ (((0 + (cntO (wdS S 0) (max (wmS S) ((max (grS S) p) - alB (bkS S) (ntS S))))) + (cntO (wdS S 1) (max (wmS S) ((max (grS S) p) - alB (bkS S) (ntS S))))) + (cntO (wdS S 2) (max (wmS S) ((max (grS S) p) - alB (bkS S) (ntS S))))))), some (.inl (iZ (3)))], [], h)) (c2 := (37, [some (.inr (.inr (.inr (1, 0, 1)))), some (.inl (iZ (p))), some (.inl (iZ (max (wmS S) ((max (grS S) p) - alB (bkS S) (ntS S))))), some (.inl (iZ (((0 + (cntO (wdS S 0) (max (wmS S) ((max (grS S) p) - alB (bkS S) (ntS S))))) + (cntO (wdS S 1) (max (wmS S) ((max (grS S) p) - alB (bkS S) (ntS S))))) + (cntO (wdS S 2) (max (wmS S) ((max (grS S) p) - alB (bkS S) (ntS S))))))), some (.inl (iZ (3)))], [], h)) (by decide) rfl ?_
  refine Ev.sts 2 (c' := (39, [some (.inr (.inr (.inr (1, 0, 1)))), some (.inl (iZ (p))), some (.inl (iZ (max (wmS S) ((max (grS S) p) - alB (bkS S) (ntS S))))), some (.inl (iZ (((0 + (cntO (wdS S 0) (max (wmS S) ((max (grS S) p) - alB (bkS S) (ntS S))))) + (cntO (wdS S 1) (max (wmS S) ((max (grS S) p) - alB (bkS S) (ntS S))))) + (cntO (wdS S 2) (max (wmS S) ((max (grS S) p) - alB (bkS S) (ntS S))))))), some (.inl (iZ (3)))], [.inr (.inr (.inr (1, 0, 1))), .inl (iZ (((0 + (cntO (wdS S 0) (max (wmS S) ((max (grS S) p) - alB (bkS S) (ntS S))))) + (cntO (wdS S 1) (max (wmS S) ((max (grS S) p) - alB (bkS S) (ntS S))))) + (cntO (wdS S 2) (max (wmS S) ((max (grS S) p) - alB (bkS S) (ntS S))))))], h)) rfl ?_
  refine Ev.gfr (r := (25, 6, 31)) rfl (sh_1_5 sh) ?_
  refine Ev.sts 1 (c' := (44, [some (.inr (.inr (.inr (1, 0, 1)))), some (.inl (iZ (p))), some (.inl (iZ (max (wmS S) ((max (grS S) p) - alB (bkS S) (ntS S))))), some (.inl (iZ (((0 + (cntO (wdS S 0) (max (wmS S) ((max (grS S) p) - alB (bkS S) (ntS S))))) + (cntO (wdS S 1) (max (wmS S) ((max (grS S) p) - alB (bkS S) (ntS S))))) + (cntO (wdS S 2) (max (wmS S) ((max (grS S) p) - alB (bkS S) (ntS S))))))), some (.inl (iZ (3)))], [.inl (iZ (3)), .inr (.inr (.inr (25, 6, 31))), .inl (iZ (((0 + (cntO (wdS S 0) (max (wmS S) ((max (grS S) p) - alB (bkS S) (ntS S))))) + (cntO (wdS S 1) (max (wmS S) ((max (grS S) p) - alB (bkS S) (ntS S))))) + (cntO (wdS S 2) (max (wmS S) ((max (grS S) p) - alB (bkS S) (ntS S))))))], h)) rfl ?_
  refine Ev.ldv (j := (iZ (3))) (n := 6) (w := .inr (.inr (.inr (10, 0, 47)))) (by decide) rfl (congrArg vR (sh_31_3 sh)) ?_
  refine Ev.sts 1 (c' := (46, [some (.inr (.inr (.inr (1, 0, 1)))), some (.inl (iZ (p))), some (.inl (iZ (max (wmS S) ((max (grS S) p) - alB (bkS S) (ntS S))))), some (.inl (iZ (((0 + (cntO (wdS S 0) (max (wmS S) ((max (grS S) p) - alB (bkS S) (ntS S))))) + (cntO (wdS S 1) (max (wmS S) ((max (grS S) p) - alB (bkS S) (ntS S))))) + (cntO (wdS S 2) (max (wmS S) ((max (grS S) p) - alB (bkS S) (ntS S))))))), some (.inl (iZ (3)))], [.inl (iZ (max (wmS S) ((max (grS S) p) - alB (bkS S) (ntS S)))), .inr (.inr (.inr (10, 0, 47))), .inl (iZ (((0 + (cntO (wdS S 0) (max (wmS S) ((max (grS S) p) - alB (bkS S) (ntS S))))) + (cntO (wdS S 1) (max (wmS S) ((max (grS S) p) - alB (bkS S) (ntS S))))) + (cntO (wdS S 2) (max (wmS S) ((max (grS S) p) - alB (bkS S) (ntS S))))))], h)) rfl ?_
  refine Ev.callv (a := [.inr (.inr (.inr (10, 0, 47))), .inl (iZ (max (wmS S) ((max (grS S) p) - alB (bkS S) (ntS S))))]) rfl (sp_countOver (g := 3) sh (by omega) (ci_ws I 3 (by omega)).1 (w14 3).1 (by omega) ⟨by omega, by omega⟩) ?_
  refine Ev.gv (w := (iZ ((((0 + (cntO (wdS S 0) (max (wmS S) ((max (grS S) p) - alB (bkS S) (ntS S))))) + (cntO (wdS S 1) (max (wmS S) ((max (grS S) p) - alB (bkS S) (ntS S))))) + (cntO (wdS S 2) (max (wmS S) ((max (grS S) p) - alB (bkS S) (ntS S))))) + (cntO (wdS S 3) (max (wmS S) ((max (grS S) p) - alB (bkS S) (ntS S))))))) rfl (iZ_add _ _) ?_
  refine Ev.sts 1 (c' := (51, [some (.inr (.inr (.inr (1, 0, 1)))), some (.inl (iZ (p))), some (.inl (iZ (max (wmS S) ((max (grS S) p) - alB (bkS S) (ntS S))))), some (.inl (iZ ((((0 + (cntO (wdS S 0) (max (wmS S) ((max (grS S) p) - alB (bkS S) (ntS S))))) + (cntO (wdS S 1) (max (wmS S) ((max (grS S) p) - alB (bkS S) (ntS S))))) + (cntO (wdS S 2) (max (wmS S) ((max (grS S) p) - alB (bkS S) (ntS S))))) + (cntO (wdS S 3) (max (wmS S) ((max (grS S) p) - alB (bkS S) (ntS S))))))), some (.inl (iZ (3)))], [], h)) rfl ?_
  refine Ev.stc (c1 := (54, [some (.inr (.inr (.inr (1, 0, 1)))), some (.inl (iZ (p))), some (.inl (iZ (max (wmS S) ((max (grS S) p) - alB (bkS S) (ntS S))))), some (.inl (iZ ((((0 + (cntO (wdS S 0) (max (wmS S) ((max (grS S) p) - alB (bkS S) (ntS S))))) + (cntO (wdS S 1) (max (wmS S) ((max (grS S) p) - alB (bkS S) (ntS S))))) + (cntO (wdS S 2) (max (wmS S) ((max (grS S) p) - alB (bkS S) (ntS S))))) + (cntO (wdS S 3) (max (wmS S) ((max (grS S) p) - alB (bkS S) (ntS S))))))), some (.inl ((iZ (3)) + (iZ (1))))], [], h)) (c2 := (54, [some (.inr (.inr (.inr (1, 0, 1)))), some (.inl (iZ (p))), some (.inl (iZ (max (wmS S) ((max (grS S) p) - alB (bkS S) (ntS S))))), some (.inl (iZ ((((0 + (cntO (wdS S 0) (max (wmS S) ((max (grS S) p) - alB (bkS S) (ntS S))))) + (cntO (wdS S 1) (max (wmS S) ((max (grS S) p) - alB (bkS S) (ntS S))))) + (cntO (wdS S 2) (max (wmS S) ((max (grS S) p) - alB (bkS S) (ntS S))))) + (cntO (wdS S 3) (max (wmS S) ((max (grS S) p) - alB (bkS S) (ntS S))))))), some (.inl (iZ (4)))], [], h)) rfl (by rw [iZ_add]; rfl) ?_
  refine Ev.sts 3 (c' := (30, [some (.inr (.inr (.inr (1, 0, 1)))), some (.inl (iZ (p))), some (.inl (iZ (max (wmS S) ((max (grS S) p) - alB (bkS S) (ntS S))))), some (.inl (iZ ((((0 + (cntO (wdS S 0) (max (wmS S) ((max (grS S) p) - alB (bkS S) (ntS S))))) + (cntO (wdS S 1) (max (wmS S) ((max (grS S) p) - alB (bkS S) (ntS S))))) + (cntO (wdS S 2) (max (wmS S) ((max (grS S) p) - alB (bkS S) (ntS S))))) + (cntO (wdS S 3) (max (wmS S) ((max (grS S) p) - alB (bkS S) (ntS S))))))), some (.inl (iZ (4)))], [.inr (.inr (.inr (1, 0, 1))), .inl (iZ (4))], h)) rfl ?_
  refine Ev.gfr (r := (25, 6, 31)) rfl (sh_1_5 sh) ?_
  refine Ev.sts 1 (c' := (34, [some (.inr (.inr (.inr (1, 0, 1)))), some (.inl (iZ (p))), some (.inl (iZ (max (wmS S) ((max (grS S) p) - alB (bkS S) (ntS S))))), some (.inl (iZ ((((0 + (cntO (wdS S 0) (max (wmS S) ((max (grS S) p) - alB (bkS S) (ntS S))))) + (cntO (wdS S 1) (max (wmS S) ((max (grS S) p) - alB (bkS S) (ntS S))))) + (cntO (wdS S 2) (max (wmS S) ((max (grS S) p) - alB (bkS S) (ntS S))))) + (cntO (wdS S 3) (max (wmS S) ((max (grS S) p) - alB (bkS S) (ntS S))))))), some (.inl (iZ (4)))], [.inl (iZ (6)), .inl (iZ (4))], h)) rfl ?_
  refine Ev.brF (p := (iZ (6)) ≤ (iZ (4))) (c1 := (57, [some (.inr (.inr (.inr (1, 0, 1)))), some (.inl (iZ (p))), some (.inl (iZ (max (wmS S) ((max (grS S) p) - alB (bkS S) (ntS S))))), some (.inl (iZ ((((0 + (cntO (wdS S 0) (max (wmS S) ((max (grS S) p) - alB (bkS S) (ntS S))))) + (cntO (wdS S 1) (max (wmS S) ((max (grS S) p) - alB (bkS S) (ntS S))))) + (cntO (wdS S 2) (max (wmS S) ((max (grS S) p) - alB (bkS S) (ntS S))))) + (cntO (wdS S 3) (max (wmS S) ((max (grS S) p) - alB (bkS S) (ntS S))))))), some (.inl (iZ (4)))], [], h)) (c2 := (37, [some (.inr (.inr (.inr (1, 0, 1)))), some (.inl (iZ (p))), some (.inl (iZ (max (wmS S) ((max (grS S) p) - alB (bkS S) (ntS S))))), some (.inl (iZ ((((0 + (cntO (wdS S 0) (max (wmS S) ((max (grS S) p) - alB (bkS S) (ntS S))))) + (cntO (wdS S 1) (max (wmS S) ((max (grS S) p) - alB (bkS S) (ntS S))))) + (cntO (wdS S 2) (max (wmS S) ((max (grS S) p) - alB (bkS S) (ntS S))))) + (cntO (wdS S 3) (max (wmS S) ((max (grS S) p) - alB (bkS S) (ntS S))))))), some (.inl (iZ (4)))], [], h)) (by decide) rfl ?_
  refine Ev.sts 2 (c' := (39, [some (.inr (.inr (.inr (1, 0, 1)))), some (.inl (iZ (p))), some (.inl (iZ (max (wmS S) ((max (grS S) p) - alB (bkS S) (ntS S))))), some (.inl (iZ ((((0 + (cntO (wdS S 0) (max (wmS S) ((max (grS S) p) - alB (bkS S) (ntS S))))) + (cntO (wdS S 1) (max (wmS S) ((max (grS S) p) - alB (bkS S) (ntS S))))) + (cntO (wdS S 2) (max (wmS S) ((max (grS S) p) - alB (bkS S) (ntS S))))) + (cntO (wdS S 3) (max (wmS S) ((max (grS S) p) - alB (bkS S) (ntS S))))))), some (.inl (iZ (4)))], [.inr (.inr (.inr (1, 0, 1))), .inl (iZ ((((0 + (cntO (wdS S 0) (max (wmS S) ((max (grS S) p) - alB (bkS S) (ntS S))))) + (cntO (wdS S 1) (max (wmS S) ((max (grS S) p) - alB (bkS S) (ntS S))))) + (cntO (wdS S 2) (max (wmS S) ((max (grS S) p) - alB (bkS S) (ntS S))))) + (cntO (wdS S 3) (max (wmS S) ((max (grS S) p) - alB (bkS S) (ntS S))))))], h)) rfl ?_
  refine Ev.gfr (r := (25, 6, 31)) rfl (sh_1_5 sh) ?_
  refine Ev.sts 1 (c' := (44, [some (.inr (.inr (.inr (1, 0, 1)))), some (.inl (iZ (p))), some (.inl (iZ (max (wmS S) ((max (grS S) p) - alB (bkS S) (ntS S))))), some (.inl (iZ ((((0 + (cntO (wdS S 0) (max (wmS S) ((max (grS S) p) - alB (bkS S) (ntS S))))) + (cntO (wdS S 1) (max (wmS S) ((max (grS S) p) - alB (bkS S) (ntS S))))) + (cntO (wdS S 2) (max (wmS S) ((max (grS S) p) - alB (bkS S) (ntS S))))) + (cntO (wdS S 3) (max (wmS S) ((max (grS S) p) - alB (bkS S) (ntS S))))))), some (.inl (iZ (4)))], [.inl (iZ (4)), .inr (.inr (.inr (25, 6, 31))), .inl (iZ ((((0 + (cntO (wdS S 0) (max (wmS S) ((max (grS S) p) - alB (bkS S) (ntS S))))) + (cntO (wdS S 1) (max (wmS S) ((max (grS S) p) - alB (bkS S) (ntS S))))) + (cntO (wdS S 2) (max (wmS S) ((max (grS S) p) - alB (bkS S) (ntS S))))) + (cntO (wdS S 3) (max (wmS S) ((max (grS S) p) - alB (bkS S) (ntS S))))))], h)) rfl ?_
  refine Ev.ldv (j := (iZ (4))) (n := 6) (w := .inr (.inr (.inr (10, 0, 52)))) (by decide) rfl (congrArg vR (sh_31_4 sh)) ?_
  refine Ev.sts 1 (c' := (46, [some (.inr (.inr (.inr (1, 0, 1)))), some (.inl (iZ (p))), some (.inl (iZ (max (wmS S) ((max (grS S) p) - alB (bkS S) (ntS S))))), some (.inl (iZ ((((0 + (cntO (wdS S 0) (max (wmS S) ((max (grS S) p) - alB (bkS S) (ntS S))))) + (cntO (wdS S 1) (max (wmS S) ((max (grS S) p) - alB (bkS S) (ntS S))))) + (cntO (wdS S 2) (max (wmS S) ((max (grS S) p) - alB (bkS S) (ntS S))))) + (cntO (wdS S 3) (max (wmS S) ((max (grS S) p) - alB (bkS S) (ntS S))))))), some (.inl (iZ (4)))], [.inl (iZ (max (wmS S) ((max (grS S) p) - alB (bkS S) (ntS S)))), .inr (.inr (.inr (10, 0, 52))), .inl (iZ ((((0 + (cntO (wdS S 0) (max (wmS S) ((max (grS S) p) - alB (bkS S) (ntS S))))) + (cntO (wdS S 1) (max (wmS S) ((max (grS S) p) - alB (bkS S) (ntS S))))) + (cntO (wdS S 2) (max (wmS S) ((max (grS S) p) - alB (bkS S) (ntS S))))) + (cntO (wdS S 3) (max (wmS S) ((max (grS S) p) - alB (bkS S) (ntS S))))))], h)) rfl ?_
  refine Ev.callv (a := [.inr (.inr (.inr (10, 0, 52))), .inl (iZ (max (wmS S) ((max (grS S) p) - alB (bkS S) (ntS S))))]) rfl (sp_countOver (g := 4) sh (by omega) (ci_ws I 4 (by omega)).1 (w14 4).1 (by omega) ⟨by omega, by omega⟩) ?_
  refine Ev.gv (w := (iZ (((((0 + (cntO (wdS S 0) (max (wmS S) ((max (grS S) p) - alB (bkS S) (ntS S))))) + (cntO (wdS S 1) (max (wmS S) ((max (grS S) p) - alB (bkS S) (ntS S))))) + (cntO (wdS S 2) (max (wmS S) ((max (grS S) p) - alB (bkS S) (ntS S))))) + (cntO (wdS S 3) (max (wmS S) ((max (grS S) p) - alB (bkS S) (ntS S))))) + (cntO (wdS S 4) (max (wmS S) ((max (grS S) p) - alB (bkS S) (ntS S))))))) rfl (iZ_add _ _) ?_
  refine Ev.sts 1 (c' := (51, [some (.inr (.inr (.inr (1, 0, 1)))), some (.inl (iZ (p))), some (.inl (iZ (max (wmS S) ((max (grS S) p) - alB (bkS S) (ntS S))))), some (.inl (iZ (((((0 + (cntO (wdS S 0) (max (wmS S) ((max (grS S) p) - alB (bkS S) (ntS S))))) + (cntO (wdS S 1) (max (wmS S) ((max (grS S) p) - alB (bkS S) (ntS S))))) + (cntO (wdS S 2) (max (wmS S) ((max (grS S) p) - alB (bkS S) (ntS S))))) + (cntO (wdS S 3) (max (wmS S) ((max (grS S) p) - alB (bkS S) (ntS S))))) + (cntO (wdS S 4) (max (wmS S) ((max (grS S) p) - alB (bkS S) (ntS S))))))), some (.inl (iZ (4)))], [], h)) rfl ?_
  refine Ev.stc (c1 := (54, [some (.inr (.inr (.inr (1, 0, 1)))), some (.inl (iZ (p))), some (.inl (iZ (max (wmS S) ((max (grS S) p) - alB (bkS S) (ntS S))))), some (.inl (iZ (((((0 + (cntO (wdS S 0) (max (wmS S) ((max (grS S) p) - alB (bkS S) (ntS S))))) + (cntO (wdS S 1) (max (wmS S) ((max (grS S) p) - alB (bkS S) (ntS S))))) + (cntO (wdS S 2) (max (wmS S) ((max (grS S) p) - alB (bkS S) (ntS S))))) + (cntO (wdS S 3) (max (wmS S) ((max (grS S) p) - alB (bkS S) (ntS S))))) + (cntO (wdS S 4) (max (wmS S) ((max (grS S) p) - alB (bkS S) (ntS S))))))), some (.inl ((iZ (4)) + (iZ (1))))], [], h)) (c2 := (54, [some (.inr (.inr (.inr (1, 0, 1)))), some (.inl (iZ (p))), some (.inl (iZ (max (wmS S) ((max (grS S) p) - alB (bkS S) (ntS S))))), some (.inl (iZ (((((0 + (cntO (wdS S 0) (max (wmS S) ((max (grS S) p) - alB (bkS S) (ntS S))))) + (cntO (wdS S 1) (max (wmS S) ((max (grS S) p) - alB (bkS S) (ntS S))))) + (cntO (wdS S 2) (max (wmS S) ((max (grS S) p) - alB (bkS S) (ntS S))))) + (cntO (wdS S 3) (max (wmS S) ((max (grS S) p) - alB (bkS S) (ntS S))))) + (cntO (wdS S 4) (max (wmS S) ((max (grS S) p) - alB (bkS S) (ntS S))))))), some (.inl (iZ (5)))], [], h)) rfl (by rw [iZ_add]; rfl) ?_
  refine Ev.sts 3 (c' := (30, [some (.inr (.inr (.inr (1, 0, 1)))), some (.inl (iZ (p))), some (.inl (iZ (max (wmS S) ((max (grS S) p) - alB (bkS S) (ntS S))))), some (.inl (iZ (((((0 + (cntO (wdS S 0) (max (wmS S) ((max (grS S) p) - alB (bkS S) (ntS S))))) + (cntO (wdS S 1) (max (wmS S) ((max (grS S) p) - alB (bkS S) (ntS S))))) + (cntO (wdS S 2) (max (wmS S) ((max (grS S) p) - alB (bkS S) (ntS S))))) + (cntO (wdS S 3) (max (wmS S) ((max (grS S) p) - alB (bkS S) (ntS S))))) + (cntO (wdS S 4) (max (wmS S) ((max (grS S) p) - alB (bkS S) (ntS S))))))), some (.inl (iZ (5)))], [.inr (.inr (.inr (1, 0, 1))), .inl (iZ (5))], h)) rfl ?_
  refine Ev.gfr (r := (25, 6, 31)) rfl (sh_1_5 sh) ?_
  refine Ev.sts 1 (c' := (34, [some (.inr (.inr (.inr (1, 0, 1)))), some (.inl (iZ (p))), some (.inl (iZ (max (wmS S) ((max (grS S) p) - alB (bkS S) (ntS S))))), some (.inl (iZ (((((0 + (cntO (wdS S 0) (max (wmS S) ((max (grS S) p) - alB (bkS S) (ntS S))))) + (cntO (wdS S 1) (max (wmS S) ((max (grS S) p) - alB (bkS S) (ntS S))))) + (cntO (wdS S 2) (max (wmS S) ((max (grS S) p) - alB (bkS S) (ntS S))))) + (cntO (wdS S 3) (max (wmS S) ((max (grS S) p) - alB (bkS S) (ntS S))))) + (cntO (wdS S 4) (max (wmS S) ((max (grS S) p) - alB (bkS S) (ntS S))))))), some (.inl (iZ (5)))], [.inl (iZ (6)), .inl (iZ (5))], h)) rfl ?_
  refine Ev.brF (p := (iZ (6)) ≤ (iZ (5))) (c1 := (57, [some (.inr (.inr (.inr (1, 0, 1)))), some (.inl (iZ (p))), some (.inl (iZ (max (wmS S) ((max (grS S) p) - alB (bkS S) (ntS S))))), some (.inl (iZ (((((0 + (cntO (wdS S 0) (max (wmS S) ((max (grS S) p) - alB (bkS S) (ntS S))))) + (cntO (wdS S 1) (max (wmS S) ((max (grS S) p) - alB (bkS S) (ntS S))))) + (cntO (wdS S 2) (max (wmS S) ((max (grS S) p) - alB (bkS S) (ntS S))))) + (cntO (wdS S 3) (max (wmS S) ((max (grS S) p) - alB (bkS S) (ntS S))))) + (cntO (wdS S 4) (max (wmS S) ((max (grS S) p) - alB (bkS S) (ntS S))))))), some (.inl (iZ (5)))], [], h)) (c2 := (37, [some (.inr (.inr (.inr (1, 0, 1)))), some (.inl (iZ (p))), some (.inl (iZ (max (wmS S) ((max (grS S) p) - alB (bkS S) (ntS S))))), some (.inl (iZ (((((0 + (cntO (wdS S 0) (max (wmS S) ((max (grS S) p) - alB (bkS S) (ntS S))))) + (cntO (wdS S 1) (max (wmS S) ((max (grS S) p) - alB (bkS S) (ntS S))))) + (cntO (wdS S 2) (max (wmS S) ((max (grS S) p) - alB (bkS S) (ntS S))))) + (cntO (wdS S 3) (max (wmS S) ((max (grS S) p) - alB (bkS S) (ntS S))))) + (cntO (wdS S 4) (max (wmS S) ((max (grS S) p) - alB (bkS S) (ntS S))))))), some (.inl (iZ (5)))], [], h)) (by decide) rfl ?_
  refine Ev.sts 2 (c' := (39, [some (.inr (.inr (.inr (1, 0, 1)))), some (.inl (iZ (p))), some (.inl (iZ (max (wmS S) ((max (grS S) p) - alB (bkS S) (ntS S))))), some (.inl (iZ (((((0 + (cntO (wdS S 0) (max (wmS S) ((max (grS S) p) - alB (bkS S) (ntS S))))) + (cntO (wdS S 1) (max (wmS S) ((max (grS S) p) - alB (bkS S) (ntS S))))) + (cntO (wdS S 2) (max (wmS S) ((max (grS S) p) - alB (bkS S) (ntS S))))) + (cntO (wdS S 3) (max (wmS S) ((max (grS S) p) - alB (bkS S) (ntS S))))) + (cntO (wdS S 4) (max (wmS S) ((max (grS S) p) - alB (bkS S) (ntS S))))))), some (.inl (iZ (5)))], [.inr (.inr (.inr (1, 0, 1))), .inl (iZ (((((0 + (cntO (wdS S 0) (max (wmS S) ((max (grS S) p) - alB (bkS S) (ntS S))))) + (cntO (wdS S 1) (max (wmS S) ((max (grS S) p) - alB (bkS S) (ntS S))))) + (cntO (wdS S 2) (max (wmS S) ((max (grS S) p) - alB (bkS S) (ntS S))))) + (cntO (wdS S 3) (max (wmS S) ((max (grS S) p) - alB (bkS S) (ntS S))))) + (cntO (wdS S 4) (max (wmS S) ((max (grS S) p) - alB (bkS S) (ntS S))))))], h)) rfl ?_
  refine Ev.gfr (r := (25, 6, 31)) rfl (sh_1_5 sh) ?_
  refine Ev.sts 1 (c' := (44, [some (.inr (.inr (.inr (1, 0, 1)))), some (.inl (iZ (p))), some (.inl (iZ (max (wmS S) ((max (grS S) p) - alB (bkS S) (ntS S))))), some (.inl (iZ (((((0 + (cntO (wdS S 0) (max (wmS S) ((max (grS S) p) - alB (bkS S) (ntS S))))) + (cntO (wdS S 1) (max (wmS S) ((max (grS S) p) - alB (bkS S) (ntS S))))) + (cntO (wdS S 2) (max (wmS S) ((max (grS S) p) - alB (bkS S) (ntS S))))) + (cntO (wdS S 3) (max (wmS S) ((max (grS S) p) - alB (bkS S) (ntS S))))) + (cntO (wdS S 4) (max (wmS S) ((max (grS S) p) - alB (bkS S) (ntS S))))))), some (.inl (iZ (5)))], [.inl (iZ (5)), .inr (.inr (.inr (25, 6, 31))), .inl (iZ (((((0 + (cntO (wdS S 0) (max (wmS S) ((max (grS S) p) - alB (bkS S) (ntS S))))) + (cntO (wdS S 1) (max (wmS S) ((max (grS S) p) - alB (bkS S) (ntS S))))) + (cntO (wdS S 2) (max (wmS S) ((max (grS S) p) - alB (bkS S) (ntS S))))) + (cntO (wdS S 3) (max (wmS S) ((max (grS S) p) - alB (bkS S) (ntS S))))) + (cntO (wdS S 4) (max (wmS S) ((max (grS S) p) - alB (bkS S) (ntS S))))))], h)) rfl ?_
  refine Ev.ldv (j := (iZ (5))) (n := 6) (w := .inr (.inr (.inr (10, 0, 57)))) (by decide) rfl (congrArg vR (sh_31_5 sh)) ?_
  refine Ev.sts 1 (c' := (46, [some (.inr (.inr (.inr (1, 0, 1)))), some (.inl (iZ (p))), some (.inl (iZ (max (wmS S) ((max (grS S) p) - alB (bkS S) (ntS S))))), some (.inl (iZ (((((0 + (cntO (wdS S 0) (max (wmS S) ((max (grS S) p) - alB (bkS S) (ntS S))))) + (cntO (wdS S 1) (max (wmS S) ((max (grS S) p) - alB (bkS S) (ntS S))))) + (cntO (wdS S 2) (max (wmS S) ((max (grS S) p) - alB (bkS S) (ntS S))))) + (cntO (wdS S 3) (max (wmS S) ((max (grS S) p) - alB (bkS S) (ntS S))))) + (cntO (wdS S 4) (max (wmS S) ((max (grS S) p) - alB (bkS S) (ntS S))))))), some (.inl (iZ (5)))], [.inl (iZ (max (wmS S) ((max (grS S) p) - alB (bkS S) (ntS S)))), .inr (.inr (.inr (10, 0, 57))), .inl (iZ (((((0 + (cntO (wdS S 0) (max (wmS S) ((max (grS S) p) - alB (bkS S) (ntS S))))) + (cntO (wdS S 1) (max (wmS S) ((max (grS S) p) - alB (bkS S) (ntS S))))) + (cntO (wdS S 2) (max (wmS S) ((max (grS S) p) - alB (bkS S) (ntS S))))) + (cntO (wdS S 3) (max (wmS S) ((max (grS S) p) - alB (bkS S) (ntS S))))) + (cntO (wdS S 4) (max (wmS S) ((max (grS S) p) - alB (bkS S) (ntS S))))))], h)) rfl ?_
  refine Ev.callv (a := [.inr (.inr (.inr (10, 0, 57))), .inl (iZ (max (wmS S) ((max (grS S) p) - alB (bkS S) (ntS S))))]) rfl (sp_countOver (g := 5) sh (by omega) (ci_ws I 5 (by omega)).1 (w14 5).1 (by omega) ⟨by omega, by omega⟩) ?_
  refine Ev.gv (w := (iZ ((((((0 + (cntO (wdS S 0) (max (wmS S) ((max (grS S) p) - alB (bkS S) (ntS S))))) + (cntO (wdS S 1) (max (wmS S) ((max (grS S) p) - alB (bkS S) (ntS S))))) + (cntO (wdS S 2) (max (wmS S) ((max (grS S) p) - alB (bkS S) (ntS S))))) + (cntO (wdS S 3) (max (wmS S) ((max (grS S) p) - alB (bkS S) (ntS S))))) + (cntO (wdS S 4) (max (wmS S) ((max (grS S) p) - alB (bkS S) (ntS S))))) + (cntO (wdS S 5) (max (wmS S) ((max (grS S) p) - alB (bkS S) (ntS S))))))) rfl (iZ_add _ _) ?_
  refine Ev.sts 1 (c' := (51, [some (.inr (.inr (.inr (1, 0, 1)))), some (.inl (iZ (p))), some (.inl (iZ (max (wmS S) ((max (grS S) p) - alB (bkS S) (ntS S))))), some (.inl (iZ ((((((0 + (cntO (wdS S 0) (max (wmS S) ((max (grS S) p) - alB (bkS S) (ntS S))))) + (cntO (wdS S 1) (max (wmS S) ((max (grS S) p) - alB (bkS S) (ntS S))))) + (cntO (wdS S 2) (max (wmS S) ((max (grS S) p) - alB (bkS S) (ntS S))))) + (cntO (wdS S 3) (max (wmS S) ((max (grS S) p) - alB (bkS S) (ntS S))))) + (cntO (wdS S 4) (max (wmS S) ((max (grS S) p) - alB (bkS S) (ntS S))))) + (cntO (wdS S 5) (max (wmS S) ((max (grS S) p) - alB (bkS S) (ntS S))))))), some (.inl (iZ (5)))], [], h)) rfl ?_
  refine Ev.stc (c1 := (54, [some (.inr (.inr (.inr (1, 0, 1)))), some (.inl (iZ (p))), some (.inl (iZ (max (wmS S) ((max (grS S) p) - alB (bkS S) (ntS S))))), some (.inl (iZ ((((((0 + (cntO (wdS S 0) (max (wmS S) ((max (grS S) p) - alB (bkS S) (ntS S))))) + (cntO (wdS S 1) (max (wmS S) ((max (grS S) p) - alB (bkS S) (ntS S))))) + (cntO (wdS S 2) (max (wmS S) ((max (grS S) p) - alB (bkS S) (ntS S))))) + (cntO (wdS S 3) (max (wmS S) ((max (grS S) p) - alB (bkS S) (ntS S))))) + (cntO (wdS S 4) (max (wmS S) ((max (grS S) p) - alB (bkS S) (ntS S))))) + (cntO (wdS S 5) (max (wmS S) ((max (grS S) p) - alB (bkS S) (ntS S))))))), some (.inl ((iZ (5)) + (iZ (1))))], [], h)) (c2 := (54, [some (.inr (.inr (.inr (1, 0, 1)))), some (.inl (iZ (p))), some (.inl (iZ (max (wmS S) ((max (grS S) p) - alB (bkS S) (ntS S))))), some (.inl (iZ ((((((0 + (cntO (wdS S 0) (max (wmS S) ((max (grS S) p) - alB (bkS S) (ntS S))))) + (cntO (wdS S 1) (max (wmS S) ((max (grS S) p) - alB (bkS S) (ntS S))))) + (cntO (wdS S 2) (max (wmS S) ((max (grS S) p) - alB (bkS S) (ntS S))))) + (cntO (wdS S 3) (max (wmS S) ((max (grS S) p) - alB (bkS S) (ntS S))))) + (cntO (wdS S 4) (max (wmS S) ((max (grS S) p) - alB (bkS S) (ntS S))))) + (cntO (wdS S 5) (max (wmS S) ((max (grS S) p) - alB (bkS S) (ntS S))))))), some (.inl (iZ (6)))], [], h)) rfl (by rw [iZ_add]; rfl) ?_
  refine Ev.sts 3 (c' := (30, [some (.inr (.inr (.inr (1, 0, 1)))), some (.inl (iZ (p))), some (.inl (iZ (max (wmS S) ((max (grS S) p) - alB (bkS S) (ntS S))))), some (.inl (iZ ((((((0 + (cntO (wdS S 0) (max (wmS S) ((max (grS S) p) - alB (bkS S) (ntS S))))) + (cntO (wdS S 1) (max (wmS S) ((max (grS S) p) - alB (bkS S) (ntS S))))) + (cntO (wdS S 2) (max (wmS S) ((max (grS S) p) - alB (bkS S) (ntS S))))) + (cntO (wdS S 3) (max (wmS S) ((max (grS S) p) - alB (bkS S) (ntS S))))) + (cntO (wdS S 4) (max (wmS S) ((max (grS S) p) - alB (bkS S) (ntS S))))) + (cntO (wdS S 5) (max (wmS S) ((max (grS S) p) - alB (bkS S) (ntS S))))))), some (.inl (iZ (6)))], [.inr (.inr (.inr (1, 0, 1))), .inl (iZ (6))], h)) rfl ?_
  refine Ev.gfr (r := (25, 6, 31)) rfl (sh_1_5 sh) ?_
  refine Ev.sts 1 (c' := (34, [some (.inr (.inr (.inr (1, 0, 1)))), some (.inl (iZ (p))), some (.inl (iZ (max (wmS S) ((max (grS S) p) - alB (bkS S) (ntS S))))), some (.inl (iZ ((((((0 + (cntO (wdS S 0) (max (wmS S) ((max (grS S) p) - alB (bkS S) (ntS S))))) + (cntO (wdS S 1) (max (wmS S) ((max (grS S) p) - alB (bkS S) (ntS S))))) + (cntO (wdS S 2) (max (wmS S) ((max (grS S) p) - alB (bkS S) (ntS S))))) + (cntO (wdS S 3) (max (wmS S) ((max (grS S) p) - alB (bkS S) (ntS S))))) + (cntO (wdS S 4) (max (wmS S) ((max (grS S) p) - alB (bkS S) (ntS S))))) + (cntO (wdS S 5) (max (wmS S) ((max (grS S) p) - alB (bkS S) (ntS S))))))), some (.inl (iZ (6)))], [.inl (iZ (6)), .inl (iZ (6))], h)) rfl ?_
  refine Ev.brT (p := (iZ (6)) ≤ (iZ (6))) (c1 := (57, [some (.inr (.inr (.inr (1, 0, 1)))), some (.inl (iZ (p))), some (.inl (iZ (max (wmS S) ((max (grS S) p) - alB (bkS S) (ntS S))))), some (.inl (iZ ((((((0 + (cntO (wdS S 0) (max (wmS S) ((max (grS S) p) - alB (bkS S) (ntS S))))) + (cntO (wdS S 1) (max (wmS S) ((max (grS S) p) - alB (bkS S) (ntS S))))) + (cntO (wdS S 2) (max (wmS S) ((max (grS S) p) - alB (bkS S) (ntS S))))) + (cntO (wdS S 3) (max (wmS S) ((max (grS S) p) - alB (bkS S) (ntS S))))) + (cntO (wdS S 4) (max (wmS S) ((max (grS S) p) - alB (bkS S) (ntS S))))) + (cntO (wdS S 5) (max (wmS S) ((max (grS S) p) - alB (bkS S) (ntS S))))))), some (.inl (iZ (6)))], [], h)) (c2 := (37, [some (.inr (.inr (.inr (1, 0, 1)))), some (.inl (iZ (p))), some (.inl (iZ (max (wmS S) ((max (grS S) p) - alB (bkS S) (ntS S))))), some (.inl (iZ ((((((0 + (cntO (wdS S 0) (max (wmS S) ((max (grS S) p) - alB (bkS S) (ntS S))))) + (cntO (wdS S 1) (max (wmS S) ((max (grS S) p) - alB (bkS S) (ntS S))))) + (cntO (wdS S 2) (max (wmS S) ((max (grS S) p) - alB (bkS S) (ntS S))))) + (cntO (wdS S 3) (max (wmS S) ((max (grS S) p) - alB (bkS S) (ntS S))))) + (cntO (wdS S 4) (max (wmS S) ((max (grS S) p) - alB (bkS S) (ntS S))))) + (cntO (wdS S 5) (max (wmS S) ((max (grS S) p) - alB (bkS S) (ntS S))))))), some (.inl (iZ (6)))], [], h)) (by decide) rfl ?_
  refine Ev.sts 1 (c' := (58, [some (.inr (.inr (.inr (1, 0, 1)))), some (.inl (iZ (p))), some (.inl (iZ (max (wmS S) ((max (grS S) p) - alB (bkS S) (ntS S))))), some (.inl (iZ ((((((0 + (cntO (wdS S 0) (max (wmS S) ((max (grS S) p) - alB (bkS S) (ntS S))))) + (cntO (wdS S 1) (max (wmS S) ((max (grS S) p) - alB (bkS S) (ntS S))))) + (cntO (wdS S 2) (max (wmS S) ((max (grS S) p) - alB (bkS S) (ntS S))))) + (cntO (wdS S 3) (max (wmS S) ((max (grS S) p) - alB (bkS S) (ntS S))))) + (cntO (wdS S 4) (max (wmS S) ((max (grS S) p) - alB (bkS S) (ntS S))))) + (cntO (wdS S 5) (max (wmS S) ((max (grS S) p) - alB (bkS S) (ntS S))))))), some (.inl (iZ (6)))], [.inl (iZ ((((((0 + (cntO (wdS S 0) (max (wmS S) ((max (grS S) p) - alB (bkS S) (ntS S))))) + (cntO (wdS S 1) (max (wmS S) ((max (grS S) p) - alB (bkS S) (ntS S))))) + (cntO (wdS S 2) (max (wmS S) ((max (grS S) p) - alB (bkS S) (ntS S))))) + (cntO (wdS S 3) (max (wmS S) ((max (grS S) p) - alB (bkS S) (ntS S))))) + (cntO (wdS S 4) (max (wmS S) ((max (grS S) p) - alB (bkS S) (ntS S))))) + (cntO (wdS S 5) (max (wmS S) ((max (grS S) p) - alB (bkS S) (ntS S))))))], h)) rfl ?_
  rw [show (((((((0 : Int) + (cntO (wdS S 0) (max (wmS S) ((max (grS S) p) - alB (bkS S) (ntS S))))) + (cntO (wdS S 1) (max (wmS S) ((max (grS S) p) - alB (bkS S) (ntS S))))) + (cntO (wdS S 2) (max (wmS S) ((max (grS S) p) - alB (bkS S) (ntS S))))) + (cntO (wdS S 3) (max (wmS S) ((max (grS S) p) - alB (bkS S) (ntS S))))) + (cntO (wdS S 4) (max (wmS S) ((max (grS S) p) - alB (bkS S) (ntS S))))) + (cntO (wdS S 5) (max (wmS S) ((max (grS S) p) - alB (bkS S) (ntS S))))) = ((ovA (wdS S) (max (wmS S) ((max (grS S) p) - alB (bkS S) (ntS S))) : Nat) : Int) by unfold ovA; omega]
  exact Ev.ret rfl q

theorem cz_wouldTell {d : Nat} {p : Int} {h : PH} {Q : Rs → PH → Prop} (hp : -2147483648 ≤ p ∧ p < 2147483648) (hc : ¬ (0 ≤ p ∧ p ≤ 999)) (q : Q (.inr 1) (grow h 6)) : Rn (d + 2) 86 [.inr (.inr (.inr (1, 0, 1))), .inl (iZ (p))] h Q := by
  refine Ev.sts 2 (c' := (2, [some (.inr (.inr (.inr (1, 0, 1)))), some (.inl (iZ (p))), none, none, none], [.inl (iZ (p)), .inr (.inr (.inr (1, 0, 1)))], h)) rfl ?_
  refine Ev.callw (a := [.inr (.inr (.inr (1, 0, 1))), .inl (iZ (p))]) rfl (cn_hour ⟨by omega, by omega⟩ hc ?_)
  exact thrown rfl rfl (by decide) (q)

theorem cz_wouldBeLate {d : Nat} {p : Int} {h : PH} {Q : Rs → PH → Prop} (hp : -2147483648 ≤ p ∧ p < 2147483648) (hc : ¬ (0 ≤ p ∧ p ≤ 999)) (q : Q (.inr 1) (grow h 6)) : Rn (d + 2) 84 [.inr (.inr (.inr (1, 0, 1))), .inl (iZ (p))] h Q := by
  refine Ev.sts 2 (c' := (2, [some (.inr (.inr (.inr (1, 0, 1)))), some (.inl (iZ (p))), none, none], [.inl (iZ (p)), .inr (.inr (.inr (1, 0, 1)))], h)) rfl ?_
  refine Ev.callw (a := [.inr (.inr (.inr (1, 0, 1))), .inl (iZ (p))]) rfl (cn_hour ⟨by omega, by omega⟩ hc ?_)
  exact thrown rfl rfl (by decide) (q)

/-- behind how many nights a window is told -/
def nutC (B : Bk) (ws : Nat → List Win) (gr wm : Int) (nt : Nat) : Nat → Nat → Int
  | 0, _ => -1
  | n + 1, k => if 0 < ovA ws (max wm (gr - alB B ((nt : Int) + k))) then (k : Int) else nutC B ws gr wm nt n (k + 1)
theorem cx_nut_lp {d b n : Nat} {u : Q5} {S : Sta} {h : PH} {Q : Rs → PH → Prop} (I : CI h S b n u) (W : WN S) (m : Nat) : ∀ (k : Nat), k + m = 31 → Q (.inl (some (.inl (iZ (nutC (bkS S) (wdS S) (grS S) (wmS S) (ntS S) m k))))) h → Ev (d + 3) 44 (2, [some (.inr (.inr (.inr (1, 0, 1)))), some (.inl (iZ (k)))], [], h) Q := by
  have sh := ci_sh I
  have hb := ci_b I
  have W0 := W
  obtain ⟨⟨w1, w2, w3, w4, w5, w6⟩, w7, w8, w9, w10, w11, w12, w13, w14, w15, w16, w17, w18⟩ := W0
  induction m with
  | zero =>
    intro k h1 q
    refine Ev.sts 2 (c' := (5, [some (.inr (.inr (.inr (1, 0, 1)))), some (.inl (iZ (k)))], [.inl (iZ (30)), .inl (iZ (k))], h)) rfl ?_
    refine Ev.brT (p := (iZ (30)) < (iZ (k))) (c1 := (37, [some (.inr (.inr (.inr (1, 0, 1)))), some (.inl (iZ (k)))], [], h)) (c2 := (8, [some (.inr (.inr (.inr (1, 0, 1)))), some (.inl (iZ (k)))], [], h)) ((iZ_lt ⟨by omega, by omega⟩ ⟨by omega, by omega⟩).mpr (by omega)) rfl ?_
    refine Ev.sts 1 (c' := (38, [some (.inr (.inr (.inr (1, 0, 1)))), some (.inl (iZ (k)))], [.inl (iZ (-1))], h)) rfl ?_
    exact Ev.ret rfl (q)
  | succ m ih =>
    intro k h1 q
    refine Ev.sts 2 (c' := (5, [some (.inr (.inr (.inr (1, 0, 1)))), some (.inl (iZ (k)))], [.inl (iZ (30)), .inl (iZ (k))], h)) rfl ?_
    refine Ev.brF (p := (iZ (30)) < (iZ (k))) (c1 := (37, [some (.inr (.inr (.inr (1, 0, 1)))), some (.inl (iZ (k)))], [], h)) (c2 := (8, [some (.inr (.inr (.inr (1, 0, 1)))), some (.inl (iZ (k)))], [], h)) (fun c_ => absurd ((iZ_lt ⟨by omega, by omega⟩ ⟨by omega, by omega⟩).mp c_) (by omega)) rfl ?_
    refine Ev.sts 3 (c' := (11, [some (.inr (.inr (.inr (1, 0, 1)))), some (.inl (iZ (k)))], [.inr (.inr (.inr (1, 0, 1))), .inr (.inr (.inr (1, 0, 1))), .inr (.inr (.inr (1, 0, 1)))], h)) rfl ?_
    refine Ev.gv (w := (iZ (grS S))) rfl (ci_gr I) ?_
    refine Ev.sts 1 (c' := (15, [some (.inr (.inr (.inr (1, 0, 1)))), some (.inl (iZ (k)))], [.inr (.inr (.inr (1, 0, 1))), .inl (iZ (grS S)), .inr (.inr (.inr (1, 0, 1))), .inr (.inr (.inr (1, 0, 1)))], h)) rfl ?_
    refine Ev.gv (w := (iZ (ntS S))) rfl (ci_nt I) ?_
    refine Ev.sts 1 (c' := (19, [some (.inr (.inr (.inr (1, 0, 1)))), some (.inl (iZ (k)))], [.inl (iZ (k)), .inl (iZ (ntS S)), .inl (iZ (grS S)), .inr (.inr (.inr (1, 0, 1))), .inr (.inr (.inr (1, 0, 1)))], h)) rfl ?_
    refine Ev.gv (w := (iZ ((ntS S) + k))) rfl (iZ_add _ _) ?_
    refine Ev.callv (a := [.inr (.inr (.inr (1, 0, 1))), .inl (iZ (grS S)), .inl (iZ ((ntS S) + k))]) rfl (cx_wmb I W ⟨by omega, by omega⟩ ⟨by omega, by omega⟩) ?_
    have ab := alB_b (show bkN (bkS S) from ⟨w1, w2, w3, w4, w5, w6⟩) ((ntS S : Int) + k)
    refine Ev.callw (a := [.inr (.inr (.inr (1, 0, 1))), .inl (iZ (max (wmS S) ((grS S) - alB (bkS S) ((ntS S) + k))))]) rfl (cx_anyOver I W ⟨by omega, by omega⟩ (fun c0 => ?_) (fun c0 => ?_))
    · refine Ev.brF (p := (iZ (1)) = (iZ (0))) (c1 := (31, [some (.inr (.inr (.inr (1, 0, 1)))), some (.inl (iZ (k)))], [], h)) (c2 := (29, [some (.inr (.inr (.inr (1, 0, 1)))), some (.inl (iZ (k)))], [], h)) (by decide) rfl ?_
      refine Ev.sts 1 (c' := (30, [some (.inr (.inr (.inr (1, 0, 1)))), some (.inl (iZ (k)))], [.inl (iZ (k))], h)) rfl ?_
      rw [show nutC (bkS S) (wdS S) (grS S) (wmS S) (ntS S) (m + 1) k = (k : Int) from if_pos c0] at q
      exact Ev.ret rfl q
    · refine Ev.brT (p := (iZ (0)) = (iZ (0))) (c1 := (31, [some (.inr (.inr (.inr (1, 0, 1)))), some (.inl (iZ (k)))], [], h)) (c2 := (29, [some (.inr (.inr (.inr (1, 0, 1)))), some (.inl (iZ (k)))], [], h)) (by decide) rfl ?_
      refine Ev.stc (c1 := (34, [some (.inr (.inr (.inr (1, 0, 1)))), some (.inl ((iZ (k)) + (iZ (1))))], [], h)) (c2 := (34, [some (.inr (.inr (.inr (1, 0, 1)))), some (.inl (iZ (k + 1)))], [], h)) rfl (by rw [iZ_add]) ?_
      refine Ev.sts 1 (c' := (2, [some (.inr (.inr (.inr (1, 0, 1)))), some (.inl (iZ (k + 1)))], [], h)) rfl ?_
      refine ih (k + 1) (by omega) ?_
      rw [show nutC (bkS S) (wdS S) (grS S) (wmS S) (ntS S) (m + 1) k = nutC (bkS S) (wdS S) (grS S) (wmS S) (ntS S) m (k + 1) from if_neg (by omega)] at q
      exact q

theorem cx_nut {d b n : Nat} {u : Q5} {S : Sta} {h : PH} (I : CI h S b n u) (W : WN S) : Rv (d + 3) 44 [.inr (.inr (.inr (1, 0, 1)))] h (some (.inl (iZ (nutC (bkS S) (wdS S) (grS S) (wmS S) (ntS S) 30 1)))) h := Rv.of fun Q q => by
  have sh := ci_sh I
  have hb := ci_b I
  have W0 := W
  obtain ⟨⟨w1, w2, w3, w4, w5, w6⟩, w7, w8, w9, w10, w11, w12, w13, w14, w15, w16, w17, w18⟩ := W0
  refine Ev.sts 2 (c' := (2, [some (.inr (.inr (.inr (1, 0, 1)))), some (.inl (iZ (1)))], [], h)) rfl ?_
  exact cx_nut_lp I W 30 1 (by omega) q

theorem fstE_b {N : Int} {W : List Win} (hn : wsB N W) : ∀ a, 0 ≤ a → a ≤ 2000 → 0 ≤ fstE W a ∧ fstE W a ≤ 2000 := by
  induction W with
  | nil => intro a h1 h2; exact ⟨h1, h2⟩
  | cons w W ih =>
    intro a h1 h2
    obtain ⟨b1, b2, b3, b4, b5, b6⟩ := hn 0 (Nat.zero_lt_succ _)
    replace b3 : 0 ≤ w.2.1 := b3
    exact ih (fun j hj => hn (j + 1) (Nat.succ_lt_succ hj)) (min a w.2.1) (by omega) (by omega)
/-- the hour by which a window of W is told, allowance a -/
def httC (W : List Win) (a : Int) : Int := if 999 < fstE W 2000 + a then -1 else fstE W 2000 + a
theorem cq_hourToTell {d b n : Nat} {u : Q5} {S : Sta} {h : PH} (I : CI h S b n u) (W : WN S) {p : Int} {g : Nat} (hp : p = (g : Int)) (hc : g < (bkS S).2.2.length) : Rv (d + 2) 59 [.inr (.inr (.inr (1, 0, 1))), .inl (iZ (p))] h (some (.inl (iZ (httC (wdS S g) (alB (bkS S) (ntS S)))))) h := Rv.of fun Q q => by
  have sh := ci_sh I
  have hb := ci_b I
  have W0 := W
  obtain ⟨⟨w1, w2, w3, w4, w5, w6⟩, w7, w8, w9, w10, w11, w12, w13, w14, w15, w16, w17, w18⟩ := W0
  have hg : g < 6 := by omega
  have ab := alB_b (show bkN (bkS S) from ⟨w1, w2, w3, w4, w5, w6⟩) (ntS S)
  have fb := fstE_b (w14 g).1 2000 (by omega) (by omega)
  have hwl := (w14 g).2
  refine Ev.sts 2 (c' := (2, [some (.inr (.inr (.inr (1, 0, 1)))), some (.inl (iZ (p))), none], [.inl (iZ (p)), .inr (.inr (.inr (1, 0, 1)))], h)) rfl ?_
  refine Ev.callv (a := [.inr (.inr (.inr (1, 0, 1))), .inl (iZ (p))]) rfl (cr_goose I W ⟨by omega, by omega⟩) ?_
  refine Ev.sts 1 (c' := (6, [some (.inr (.inr (.inr (1, 0, 1)))), some (.inl (iZ (p))), none], [.inr (.inr (.inr (1, 0, 1)))], h)) rfl ?_
  refine Ev.gfr (r := (25, 6, 31)) rfl (sh_1_5 sh) ?_
  refine Ev.sts 1 (c' := (10, [some (.inr (.inr (.inr (1, 0, 1)))), some (.inl (iZ (p))), none], [.inl (iZ (p)), .inr (.inr (.inr (25, 6, 31)))], h)) rfl ?_
  refine Ev.ldv (j := (iZ (p))) (n := 6) (w := .inr (.inr (.inr (10, 0, (32 + 5 * g))))) (iZ_in (by omega) (by omega) (by omega)) rfl (by rw [iZ_ix (n := g) (by omega) (by omega)]; exact congrArg vR (sh_31 sh hg)) ?_
  refine Ev.gv (w := (iZ ((wdS S g).length))) rfl (ci_ws I g hg).1.1 ?_
  refine Ev.brc (p := ¬ (iZ ((wdS S g).length)) = (iZ (0))) (q := ¬ (((wdS S g).length : Int)) = 0) (c1 := (19, [some (.inr (.inr (.inr (1, 0, 1)))), some (.inl (iZ (p))), none], [], h)) (c2 := (17, [some (.inr (.inr (.inr (1, 0, 1)))), some (.inl (iZ (p))), none], [], h)) rfl (not_congr (iZ_eq ⟨by omega, by omega⟩ ⟨by omega, by omega⟩)) (fun c0 => ?_) (fun c0 => ?_)
  · refine Ev.sts 1 (c' := (20, [some (.inr (.inr (.inr (1, 0, 1)))), some (.inl (iZ (p))), none], [.inr (.inr (.inr (1, 0, 1)))], h)) rfl ?_
    refine Ev.gfr (r := (25, 6, 31)) rfl (sh_1_5 sh) ?_
    refine Ev.sts 1 (c' := (24, [some (.inr (.inr (.inr (1, 0, 1)))), some (.inl (iZ (p))), none], [.inl (iZ (p)), .inr (.inr (.inr (25, 6, 31)))], h)) rfl ?_
    refine Ev.ldv (j := (iZ (p))) (n := 6) (w := .inr (.inr (.inr (10, 0, (32 + 5 * g))))) (iZ_in (by omega) (by omega) (by omega)) rfl (by rw [iZ_ix (n := g) (by omega) (by omega)]; exact congrArg vR (sh_31 sh hg)) ?_
    refine Ev.callv (a := [.inr (.inr (.inr (10, 0, (32 + 5 * g))))]) rfl (sp_firstEnd sh hg (ci_ws I g hg).1 (w14 g).1 (by omega)) ?_
    refine Ev.sts 1 (c' := (29, [some (.inr (.inr (.inr (1, 0, 1)))), some (.inl (iZ (p))), none], [.inr (.inr (.inr (1, 0, 1))), .inl (iZ (fstE (wdS S g) 2000))], h)) rfl ?_
    refine Ev.gfr (r := (2, 0, b)) rfl (ci_17 I) ?_
    refine Ev.sts 1 (c' := (33, [some (.inr (.inr (.inr (1, 0, 1)))), some (.inl (iZ (p))), none], [.inr (.inr (.inr (1, 0, 1))), .inr (.inr (.inr (2, 0, b))), .inl (iZ (fstE (wdS S g) 2000))], h)) rfl ?_
    refine Ev.gv (w := (iZ (ntS S))) rfl (ci_nt I) ?_
    refine Ev.callv (a := [.inr (.inr (.inr (2, 0, b))), .inl (iZ (ntS S))]) rfl (sp_allowanceIn sh hb (ci_bk I).1 ⟨w1, w2⟩ ⟨by omega, by omega⟩) ?_
    refine Ev.gv (w := (iZ ((fstE (wdS S g) 2000) + (alB (bkS S) (ntS S))))) rfl (iZ_add _ _) ?_
    refine Ev.sts 3 (c' := (45, [some (.inr (.inr (.inr (1, 0, 1)))), some (.inl (iZ (p))), some (.inl (iZ ((fstE (wdS S g) 2000) + (alB (bkS S) (ntS S)))))], [.inl (iZ (999)), .inl (iZ ((fstE (wdS S g) 2000) + (alB (bkS S) (ntS S))))], h)) rfl ?_
    refine Ev.brc (p := (iZ ((fstE (wdS S g) 2000) + (alB (bkS S) (ntS S)))) ≤ (iZ (999))) (q := (((fstE (wdS S g) 2000) + (alB (bkS S) (ntS S)) : Int)) ≤ 999) (c1 := (52, [some (.inr (.inr (.inr (1, 0, 1)))), some (.inl (iZ (p))), some (.inl (iZ ((fstE (wdS S g) 2000) + (alB (bkS S) (ntS S)))))], [], h)) (c2 := (48, [some (.inr (.inr (.inr (1, 0, 1)))), some (.inl (iZ (p))), some (.inl (iZ ((fstE (wdS S g) 2000) + (alB (bkS S) (ntS S)))))], [], h)) rfl (iZ_le ⟨by omega, by omega⟩ ⟨by omega, by omega⟩) (fun c1 => ?_) (fun c1 => ?_)
    · refine Ev.sts 1 (c' := (53, [some (.inr (.inr (.inr (1, 0, 1)))), some (.inl (iZ (p))), some (.inl (iZ ((fstE (wdS S g) 2000) + (alB (bkS S) (ntS S)))))], [.inl (iZ ((fstE (wdS S g) 2000) + (alB (bkS S) (ntS S))))], h)) rfl ?_
      rw [show httC (wdS S g) (alB (bkS S) (ntS S)) = fstE (wdS S g) 2000 + alB (bkS S) (ntS S) from if_neg (by omega)] at q
      exact Ev.ret rfl q
    · refine Ev.sts 2 (c' := (53, [some (.inr (.inr (.inr (1, 0, 1)))), some (.inl (iZ (p))), some (.inl (iZ ((fstE (wdS S g) 2000) + (alB (bkS S) (ntS S)))))], [.inl (iZ (-1))], h)) rfl ?_
      rw [show httC (wdS S g) (alB (bkS S) (ntS S)) = -1 from if_pos (by omega)] at q
      exact Ev.ret rfl q
  · refine Ev.sts 1 (c' := (18, [some (.inr (.inr (.inr (1, 0, 1)))), some (.inl (iZ (p))), none], [.inl (iZ (-1))], h)) rfl ?_
    have e : wdS S g = [] := List.length_eq_zero_iff.mp (by omega)
    rw [e, show httC [] (alB (bkS S) (ntS S)) = -1 from if_pos (by show 999 < (2000 : Int) + _; omega)] at q
    exact Ev.ret rfl q

theorem cz_hourToTell {d b n : Nat} {u : Q5} {S : Sta} {h : PH} {Q : Rs → PH → Prop} (I : CI h S b n u) (W : WN S) {p : Int} (hp : -2147483648 ≤ p ∧ p < 2147483648) (hc : ¬ (0 ≤ p ∧ p < (bkS S).2.2.length)) (q : Q (.inr 2) (grow h 6)) : Rn (d + 2) 59 [.inr (.inr (.inr (1, 0, 1))), .inl (iZ (p))] h Q := by
  have sh := ci_sh I
  have hb := ci_b I
  have W0 := W
  obtain ⟨⟨w1, w2, w3, w4, w5, w6⟩, w7, w8, w9, w10, w11, w12, w13, w14, w15, w16, w17, w18⟩ := W0
  refine Ev.sts 2 (c' := (2, [some (.inr (.inr (.inr (1, 0, 1)))), some (.inl (iZ (p))), none], [.inl (iZ (p)), .inr (.inr (.inr (1, 0, 1)))], h)) rfl ?_
  refine Ev.callw (a := [.inr (.inr (.inr (1, 0, 1))), .inl (iZ (p))]) rfl (cn_goose I W ⟨by omega, by omega⟩ hc ?_)
  exact thrown rfl rfl (by decide) (q)

theorem gs_goo {h : PH} {b g : Nat} {B : Bk} (w : bkN B) (k : bkC h b B) (hg : g < B.2.2.length) : gooC h (b + 9 + g) (B.2.2.getD g g0).2.1 (if (B.2.2.getD g g0).2.2.1 = 0 then 1 else (B.2.2.getD g g0).2.2.1) (B.2.2.getD g g0).2.2.2.1 := by
  obtain ⟨k1, k2, k3, k4, k5, -⟩ := k.2.2.2.2 g hg
  obtain ⟨v1, v2, v3, v4, v5, v6⟩ := w.2.2.2.2.2 g hg
  refine ⟨k3, k4, k5, v6, v2, v3, ?_, ?_⟩
  · split <;> omega
  · split <;> omega
/-- whether a comma of hour hr is late for G -/
def ltG (G : Gs) (hr wm : Int) : Prop := hr - hr % (if G.2.2.1 = 0 then 1 else G.2.2.1) + G.2.1 ≤ wm
def wblF : List Gs → Int → Int → Nat
  | [], _, _ => 0
  | G :: L, hr, wm => (if hr - hr % (if G.2.2.1 = 0 then 1 else G.2.2.1) + G.2.1 ≤ wm then 1 else 0) + wblF L hr wm
theorem cx_wbl_lp {d b n : Nat} {u : Q5} {S : Sta} {h : PH} {Q : Rs → PH → Prop} (I : CI h S b n u) (W : WN S) {hr : Int} (hh : 0 ≤ hr ∧ hr ≤ 999) (m : Nat) : ∀ (g c : Nat), g ≤ (bkS S).2.2.length → (bkS S).2.2.length < g + m → Q (.inl (some (.inl (iZ ((c : Int) + (wblF ((bkS S).2.2.drop g) hr (wmS S) : Int)))))) h → Ev (d + 2) 84 (9, [some (.inr (.inr (.inr (1, 0, 1)))), some (.inl (iZ (hr))), some (.inl (iZ (c))), some (.inl (iZ (g)))], [], h) Q := by
  have sh := ci_sh I
  have hb := ci_b I
  have W0 := W
  obtain ⟨⟨w1, w2, w3, w4, w5, w6⟩, w7, w8, w9, w10, w11, w12, w13, w14, w15, w16, w17, w18⟩ := W0
  induction m with
  | zero => intro g c h1 h2 q; omega
  | succ m ih =>
    intro g c h1 h2 q
    refine Ev.sts 2 (c' := (11, [some (.inr (.inr (.inr (1, 0, 1)))), some (.inl (iZ (hr))), some (.inl (iZ (c))), some (.inl (iZ (g)))], [.inr (.inr (.inr (1, 0, 1))), .inl (iZ (g))], h)) rfl ?_
    refine Ev.callv (a := [.inr (.inr (.inr (1, 0, 1)))]) rfl (cx_counted I W) ?_
    refine Ev.brc (p := (iZ ((bkS S).2.2.length)) ≤ (iZ (g))) (q := (((bkS S).2.2.length : Int)) ≤ g) (c1 := (46, [some (.inr (.inr (.inr (1, 0, 1)))), some (.inl (iZ (hr))), some (.inl (iZ (c))), some (.inl (iZ (g)))], [], h)) (c2 := (17, [some (.inr (.inr (.inr (1, 0, 1)))), some (.inl (iZ (hr))), some (.inl (iZ (c))), some (.inl (iZ (g)))], [], h)) rfl (iZ_le ⟨by omega, by omega⟩ ⟨by omega, by omega⟩) (fun c0 => ?_) (fun c0 => ?_)
    · refine Ev.sts 1 (c' := (47, [some (.inr (.inr (.inr (1, 0, 1)))), some (.inl (iZ (hr))), some (.inl (iZ (c))), some (.inl (iZ (g)))], [.inl (iZ (c))], h)) rfl ?_
      rw [List.drop_eq_nil_of_le (show (bkS S).2.2.length ≤ g by omega)] at q
      rw [show (c : Int) + ((wblF [] hr (wmS S) : Nat) : Int) = (c : Int) from Int.add_zero _] at q
      exact Ev.ret rfl q
    · have hg : g < 6 := by omega
      have e0 := drop_getD g0 (bkS S).2.2 g (by omega)
      refine Ev.sts 1 (c' := (18, [some (.inr (.inr (.inr (1, 0, 1)))), some (.inl (iZ (hr))), some (.inl (iZ (c))), some (.inl (iZ (g)))], [.inr (.inr (.inr (1, 0, 1)))], h)) rfl ?_
      refine Ev.gfr (r := (2, 0, b)) rfl (ci_17 I) ?_
      refine Ev.gfr (r := (24, 6, (b + 4))) rfl (sh_b3 sh hb) ?_
      refine Ev.sts 1 (c' := (25, [some (.inr (.inr (.inr (1, 0, 1)))), some (.inl (iZ (hr))), some (.inl (iZ (c))), some (.inl (iZ (g)))], [.inl (iZ (g)), .inr (.inr (.inr (24, 6, (b + 4))))], h)) rfl ?_
      refine Ev.ldv (j := (iZ (g))) (n := 6) (w := .inr (.inr (.inr (4, 0, (b + 9 + g))))) (iZ_in (by omega) (by omega) (by omega)) rfl (by rw [iZ_ix (n := g) (by omega) (by omega)]; exact congrArg vR (sh_bg sh hb hg)) ?_
      refine Ev.sts 2 (c' := (28, [some (.inr (.inr (.inr (1, 0, 1)))), some (.inl (iZ (hr))), some (.inl (iZ (c))), some (.inl (iZ (g)))], [.inr (.inr (.inr (1, 0, 1))), .inl (iZ (hr)), .inr (.inr (.inr (4, 0, (b + 9 + g))))], h)) rfl ?_
      refine Ev.gv (w := (iZ (wmS S))) rfl (ci_wm I) ?_
      refine Ev.callw (a := [.inr (.inr (.inr (4, 0, (b + 9 + g)))), .inl (iZ (hr)), .inl (iZ (wmS S))]) rfl (sp_isLate (gs_goo (show bkN (bkS S) from ⟨w1, w2, w3, w4, w5, w6⟩) (ci_bk I) (by omega)) ⟨by omega, by omega⟩ ⟨by omega, by omega⟩ (fun c1 => ?_) (fun c1 => ?_))
      · refine Ev.brF (p := (iZ (1)) = (iZ (0))) (c1 := (40, [some (.inr (.inr (.inr (1, 0, 1)))), some (.inl (iZ (hr))), some (.inl (iZ (c))), some (.inl (iZ (g)))], [], h)) (c2 := (37, [some (.inr (.inr (.inr (1, 0, 1)))), some (.inl (iZ (hr))), some (.inl (iZ (c))), some (.inl (iZ (g)))], [], h)) (by decide) rfl ?_
        refine Ev.stc (c1 := (40, [some (.inr (.inr (.inr (1, 0, 1)))), some (.inl (iZ (hr))), some (.inl ((iZ (c)) + (iZ (1)))), some (.inl (iZ (g)))], [], h)) (c2 := (40, [some (.inr (.inr (.inr (1, 0, 1)))), some (.inl (iZ (hr))), some (.inl (iZ (c + 1))), some (.inl (iZ (g)))], [], h)) rfl (by rw [iZ_add]) ?_
        refine Ev.stc (c1 := (43, [some (.inr (.inr (.inr (1, 0, 1)))), some (.inl (iZ (hr))), some (.inl (iZ (c + 1))), some (.inl ((iZ (g)) + (iZ (1))))], [], h)) (c2 := (43, [some (.inr (.inr (.inr (1, 0, 1)))), some (.inl (iZ (hr))), some (.inl (iZ (c + 1))), some (.inl (iZ (g + 1)))], [], h)) rfl (by rw [iZ_add]) ?_
        refine Ev.sts 1 (c' := (9, [some (.inr (.inr (.inr (1, 0, 1)))), some (.inl (iZ (hr))), some (.inl (iZ (c + 1))), some (.inl (iZ (g + 1)))], [], h)) rfl ?_
        refine ih (g + 1) (c + 1) (by omega) (by omega) ?_
        rw [e0] at q
        replace q : Q (.inl (some (.inl (iZ ((c : Int) + (((if hr - hr % (if ((bkS S).2.2.getD g g0).2.2.1 = 0 then 1 else ((bkS S).2.2.getD g g0).2.2.1) + ((bkS S).2.2.getD g g0).2.1 ≤ wmS S then 1 else 0) + wblF ((bkS S).2.2.drop (g + 1)) hr (wmS S) : Nat) : Int)))))) h := q
        rw [if_pos c1] at q
        rw [show (c : Int) + ((1 + wblF ((bkS S).2.2.drop (g + 1)) hr (wmS S) : Nat) : Int) = ((c + 1 : Nat) : Int) + (wblF ((bkS S).2.2.drop (g + 1)) hr (wmS S) : Int) by omega] at q
        exact q
      · refine Ev.brT (p := (iZ (0)) = (iZ (0))) (c1 := (40, [some (.inr (.inr (.inr (1, 0, 1)))), some (.inl (iZ (hr))), some (.inl (iZ (c))), some (.inl (iZ (g)))], [], h)) (c2 := (37, [some (.inr (.inr (.inr (1, 0, 1)))), some (.inl (iZ (hr))), some (.inl (iZ (c))), some (.inl (iZ (g)))], [], h)) (by decide) rfl ?_
        refine Ev.stc (c1 := (43, [some (.inr (.inr (.inr (1, 0, 1)))), some (.inl (iZ (hr))), some (.inl (iZ (c))), some (.inl ((iZ (g)) + (iZ (1))))], [], h)) (c2 := (43, [some (.inr (.inr (.inr (1, 0, 1)))), some (.inl (iZ (hr))), some (.inl (iZ (c))), some (.inl (iZ (g + 1)))], [], h)) rfl (by rw [iZ_add]) ?_
        refine Ev.sts 1 (c' := (9, [some (.inr (.inr (.inr (1, 0, 1)))), some (.inl (iZ (hr))), some (.inl (iZ (c))), some (.inl (iZ (g + 1)))], [], h)) rfl ?_
        refine ih (g + 1) (c) (by omega) (by omega) ?_
        rw [e0] at q
        replace q : Q (.inl (some (.inl (iZ ((c : Int) + (((if hr - hr % (if ((bkS S).2.2.getD g g0).2.2.1 = 0 then 1 else ((bkS S).2.2.getD g g0).2.2.1) + ((bkS S).2.2.getD g g0).2.1 ≤ wmS S then 1 else 0) + wblF ((bkS S).2.2.drop (g + 1)) hr (wmS S) : Nat) : Int)))))) h := q
        rw [if_neg c1] at q
        rw [show (c : Int) + ((0 + wblF ((bkS S).2.2.drop (g + 1)) hr (wmS S) : Nat) : Int) = ((c : Nat) : Int) + (wblF ((bkS S).2.2.drop (g + 1)) hr (wmS S) : Int) by omega] at q
        exact q

theorem cq_wouldBeLate {d b n : Nat} {u : Q5} {S : Sta} {h : PH} (I : CI h S b n u) (W : WN S) {p : Int} (hc : 0 ≤ p ∧ p ≤ 999) : Rv (d + 2) 84 [.inr (.inr (.inr (1, 0, 1))), .inl (iZ (p))] h (some (.inl (iZ (wblF (bkS S).2.2 p (wmS S))))) h := Rv.of fun Q q => by
  have sh := ci_sh I
  have hb := ci_b I
  have W0 := W
  obtain ⟨⟨w1, w2, w3, w4, w5, w6⟩, w7, w8, w9, w10, w11, w12, w13, w14, w15, w16, w17, w18⟩ := W0
  refine Ev.sts 2 (c' := (2, [some (.inr (.inr (.inr (1, 0, 1)))), some (.inl (iZ (p))), none, none], [.inl (iZ (p)), .inr (.inr (.inr (1, 0, 1)))], h)) rfl ?_
  refine Ev.callv (a := [.inr (.inr (.inr (1, 0, 1))), .inl (iZ (p))]) rfl (cr_hour hc) ?_
  refine Ev.sts 4 (c' := (9, [some (.inr (.inr (.inr (1, 0, 1)))), some (.inl (iZ (p))), some (.inl (iZ (0))), some (.inl (iZ (0)))], [], h)) rfl ?_
  refine cx_wbl_lp I W hc ((bkS S).2.2.length + 1) 0 0 (by omega) (by omega) ?_
  rw [List.drop_zero, show ((0 : Nat) : Int) + (wblF (bkS S).2.2 p (wmS S) : Int) = (wblF (bkS S).2.2 p (wmS S) : Int) by omega]
  exact q

def dg (d : Int64) (x : Int32) : Int64 := d * 31 + x.toInt64
def dgl (d : Int64) (l : List Int32) : Int64 := l.foldl dg d
def dW (w : Win) : List Int32 := [iZ w.1, iZ w.2.1, iZ w.2.2.1, w.2.2.2]
def dT (t : Tel) : List Int32 := [iZ t.1, iZ t.2.1, iZ t.2.2.1, iZ t.2.2.2.1, t.2.2.2.2]
def dF (S : Sta) : Nat → Nat → List Int32
  | 0, _ => []
  | n + 1, f => [iZ (szF (csS S) (iZ f)), iZ (ltF (csS S) (iZ f) (csS S).length)] ++ dF S n (f + 1)
def dGh (S : Sta) (g : Nat) : List Int32 := [iZ ((bkS S).2.2.getD g g0).1, iZ (ltS S g), iZ (wdS S g).length, iZ (httC (wdS S g) (alB (bkS S) (ntS S)))]
def dG (S : Sta) : Nat → Nat → List Int32
  | 0, _ => []
  | n + 1, g => (dGh S g ++ (wdS S g).flatMap dW) ++ dG S n (g + 1)
def dH (S : Sta) : List Int32 := [iZ (bkS S).2.1.length, iZ (bkS S).2.2.length, iZ (csS S).length, iZ (ntS S), iZ (phB (bkS S) (ntS S)), iZ (alB (bkS S) (ntS S)), iZ (grS S), iZ (wmS S), iZ (lateA (ltS S)), iZ (tlS S).length, iZ (fulR (tlS S) 0 (-1) 0), iZ (nutC (bkS S) (wdS S) (grS S) (wmS S) (ntS S) 30 1)]
def digS (S : Sta) : Int64 := dgl 1973 (dH S ++ (dF S (bkS S).2.1.length 0 ++ (dG S (bkS S).2.2.length 0 ++ (tlS S).flatMap dT)))
theorem dgl_T (d : Int64) (t : Tel) (l : List Tel) : dgl d ((t :: l).flatMap dT) = dgl (dg (dg (dg (dg (dg d (iZ t.1)) (iZ t.2.1)) (iZ t.2.2.1)) (iZ t.2.2.2.1)) t.2.2.2.2) (l.flatMap dT) := by
  rw [List.flatMap_cons]
  exact List.foldl_append ..
theorem dgl_W (d : Int64) (t : Win) (l : List Win) : dgl d ((t :: l).flatMap dW) = dgl (dg (dg (dg (dg d (iZ t.1)) (iZ t.2.1)) (iZ t.2.2.1)) t.2.2.2) (l.flatMap dW) := by
  rw [List.flatMap_cons]
  exact List.foldl_append ..
theorem dgl_app (d : Int64) (l1 l2 : List Int32) : dgl d (l1 ++ l2) = dgl (dgl d l1) l2 := List.foldl_append ..
theorem cx_dt_lp {d b n : Nat} {u : Q5} {S : Sta} {h : PH} {Q : Rs → PH → Prop} (I : CI h S b n u) (W : WN S) {y : Int64} (m : Nat) : ∀ (k : Nat) (x : Int64), k ≤ (tlS S).length → (tlS S).length < k + m → Q (.inl (some (.inr (.inl (dgl x (((tlS S).drop k).flatMap dT)))))) h → Ev (d + 2) 65 (5, [some (.inr (.inr (.inr (1, 0, 1)))), some (.inr (.inl (y))), none, some (.inr (.inl (x))), none, some (.inl (iZ (k)))], [], h) Q := by
  have sh := ci_sh I
  have hb := ci_b I
  have W0 := W
  obtain ⟨⟨w1, w2, w3, w4, w5, w6⟩, w7, w8, w9, w10, w11, w12, w13, w14, w15, w16, w17, w18⟩ := W0
  induction m with
  | zero => intro k x h1 h2 q; omega
  | succ m ih =>
    intro k x h1 h2 q
    refine Ev.sts 2 (c' := (8, [some (.inr (.inr (.inr (1, 0, 1)))), some (.inr (.inl (y))), none, some (.inr (.inl (x))), none, some (.inl (iZ (k)))], [.inr (.inr (.inr (1, 0, 1))), .inl (iZ (k))], h)) rfl ?_
    refine Ev.gfr (r := (8, 0, 62)) rfl (sh_1_6 sh) ?_
    refine Ev.gv (w := (iZ ((tlS S).length))) rfl (ci_tl I).1 ?_
    refine Ev.brc (p := (iZ ((tlS S).length)) ≤ (iZ (k))) (q := (((tlS S).length : Int)) ≤ k) (c1 := (93, [some (.inr (.inr (.inr (1, 0, 1)))), some (.inr (.inl (y))), none, some (.inr (.inl (x))), none, some (.inl (iZ (k)))], [], h)) (c2 := (17, [some (.inr (.inr (.inr (1, 0, 1)))), some (.inr (.inl (y))), none, some (.inr (.inl (x))), none, some (.inl (iZ (k)))], [], h)) rfl (iZ_le ⟨by omega, by omega⟩ ⟨by omega, by omega⟩) (fun c0 => ?_) (fun c0 => ?_)
    · refine Ev.sts 1 (c' := (94, [some (.inr (.inr (.inr (1, 0, 1)))), some (.inr (.inl (y))), none, some (.inr (.inl (x))), none, some (.inl (iZ (k)))], [.inr (.inl (x))], h)) rfl ?_
      rw [List.drop_eq_nil_of_le (show (tlS S).length ≤ k by omega)] at q
      exact Ev.ret rfl q
    · have e0 := drop_getD t0 (tlS S) k (by omega)
      refine Ev.sts 5 (c' := (25, [some (.inr (.inr (.inr (1, 0, 1)))), some (.inr (.inl (y))), none, some (.inr (.inl (x))), none, some (.inl (iZ (k)))], [.inl (iZ (k)), .inr (.inr (.inr (1, 0, 1))), .inr (.inl ((x * (31 : Int64))))], h)) rfl ?_
      refine Ev.callv (a := [.inr (.inr (.inr (1, 0, 1))), .inl (iZ (k))]) rfl (cq_tellingGoose I W rfl (by omega)) ?_
      refine Ev.sts 8 (c' := (39, [some (.inr (.inr (.inr (1, 0, 1)))), some (.inr (.inl (y))), none, some (.inr (.inl (((x * (31 : Int64)) + ((iZ (((tlS S).getD k t0).1))).toInt64)))), none, some (.inl (iZ (k)))], [.inl (iZ (k)), .inr (.inr (.inr (1, 0, 1))), .inr (.inl ((((x * (31 : Int64)) + ((iZ (((tlS S).getD k t0).1))).toInt64) * (31 : Int64))))], h)) rfl ?_
      refine Ev.callv (a := [.inr (.inr (.inr (1, 0, 1))), .inl (iZ (k))]) rfl (cq_tellingStart I W rfl (by omega)) ?_
      refine Ev.sts 8 (c' := (53, [some (.inr (.inr (.inr (1, 0, 1)))), some (.inr (.inl (y))), none, some (.inr (.inl (((((x * (31 : Int64)) + ((iZ (((tlS S).getD k t0).1))).toInt64) * (31 : Int64)) + ((iZ (((tlS S).getD k t0).2.1))).toInt64)))), none, some (.inl (iZ (k)))], [.inl (iZ (k)), .inr (.inr (.inr (1, 0, 1))), .inr (.inl ((((((x * (31 : Int64)) + ((iZ (((tlS S).getD k t0).1))).toInt64) * (31 : Int64)) + ((iZ (((tlS S).getD k t0).2.1))).toInt64) * (31 : Int64))))], h)) rfl ?_
      refine Ev.callv (a := [.inr (.inr (.inr (1, 0, 1))), .inl (iZ (k))]) rfl (cq_tellingEnd I W rfl (by omega)) ?_
      refine Ev.sts 8 (c' := (67, [some (.inr (.inr (.inr (1, 0, 1)))), some (.inr (.inl (y))), none, some (.inr (.inl (((((((x * (31 : Int64)) + ((iZ (((tlS S).getD k t0).1))).toInt64) * (31 : Int64)) + ((iZ (((tlS S).getD k t0).2.1))).toInt64) * (31 : Int64)) + ((iZ (((tlS S).getD k t0).2.2.1))).toInt64)))), none, some (.inl (iZ (k)))], [.inl (iZ (k)), .inr (.inr (.inr (1, 0, 1))), .inr (.inl ((((((((x * (31 : Int64)) + ((iZ (((tlS S).getD k t0).1))).toInt64) * (31 : Int64)) + ((iZ (((tlS S).getD k t0).2.1))).toInt64) * (31 : Int64)) + ((iZ (((tlS S).getD k t0).2.2.1))).toInt64) * (31 : Int64))))], h)) rfl ?_
      refine Ev.callv (a := [.inr (.inr (.inr (1, 0, 1))), .inl (iZ (k))]) rfl (cq_tellingCount I W rfl (by omega)) ?_
      refine Ev.sts 8 (c' := (81, [some (.inr (.inr (.inr (1, 0, 1)))), some (.inr (.inl (y))), none, some (.inr (.inl (((((((((x * (31 : Int64)) + ((iZ (((tlS S).getD k t0).1))).toInt64) * (31 : Int64)) + ((iZ (((tlS S).getD k t0).2.1))).toInt64) * (31 : Int64)) + ((iZ (((tlS S).getD k t0).2.2.1))).toInt64) * (31 : Int64)) + ((iZ (((tlS S).getD k t0).2.2.2.1))).toInt64)))), none, some (.inl (iZ (k)))], [.inl (iZ (k)), .inr (.inr (.inr (1, 0, 1))), .inr (.inl ((((((((((x * (31 : Int64)) + ((iZ (((tlS S).getD k t0).1))).toInt64) * (31 : Int64)) + ((iZ (((tlS S).getD k t0).2.1))).toInt64) * (31 : Int64)) + ((iZ (((tlS S).getD k t0).2.2.1))).toInt64) * (31 : Int64)) + ((iZ (((tlS S).getD k t0).2.2.2.1))).toInt64) * (31 : Int64))))], h)) rfl ?_
      refine Ev.callv (a := [.inr (.inr (.inr (1, 0, 1))), .inl (iZ (k))]) rfl (cq_tellingValue I W rfl (by omega)) ?_
      refine Ev.sts 3 (c' := (87, [some (.inr (.inr (.inr (1, 0, 1)))), some (.inr (.inl (y))), none, some (.inr (.inl (((((((((((x * (31 : Int64)) + ((iZ (((tlS S).getD k t0).1))).toInt64) * (31 : Int64)) + ((iZ (((tlS S).getD k t0).2.1))).toInt64) * (31 : Int64)) + ((iZ (((tlS S).getD k t0).2.2.1))).toInt64) * (31 : Int64)) + ((iZ (((tlS S).getD k t0).2.2.2.1))).toInt64) * (31 : Int64)) + (((tlS S).getD k t0).2.2.2.2).toInt64)))), none, some (.inl (iZ (k)))], [], h)) rfl ?_
      refine Ev.stc (c1 := (90, [some (.inr (.inr (.inr (1, 0, 1)))), some (.inr (.inl (y))), none, some (.inr (.inl (((((((((((x * (31 : Int64)) + ((iZ (((tlS S).getD k t0).1))).toInt64) * (31 : Int64)) + ((iZ (((tlS S).getD k t0).2.1))).toInt64) * (31 : Int64)) + ((iZ (((tlS S).getD k t0).2.2.1))).toInt64) * (31 : Int64)) + ((iZ (((tlS S).getD k t0).2.2.2.1))).toInt64) * (31 : Int64)) + (((tlS S).getD k t0).2.2.2.2).toInt64)))), none, some (.inl ((iZ (k)) + (iZ (1))))], [], h)) (c2 := (90, [some (.inr (.inr (.inr (1, 0, 1)))), some (.inr (.inl (y))), none, some (.inr (.inl (((((((((((x * (31 : Int64)) + ((iZ (((tlS S).getD k t0).1))).toInt64) * (31 : Int64)) + ((iZ (((tlS S).getD k t0).2.1))).toInt64) * (31 : Int64)) + ((iZ (((tlS S).getD k t0).2.2.1))).toInt64) * (31 : Int64)) + ((iZ (((tlS S).getD k t0).2.2.2.1))).toInt64) * (31 : Int64)) + (((tlS S).getD k t0).2.2.2.2).toInt64)))), none, some (.inl (iZ (k + 1)))], [], h)) rfl (by rw [iZ_add]) ?_
      refine Ev.sts 1 (c' := (5, [some (.inr (.inr (.inr (1, 0, 1)))), some (.inr (.inl (y))), none, some (.inr (.inl (((((((((((x * (31 : Int64)) + ((iZ (((tlS S).getD k t0).1))).toInt64) * (31 : Int64)) + ((iZ (((tlS S).getD k t0).2.1))).toInt64) * (31 : Int64)) + ((iZ (((tlS S).getD k t0).2.2.1))).toInt64) * (31 : Int64)) + ((iZ (((tlS S).getD k t0).2.2.2.1))).toInt64) * (31 : Int64)) + (((tlS S).getD k t0).2.2.2.2).toInt64)))), none, some (.inl (iZ (k + 1)))], [], h)) rfl ?_
      refine ih (k + 1) _ (by omega) (by omega) ?_
      rw [e0, dgl_T] at q
      exact q

theorem cx_dt {d b n : Nat} {u : Q5} {S : Sta} {h : PH} (I : CI h S b n u) (W : WN S) {x : Int64} : Rv (d + 2) 65 [.inr (.inr (.inr (1, 0, 1))), .inr (.inl (x))] h (some (.inr (.inl (dgl x ((tlS S).flatMap dT))))) h := Rv.of fun Q q => by
  have sh := ci_sh I
  have hb := ci_b I
  have W0 := W
  obtain ⟨⟨w1, w2, w3, w4, w5, w6⟩, w7, w8, w9, w10, w11, w12, w13, w14, w15, w16, w17, w18⟩ := W0
  refine Ev.sts 4 (c' := (5, [some (.inr (.inr (.inr (1, 0, 1)))), some (.inr (.inl (x))), none, some (.inr (.inl (x))), none, some (.inl (iZ (0)))], [], h)) rfl ?_
  exact cx_dt_lp I W ((tlS S).length + 1) 0 x (by omega) (by omega) q

theorem cx_dw_lp {d b n : Nat} {u : Q5} {S : Sta} {h : PH} {Q : Rs → PH → Prop} (I : CI h S b n u) (W : WN S) {y : Int64} {g : Nat} (hc : g < (bkS S).2.2.length) (m : Nat) : ∀ (k : Nat) (x : Int64), k ≤ (wdS S g).length → (wdS S g).length < k + m → Q (.inl (some (.inr (.inl (dgl x (((wdS S g).drop k).flatMap dW)))))) h → Ev (d + 4) 53 (66, [some (.inr (.inr (.inr (1, 0, 1)))), some (.inr (.inl (y))), none, some (.inl (iZ (g))), some (.inr (.inl (x))), none, some (.inl (iZ (k)))], [], h) Q := by
  have sh := ci_sh I
  have hb := ci_b I
  have W0 := W
  obtain ⟨⟨w1, w2, w3, w4, w5, w6⟩, w7, w8, w9, w10, w11, w12, w13, w14, w15, w16, w17, w18⟩ := W0
  have hwl := (w14 g).2
  induction m with
  | zero => intro k x h1 h2 q; omega
  | succ m ih =>
    intro k x h1 h2 q
    refine Ev.sts 3 (c' := (70, [some (.inr (.inr (.inr (1, 0, 1)))), some (.inr (.inl (y))), none, some (.inl (iZ (g))), some (.inr (.inl (x))), none, some (.inl (iZ (k)))], [.inl (iZ (g)), .inr (.inr (.inr (1, 0, 1))), .inl (iZ (k))], h)) rfl ?_
    refine Ev.callv (a := [.inr (.inr (.inr (1, 0, 1))), .inl (iZ (g))]) rfl (cq_openWindows I W rfl (by omega)) ?_
    refine Ev.brc (p := (iZ ((wdS S g).length)) ≤ (iZ (k))) (q := (((wdS S g).length : Int)) ≤ k) (c1 := (150, [some (.inr (.inr (.inr (1, 0, 1)))), some (.inr (.inl (y))), none, some (.inl (iZ (g))), some (.inr (.inl (x))), none, some (.inl (iZ (k)))], [], h)) (c2 := (76, [some (.inr (.inr (.inr (1, 0, 1)))), some (.inr (.inl (y))), none, some (.inl (iZ (g))), some (.inr (.inl (x))), none, some (.inl (iZ (k)))], [], h)) rfl (iZ_le ⟨by omega, by omega⟩ ⟨by omega, by omega⟩) (fun c0 => ?_) (fun c0 => ?_)
    · refine Ev.sts 1 (c' := (152, [some (.inr (.inr (.inr (1, 0, 1)))), some (.inr (.inl (y))), none, some (.inl (iZ (g))), some (.inr (.inl (x))), none, some (.inl (iZ (k)))], [.inr (.inl (x))], h)) rfl ?_
      rw [List.drop_eq_nil_of_le (show (wdS S g).length ≤ k by omega)] at q
      exact Ev.ret rfl q
    · have e0 := drop_getD w0 (wdS S g) k (by omega)
      refine Ev.sts 6 (c' := (86, [some (.inr (.inr (.inr (1, 0, 1)))), some (.inr (.inl (y))), none, some (.inl (iZ (g))), some (.inr (.inl (x))), none, some (.inl (iZ (k)))], [.inl (iZ (k)), .inl (iZ (g)), .inr (.inr (.inr (1, 0, 1))), .inr (.inl ((x * (31 : Int64))))], h)) rfl ?_
      refine Ev.callv (a := [.inr (.inr (.inr (1, 0, 1))), .inl (iZ (g)), .inl (iZ (k))]) rfl (cq_openStart I W rfl (by omega) rfl (by omega)) ?_
      refine Ev.sts 9 (c' := (103, [some (.inr (.inr (.inr (1, 0, 1)))), some (.inr (.inl (y))), none, some (.inl (iZ (g))), some (.inr (.inl (((x * (31 : Int64)) + ((iZ (((wdS S g).getD k w0).1))).toInt64)))), none, some (.inl (iZ (k)))], [.inl (iZ (k)), .inl (iZ (g)), .inr (.inr (.inr (1, 0, 1))), .inr (.inl ((((x * (31 : Int64)) + ((iZ (((wdS S g).getD k w0).1))).toInt64) * (31 : Int64))))], h)) rfl ?_
      refine Ev.callv (a := [.inr (.inr (.inr (1, 0, 1))), .inl (iZ (g)), .inl (iZ (k))]) rfl (cq_openEnd I W rfl (by omega) rfl (by omega)) ?_
      refine Ev.sts 9 (c' := (120, [some (.inr (.inr (.inr (1, 0, 1)))), some (.inr (.inl (y))), none, some (.inl (iZ (g))), some (.inr (.inl (((((x * (31 : Int64)) + ((iZ (((wdS S g).getD k w0).1))).toInt64) * (31 : Int64)) + ((iZ (((wdS S g).getD k w0).2.1))).toInt64)))), none, some (.inl (iZ (k)))], [.inl (iZ (k)), .inl (iZ (g)), .inr (.inr (.inr (1, 0, 1))), .inr (.inl ((((((x * (31 : Int64)) + ((iZ (((wdS S g).getD k w0).1))).toInt64) * (31 : Int64)) + ((iZ (((wdS S g).getD k w0).2.1))).toInt64) * (31 : Int64))))], h)) rfl ?_
      refine Ev.callv (a := [.inr (.inr (.inr (1, 0, 1))), .inl (iZ (g)), .inl (iZ (k))]) rfl (cq_openCount I W rfl (by omega) rfl (by omega)) ?_
      refine Ev.sts 9 (c' := (137, [some (.inr (.inr (.inr (1, 0, 1)))), some (.inr (.inl (y))), none, some (.inl (iZ (g))), some (.inr (.inl (((((((x * (31 : Int64)) + ((iZ (((wdS S g).getD k w0).1))).toInt64) * (31 : Int64)) + ((iZ (((wdS S g).getD k w0).2.1))).toInt64) * (31 : Int64)) + ((iZ (((wdS S g).getD k w0).2.2.1))).toInt64)))), none, some (.inl (iZ (k)))], [.inl (iZ (k)), .inl (iZ (g)), .inr (.inr (.inr (1, 0, 1))), .inr (.inl ((((((((x * (31 : Int64)) + ((iZ (((wdS S g).getD k w0).1))).toInt64) * (31 : Int64)) + ((iZ (((wdS S g).getD k w0).2.1))).toInt64) * (31 : Int64)) + ((iZ (((wdS S g).getD k w0).2.2.1))).toInt64) * (31 : Int64))))], h)) rfl ?_
      refine Ev.callv (a := [.inr (.inr (.inr (1, 0, 1))), .inl (iZ (g)), .inl (iZ (k))]) rfl (cq_openValue I W rfl (by omega) rfl (by omega)) ?_
      refine Ev.sts 3 (c' := (144, [some (.inr (.inr (.inr (1, 0, 1)))), some (.inr (.inl (y))), none, some (.inl (iZ (g))), some (.inr (.inl (((((((((x * (31 : Int64)) + ((iZ (((wdS S g).getD k w0).1))).toInt64) * (31 : Int64)) + ((iZ (((wdS S g).getD k w0).2.1))).toInt64) * (31 : Int64)) + ((iZ (((wdS S g).getD k w0).2.2.1))).toInt64) * (31 : Int64)) + (((wdS S g).getD k w0).2.2.2).toInt64)))), none, some (.inl (iZ (k)))], [], h)) rfl ?_
      refine Ev.stc (c1 := (147, [some (.inr (.inr (.inr (1, 0, 1)))), some (.inr (.inl (y))), none, some (.inl (iZ (g))), some (.inr (.inl (((((((((x * (31 : Int64)) + ((iZ (((wdS S g).getD k w0).1))).toInt64) * (31 : Int64)) + ((iZ (((wdS S g).getD k w0).2.1))).toInt64) * (31 : Int64)) + ((iZ (((wdS S g).getD k w0).2.2.1))).toInt64) * (31 : Int64)) + (((wdS S g).getD k w0).2.2.2).toInt64)))), none, some (.inl ((iZ (k)) + (iZ (1))))], [], h)) (c2 := (147, [some (.inr (.inr (.inr (1, 0, 1)))), some (.inr (.inl (y))), none, some (.inl (iZ (g))), some (.inr (.inl (((((((((x * (31 : Int64)) + ((iZ (((wdS S g).getD k w0).1))).toInt64) * (31 : Int64)) + ((iZ (((wdS S g).getD k w0).2.1))).toInt64) * (31 : Int64)) + ((iZ (((wdS S g).getD k w0).2.2.1))).toInt64) * (31 : Int64)) + (((wdS S g).getD k w0).2.2.2).toInt64)))), none, some (.inl (iZ (k + 1)))], [], h)) rfl (by rw [iZ_add]) ?_
      refine Ev.sts 1 (c' := (66, [some (.inr (.inr (.inr (1, 0, 1)))), some (.inr (.inl (y))), none, some (.inl (iZ (g))), some (.inr (.inl (((((((((x * (31 : Int64)) + ((iZ (((wdS S g).getD k w0).1))).toInt64) * (31 : Int64)) + ((iZ (((wdS S g).getD k w0).2.1))).toInt64) * (31 : Int64)) + ((iZ (((wdS S g).getD k w0).2.2.1))).toInt64) * (31 : Int64)) + (((wdS S g).getD k w0).2.2.2).toInt64)))), none, some (.inl (iZ (k + 1)))], [], h)) rfl ?_
      refine ih (k + 1) _ (by omega) (by omega) ?_
      rw [e0, dgl_W] at q
      exact q

theorem cx_dgo {d b n : Nat} {u : Q5} {S : Sta} {h : PH} (I : CI h S b n u) (W : WN S) {x : Int64} {g : Nat} (hc : g < (bkS S).2.2.length) : Rv (d + 4) 53 [.inr (.inr (.inr (1, 0, 1))), .inr (.inl (x)), .inl (iZ (g))] h (some (.inr (.inl (dgl x (dGh S g ++ (wdS S g).flatMap dW))))) h := Rv.of fun Q q => by
  have sh := ci_sh I
  have hb := ci_b I
  have W0 := W
  obtain ⟨⟨w1, w2, w3, w4, w5, w6⟩, w7, w8, w9, w10, w11, w12, w13, w14, w15, w16, w17, w18⟩ := W0
  refine Ev.sts 7 (c' := (11, [some (.inr (.inr (.inr (1, 0, 1)))), some (.inr (.inl (x))), none, some (.inl (iZ (g))), some (.inr (.inl (x))), none, none], [.inl (iZ (g)), .inr (.inr (.inr (1, 0, 1))), .inr (.inl ((x * (31 : Int64))))], h)) rfl ?_
  refine Ev.callv (a := [.inr (.inr (.inr (1, 0, 1))), .inl (iZ (g))]) rfl (cq_flockOf I W rfl (by omega)) ?_
  refine Ev.sts 8 (c' := (26, [some (.inr (.inr (.inr (1, 0, 1)))), some (.inr (.inl (x))), none, some (.inl (iZ (g))), some (.inr (.inl (((x * (31 : Int64)) + ((iZ (((bkS S).2.2.getD g g0).1))).toInt64)))), none, none], [.inl (iZ (g)), .inr (.inr (.inr (1, 0, 1))), .inr (.inl ((((x * (31 : Int64)) + ((iZ (((bkS S).2.2.getD g g0).1))).toInt64) * (31 : Int64))))], h)) rfl ?_
  refine Ev.callv (a := [.inr (.inr (.inr (1, 0, 1))), .inl (iZ (g))]) rfl (cq_lateFor I W rfl (by omega)) ?_
  refine Ev.sts 8 (c' := (41, [some (.inr (.inr (.inr (1, 0, 1)))), some (.inr (.inl (x))), none, some (.inl (iZ (g))), some (.inr (.inl (((((x * (31 : Int64)) + ((iZ (((bkS S).2.2.getD g g0).1))).toInt64) * (31 : Int64)) + ((iZ (ltS S g))).toInt64)))), none, none], [.inl (iZ (g)), .inr (.inr (.inr (1, 0, 1))), .inr (.inl ((((((x * (31 : Int64)) + ((iZ (((bkS S).2.2.getD g g0).1))).toInt64) * (31 : Int64)) + ((iZ (ltS S g))).toInt64) * (31 : Int64))))], h)) rfl ?_
  refine Ev.callv (a := [.inr (.inr (.inr (1, 0, 1))), .inl (iZ (g))]) rfl (cq_openWindows I W rfl (by omega)) ?_
  refine Ev.sts 8 (c' := (56, [some (.inr (.inr (.inr (1, 0, 1)))), some (.inr (.inl (x))), none, some (.inl (iZ (g))), some (.inr (.inl (((((((x * (31 : Int64)) + ((iZ (((bkS S).2.2.getD g g0).1))).toInt64) * (31 : Int64)) + ((iZ (ltS S g))).toInt64) * (31 : Int64)) + ((iZ ((wdS S g).length))).toInt64)))), none, none], [.inl (iZ (g)), .inr (.inr (.inr (1, 0, 1))), .inr (.inl ((((((((x * (31 : Int64)) + ((iZ (((bkS S).2.2.getD g g0).1))).toInt64) * (31 : Int64)) + ((iZ (ltS S g))).toInt64) * (31 : Int64)) + ((iZ ((wdS S g).length))).toInt64) * (31 : Int64))))], h)) rfl ?_
  refine Ev.callv (a := [.inr (.inr (.inr (1, 0, 1))), .inl (iZ (g))]) rfl (cq_hourToTell I W rfl (by omega)) ?_
  refine Ev.sts 5 (c' := (66, [some (.inr (.inr (.inr (1, 0, 1)))), some (.inr (.inl (x))), none, some (.inl (iZ (g))), some (.inr (.inl (((((((((x * (31 : Int64)) + ((iZ (((bkS S).2.2.getD g g0).1))).toInt64) * (31 : Int64)) + ((iZ (ltS S g))).toInt64) * (31 : Int64)) + ((iZ ((wdS S g).length))).toInt64) * (31 : Int64)) + ((iZ (httC (wdS S g) (alB (bkS S) (ntS S))))).toInt64)))), none, some (.inl (iZ (0)))], [], h)) rfl ?_
  exact cx_dw_lp I W hc ((wdS S g).length + 1) 0 _ (by omega) (by omega) q

theorem cx_dg_lp {d b n : Nat} {u : Q5} {S : Sta} {h : PH} {Q : Rs → PH → Prop} (I : CI h S b n u) (W : WN S) (m : Nat) : ∀ (g : Nat) (x : Int64), g + m = (bkS S).2.2.length → (Ev (d + 5) 48 (213, [some (.inr (.inr (.inr (1, 0, 1)))), some (.inr (.inl ((dgl x (dG S m g))))), none, some (.inl (iZ (g + m)))], [], h) Q) → Ev (d + 5) 48 (192, [some (.inr (.inr (.inr (1, 0, 1)))), some (.inr (.inl (x))), none, some (.inl (iZ (g)))], [], h) Q := by
  have sh := ci_sh I
  have hb := ci_b I
  have W0 := W
  obtain ⟨⟨w1, w2, w3, w4, w5, w6⟩, w7, w8, w9, w10, w11, w12, w13, w14, w15, w16, w17, w18⟩ := W0
  induction m with
  | zero =>
    intro g x h1 k0
    replace k0 : Ev (d + 5) 48 (213, [some (.inr (.inr (.inr (1, 0, 1)))), some (.inr (.inl (x))), none, some (.inl (iZ ((g + 0 : Nat))))], [], h) Q := k0
    refine Ev.sts 2 (c' := (194, [some (.inr (.inr (.inr (1, 0, 1)))), some (.inr (.inl (x))), none, some (.inl (iZ (g)))], [.inr (.inr (.inr (1, 0, 1))), .inl (iZ (g))], h)) rfl ?_
    refine Ev.callv (a := [.inr (.inr (.inr (1, 0, 1)))]) rfl (cx_geese I) ?_
    refine Ev.brT (p := (iZ ((bkS S).2.2.length)) ≤ (iZ (g))) (c1 := (213, [some (.inr (.inr (.inr (1, 0, 1)))), some (.inr (.inl (x))), none, some (.inl (iZ (g)))], [], h)) (c2 := (200, [some (.inr (.inr (.inr (1, 0, 1)))), some (.inr (.inl (x))), none, some (.inl (iZ (g)))], [], h)) ((iZ_le ⟨by omega, by omega⟩ ⟨by omega, by omega⟩).mpr (by omega)) rfl ?_
    exact k0
  | succ m ih =>
    intro g x h1 k0
    refine Ev.sts 2 (c' := (194, [some (.inr (.inr (.inr (1, 0, 1)))), some (.inr (.inl (x))), none, some (.inl (iZ (g)))], [.inr (.inr (.inr (1, 0, 1))), .inl (iZ (g))], h)) rfl ?_
    refine Ev.callv (a := [.inr (.inr (.inr (1, 0, 1)))]) rfl (cx_geese I) ?_
    refine Ev.brF (p := (iZ ((bkS S).2.2.length)) ≤ (iZ (g))) (c1 := (213, [some (.inr (.inr (.inr (1, 0, 1)))), some (.inr (.inl (x))), none, some (.inl (iZ (g)))], [], h)) (c2 := (200, [some (.inr (.inr (.inr (1, 0, 1)))), some (.inr (.inl (x))), none, some (.inl (iZ (g)))], [], h)) (fun c_ => absurd ((iZ_le ⟨by omega, by omega⟩ ⟨by omega, by omega⟩).mp c_) (by omega)) rfl ?_
    refine Ev.sts 3 (c' := (203, [some (.inr (.inr (.inr (1, 0, 1)))), some (.inr (.inl (x))), none, some (.inl (iZ (g)))], [.inl (iZ (g)), .inr (.inl (x)), .inr (.inr (.inr (1, 0, 1)))], h)) rfl ?_
    refine Ev.callv (a := [.inr (.inr (.inr (1, 0, 1))), .inr (.inl (x)), .inl (iZ (g))]) rfl (cx_dgo I W (by omega)) ?_
    refine Ev.sts 1 (c' := (207, [some (.inr (.inr (.inr (1, 0, 1)))), some (.inr (.inl ((dgl x (dGh S g ++ (wdS S g).flatMap dW))))), none, some (.inl (iZ (g)))], [], h)) rfl ?_
    refine Ev.stc (c1 := (210, [some (.inr (.inr (.inr (1, 0, 1)))), some (.inr (.inl ((dgl x (dGh S g ++ (wdS S g).flatMap dW))))), none, some (.inl ((iZ (g)) + (iZ (1))))], [], h)) (c2 := (210, [some (.inr (.inr (.inr (1, 0, 1)))), some (.inr (.inl ((dgl x (dGh S g ++ (wdS S g).flatMap dW))))), none, some (.inl (iZ (g + 1)))], [], h)) rfl (by rw [iZ_add]) ?_
    refine Ev.sts 1 (c' := (192, [some (.inr (.inr (.inr (1, 0, 1)))), some (.inr (.inl ((dgl x (dGh S g ++ (wdS S g).flatMap dW))))), none, some (.inl (iZ (g + 1)))], [], h)) rfl ?_
    refine ih (g + 1) _ (by omega) ?_
    replace k0 := k0
    rw [show dG S (m + 1) g = (dGh S g ++ (wdS S g).flatMap dW) ++ dG S m (g + 1) from rfl, dgl_app, show ((g : Int) + ((m + 1 : Nat) : Int)) = (((g + 1 : Nat) : Int) + (m : Int)) by omega] at k0
    exact k0

theorem cx_df_lp {d b n : Nat} {u : Q5} {S : Sta} {h : PH} {Q : Rs → PH → Prop} (I : CI h S b n u) (W : WN S) (m : Nat) : ∀ (g : Nat) (x : Int64), g + m = (bkS S).2.1.length → (Ev (d + 2) 48 (190, [some (.inr (.inr (.inr (1, 0, 1)))), some (.inr (.inl ((dgl x (dF S m g))))), none, some (.inl (iZ (g + m)))], [], h) Q) → Ev (d + 2) 48 (150, [some (.inr (.inr (.inr (1, 0, 1)))), some (.inr (.inl (x))), none, some (.inl (iZ (g)))], [], h) Q := by
  have sh := ci_sh I
  have hb := ci_b I
  have W0 := W
  obtain ⟨⟨w1, w2, w3, w4, w5, w6⟩, w7, w8, w9, w10, w11, w12, w13, w14, w15, w16, w17, w18⟩ := W0
  induction m with
  | zero =>
    intro g x h1 k0
    replace k0 : Ev (d + 2) 48 (190, [some (.inr (.inr (.inr (1, 0, 1)))), some (.inr (.inl (x))), none, some (.inl (iZ ((g + 0 : Nat))))], [], h) Q := k0
    refine Ev.sts 2 (c' := (152, [some (.inr (.inr (.inr (1, 0, 1)))), some (.inr (.inl (x))), none, some (.inl (iZ (g)))], [.inr (.inr (.inr (1, 0, 1))), .inl (iZ (g))], h)) rfl ?_
    refine Ev.callv (a := [.inr (.inr (.inr (1, 0, 1)))]) rfl (cx_flocks I) ?_
    refine Ev.brT (p := (iZ ((bkS S).2.1.length)) ≤ (iZ (g))) (c1 := (190, [some (.inr (.inr (.inr (1, 0, 1)))), some (.inr (.inl (x))), none, some (.inl (iZ (g)))], [], h)) (c2 := (158, [some (.inr (.inr (.inr (1, 0, 1)))), some (.inr (.inl (x))), none, some (.inl (iZ (g)))], [], h)) ((iZ_le ⟨by omega, by omega⟩ ⟨by omega, by omega⟩).mpr (by omega)) rfl ?_
    exact k0
  | succ m ih =>
    intro g x h1 k0
    refine Ev.sts 2 (c' := (152, [some (.inr (.inr (.inr (1, 0, 1)))), some (.inr (.inl (x))), none, some (.inl (iZ (g)))], [.inr (.inr (.inr (1, 0, 1))), .inl (iZ (g))], h)) rfl ?_
    refine Ev.callv (a := [.inr (.inr (.inr (1, 0, 1)))]) rfl (cx_flocks I) ?_
    refine Ev.brF (p := (iZ ((bkS S).2.1.length)) ≤ (iZ (g))) (c1 := (190, [some (.inr (.inr (.inr (1, 0, 1)))), some (.inr (.inl (x))), none, some (.inl (iZ (g)))], [], h)) (c2 := (158, [some (.inr (.inr (.inr (1, 0, 1)))), some (.inr (.inl (x))), none, some (.inl (iZ (g)))], [], h)) (fun c_ => absurd ((iZ_le ⟨by omega, by omega⟩ ⟨by omega, by omega⟩).mp c_) (by omega)) rfl ?_
    refine Ev.sts 5 (c' := (165, [some (.inr (.inr (.inr (1, 0, 1)))), some (.inr (.inl (x))), none, some (.inl (iZ (g)))], [.inl (iZ (g)), .inr (.inr (.inr (1, 0, 1))), .inr (.inl ((x * (31 : Int64))))], h)) rfl ?_
    refine Ev.callv (a := [.inr (.inr (.inr (1, 0, 1))), .inl (iZ (g))]) rfl (cq_sizeOf I W ⟨by omega, by omega⟩) ?_
    refine Ev.sts 8 (c' := (178, [some (.inr (.inr (.inr (1, 0, 1)))), some (.inr (.inl (((x * (31 : Int64)) + ((iZ (szF (csS S) (iZ g)))).toInt64)))), none, some (.inl (iZ (g)))], [.inl (iZ (g)), .inr (.inr (.inr (1, 0, 1))), .inr (.inl ((((x * (31 : Int64)) + ((iZ (szF (csS S) (iZ g)))).toInt64) * (31 : Int64))))], h)) rfl ?_
    refine Ev.callv (a := [.inr (.inr (.inr (1, 0, 1))), .inl (iZ (g))]) rfl (cq_latestIn I W ⟨by omega, by omega⟩) ?_
    refine Ev.sts 3 (c' := (184, [some (.inr (.inr (.inr (1, 0, 1)))), some (.inr (.inl (((((x * (31 : Int64)) + ((iZ (szF (csS S) (iZ g)))).toInt64) * (31 : Int64)) + ((iZ (ltF (csS S) (iZ g) (csS S).length))).toInt64)))), none, some (.inl (iZ (g)))], [], h)) rfl ?_
    refine Ev.stc (c1 := (187, [some (.inr (.inr (.inr (1, 0, 1)))), some (.inr (.inl (((((x * (31 : Int64)) + ((iZ (szF (csS S) (iZ g)))).toInt64) * (31 : Int64)) + ((iZ (ltF (csS S) (iZ g) (csS S).length))).toInt64)))), none, some (.inl ((iZ (g)) + (iZ (1))))], [], h)) (c2 := (187, [some (.inr (.inr (.inr (1, 0, 1)))), some (.inr (.inl (((((x * (31 : Int64)) + ((iZ (szF (csS S) (iZ g)))).toInt64) * (31 : Int64)) + ((iZ (ltF (csS S) (iZ g) (csS S).length))).toInt64)))), none, some (.inl (iZ (g + 1)))], [], h)) rfl (by rw [iZ_add]) ?_
    refine Ev.sts 1 (c' := (150, [some (.inr (.inr (.inr (1, 0, 1)))), some (.inr (.inl (((((x * (31 : Int64)) + ((iZ (szF (csS S) (iZ g)))).toInt64) * (31 : Int64)) + ((iZ (ltF (csS S) (iZ g) (csS S).length))).toInt64)))), none, some (.inl (iZ (g + 1)))], [], h)) rfl ?_
    refine ih (g + 1) _ (by omega) ?_
    replace k0 := k0
    rw [show dF S (m + 1) g = [iZ (szF (csS S) (iZ g)), iZ (ltF (csS S) (iZ g) (csS S).length)] ++ dF S m (g + 1) from rfl, dgl_app, show ((g : Int) + ((m + 1 : Nat) : Int)) = (((g + 1 : Nat) : Int) + (m : Int)) by omega] at k0
    exact k0

theorem cx_digest {d b n : Nat} {u : Q5} {S : Sta} {h : PH} (I : CI h S b n u) (W : WN S) : Rv (d + 5) 48 [.inr (.inr (.inr (1, 0, 1)))] h (some (.inr (.inl (digS S)))) h := Rv.of fun Q q => by
  have sh := ci_sh I
  have hb := ci_b I
  have W0 := W
  obtain ⟨⟨w1, w2, w3, w4, w5, w6⟩, w7, w8, w9, w10, w11, w12, w13, w14, w15, w16, w17, w18⟩ := W0
  refine Ev.sts 6 (c' := (10, [some (.inr (.inr (.inr (1, 0, 1)))), some (.inr (.inl ((1973 : Int64)))), none, none], [.inr (.inr (.inr (1, 0, 1))), .inr (.inl (((1973 : Int64) * (31 : Int64))))], h)) rfl ?_
  refine Ev.callv (a := [.inr (.inr (.inr (1, 0, 1)))]) rfl (cx_flocks I) ?_
  refine Ev.sts 7 (c' := (22, [some (.inr (.inr (.inr (1, 0, 1)))), some (.inr (.inl ((((1973 : Int64) * (31 : Int64)) + ((iZ ((bkS S).2.1.length))).toInt64)))), none, none], [.inr (.inr (.inr (1, 0, 1))), .inr (.inl (((((1973 : Int64) * (31 : Int64)) + ((iZ ((bkS S).2.1.length))).toInt64) * (31 : Int64))))], h)) rfl ?_
  refine Ev.callv (a := [.inr (.inr (.inr (1, 0, 1)))]) rfl (cx_geese I) ?_
  refine Ev.sts 7 (c' := (34, [some (.inr (.inr (.inr (1, 0, 1)))), some (.inr (.inl ((((((1973 : Int64) * (31 : Int64)) + ((iZ ((bkS S).2.1.length))).toInt64) * (31 : Int64)) + ((iZ ((bkS S).2.2.length))).toInt64)))), none, none], [.inr (.inr (.inr (1, 0, 1))), .inr (.inl (((((((1973 : Int64) * (31 : Int64)) + ((iZ ((bkS S).2.1.length))).toInt64) * (31 : Int64)) + ((iZ ((bkS S).2.2.length))).toInt64) * (31 : Int64))))], h)) rfl ?_
  refine Ev.callv (a := [.inr (.inr (.inr (1, 0, 1)))]) rfl (cx_commas I) ?_
  refine Ev.sts 7 (c' := (46, [some (.inr (.inr (.inr (1, 0, 1)))), some (.inr (.inl ((((((((1973 : Int64) * (31 : Int64)) + ((iZ ((bkS S).2.1.length))).toInt64) * (31 : Int64)) + ((iZ ((bkS S).2.2.length))).toInt64) * (31 : Int64)) + ((iZ ((csS S).length))).toInt64)))), none, none], [.inr (.inr (.inr (1, 0, 1))), .inr (.inl (((((((((1973 : Int64) * (31 : Int64)) + ((iZ ((bkS S).2.1.length))).toInt64) * (31 : Int64)) + ((iZ ((bkS S).2.2.length))).toInt64) * (31 : Int64)) + ((iZ ((csS S).length))).toInt64) * (31 : Int64))))], h)) rfl ?_
  refine Ev.callv (a := [.inr (.inr (.inr (1, 0, 1)))]) rfl (cx_nights I) ?_
  refine Ev.sts 7 (c' := (58, [some (.inr (.inr (.inr (1, 0, 1)))), some (.inr (.inl ((((((((((1973 : Int64) * (31 : Int64)) + ((iZ ((bkS S).2.1.length))).toInt64) * (31 : Int64)) + ((iZ ((bkS S).2.2.length))).toInt64) * (31 : Int64)) + ((iZ ((csS S).length))).toInt64) * (31 : Int64)) + ((iZ ((ntS S)))).toInt64)))), none, none], [.inr (.inr (.inr (1, 0, 1))), .inr (.inl (((((((((((1973 : Int64) * (31 : Int64)) + ((iZ ((bkS S).2.1.length))).toInt64) * (31 : Int64)) + ((iZ ((bkS S).2.2.length))).toInt64) * (31 : Int64)) + ((iZ ((csS S).length))).toInt64) * (31 : Int64)) + ((iZ ((ntS S)))).toInt64) * (31 : Int64))))], h)) rfl ?_
  refine Ev.callv (a := [.inr (.inr (.inr (1, 0, 1)))]) rfl (cx_phase I W) ?_
  refine Ev.sts 7 (c' := (70, [some (.inr (.inr (.inr (1, 0, 1)))), some (.inr (.inl ((((((((((((1973 : Int64) * (31 : Int64)) + ((iZ ((bkS S).2.1.length))).toInt64) * (31 : Int64)) + ((iZ ((bkS S).2.2.length))).toInt64) * (31 : Int64)) + ((iZ ((csS S).length))).toInt64) * (31 : Int64)) + ((iZ ((ntS S)))).toInt64) * (31 : Int64)) + ((iZ (phB (bkS S) (ntS S)))).toInt64)))), none, none], [.inr (.inr (.inr (1, 0, 1))), .inr (.inl (((((((((((((1973 : Int64) * (31 : Int64)) + ((iZ ((bkS S).2.1.length))).toInt64) * (31 : Int64)) + ((iZ ((bkS S).2.2.length))).toInt64) * (31 : Int64)) + ((iZ ((csS S).length))).toInt64) * (31 : Int64)) + ((iZ ((ntS S)))).toInt64) * (31 : Int64)) + ((iZ (phB (bkS S) (ntS S)))).toInt64) * (31 : Int64))))], h)) rfl ?_
  refine Ev.callv (a := [.inr (.inr (.inr (1, 0, 1)))]) rfl (cx_allowance I W) ?_
  refine Ev.sts 7 (c' := (82, [some (.inr (.inr (.inr (1, 0, 1)))), some (.inr (.inl ((((((((((((((1973 : Int64) * (31 : Int64)) + ((iZ ((bkS S).2.1.length))).toInt64) * (31 : Int64)) + ((iZ ((bkS S).2.2.length))).toInt64) * (31 : Int64)) + ((iZ ((csS S).length))).toInt64) * (31 : Int64)) + ((iZ ((ntS S)))).toInt64) * (31 : Int64)) + ((iZ (phB (bkS S) (ntS S)))).toInt64) * (31 : Int64)) + ((iZ (alB (bkS S) (ntS S)))).toInt64)))), none, none], [.inr (.inr (.inr (1, 0, 1))), .inr (.inl (((((((((((((((1973 : Int64) * (31 : Int64)) + ((iZ ((bkS S).2.1.length))).toInt64) * (31 : Int64)) + ((iZ ((bkS S).2.2.length))).toInt64) * (31 : Int64)) + ((iZ ((csS S).length))).toInt64) * (31 : Int64)) + ((iZ ((ntS S)))).toInt64) * (31 : Int64)) + ((iZ (phB (bkS S) (ntS S)))).toInt64) * (31 : Int64)) + ((iZ (alB (bkS S) (ntS S)))).toInt64) * (31 : Int64))))], h)) rfl ?_
  refine Ev.callv (a := [.inr (.inr (.inr (1, 0, 1)))]) rfl (cx_greatestHour I) ?_
  refine Ev.sts 7 (c' := (94, [some (.inr (.inr (.inr (1, 0, 1)))), some (.inr (.inl ((((((((((((((((1973 : Int64) * (31 : Int64)) + ((iZ ((bkS S).2.1.length))).toInt64) * (31 : Int64)) + ((iZ ((bkS S).2.2.length))).toInt64) * (31 : Int64)) + ((iZ ((csS S).length))).toInt64) * (31 : Int64)) + ((iZ ((ntS S)))).toInt64) * (31 : Int64)) + ((iZ (phB (bkS S) (ntS S)))).toInt64) * (31 : Int64)) + ((iZ (alB (bkS S) (ntS S)))).toInt64) * (31 : Int64)) + ((iZ ((grS S)))).toInt64)))), none, none], [.inr (.inr (.inr (1, 0, 1))), .inr (.inl (((((((((((((((((1973 : Int64) * (31 : Int64)) + ((iZ ((bkS S).2.1.length))).toInt64) * (31 : Int64)) + ((iZ ((bkS S).2.2.length))).toInt64) * (31 : Int64)) + ((iZ ((csS S).length))).toInt64) * (31 : Int64)) + ((iZ ((ntS S)))).toInt64) * (31 : Int64)) + ((iZ (phB (bkS S) (ntS S)))).toInt64) * (31 : Int64)) + ((iZ (alB (bkS S) (ntS S)))).toInt64) * (31 : Int64)) + ((iZ ((grS S)))).toInt64) * (31 : Int64))))], h)) rfl ?_
  refine Ev.callv (a := [.inr (.inr (.inr (1, 0, 1)))]) rfl (cx_watermark I) ?_
  refine Ev.sts 7 (c' := (106, [some (.inr (.inr (.inr (1, 0, 1)))), some (.inr (.inl ((((((((((((((((((1973 : Int64) * (31 : Int64)) + ((iZ ((bkS S).2.1.length))).toInt64) * (31 : Int64)) + ((iZ ((bkS S).2.2.length))).toInt64) * (31 : Int64)) + ((iZ ((csS S).length))).toInt64) * (31 : Int64)) + ((iZ ((ntS S)))).toInt64) * (31 : Int64)) + ((iZ (phB (bkS S) (ntS S)))).toInt64) * (31 : Int64)) + ((iZ (alB (bkS S) (ntS S)))).toInt64) * (31 : Int64)) + ((iZ ((grS S)))).toInt64) * (31 : Int64)) + ((iZ ((wmS S)))).toInt64)))), none, none], [.inr (.inr (.inr (1, 0, 1))), .inr (.inl (((((((((((((((((((1973 : Int64) * (31 : Int64)) + ((iZ ((bkS S).2.1.length))).toInt64) * (31 : Int64)) + ((iZ ((bkS S).2.2.length))).toInt64) * (31 : Int64)) + ((iZ ((csS S).length))).toInt64) * (31 : Int64)) + ((iZ ((ntS S)))).toInt64) * (31 : Int64)) + ((iZ (phB (bkS S) (ntS S)))).toInt64) * (31 : Int64)) + ((iZ (alB (bkS S) (ntS S)))).toInt64) * (31 : Int64)) + ((iZ ((grS S)))).toInt64) * (31 : Int64)) + ((iZ ((wmS S)))).toInt64) * (31 : Int64))))], h)) rfl ?_
  refine Ev.callv (a := [.inr (.inr (.inr (1, 0, 1)))]) rfl (cx_lateInAll I W) ?_
  refine Ev.sts 7 (c' := (118, [some (.inr (.inr (.inr (1, 0, 1)))), some (.inr (.inl ((((((((((((((((((((1973 : Int64) * (31 : Int64)) + ((iZ ((bkS S).2.1.length))).toInt64) * (31 : Int64)) + ((iZ ((bkS S).2.2.length))).toInt64) * (31 : Int64)) + ((iZ ((csS S).length))).toInt64) * (31 : Int64)) + ((iZ ((ntS S)))).toInt64) * (31 : Int64)) + ((iZ (phB (bkS S) (ntS S)))).toInt64) * (31 : Int64)) + ((iZ (alB (bkS S) (ntS S)))).toInt64) * (31 : Int64)) + ((iZ ((grS S)))).toInt64) * (31 : Int64)) + ((iZ ((wmS S)))).toInt64) * (31 : Int64)) + ((iZ (lateA (ltS S)))).toInt64)))), none, none], [.inr (.inr (.inr (1, 0, 1))), .inr (.inl (((((((((((((((((((((1973 : Int64) * (31 : Int64)) + ((iZ ((bkS S).2.1.length))).toInt64) * (31 : Int64)) + ((iZ ((bkS S).2.2.length))).toInt64) * (31 : Int64)) + ((iZ ((csS S).length))).toInt64) * (31 : Int64)) + ((iZ ((ntS S)))).toInt64) * (31 : Int64)) + ((iZ (phB (bkS S) (ntS S)))).toInt64) * (31 : Int64)) + ((iZ (alB (bkS S) (ntS S)))).toInt64) * (31 : Int64)) + ((iZ ((grS S)))).toInt64) * (31 : Int64)) + ((iZ ((wmS S)))).toInt64) * (31 : Int64)) + ((iZ (lateA (ltS S)))).toInt64) * (31 : Int64))))], h)) rfl ?_
  refine Ev.callv (a := [.inr (.inr (.inr (1, 0, 1)))]) rfl (cx_tellings I) ?_
  refine Ev.sts 7 (c' := (130, [some (.inr (.inr (.inr (1, 0, 1)))), some (.inr (.inl ((((((((((((((((((((((1973 : Int64) * (31 : Int64)) + ((iZ ((bkS S).2.1.length))).toInt64) * (31 : Int64)) + ((iZ ((bkS S).2.2.length))).toInt64) * (31 : Int64)) + ((iZ ((csS S).length))).toInt64) * (31 : Int64)) + ((iZ ((ntS S)))).toInt64) * (31 : Int64)) + ((iZ (phB (bkS S) (ntS S)))).toInt64) * (31 : Int64)) + ((iZ (alB (bkS S) (ntS S)))).toInt64) * (31 : Int64)) + ((iZ ((grS S)))).toInt64) * (31 : Int64)) + ((iZ ((wmS S)))).toInt64) * (31 : Int64)) + ((iZ (lateA (ltS S)))).toInt64) * (31 : Int64)) + ((iZ ((tlS S).length))).toInt64)))), none, none], [.inr (.inr (.inr (1, 0, 1))), .inr (.inl (((((((((((((((((((((((1973 : Int64) * (31 : Int64)) + ((iZ ((bkS S).2.1.length))).toInt64) * (31 : Int64)) + ((iZ ((bkS S).2.2.length))).toInt64) * (31 : Int64)) + ((iZ ((csS S).length))).toInt64) * (31 : Int64)) + ((iZ ((ntS S)))).toInt64) * (31 : Int64)) + ((iZ (phB (bkS S) (ntS S)))).toInt64) * (31 : Int64)) + ((iZ (alB (bkS S) (ntS S)))).toInt64) * (31 : Int64)) + ((iZ ((grS S)))).toInt64) * (31 : Int64)) + ((iZ ((wmS S)))).toInt64) * (31 : Int64)) + ((iZ (lateA (ltS S)))).toInt64) * (31 : Int64)) + ((iZ ((tlS S).length))).toInt64) * (31 : Int64))))], h)) rfl ?_
  refine Ev.callv (a := [.inr (.inr (.inr (1, 0, 1)))]) rfl (cx_fullest I W) ?_
  refine Ev.sts 7 (c' := (142, [some (.inr (.inr (.inr (1, 0, 1)))), some (.inr (.inl ((((((((((((((((((((((((1973 : Int64) * (31 : Int64)) + ((iZ ((bkS S).2.1.length))).toInt64) * (31 : Int64)) + ((iZ ((bkS S).2.2.length))).toInt64) * (31 : Int64)) + ((iZ ((csS S).length))).toInt64) * (31 : Int64)) + ((iZ ((ntS S)))).toInt64) * (31 : Int64)) + ((iZ (phB (bkS S) (ntS S)))).toInt64) * (31 : Int64)) + ((iZ (alB (bkS S) (ntS S)))).toInt64) * (31 : Int64)) + ((iZ ((grS S)))).toInt64) * (31 : Int64)) + ((iZ ((wmS S)))).toInt64) * (31 : Int64)) + ((iZ (lateA (ltS S)))).toInt64) * (31 : Int64)) + ((iZ ((tlS S).length))).toInt64) * (31 : Int64)) + ((iZ (fulR (tlS S) 0 (-1) 0))).toInt64)))), none, none], [.inr (.inr (.inr (1, 0, 1))), .inr (.inl (((((((((((((((((((((((((1973 : Int64) * (31 : Int64)) + ((iZ ((bkS S).2.1.length))).toInt64) * (31 : Int64)) + ((iZ ((bkS S).2.2.length))).toInt64) * (31 : Int64)) + ((iZ ((csS S).length))).toInt64) * (31 : Int64)) + ((iZ ((ntS S)))).toInt64) * (31 : Int64)) + ((iZ (phB (bkS S) (ntS S)))).toInt64) * (31 : Int64)) + ((iZ (alB (bkS S) (ntS S)))).toInt64) * (31 : Int64)) + ((iZ ((grS S)))).toInt64) * (31 : Int64)) + ((iZ ((wmS S)))).toInt64) * (31 : Int64)) + ((iZ (lateA (ltS S)))).toInt64) * (31 : Int64)) + ((iZ ((tlS S).length))).toInt64) * (31 : Int64)) + ((iZ (fulR (tlS S) 0 (-1) 0))).toInt64) * (31 : Int64))))], h)) rfl ?_
  refine Ev.callv (a := [.inr (.inr (.inr (1, 0, 1)))]) rfl (cx_nut I W) ?_
  refine Ev.sts 5 (c' := (150, [some (.inr (.inr (.inr (1, 0, 1)))), some (.inr (.inl ((((((((((((((((((((((((((1973 : Int64) * (31 : Int64)) + ((iZ ((bkS S).2.1.length))).toInt64) * (31 : Int64)) + ((iZ ((bkS S).2.2.length))).toInt64) * (31 : Int64)) + ((iZ ((csS S).length))).toInt64) * (31 : Int64)) + ((iZ ((ntS S)))).toInt64) * (31 : Int64)) + ((iZ (phB (bkS S) (ntS S)))).toInt64) * (31 : Int64)) + ((iZ (alB (bkS S) (ntS S)))).toInt64) * (31 : Int64)) + ((iZ ((grS S)))).toInt64) * (31 : Int64)) + ((iZ ((wmS S)))).toInt64) * (31 : Int64)) + ((iZ (lateA (ltS S)))).toInt64) * (31 : Int64)) + ((iZ ((tlS S).length))).toInt64) * (31 : Int64)) + ((iZ (fulR (tlS S) 0 (-1) 0))).toInt64) * (31 : Int64)) + ((iZ (nutC (bkS S) (wdS S) (grS S) (wmS S) (ntS S) 30 1))).toInt64)))), none, some (.inl (iZ (0)))], [], h)) rfl ?_
  refine cx_df_lp I W (bkS S).2.1.length 0 _ (by omega) ?_
  refine Ev.sts 2 (c' := (192, [some (.inr (.inr (.inr (1, 0, 1)))), some (.inr (.inl ((dgl (((((((((((((((((((((((((1973 : Int64) * (31 : Int64)) + ((iZ ((bkS S).2.1.length))).toInt64) * (31 : Int64)) + ((iZ ((bkS S).2.2.length))).toInt64) * (31 : Int64)) + ((iZ ((csS S).length))).toInt64) * (31 : Int64)) + ((iZ ((ntS S)))).toInt64) * (31 : Int64)) + ((iZ (phB (bkS S) (ntS S)))).toInt64) * (31 : Int64)) + ((iZ (alB (bkS S) (ntS S)))).toInt64) * (31 : Int64)) + ((iZ ((grS S)))).toInt64) * (31 : Int64)) + ((iZ ((wmS S)))).toInt64) * (31 : Int64)) + ((iZ (lateA (ltS S)))).toInt64) * (31 : Int64)) + ((iZ ((tlS S).length))).toInt64) * (31 : Int64)) + ((iZ (fulR (tlS S) 0 (-1) 0))).toInt64) * (31 : Int64)) + ((iZ (nutC (bkS S) (wdS S) (grS S) (wmS S) (ntS S) 30 1))).toInt64) (dF S (bkS S).2.1.length 0))))), none, some (.inl (iZ (0)))], [], h)) rfl ?_
  refine cx_dg_lp I W (bkS S).2.2.length 0 _ (by omega) ?_
  refine Ev.sts 2 (c' := (215, [some (.inr (.inr (.inr (1, 0, 1)))), some (.inr (.inl ((dgl (dgl (((((((((((((((((((((((((1973 : Int64) * (31 : Int64)) + ((iZ ((bkS S).2.1.length))).toInt64) * (31 : Int64)) + ((iZ ((bkS S).2.2.length))).toInt64) * (31 : Int64)) + ((iZ ((csS S).length))).toInt64) * (31 : Int64)) + ((iZ ((ntS S)))).toInt64) * (31 : Int64)) + ((iZ (phB (bkS S) (ntS S)))).toInt64) * (31 : Int64)) + ((iZ (alB (bkS S) (ntS S)))).toInt64) * (31 : Int64)) + ((iZ ((grS S)))).toInt64) * (31 : Int64)) + ((iZ ((wmS S)))).toInt64) * (31 : Int64)) + ((iZ (lateA (ltS S)))).toInt64) * (31 : Int64)) + ((iZ ((tlS S).length))).toInt64) * (31 : Int64)) + ((iZ (fulR (tlS S) 0 (-1) 0))).toInt64) * (31 : Int64)) + ((iZ (nutC (bkS S) (wdS S) (grS S) (wmS S) (ntS S) 30 1))).toInt64) (dF S (bkS S).2.1.length 0)) (dG S (bkS S).2.2.length 0))))), none, some (.inl (iZ ((0 : Nat) + ((bkS S).2.2.length : Int))))], [.inr (.inl ((dgl (dgl (((((((((((((((((((((((((1973 : Int64) * (31 : Int64)) + ((iZ ((bkS S).2.1.length))).toInt64) * (31 : Int64)) + ((iZ ((bkS S).2.2.length))).toInt64) * (31 : Int64)) + ((iZ ((csS S).length))).toInt64) * (31 : Int64)) + ((iZ ((ntS S)))).toInt64) * (31 : Int64)) + ((iZ (phB (bkS S) (ntS S)))).toInt64) * (31 : Int64)) + ((iZ (alB (bkS S) (ntS S)))).toInt64) * (31 : Int64)) + ((iZ ((grS S)))).toInt64) * (31 : Int64)) + ((iZ ((wmS S)))).toInt64) * (31 : Int64)) + ((iZ (lateA (ltS S)))).toInt64) * (31 : Int64)) + ((iZ ((tlS S).length))).toInt64) * (31 : Int64)) + ((iZ (fulR (tlS S) 0 (-1) 0))).toInt64) * (31 : Int64)) + ((iZ (nutC (bkS S) (wdS S) (grS S) (wmS S) (ntS S) 30 1))).toInt64) (dF S (bkS S).2.1.length 0)) (dG S (bkS S).2.2.length 0)))), .inr (.inr (.inr (1, 0, 1)))], h)) rfl ?_
  refine Ev.callv (a := [.inr (.inr (.inr (1, 0, 1))), .inr (.inl ((dgl (dgl (((((((((((((((((((((((((1973 : Int64) * (31 : Int64)) + ((iZ ((bkS S).2.1.length))).toInt64) * (31 : Int64)) + ((iZ ((bkS S).2.2.length))).toInt64) * (31 : Int64)) + ((iZ ((csS S).length))).toInt64) * (31 : Int64)) + ((iZ ((ntS S)))).toInt64) * (31 : Int64)) + ((iZ (phB (bkS S) (ntS S)))).toInt64) * (31 : Int64)) + ((iZ (alB (bkS S) (ntS S)))).toInt64) * (31 : Int64)) + ((iZ ((grS S)))).toInt64) * (31 : Int64)) + ((iZ ((wmS S)))).toInt64) * (31 : Int64)) + ((iZ (lateA (ltS S)))).toInt64) * (31 : Int64)) + ((iZ ((tlS S).length))).toInt64) * (31 : Int64)) + ((iZ (fulR (tlS S) 0 (-1) 0))).toInt64) * (31 : Int64)) + ((iZ (nutC (bkS S) (wdS S) (grS S) (wmS S) (ntS S) 30 1))).toInt64) (dF S (bkS S).2.1.length 0)) (dG S (bkS S).2.2.length 0))))]) rfl (cx_dt I W) ?_
  unfold digS at q
  rw [dgl_app, dgl_app, dgl_app] at q
  exact Ev.ret rfl q

