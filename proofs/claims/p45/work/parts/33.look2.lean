/-! The class's calls that look at windows and tellings. -/
def fulR : List Tel → Int → Int → Int → Int
  | [], _, f, _ => f
  | t :: T, k, f, m => if m < t.2.2.2.1 then fulR T (k + 1) k t.2.2.2.1 else fulR T (k + 1) f m
def sumC : List Tel → Int
  | [] => 0
  | t :: T => t.2.2.2.1 + sumC T
theorem cx_ful_lp {d b n : Nat} {u : Q5} {S : Sta} {h : PH} {Q : Rs → PH → Prop} (I : CI h S b n u) (W : WN S) (m : Nat) : ∀ (k : Nat) (f x : Int), k ≤ (tlS S).length → (tlS S).length < k + m → 0 ≤ x ∧ x ≤ 1000 → Q (.inl (some (.inl (iZ (fulR ((tlS S).drop k) k f x))))) h → Ev (d + 1) 62 (6, [some (.inr (.inr (.inr (1, 0, 1)))), some (.inl (iZ (f))), some (.inl (iZ (x))), some (.inl (iZ (k)))], [], h) Q := by
  have sh := ci_sh I
  have hb := ci_b I
  have W0 := W
  obtain ⟨⟨w1, w2, w3, w4, w5, w6⟩, w7, w8, w9, w10, w11, w12, w13, w14, w15, w16, w17, w18⟩ := W0
  have hnl := (nL_facts (ci_tl I).2.2.1).2.1
  have hnn := (ci_tl I).2.1
  induction m with
  | zero => intro k f x h1 h2 hx q; omega
  | succ m ih =>
    intro k f x h1 h2 hx q
    refine Ev.sts 2 (c' := (8, [some (.inr (.inr (.inr (1, 0, 1)))), some (.inl (iZ (f))), some (.inl (iZ (x))), some (.inl (iZ (k)))], [.inr (.inr (.inr (1, 0, 1))), .inl (iZ (k))], h)) rfl ?_
    refine Ev.gfr (r := (8, 0, 62)) rfl (sh_1_6 sh) ?_
    refine Ev.gv (w := (iZ ((tlS S).length))) rfl (ci_tl I).1 ?_
    refine Ev.brc (p := (iZ ((tlS S).length)) ≤ (iZ (k))) (q := (((tlS S).length : Int)) ≤ k) (c1 := (52, [some (.inr (.inr (.inr (1, 0, 1)))), some (.inl (iZ (f))), some (.inl (iZ (x))), some (.inl (iZ (k)))], [], h)) (c2 := (17, [some (.inr (.inr (.inr (1, 0, 1)))), some (.inl (iZ (f))), some (.inl (iZ (x))), some (.inl (iZ (k)))], [], h)) rfl (iZ_le ⟨by omega, by omega⟩ ⟨by omega, by omega⟩) (fun c0 => ?_) (fun c0 => ?_)
    · refine Ev.sts 1 (c' := (53, [some (.inr (.inr (.inr (1, 0, 1)))), some (.inl (iZ (f))), some (.inl (iZ (x))), some (.inl (iZ (k)))], [.inl (iZ (f))], h)) rfl ?_
      rw [List.drop_eq_nil_of_le (show (tlS S).length ≤ k by omega)] at q
      exact Ev.ret rfl q
    · obtain ⟨b1, b2, b3, b4, b5, b6⟩ := w17 k (by omega)
      have e0 := drop_getD t0 (tlS S) k (by omega)
      refine Ev.sts 1 (c' := (18, [some (.inr (.inr (.inr (1, 0, 1)))), some (.inl (iZ (f))), some (.inl (iZ (x))), some (.inl (iZ (k)))], [.inr (.inr (.inr (1, 0, 1)))], h)) rfl ?_
      refine Ev.gfr (r := (8, 0, 62)) rfl (sh_1_6 sh) ?_
      refine Ev.gfr (r := (20, n, u.2.2.2.1)) rfl (ci_tl I).2.2.2.1.2.2.2.1 ?_
      refine Ev.sts 1 (c' := (25, [some (.inr (.inr (.inr (1, 0, 1)))), some (.inl (iZ (f))), some (.inl (iZ (x))), some (.inl (iZ (k)))], [.inl (iZ (k)), .inr (.inr (.inr (20, n, u.2.2.2.1)))], h)) rfl ?_
      refine Ev.callv (a := [.inr (.inr (.inr (20, n, u.2.2.2.1))), .inl (iZ (k))]) rfl (sp_at (k := k) (by omega) (by omega) (by omega) ((ci_tl I).2.2.2.2.2 k (by omega)).2.2.2.1) ?_
      refine Ev.sts 1 (c' := (29, [some (.inr (.inr (.inr (1, 0, 1)))), some (.inl (iZ (f))), some (.inl (iZ (x))), some (.inl (iZ (k)))], [.inl (iZ (x)), .inl (iZ (((tlS S).getD k t0).2.2.2.1))], h)) rfl ?_
      refine Ev.brc (p := (iZ (((tlS S).getD k t0).2.2.2.1)) ≤ (iZ (x))) (q := ((((tlS S).getD k t0).2.2.2.1 : Int)) ≤ x) (c1 := (46, [some (.inr (.inr (.inr (1, 0, 1)))), some (.inl (iZ (f))), some (.inl (iZ (x))), some (.inl (iZ (k)))], [], h)) (c2 := (32, [some (.inr (.inr (.inr (1, 0, 1)))), some (.inl (iZ (f))), some (.inl (iZ (x))), some (.inl (iZ (k)))], [], h)) rfl (iZ_le ⟨by omega, by omega⟩ ⟨by omega, by omega⟩) (fun c1 => ?_) (fun c1 => ?_)
      · refine Ev.stc (c1 := (49, [some (.inr (.inr (.inr (1, 0, 1)))), some (.inl (iZ (f))), some (.inl (iZ (x))), some (.inl ((iZ (k)) + (iZ (1))))], [], h)) (c2 := (49, [some (.inr (.inr (.inr (1, 0, 1)))), some (.inl (iZ (f))), some (.inl (iZ (x))), some (.inl (iZ (k + 1)))], [], h)) rfl (by rw [iZ_add]) ?_
        refine Ev.sts 1 (c' := (6, [some (.inr (.inr (.inr (1, 0, 1)))), some (.inl (iZ (f))), some (.inl (iZ (x))), some (.inl (iZ (k + 1)))], [], h)) rfl ?_
        refine ih (k + 1) f x (by omega) (by omega) ⟨by omega, by omega⟩ ?_
        rw [e0] at q
        rw [show fulR ((tlS S).getD k t0 :: (tlS S).drop (k + 1)) k f x = fulR ((tlS S).drop (k + 1)) (k + 1) f x from if_neg (by omega)] at q
        exact q
      · refine Ev.sts 3 (c' := (35, [some (.inr (.inr (.inr (1, 0, 1)))), some (.inl (iZ (k))), some (.inl (iZ (x))), some (.inl (iZ (k)))], [.inr (.inr (.inr (1, 0, 1)))], h)) rfl ?_
        refine Ev.gfr (r := (8, 0, 62)) rfl (sh_1_6 sh) ?_
        refine Ev.gfr (r := (20, n, u.2.2.2.1)) rfl (ci_tl I).2.2.2.1.2.2.2.1 ?_
        refine Ev.sts 1 (c' := (42, [some (.inr (.inr (.inr (1, 0, 1)))), some (.inl (iZ (k))), some (.inl (iZ (x))), some (.inl (iZ (k)))], [.inl (iZ (k)), .inr (.inr (.inr (20, n, u.2.2.2.1)))], h)) rfl ?_
        refine Ev.callv (a := [.inr (.inr (.inr (20, n, u.2.2.2.1))), .inl (iZ (k))]) rfl (sp_at (k := k) (by omega) (by omega) (by omega) ((ci_tl I).2.2.2.2.2 k (by omega)).2.2.2.1) ?_
        refine Ev.sts 1 (c' := (46, [some (.inr (.inr (.inr (1, 0, 1)))), some (.inl (iZ (k))), some (.inl (iZ (((tlS S).getD k t0).2.2.2.1))), some (.inl (iZ (k)))], [], h)) rfl ?_
        refine Ev.stc (c1 := (49, [some (.inr (.inr (.inr (1, 0, 1)))), some (.inl (iZ (k))), some (.inl (iZ (((tlS S).getD k t0).2.2.2.1))), some (.inl ((iZ (k)) + (iZ (1))))], [], h)) (c2 := (49, [some (.inr (.inr (.inr (1, 0, 1)))), some (.inl (iZ (k))), some (.inl (iZ (((tlS S).getD k t0).2.2.2.1))), some (.inl (iZ (k + 1)))], [], h)) rfl (by rw [iZ_add]) ?_
        refine Ev.sts 1 (c' := (6, [some (.inr (.inr (.inr (1, 0, 1)))), some (.inl (iZ (k))), some (.inl (iZ (((tlS S).getD k t0).2.2.2.1))), some (.inl (iZ (k + 1)))], [], h)) rfl ?_
        refine ih (k + 1) (k : Int) ((tlS S).getD k t0).2.2.2.1 (by omega) (by omega) ⟨by omega, by omega⟩ ?_
        rw [e0] at q
        rw [show fulR ((tlS S).getD k t0 :: (tlS S).drop (k + 1)) k f x = fulR ((tlS S).drop (k + 1)) (k + 1) k ((tlS S).getD k t0).2.2.2.1 from if_pos (by omega)] at q
        exact q

theorem cx_fullest {d b n : Nat} {u : Q5} {S : Sta} {h : PH} (I : CI h S b n u) (W : WN S) : Rv (d + 1) 62 [.inr (.inr (.inr (1, 0, 1)))] h (some (.inl (iZ (fulR (tlS S) 0 (-1) 0)))) h := Rv.of fun Q q => by
  have sh := ci_sh I
  have hb := ci_b I
  have W0 := W
  obtain ⟨⟨w1, w2, w3, w4, w5, w6⟩, w7, w8, w9, w10, w11, w12, w13, w14, w15, w16, w17, w18⟩ := W0
  refine Ev.sts 6 (c' := (6, [some (.inr (.inr (.inr (1, 0, 1)))), some (.inl (iZ (-1))), some (.inl (iZ (0))), some (.inl (iZ (0)))], [], h)) rfl ?_
  exact cx_ful_lp I W ((tlS S).length + 1) 0 (-1) 0 (by omega) (by omega) ⟨by omega, by omega⟩ q

/-- the mean, where it is a number -/
def meanN (T : List Tel) : Prop := FP.ddiv (FP.i2d (iZ (sumC T))) (FP.i2d (iZ T.length)) &&& 0x7fffffffffffffff ≤ 0x7ff0000000000000
theorem Ev.dv {d m pc : Nat} {c : Cf} {ls : LV} {st : List VV} {h : PH} {x : UInt64} {Q : Rs → PH → Prop} (hin : x &&& 0x7fffffffffffffff ≤ 0x7ff0000000000000) (hs : step m c = if x &&& 0x7fffffffffffffff ≤ 0x7ff0000000000000 then some (.inl (pc, ls, .inr (.inr (.inl x)) :: st, h)) else none) (kk : Ev d m (pc, ls, .inr (.inr (.inl x)) :: st, h) Q) : Ev d m c Q := by
  rw [if_pos hin] at hs
  exact Ev.st hs kk
theorem cx_mean_lp {d b n : Nat} {u : Q5} {S : Sta} {h : PH} {Q : Rs → PH → Prop} (I : CI h S b n u) (W : WN S) (m : Nat) : ∀ (k : Nat) (c : Int), k ≤ (tlS S).length → (tlS S).length < k + m → c + sumC ((tlS S).drop k) = sumC (tlS S) → Q (.inl (some (.inr (.inr (.inl (FP.ddiv (FP.i2d (iZ (sumC (tlS S)))) (FP.i2d (iZ (tlS S).length)))))))) h → FP.ddiv (FP.i2d (iZ (sumC (tlS S)))) (FP.i2d (iZ (tlS S).length)) &&& 0x7fffffffffffffff ≤ 0x7ff0000000000000 → Ev (d + 1) 69 (17, [some (.inr (.inr (.inr (1, 0, 1)))), some (.inl (iZ (c))), some (.inl (iZ (k)))], [], h) Q := by
  have sh := ci_sh I
  have hb := ci_b I
  have W0 := W
  obtain ⟨⟨w1, w2, w3, w4, w5, w6⟩, w7, w8, w9, w10, w11, w12, w13, w14, w15, w16, w17, w18⟩ := W0
  have hnl := (nL_facts (ci_tl I).2.2.1).2.1
  have hnn := (ci_tl I).2.1
  induction m with
  | zero => intro k c h1 h2 hc q mn; omega
  | succ m ih =>
    intro k c h1 h2 hc q mn
    refine Ev.sts 2 (c' := (19, [some (.inr (.inr (.inr (1, 0, 1)))), some (.inl (iZ (c))), some (.inl (iZ (k)))], [.inr (.inr (.inr (1, 0, 1))), .inl (iZ (k))], h)) rfl ?_
    refine Ev.gfr (r := (8, 0, 62)) rfl (sh_1_6 sh) ?_
    refine Ev.gv (w := (iZ ((tlS S).length))) rfl (ci_tl I).1 ?_
    refine Ev.brc (p := (iZ ((tlS S).length)) ≤ (iZ (k))) (q := (((tlS S).length : Int)) ≤ k) (c1 := (48, [some (.inr (.inr (.inr (1, 0, 1)))), some (.inl (iZ (c))), some (.inl (iZ (k)))], [], h)) (c2 := (28, [some (.inr (.inr (.inr (1, 0, 1)))), some (.inl (iZ (c))), some (.inl (iZ (k)))], [], h)) rfl (iZ_le ⟨by omega, by omega⟩ ⟨by omega, by omega⟩) (fun c0 => ?_) (fun c0 => ?_)
    · refine Ev.sts 3 (c' := (51, [some (.inr (.inr (.inr (1, 0, 1)))), some (.inl (iZ (c))), some (.inl (iZ (k)))], [.inr (.inr (.inr (1, 0, 1))), .inr (.inr (.inl ((FP.i2d ((iZ (c)))))))], h)) rfl ?_
      refine Ev.gfr (r := (8, 0, 62)) rfl (sh_1_6 sh) ?_
      refine Ev.gv (w := (iZ ((tlS S).length))) rfl (ci_tl I).1 ?_
      refine Ev.sts 1 (c' := (58, [some (.inr (.inr (.inr (1, 0, 1)))), some (.inl (iZ (c))), some (.inl (iZ (k)))], [.inr (.inr (.inl ((FP.i2d ((iZ ((tlS S).length))))))), .inr (.inr (.inl ((FP.i2d ((iZ (c)))))))], h)) rfl ?_
      have e : (c : Int) = sumC (tlS S) := by rw [List.drop_eq_nil_of_le (show (tlS S).length ≤ k by omega)] at hc; exact (Int.add_zero c).symm.trans hc
      rw [← e] at q mn
      refine Ev.dv (x := FP.ddiv (FP.i2d ((iZ (c)))) (FP.i2d ((iZ ((tlS S).length))))) mn rfl ?_
      exact Ev.ret rfl (q)
    · have e0 := drop_getD t0 (tlS S) k (by omega)
      refine Ev.sts 2 (c' := (30, [some (.inr (.inr (.inr (1, 0, 1)))), some (.inl (iZ (c))), some (.inl (iZ (k)))], [.inr (.inr (.inr (1, 0, 1))), .inl (iZ (c))], h)) rfl ?_
      refine Ev.gfr (r := (8, 0, 62)) rfl (sh_1_6 sh) ?_
      refine Ev.gfr (r := (20, n, u.2.2.2.1)) rfl (ci_tl I).2.2.2.1.2.2.2.1 ?_
      refine Ev.sts 1 (c' := (37, [some (.inr (.inr (.inr (1, 0, 1)))), some (.inl (iZ (c))), some (.inl (iZ (k)))], [.inl (iZ (k)), .inr (.inr (.inr (20, n, u.2.2.2.1))), .inl (iZ (c))], h)) rfl ?_
      refine Ev.callv (a := [.inr (.inr (.inr (20, n, u.2.2.2.1))), .inl (iZ (k))]) rfl (sp_at (k := k) (by omega) (by omega) (by omega) ((ci_tl I).2.2.2.2.2 k (by omega)).2.2.2.1) ?_
      refine Ev.gv (w := (iZ (c + (((tlS S).getD k t0).2.2.2.1)))) rfl (iZ_add _ _) ?_
      refine Ev.sts 1 (c' := (42, [some (.inr (.inr (.inr (1, 0, 1)))), some (.inl (iZ (c + (((tlS S).getD k t0).2.2.2.1)))), some (.inl (iZ (k)))], [], h)) rfl ?_
      refine Ev.stc (c1 := (45, [some (.inr (.inr (.inr (1, 0, 1)))), some (.inl (iZ (c + (((tlS S).getD k t0).2.2.2.1)))), some (.inl ((iZ (k)) + (iZ (1))))], [], h)) (c2 := (45, [some (.inr (.inr (.inr (1, 0, 1)))), some (.inl (iZ (c + (((tlS S).getD k t0).2.2.2.1)))), some (.inl (iZ (k + 1)))], [], h)) rfl (by rw [iZ_add]) ?_
      refine Ev.sts 1 (c' := (17, [some (.inr (.inr (.inr (1, 0, 1)))), some (.inl (iZ (c + (((tlS S).getD k t0).2.2.2.1)))), some (.inl (iZ (k + 1)))], [], h)) rfl ?_
      refine ih (k + 1) _ (by omega) (by omega) ?_ q mn
      rw [e0] at hc
      rw [Int.add_assoc]
      exact hc

theorem cx_mean {d b n : Nat} {u : Q5} {S : Sta} {h : PH} {Q : Rs → PH → Prop} (I : CI h S b n u) (W : WN S) (hT : 1 ≤ (tlS S).length) (mn : meanN (tlS S)) (q : Q (.inl (some (.inr (.inr (.inl (FP.ddiv (FP.i2d (iZ (sumC (tlS S)))) (FP.i2d (iZ (tlS S).length)))))))) h) : Rn (d + 1) 69 [.inr (.inr (.inr (1, 0, 1)))] h Q := by
  have sh := ci_sh I
  have hb := ci_b I
  have W0 := W
  obtain ⟨⟨w1, w2, w3, w4, w5, w6⟩, w7, w8, w9, w10, w11, w12, w13, w14, w15, w16, w17, w18⟩ := W0
  refine Ev.sts 1 (c' := (1, [some (.inr (.inr (.inr (1, 0, 1)))), none, none], [.inr (.inr (.inr (1, 0, 1)))], h)) rfl ?_
  refine Ev.gfr (r := (8, 0, 62)) rfl (sh_1_6 sh) ?_
  refine Ev.gv (w := (iZ ((tlS S).length))) rfl (ci_tl I).1 ?_
  refine Ev.sts 1 (c' := (8, [some (.inr (.inr (.inr (1, 0, 1)))), none, none], [.inl (iZ (1)), .inl (iZ ((tlS S).length))], h)) rfl ?_
  refine Ev.brT (p := (iZ (1)) ≤ (iZ ((tlS S).length))) (c1 := (13, [some (.inr (.inr (.inr (1, 0, 1)))), none, none], [], h)) (c2 := (11, [some (.inr (.inr (.inr (1, 0, 1)))), none, none], [], h)) ((iZ_le ⟨by omega, by omega⟩ ⟨by omega, by omega⟩).mpr (by omega)) rfl ?_
  refine Ev.sts 4 (c' := (17, [some (.inr (.inr (.inr (1, 0, 1)))), some (.inl (iZ (0))), some (.inl (iZ (0)))], [], h)) rfl ?_
  exact cx_mean_lp I W ((tlS S).length + 1) 0 0 (by omega) (by omega) (by rw [List.drop_zero]; omega) q mn

theorem cx_mean0 {d b n : Nat} {u : Q5} {S : Sta} {h : PH} {Q : Rs → PH → Prop} (I : CI h S b n u) (W : WN S) (hT : (tlS S).length = 0) (q : Q (.inl (some (.inr (.inr (.inl FP.dconst0))))) h) : Rn d 69 [.inr (.inr (.inr (1, 0, 1)))] h Q := by
  have sh := ci_sh I
  have hb := ci_b I
  have W0 := W
  obtain ⟨⟨w1, w2, w3, w4, w5, w6⟩, w7, w8, w9, w10, w11, w12, w13, w14, w15, w16, w17, w18⟩ := W0
  refine Ev.sts 1 (c' := (1, [some (.inr (.inr (.inr (1, 0, 1)))), none, none], [.inr (.inr (.inr (1, 0, 1)))], h)) rfl ?_
  refine Ev.gfr (r := (8, 0, 62)) rfl (sh_1_6 sh) ?_
  refine Ev.gv (w := (iZ ((tlS S).length))) rfl (ci_tl I).1 ?_
  refine Ev.sts 1 (c' := (8, [some (.inr (.inr (.inr (1, 0, 1)))), none, none], [.inl (iZ (1)), .inl (iZ ((tlS S).length))], h)) rfl ?_
  refine Ev.brF (p := (iZ (1)) ≤ (iZ ((tlS S).length))) (c1 := (13, [some (.inr (.inr (.inr (1, 0, 1)))), none, none], [], h)) (c2 := (11, [some (.inr (.inr (.inr (1, 0, 1)))), none, none], [], h)) (fun c_ => absurd ((iZ_le ⟨by omega, by omega⟩ ⟨by omega, by omega⟩).mp c_) (by omega)) rfl ?_
  refine Ev.sts 1 (c' := (12, [some (.inr (.inr (.inr (1, 0, 1)))), none, none], [.inr (.inr (.inl (FP.dconst0)))], h)) rfl ?_
  exact Ev.ret rfl (q)

theorem cx_wmb {d b n : Nat} {u : Q5} {S : Sta} {h : PH} (I : CI h S b n u) (W : WN S) {y x : Int} (hx : 0 ≤ x ∧ x < 100000) (hy : -1 ≤ y ∧ y ≤ 2000) : Rv (d + 2) 71 [.inr (.inr (.inr (1, 0, 1))), .inl (iZ (y)), .inl (iZ (x))] h (some (.inl (iZ (max (wmS S) (y - alB (bkS S) x))))) h := Rv.of fun Q q => by
  have sh := ci_sh I
  have hb := ci_b I
  have W0 := W
  obtain ⟨⟨w1, w2, w3, w4, w5, w6⟩, w7, w8, w9, w10, w11, w12, w13, w14, w15, w16, w17, w18⟩ := W0
  refine Ev.sts 1 (c' := (1, [some (.inr (.inr (.inr (1, 0, 1)))), some (.inl (iZ (y))), some (.inl (iZ (x)))], [.inr (.inr (.inr (1, 0, 1)))], h)) rfl ?_
  refine Ev.gv (w := (iZ (wmS S))) rfl (ci_wm I) ?_
  refine Ev.sts 2 (c' := (6, [some (.inr (.inr (.inr (1, 0, 1)))), some (.inl (iZ (y))), some (.inl (iZ (x)))], [.inr (.inr (.inr (1, 0, 1))), .inl (iZ (y)), .inl (iZ (wmS S))], h)) rfl ?_
  refine Ev.gfr (r := (2, 0, b)) rfl (ci_17 I) ?_
  refine Ev.sts 1 (c' := (10, [some (.inr (.inr (.inr (1, 0, 1)))), some (.inl (iZ (y))), some (.inl (iZ (x)))], [.inl (iZ (x)), .inr (.inr (.inr (2, 0, b))), .inl (iZ (y)), .inl (iZ (wmS S))], h)) rfl ?_
  refine Ev.callv (a := [.inr (.inr (.inr (2, 0, b))), .inl (iZ (x))]) rfl (sp_allowanceIn sh hb (ci_bk I).1 ⟨w1, w2⟩ ⟨by omega, by omega⟩) ?_
  have ab := alB_b (show bkN (bkS S) from ⟨w1, w2, w3, w4, w5, w6⟩) x
  refine Ev.gv (w := (iZ (y - (alB (bkS S) x)))) rfl (iZ_sub _ _) ?_
  refine Ev.gv (w := (iZ (max (wmS S) (y - (alB (bkS S) x))))) rfl (iZ_max ⟨by omega, by omega⟩ ⟨by omega, by omega⟩) ?_
  exact Ev.ret rfl (q)

/-- how many open windows are over at m -/
def ovA (ws : Nat → List Win) (m : Int) : Nat := cntO (ws 0) m + cntO (ws 1) m + cntO (ws 2) m + cntO (ws 3) m + cntO (ws 4) m + cntO (ws 5) m





theorem fstE_b {N : Int} {W : List Win} (hn : wsB N W) : ∀ a, 0 ≤ a → a ≤ 2000 → 0 ≤ fstE W a ∧ fstE W a ≤ 2000 := by
  induction W with
  | nil => intro a h1 h2; exact ⟨h1, h2⟩
  | cons w W ih =>
    intro a h1 h2
    obtain ⟨b1, b2, b3, b4, b5, b6⟩ := hn 0 (Nat.zero_lt_succ _)
    replace b3 : 0 ≤ w.2.1 := b3
    exact ih (fun j hj => hn (j + 1) (Nat.succ_lt_succ hj)) (min a w.2.1) (by omega) (by omega)
/-- the hour by which a window of W is told, allowance a -/
def httC (W : List Win) (a : Int) : Int := if 999 < fstE W 2000 + a then -1 else fstE W 2000 + a


theorem gs_goo {h : PH} {b g : Nat} {B : Bk} (w : bkN B) (k : bkC h b B) (hg : g < B.2.2.length) : gooC h (b + 9 + g) (B.2.2.getD g g0).2.1 (if (B.2.2.getD g g0).2.2.1 = 0 then 1 else (B.2.2.getD g g0).2.2.1) (B.2.2.getD g g0).2.2.2.1 := by
  obtain ⟨k1, k2, k3, k4, k5, -⟩ := k.2.2.2.2 g hg
  obtain ⟨v1, v2, v3, v4, v5, v6⟩ := w.2.2.2.2.2 g hg
  refine ⟨k3, k4, k5, v6, v2, v3, ?_, ?_⟩
  · split <;> omega
  · split <;> omega
/-- whether a comma of hour hr is late for G -/
def ltG (G : Gs) (hr wm : Int) : Prop := hr - hr % (if G.2.2.1 = 0 then 1 else G.2.2.1) + G.2.1 ≤ wm
def wblF : List Gs → Int → Int → Nat
  | [], _, _ => 0
  | G :: L, hr, wm => (if hr - hr % (if G.2.2.1 = 0 then 1 else G.2.2.1) + G.2.1 ≤ wm then 1 else 0) + wblF L hr wm







