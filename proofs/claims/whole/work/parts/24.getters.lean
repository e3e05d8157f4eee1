/-! Getters and the law's cases for them. -/
theorem wp_x_commas {d : Nat} {h : PH} {Q : Rs → PH → Prop}  (k0 : Q (.inl (some (.inl ((h.1 1 8))))) h) : Rn d 35 [.inr (.inr (.inr (1, 0, 1)))] h Q := by
  refine Ev.sts 2 (c' := (4, [some (.inr (.inr (.inr (1, 0, 1))))], [.inl ((h.1 1 8))], h)) rfl ?_
  exact Ev.ret rfl (k0)

theorem wp_x_nights {d : Nat} {h : PH} {Q : Rs → PH → Prop}  (k0 : Q (.inl (some (.inl ((h.1 1 9))))) h) : Rn d 36 [.inr (.inr (.inr (1, 0, 1)))] h Q := by
  refine Ev.sts 2 (c' := (4, [some (.inr (.inr (.inr (1, 0, 1))))], [.inl ((h.1 1 9))], h)) rfl ?_
  exact Ev.ret rfl (k0)

theorem wp_x_greatestHour {d : Nat} {h : PH} {Q : Rs → PH → Prop}  (k0 : Q (.inl (some (.inl ((h.1 1 10))))) h) : Rn d 39 [.inr (.inr (.inr (1, 0, 1)))] h Q := by
  refine Ev.sts 2 (c' := (4, [some (.inr (.inr (.inr (1, 0, 1))))], [.inl ((h.1 1 10))], h)) rfl ?_
  exact Ev.ret rfl (k0)

theorem wp_x_watermark {d : Nat} {h : PH} {Q : Rs → PH → Prop}  (k0 : Q (.inl (some (.inl ((h.1 1 11))))) h) : Rn d 40 [.inr (.inr (.inr (1, 0, 1)))] h Q := by
  refine Ev.sts 2 (c' := (4, [some (.inr (.inr (.inr (1, 0, 1))))], [.inl ((h.1 1 11))], h)) rfl ?_
  exact Ev.ret rfl (k0)

theorem wp_r_told {d : Nat} {v : Int32} {h : PH} {Q : Rs → PH → Prop}  (k0 : Q (.inl (some (.inl (v)))) (setI h 83 0 ((0 : Int32)))) : Rn d 208 [.inr (.inr (.inr (11, 0, 83))), .inl (v)] h Q := by
  refine Ev.sts 4 (c' := (6, [some (.inr (.inr (.inr (11, 0, 83)))), some (.inl (v))], [.inl (v)], (setI h 83 0 ((0 : Int32))))) rfl ?_
  exact Ev.ret rfl (k0)

theorem wp_r_commas {d : Nat} {h : PH} {Q : Rs → PH → Prop}  (k0 : Q (.inl (some (.inl ((h.1 83 21))))) (setI h 83 0 ((0 : Int32)))) : Rn (d + 1) 233 [.inr (.inr (.inr (11, 0, 83)))] h Q := by
  refine Ev.sts 3 (c' := (5, [some (.inr (.inr (.inr (11, 0, 83))))], [.inl ((h.1 83 21)), .inr (.inr (.inr (11, 0, 83)))], h)) rfl ?_
  refine Ev.callw (a := [.inr (.inr (.inr (11, 0, 83))), .inl ((h.1 83 21))]) rfl (wp_r_told ?_)
  · exact Ev.ret rfl (k0)

theorem wp_r_nights {d : Nat} {h : PH} {Q : Rs → PH → Prop}  (k0 : Q (.inl (some (.inl ((h.1 83 25))))) (setI h 83 0 ((0 : Int32)))) : Rn (d + 1) 234 [.inr (.inr (.inr (11, 0, 83)))] h Q := by
  refine Ev.sts 3 (c' := (5, [some (.inr (.inr (.inr (11, 0, 83))))], [.inl ((h.1 83 25)), .inr (.inr (.inr (11, 0, 83)))], h)) rfl ?_
  refine Ev.callw (a := [.inr (.inr (.inr (11, 0, 83))), .inl ((h.1 83 25))]) rfl (wp_r_told ?_)
  · exact Ev.ret rfl (k0)

theorem wp_r_greatestHour {d : Nat} {h : PH} {Q : Rs → PH → Prop}  (k0 : Q (.inl (some (.inl ((h.1 83 26))))) (setI h 83 0 ((0 : Int32)))) : Rn (d + 1) 237 [.inr (.inr (.inr (11, 0, 83)))] h Q := by
  refine Ev.sts 3 (c' := (5, [some (.inr (.inr (.inr (11, 0, 83))))], [.inl ((h.1 83 26)), .inr (.inr (.inr (11, 0, 83)))], h)) rfl ?_
  refine Ev.callw (a := [.inr (.inr (.inr (11, 0, 83))), .inl ((h.1 83 26))]) rfl (wp_r_told ?_)
  · exact Ev.ret rfl (k0)

theorem wp_r_watermark {d : Nat} {h : PH} {Q : Rs → PH → Prop}  (k0 : Q (.inl (some (.inl ((h.1 83 27))))) (setI h 83 0 ((0 : Int32)))) : Rn (d + 1) 238 [.inr (.inr (.inr (11, 0, 83)))] h Q := by
  refine Ev.sts 3 (c' := (5, [some (.inr (.inr (.inr (11, 0, 83))))], [.inl ((h.1 83 27)), .inr (.inr (.inr (11, 0, 83)))], h)) rfl ?_
  refine Ev.callw (a := [.inr (.inr (.inr (11, 0, 83))), .inl ((h.1 83 27))]) rfl (wp_r_told ?_)
  · exact Ev.ret rfl (k0)

theorem wp_at {d n r : Nat} {p : Int32} {h : PH} {Q : Rs → PH → Prop}  (k0 : p < (0 : Int32) → Q (.inl (some (.inl ((0 : Int32))))) h) (k1 : ¬ (p < (0 : Int32)) → (Int32.ofNat n) ≤ p → Q (.inl (some (.inl ((0 : Int32))))) h) (k2 : ¬ (p < (0 : Int32)) → ¬ ((Int32.ofNat n) ≤ p) → ¬ (p < 0 ∨ n ≤ (p).toNatClampNeg)) (k3 : ¬ (p < (0 : Int32)) → ¬ ((Int32.ofNat n) ≤ p) → Q (.inl (some (.inl ((h.1 r (p).toNatClampNeg))))) h) : Rn d 28 [.inr (.inr (.inr (20, n, r))), .inl (p)] h Q := by
  refine Ev.sts 1 (c' := (1, [some (.inr (.inr (.inr (20, n, r)))), some (.inl (p))], [.inl (p)], h)) rfl ?_
  refine Ev.br (p := p < (0 : Int32)) (c1 := (16, [some (.inr (.inr (.inr (20, n, r)))), some (.inl (p))], [], h)) (c2 := (4, [some (.inr (.inr (.inr (20, n, r)))), some (.inl (p))], [], h)) rfl (fun c0 => ?_) (fun c0 => ?_)
  · refine Ev.sts 1 (c' := (17, [some (.inr (.inr (.inr (20, n, r)))), some (.inl (p))], [.inl ((0 : Int32))], h)) rfl ?_
    exact Ev.ret rfl (k0 c0)
  · refine Ev.sts 3 (c' := (7, [some (.inr (.inr (.inr (20, n, r)))), some (.inl (p))], [.inl ((Int32.ofNat n)), .inl (p)], h)) rfl ?_
    refine Ev.br (p := (Int32.ofNat n) ≤ p) (c1 := (16, [some (.inr (.inr (.inr (20, n, r)))), some (.inl (p))], [], h)) (c2 := (10, [some (.inr (.inr (.inr (20, n, r)))), some (.inl (p))], [], h)) rfl (fun c1 => ?_) (fun c1 => ?_)
    · refine Ev.sts 1 (c' := (17, [some (.inr (.inr (.inr (20, n, r)))), some (.inl (p))], [.inl ((0 : Int32))], h)) rfl ?_
      exact Ev.ret rfl (k1 c0 c1)
    · refine Ev.sts 2 (c' := (12, [some (.inr (.inr (.inr (20, n, r)))), some (.inl (p))], [.inl (p), .inr (.inr (.inr (20, n, r)))], h)) rfl ?_
      refine Ev.ld (c' := (13, [some (.inr (.inr (.inr (20, n, r)))), some (.inl (p))], [.inl ((h.1 r (p).toNatClampNeg))], h)) (j := p) (n := n) (k2 c0 c1) rfl ?_
      refine Ev.sts 1 (c' := (17, [some (.inr (.inr (.inr (20, n, r)))), some (.inl (p))], [.inl ((h.1 r (p).toNatClampNeg))], h)) rfl ?_
      exact Ev.ret rfl (k3 c0 c1)

theorem wp_byteAt {d : Nat} {p : Int32} {h : PH} {Q : Rs → PH → Prop} (f0 : h.2.2.1 4 0 = (22, 1600, 5)) (k0 : p < (0 : Int32) → Q (.inl (some (.inl ((-1 : Int32))))) h) (k1 : ¬ (p < (0 : Int32)) → (h.1 4 1) ≤ p → Q (.inl (some (.inl ((-1 : Int32))))) h) (k2 : ¬ (p < (0 : Int32)) → ¬ ((h.1 4 1) ≤ p) → (Int32.ofNat 1600) ≤ p → Q (.inl (some (.inl ((-1 : Int32))))) h) (k3 : ¬ (p < (0 : Int32)) → ¬ ((h.1 4 1) ≤ p) → ¬ ((Int32.ofNat 1600) ≤ p) → ¬ (p < 0 ∨ 1600 ≤ (p).toNatClampNeg)) (k4 : ¬ (p < (0 : Int32)) → ¬ ((h.1 4 1) ≤ p) → ¬ ((Int32.ofNat 1600) ≤ p) → Q (.inl (some (.inl (((h.1 5 (p).toNatClampNeg) &&& (255 : Int32)))))) h) : Rn d 109 [.inr (.inr (.inr (6, 0, 4))), .inl (p)] h Q := by
  refine Ev.sts 1 (c' := (1, [some (.inr (.inr (.inr (6, 0, 4)))), some (.inl (p))], [.inl (p)], h)) rfl ?_
  refine Ev.br (p := p < (0 : Int32)) (c1 := (34, [some (.inr (.inr (.inr (6, 0, 4)))), some (.inl (p))], [], h)) (c2 := (4, [some (.inr (.inr (.inr (6, 0, 4)))), some (.inl (p))], [], h)) rfl (fun c0 => ?_) (fun c0 => ?_)
  · refine Ev.sts 1 (c' := (35, [some (.inr (.inr (.inr (6, 0, 4)))), some (.inl (p))], [.inl ((-1 : Int32))], h)) rfl ?_
    exact Ev.ret rfl (k0 c0)
  · refine Ev.sts 3 (c' := (9, [some (.inr (.inr (.inr (6, 0, 4)))), some (.inl (p))], [.inl ((h.1 4 1)), .inl (p)], h)) rfl ?_
    refine Ev.br (p := (h.1 4 1) ≤ p) (c1 := (34, [some (.inr (.inr (.inr (6, 0, 4)))), some (.inl (p))], [], h)) (c2 := (12, [some (.inr (.inr (.inr (6, 0, 4)))), some (.inl (p))], [], h)) rfl (fun c1 => ?_) (fun c1 => ?_)
    · refine Ev.sts 1 (c' := (35, [some (.inr (.inr (.inr (6, 0, 4)))), some (.inl (p))], [.inl ((-1 : Int32))], h)) rfl ?_
      exact Ev.ret rfl (k1 c0 c1)
    · refine Ev.sts 2 (c' := (14, [some (.inr (.inr (.inr (6, 0, 4)))), some (.inl (p))], [.inr (.inr (.inr (6, 0, 4))), .inl (p)], h)) rfl ?_
      refine Ev.gfr (r := (22, 1600, 5)) rfl f0 ?_
      refine Ev.sts 1 (c' := (18, [some (.inr (.inr (.inr (6, 0, 4)))), some (.inl (p))], [.inl ((Int32.ofNat 1600)), .inl (p)], h)) rfl ?_
      refine Ev.br (p := (Int32.ofNat 1600) ≤ p) (c1 := (34, [some (.inr (.inr (.inr (6, 0, 4)))), some (.inl (p))], [], h)) (c2 := (21, [some (.inr (.inr (.inr (6, 0, 4)))), some (.inl (p))], [], h)) rfl (fun c2 => ?_) (fun c2 => ?_)
      · refine Ev.sts 1 (c' := (35, [some (.inr (.inr (.inr (6, 0, 4)))), some (.inl (p))], [.inl ((-1 : Int32))], h)) rfl ?_
        exact Ev.ret rfl (k2 c0 c1 c2)
      · refine Ev.sts 1 (c' := (22, [some (.inr (.inr (.inr (6, 0, 4)))), some (.inl (p))], [.inr (.inr (.inr (6, 0, 4)))], h)) rfl ?_
        refine Ev.gfr (r := (22, 1600, 5)) rfl f0 ?_
        refine Ev.sts 1 (c' := (26, [some (.inr (.inr (.inr (6, 0, 4)))), some (.inl (p))], [.inl (p), .inr (.inr (.inr (22, 1600, 5)))], h)) rfl ?_
        refine Ev.ld (c' := (27, [some (.inr (.inr (.inr (6, 0, 4)))), some (.inl (p))], [.inl ((h.1 5 (p).toNatClampNeg))], h)) (j := p) (n := 1600) (k3 c0 c1 c2) rfl ?_
        refine Ev.sts 3 (c' := (35, [some (.inr (.inr (.inr (6, 0, 4)))), some (.inl (p))], [.inl (((h.1 5 (p).toNatClampNeg) &&& (255 : Int32)))], h)) rfl ?_
        exact Ev.ret rfl (k4 c0 c1 c2)

theorem wp_requireComma {d : Nat} {p : Int32} {h : PH} {Q : Rs → PH → Prop}  (k0 : p < (0 : Int32) → Q (.inr 2) (grow h 6)) (k1 : ¬ (p < (0 : Int32)) → p < (h.1 1 8) → Q (.inl none) h) (k2 : ¬ (p < (0 : Int32)) → ¬ (p < (h.1 1 8)) → Q (.inr 2) (grow h 6)) : Rn d 80 [.inr (.inr (.inr (1, 0, 1))), .inl (p)] h Q := by
  refine Ev.sts 1 (c' := (1, [some (.inr (.inr (.inr (1, 0, 1)))), some (.inl (p))], [.inl (p)], h)) rfl ?_
  refine Ev.br (p := p < (0 : Int32)) (c1 := (12, [some (.inr (.inr (.inr (1, 0, 1)))), some (.inl (p))], [], h)) (c2 := (4, [some (.inr (.inr (.inr (1, 0, 1)))), some (.inl (p))], [], h)) rfl (fun c0 => ?_) (fun c0 => ?_)
  · exact Ev.ret rfl (k0 c0)
  · refine Ev.sts 3 (c' := (9, [some (.inr (.inr (.inr (1, 0, 1)))), some (.inl (p))], [.inl ((h.1 1 8)), .inl (p)], h)) rfl ?_
    refine Ev.br (p := p < (h.1 1 8)) (c1 := (22, [some (.inr (.inr (.inr (1, 0, 1)))), some (.inl (p))], [], h)) (c2 := (12, [some (.inr (.inr (.inr (1, 0, 1)))), some (.inl (p))], [], h)) rfl (fun c1 => ?_) (fun c1 => ?_)
    · exact Ev.ret rfl (k1 c0 c1)
    · exact Ev.ret rfl (k2 c0 c1)

theorem wp_hourOf {d : Nat} {p : Int32} {h : PH} {Q : Rs → PH → Prop} (f3 : h.2.2.1 1 3 = (20, 120, 29)) (k0 : p < (0 : Int32) → Q (.inr 2) (grow h 6)) (k1 : ¬ (p < (0 : Int32)) → p < (h.1 1 8) → ¬ (p < (0 : Int32)) → ¬ ((Int32.ofNat 120) ≤ p) → ¬ (p < 0 ∨ 120 ≤ (p).toNatClampNeg)) (k2 : ¬ (p < (0 : Int32)) → p < (h.1 1 8) → p < (0 : Int32) → Q (.inl (some (.inl ((0 : Int32))))) h) (k3 : ¬ (p < (0 : Int32)) → p < (h.1 1 8) → ¬ (p < (0 : Int32)) → (Int32.ofNat 120) ≤ p → Q (.inl (some (.inl ((0 : Int32))))) h) (k4 : ¬ (p < (0 : Int32)) → p < (h.1 1 8) → ¬ (p < (0 : Int32)) → ¬ ((Int32.ofNat 120) ≤ p) → Q (.inl (some (.inl ((h.1 29 (p).toNatClampNeg))))) h) (k5 : ¬ (p < (0 : Int32)) → ¬ (p < (h.1 1 8)) → Q (.inr 2) (grow h 6)) : Rn (d + 1) 79 [.inr (.inr (.inr (1, 0, 1))), .inl (p)] h Q := by
  refine Ev.sts 2 (c' := (2, [some (.inr (.inr (.inr (1, 0, 1)))), some (.inl (p))], [.inl (p), .inr (.inr (.inr (1, 0, 1)))], h)) rfl ?_
  refine Ev.callw (a := [.inr (.inr (.inr (1, 0, 1))), .inl (p)]) rfl (wp_requireComma (fun c0 => ?_) (fun c0 c1 => ?_) (fun c0 c1 => ?_))
  · exact thrown rfl rfl (by decide) (k0 c0)
  · refine Ev.sts 1 (c' := (6, [some (.inr (.inr (.inr (1, 0, 1)))), some (.inl (p))], [.inr (.inr (.inr (1, 0, 1)))], h)) rfl ?_
    refine Ev.gfr (r := (20, 120, 29)) rfl f3 ?_
    refine Ev.sts 1 (c' := (10, [some (.inr (.inr (.inr (1, 0, 1)))), some (.inl (p))], [.inl (p), .inr (.inr (.inr (20, 120, 29)))], h)) rfl ?_
    refine Ev.callw (a := [.inr (.inr (.inr (20, 120, 29))), .inl (p)]) rfl (wp_at (fun c2 => ?_) (fun c2 c3 => ?_) (k1 c0 c1) (fun c2 c3 => ?_))
    · exact Ev.ret rfl (k2 c0 c1 c2)
    · exact Ev.ret rfl (k3 c0 c1 c2 c3)
    · exact Ev.ret rfl (k4 c0 c1 c2 c3)
  · exact thrown rfl rfl (by decide) (k5 c0 c1)

theorem wp_w_hourOf {d : Nat} {p : Int32} {h : PH} {Q : Rs → PH → Prop} (f3 : h.2.2.1 1 3 = (20, 120, 29)) (k0 : ¬ (p < (0 : Int32)) → p < (h.1 1 8) → ¬ (p < (0 : Int32)) → ¬ ((Int32.ofNat 120) ≤ p) → ¬ (p < 0 ∨ 120 ≤ (p).toNatClampNeg)) (k1 : p < (0 : Int32) → Q (.inl (some (.inl (1 : Int32)))) (grow h 6)) (k2 : ¬ (p < (0 : Int32)) → p < (h.1 1 8) → p < (0 : Int32) → ¬ ((0 : Int32) < 0 ∨ 1 ≤ ((0 : Int32)).toNatClampNeg)) (k3 : ¬ (p < (0 : Int32)) → p < (h.1 1 8) → p < (0 : Int32) → Q (.inl (some (.inl ((0 : Int32))))) (setL h 102 ((0 : Int32)).toNatClampNeg (((0 : Int32)).toInt64))) (k4 : ¬ (p < (0 : Int32)) → p < (h.1 1 8) → ¬ (p < (0 : Int32)) → (Int32.ofNat 120) ≤ p → ¬ ((0 : Int32) < 0 ∨ 1 ≤ ((0 : Int32)).toNatClampNeg)) (k5 : ¬ (p < (0 : Int32)) → p < (h.1 1 8) → ¬ (p < (0 : Int32)) → (Int32.ofNat 120) ≤ p → Q (.inl (some (.inl ((0 : Int32))))) (setL h 102 ((0 : Int32)).toNatClampNeg (((0 : Int32)).toInt64))) (k6 : ¬ (p < (0 : Int32)) → p < (h.1 1 8) → ¬ (p < (0 : Int32)) → ¬ ((Int32.ofNat 120) ≤ p) → ¬ ((0 : Int32) < 0 ∨ 1 ≤ ((0 : Int32)).toNatClampNeg)) (k7 : ¬ (p < (0 : Int32)) → p < (h.1 1 8) → ¬ (p < (0 : Int32)) → ¬ ((Int32.ofNat 120) ≤ p) → Q (.inl (some (.inl ((0 : Int32))))) (setL h 102 ((0 : Int32)).toNatClampNeg (((h.1 29 (p).toNatClampNeg)).toInt64))) (k8 : ¬ (p < (0 : Int32)) → ¬ (p < (h.1 1 8)) → Q (.inl (some (.inl (1 : Int32)))) (grow h 6)) : Rn (d + 2) 4 [.inr (.inr (.inr (1, 0, 1))), .inl (p), .inr (.inr (.inr (21, 1, 102)))] h Q := by
  refine Ev.sts 4 (c' := (4, [some (.inr (.inr (.inr (1, 0, 1)))), some (.inl (p)), some (.inr (.inr (.inr (21, 1, 102)))), none], [.inl (p), .inr (.inr (.inr (1, 0, 1))), .inl ((0 : Int32)), .inr (.inr (.inr (21, 1, 102)))], h)) rfl ?_
  refine Ev.callw (a := [.inr (.inr (.inr (1, 0, 1))), .inl (p)]) rfl (wp_hourOf f3 (fun c0 => ?_) (k0) (fun c0 c1 c2 => ?_) (fun c0 c1 c2 c3 => ?_) (fun c0 c1 c2 c3 => ?_) (fun c0 c1 => ?_))
  · exact caught (m := 4) (y := 79) (pc := 4) (e := 2) (k := 12) (x := (1 : Int32)) rfl rfl rfl (k1 c0)
  · refine Ev.sts 1 (c' := (8, [some (.inr (.inr (.inr (1, 0, 1)))), some (.inl (p)), some (.inr (.inr (.inr (21, 1, 102)))), none], [.inr (.inl (((0 : Int32)).toInt64)), .inl ((0 : Int32)), .inr (.inr (.inr (21, 1, 102)))], h)) rfl ?_
    refine Ev.ld (c' := (9, [some (.inr (.inr (.inr (1, 0, 1)))), some (.inl (p)), some (.inr (.inr (.inr (21, 1, 102)))), none], [], (setL h 102 ((0 : Int32)).toNatClampNeg (((0 : Int32)).toInt64)))) (j := (0 : Int32)) (n := 1) (k2 c0 c1 c2) rfl ?_
    refine Ev.sts 2 (c' := (16, [some (.inr (.inr (.inr (1, 0, 1)))), some (.inl (p)), some (.inr (.inr (.inr (21, 1, 102)))), none], [.inl ((0 : Int32))], (setL h 102 ((0 : Int32)).toNatClampNeg (((0 : Int32)).toInt64)))) rfl ?_
    exact Ev.ret rfl (k3 c0 c1 c2)
  · refine Ev.sts 1 (c' := (8, [some (.inr (.inr (.inr (1, 0, 1)))), some (.inl (p)), some (.inr (.inr (.inr (21, 1, 102)))), none], [.inr (.inl (((0 : Int32)).toInt64)), .inl ((0 : Int32)), .inr (.inr (.inr (21, 1, 102)))], h)) rfl ?_
    refine Ev.ld (c' := (9, [some (.inr (.inr (.inr (1, 0, 1)))), some (.inl (p)), some (.inr (.inr (.inr (21, 1, 102)))), none], [], (setL h 102 ((0 : Int32)).toNatClampNeg (((0 : Int32)).toInt64)))) (j := (0 : Int32)) (n := 1) (k4 c0 c1 c2 c3) rfl ?_
    refine Ev.sts 2 (c' := (16, [some (.inr (.inr (.inr (1, 0, 1)))), some (.inl (p)), some (.inr (.inr (.inr (21, 1, 102)))), none], [.inl ((0 : Int32))], (setL h 102 ((0 : Int32)).toNatClampNeg (((0 : Int32)).toInt64)))) rfl ?_
    exact Ev.ret rfl (k5 c0 c1 c2 c3)
  · refine Ev.sts 1 (c' := (8, [some (.inr (.inr (.inr (1, 0, 1)))), some (.inl (p)), some (.inr (.inr (.inr (21, 1, 102)))), none], [.inr (.inl (((h.1 29 (p).toNatClampNeg)).toInt64)), .inl ((0 : Int32)), .inr (.inr (.inr (21, 1, 102)))], h)) rfl ?_
    refine Ev.ld (c' := (9, [some (.inr (.inr (.inr (1, 0, 1)))), some (.inl (p)), some (.inr (.inr (.inr (21, 1, 102)))), none], [], (setL h 102 ((0 : Int32)).toNatClampNeg (((h.1 29 (p).toNatClampNeg)).toInt64)))) (j := (0 : Int32)) (n := 1) (k6 c0 c1 c2 c3) rfl ?_
    refine Ev.sts 2 (c' := (16, [some (.inr (.inr (.inr (1, 0, 1)))), some (.inl (p)), some (.inr (.inr (.inr (21, 1, 102)))), none], [.inl ((0 : Int32))], (setL h 102 ((0 : Int32)).toNatClampNeg (((h.1 29 (p).toNatClampNeg)).toInt64)))) rfl ?_
    exact Ev.ret rfl (k7 c0 c1 c2 c3)
  · exact caught (m := 4) (y := 79) (pc := 4) (e := 2) (k := 12) (x := (1 : Int32)) rfl rfl rfl (k8 c0 c1)

theorem lw_op_9 {d L : Nat} {i : Int32} {a b c e : Option VV} {h : PH} {Q : Rs → PH → Prop}  (k0 : (h.1 1 8) = (h.1 83 21) → Ev (d + 2) 25 (2080, [some (.inr (.inr (.inr (45, L, 0)))), some (.inr (.inr (.inr (1, 0, 1)))), some (.inr (.inr (.inr (11, 0, 83)))), some (.inr (.inr (.inr (21, 1, 102)))), some (.inl (i)), a, b, c, e], [], (setI h 83 0 ((0 : Int32)))) Q) (k1 : ¬ ((h.1 1 8) = (h.1 83 21)) → Q (.inl (some (.inl ((0 : Int32))))) (setI h 83 0 ((0 : Int32)))) : Ev (d + 2) 25 (597, lwT L i a b c e, [], h) Q := by
  refine Ev.sts 1 (c' := (598, [some (.inr (.inr (.inr (45, L, 0)))), some (.inr (.inr (.inr (1, 0, 1)))), some (.inr (.inr (.inr (11, 0, 83)))), some (.inr (.inr (.inr (21, 1, 102)))), some (.inl (i)), a, b, c, e], [.inr (.inr (.inr (1, 0, 1)))], h)) rfl ?_
  refine Ev.callw (a := [.inr (.inr (.inr (1, 0, 1)))]) rfl (wp_x_commas ?_)
  · refine Ev.sts 1 (c' := (602, [some (.inr (.inr (.inr (45, L, 0)))), some (.inr (.inr (.inr (1, 0, 1)))), some (.inr (.inr (.inr (11, 0, 83)))), some (.inr (.inr (.inr (21, 1, 102)))), some (.inl (i)), a, b, c, e], [.inr (.inr (.inr (11, 0, 83))), .inl ((h.1 1 8))], h)) rfl ?_
    refine Ev.callw (a := [.inr (.inr (.inr (11, 0, 83)))]) rfl (wp_r_commas ?_)
    · refine Ev.br (p := (h.1 1 8) = (h.1 83 21)) (c1 := (2080, [some (.inr (.inr (.inr (45, L, 0)))), some (.inr (.inr (.inr (1, 0, 1)))), some (.inr (.inr (.inr (11, 0, 83)))), some (.inr (.inr (.inr (21, 1, 102)))), some (.inl (i)), a, b, c, e], [], (setI h 83 0 ((0 : Int32))))) (c2 := (608, [some (.inr (.inr (.inr (45, L, 0)))), some (.inr (.inr (.inr (1, 0, 1)))), some (.inr (.inr (.inr (11, 0, 83)))), some (.inr (.inr (.inr (21, 1, 102)))), some (.inl (i)), a, b, c, e], [], (setI h 83 0 ((0 : Int32))))) rfl (fun c0 => ?_) (fun c0 => ?_)
      · exact k0 c0
      · refine Ev.sts 1 (c' := (609, [some (.inr (.inr (.inr (45, L, 0)))), some (.inr (.inr (.inr (1, 0, 1)))), some (.inr (.inr (.inr (11, 0, 83)))), some (.inr (.inr (.inr (21, 1, 102)))), some (.inl (i)), a, b, c, e], [.inl ((0 : Int32))], (setI h 83 0 ((0 : Int32))))) rfl ?_
        exact Ev.ret rfl (k1 c0)

theorem lw_op_10 {d L : Nat} {i : Int32} {a b c e : Option VV} {h : PH} {Q : Rs → PH → Prop}  (k0 : (h.1 1 9) = (h.1 83 25) → Ev (d + 2) 25 (2080, [some (.inr (.inr (.inr (45, L, 0)))), some (.inr (.inr (.inr (1, 0, 1)))), some (.inr (.inr (.inr (11, 0, 83)))), some (.inr (.inr (.inr (21, 1, 102)))), some (.inl (i)), a, b, c, e], [], (setI h 83 0 ((0 : Int32)))) Q) (k1 : ¬ ((h.1 1 9) = (h.1 83 25)) → Q (.inl (some (.inl ((0 : Int32))))) (setI h 83 0 ((0 : Int32)))) : Ev (d + 2) 25 (610, lwT L i a b c e, [], h) Q := by
  refine Ev.sts 1 (c' := (611, [some (.inr (.inr (.inr (45, L, 0)))), some (.inr (.inr (.inr (1, 0, 1)))), some (.inr (.inr (.inr (11, 0, 83)))), some (.inr (.inr (.inr (21, 1, 102)))), some (.inl (i)), a, b, c, e], [.inr (.inr (.inr (1, 0, 1)))], h)) rfl ?_
  refine Ev.callw (a := [.inr (.inr (.inr (1, 0, 1)))]) rfl (wp_x_nights ?_)
  · refine Ev.sts 1 (c' := (615, [some (.inr (.inr (.inr (45, L, 0)))), some (.inr (.inr (.inr (1, 0, 1)))), some (.inr (.inr (.inr (11, 0, 83)))), some (.inr (.inr (.inr (21, 1, 102)))), some (.inl (i)), a, b, c, e], [.inr (.inr (.inr (11, 0, 83))), .inl ((h.1 1 9))], h)) rfl ?_
    refine Ev.callw (a := [.inr (.inr (.inr (11, 0, 83)))]) rfl (wp_r_nights ?_)
    · refine Ev.br (p := (h.1 1 9) = (h.1 83 25)) (c1 := (2080, [some (.inr (.inr (.inr (45, L, 0)))), some (.inr (.inr (.inr (1, 0, 1)))), some (.inr (.inr (.inr (11, 0, 83)))), some (.inr (.inr (.inr (21, 1, 102)))), some (.inl (i)), a, b, c, e], [], (setI h 83 0 ((0 : Int32))))) (c2 := (621, [some (.inr (.inr (.inr (45, L, 0)))), some (.inr (.inr (.inr (1, 0, 1)))), some (.inr (.inr (.inr (11, 0, 83)))), some (.inr (.inr (.inr (21, 1, 102)))), some (.inl (i)), a, b, c, e], [], (setI h 83 0 ((0 : Int32))))) rfl (fun c0 => ?_) (fun c0 => ?_)
      · exact k0 c0
      · refine Ev.sts 1 (c' := (622, [some (.inr (.inr (.inr (45, L, 0)))), some (.inr (.inr (.inr (1, 0, 1)))), some (.inr (.inr (.inr (11, 0, 83)))), some (.inr (.inr (.inr (21, 1, 102)))), some (.inl (i)), a, b, c, e], [.inl ((0 : Int32))], (setI h 83 0 ((0 : Int32))))) rfl ?_
        exact Ev.ret rfl (k1 c0)

theorem lw_op_13 {d L : Nat} {i : Int32} {a b c e : Option VV} {h : PH} {Q : Rs → PH → Prop}  (k0 : (h.1 1 10) = (h.1 83 26) → Ev (d + 2) 25 (2080, [some (.inr (.inr (.inr (45, L, 0)))), some (.inr (.inr (.inr (1, 0, 1)))), some (.inr (.inr (.inr (11, 0, 83)))), some (.inr (.inr (.inr (21, 1, 102)))), some (.inl (i)), a, b, c, e], [], (setI h 83 0 ((0 : Int32)))) Q) (k1 : ¬ ((h.1 1 10) = (h.1 83 26)) → Q (.inl (some (.inl ((0 : Int32))))) (setI h 83 0 ((0 : Int32)))) : Ev (d + 2) 25 (649, lwT L i a b c e, [], h) Q := by
  refine Ev.sts 1 (c' := (650, [some (.inr (.inr (.inr (45, L, 0)))), some (.inr (.inr (.inr (1, 0, 1)))), some (.inr (.inr (.inr (11, 0, 83)))), some (.inr (.inr (.inr (21, 1, 102)))), some (.inl (i)), a, b, c, e], [.inr (.inr (.inr (1, 0, 1)))], h)) rfl ?_
  refine Ev.callw (a := [.inr (.inr (.inr (1, 0, 1)))]) rfl (wp_x_greatestHour ?_)
  · refine Ev.sts 1 (c' := (654, [some (.inr (.inr (.inr (45, L, 0)))), some (.inr (.inr (.inr (1, 0, 1)))), some (.inr (.inr (.inr (11, 0, 83)))), some (.inr (.inr (.inr (21, 1, 102)))), some (.inl (i)), a, b, c, e], [.inr (.inr (.inr (11, 0, 83))), .inl ((h.1 1 10))], h)) rfl ?_
    refine Ev.callw (a := [.inr (.inr (.inr (11, 0, 83)))]) rfl (wp_r_greatestHour ?_)
    · refine Ev.br (p := (h.1 1 10) = (h.1 83 26)) (c1 := (2080, [some (.inr (.inr (.inr (45, L, 0)))), some (.inr (.inr (.inr (1, 0, 1)))), some (.inr (.inr (.inr (11, 0, 83)))), some (.inr (.inr (.inr (21, 1, 102)))), some (.inl (i)), a, b, c, e], [], (setI h 83 0 ((0 : Int32))))) (c2 := (660, [some (.inr (.inr (.inr (45, L, 0)))), some (.inr (.inr (.inr (1, 0, 1)))), some (.inr (.inr (.inr (11, 0, 83)))), some (.inr (.inr (.inr (21, 1, 102)))), some (.inl (i)), a, b, c, e], [], (setI h 83 0 ((0 : Int32))))) rfl (fun c0 => ?_) (fun c0 => ?_)
      · exact k0 c0
      · refine Ev.sts 1 (c' := (661, [some (.inr (.inr (.inr (45, L, 0)))), some (.inr (.inr (.inr (1, 0, 1)))), some (.inr (.inr (.inr (11, 0, 83)))), some (.inr (.inr (.inr (21, 1, 102)))), some (.inl (i)), a, b, c, e], [.inl ((0 : Int32))], (setI h 83 0 ((0 : Int32))))) rfl ?_
        exact Ev.ret rfl (k1 c0)

theorem lw_op_14 {d L : Nat} {i : Int32} {a b c e : Option VV} {h : PH} {Q : Rs → PH → Prop}  (k0 : (h.1 1 11) = (h.1 83 27) → Ev (d + 2) 25 (2080, [some (.inr (.inr (.inr (45, L, 0)))), some (.inr (.inr (.inr (1, 0, 1)))), some (.inr (.inr (.inr (11, 0, 83)))), some (.inr (.inr (.inr (21, 1, 102)))), some (.inl (i)), a, b, c, e], [], (setI h 83 0 ((0 : Int32)))) Q) (k1 : ¬ ((h.1 1 11) = (h.1 83 27)) → Q (.inl (some (.inl ((0 : Int32))))) (setI h 83 0 ((0 : Int32)))) : Ev (d + 2) 25 (662, lwT L i a b c e, [], h) Q := by
  refine Ev.sts 1 (c' := (663, [some (.inr (.inr (.inr (45, L, 0)))), some (.inr (.inr (.inr (1, 0, 1)))), some (.inr (.inr (.inr (11, 0, 83)))), some (.inr (.inr (.inr (21, 1, 102)))), some (.inl (i)), a, b, c, e], [.inr (.inr (.inr (1, 0, 1)))], h)) rfl ?_
  refine Ev.callw (a := [.inr (.inr (.inr (1, 0, 1)))]) rfl (wp_x_watermark ?_)
  · refine Ev.sts 1 (c' := (667, [some (.inr (.inr (.inr (45, L, 0)))), some (.inr (.inr (.inr (1, 0, 1)))), some (.inr (.inr (.inr (11, 0, 83)))), some (.inr (.inr (.inr (21, 1, 102)))), some (.inl (i)), a, b, c, e], [.inr (.inr (.inr (11, 0, 83))), .inl ((h.1 1 11))], h)) rfl ?_
    refine Ev.callw (a := [.inr (.inr (.inr (11, 0, 83)))]) rfl (wp_r_watermark ?_)
    · refine Ev.br (p := (h.1 1 11) = (h.1 83 27)) (c1 := (2080, [some (.inr (.inr (.inr (45, L, 0)))), some (.inr (.inr (.inr (1, 0, 1)))), some (.inr (.inr (.inr (11, 0, 83)))), some (.inr (.inr (.inr (21, 1, 102)))), some (.inl (i)), a, b, c, e], [], (setI h 83 0 ((0 : Int32))))) (c2 := (673, [some (.inr (.inr (.inr (45, L, 0)))), some (.inr (.inr (.inr (1, 0, 1)))), some (.inr (.inr (.inr (11, 0, 83)))), some (.inr (.inr (.inr (21, 1, 102)))), some (.inl (i)), a, b, c, e], [], (setI h 83 0 ((0 : Int32))))) rfl (fun c0 => ?_) (fun c0 => ?_)
      · exact k0 c0
      · refine Ev.sts 1 (c' := (674, [some (.inr (.inr (.inr (45, L, 0)))), some (.inr (.inr (.inr (1, 0, 1)))), some (.inr (.inr (.inr (11, 0, 83)))), some (.inr (.inr (.inr (21, 1, 102)))), some (.inl (i)), a, b, c, e], [.inl ((0 : Int32))], (setI h 83 0 ((0 : Int32))))) rfl ?_
        exact Ev.ret rfl (k1 c0)
