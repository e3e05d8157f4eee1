/-! Rules for walks that gen/wp.py prints; its first methods. -/
theorem Ev.gfr {d m pc a k : Nat} {c : Cf} {ls : LV} {st : List VV} {h : PH} {r : VR} {Q : Rs → PH → Prop} (hs : step m c = some (.inl (pc, ls, .inr (.inr (.inr (h.2.2.1 a k))) :: st, h))) (hr : h.2.2.1 a k = r) (kk : Ev d m (pc, ls, .inr (.inr (.inr r)) :: st, h) Q) : Ev d m c Q := by
  rw [hr] at hs
  exact Ev.st hs kk
theorem Ev.ld {d m n : Nat} {c c' : Cf} {j : Int32} {Q : Rs → PH → Prop} (hin : ¬ (j < 0 ∨ n ≤ j.toNatClampNeg)) (hs : step m c = if j < 0 ∨ n ≤ j.toNatClampNeg then none else some (.inl c')) (kk : Ev d m c' Q) : Ev d m c Q := by
  rw [if_neg hin] at hs
  exact Ev.st hs kk
theorem wp_isHour {d : Nat} {x : Int32} {h : PH} {Q : Rs → PH → Prop} (k0 : x < 0 → Q (.inl (some (.inl (0)))) h) (k1 : ¬ (x < 0) → 999 < x → Q (.inl (some (.inl (0)))) h) (k2 : ¬ (x < 0) → ¬ (999 < x) → Q (.inl (some (.inl (1)))) h) : Rn d 76 [.inl (x)] h Q := by
  refine Ev.sts 1 (c' := (1, [some (.inl (x))], [.inl (x)], h)) rfl ?_
  refine Ev.br (p := x < 0) (c1 := (15, [some (.inl (x))], [], h)) (c2 := (4, [some (.inl (x))], [], h)) rfl (fun c0 => ?_) (fun c0 => ?_)
  · refine Ev.sts 1 (c' := (16, [some (.inl (x))], [.inl (0)], h)) rfl ?_
    exact Ev.ret rfl (k0 c0)
  · refine Ev.sts 2 (c' := (8, [some (.inl (x))], [.inl (999), .inl (x)], h)) rfl ?_
    refine Ev.br (p := 999 < x) (c1 := (15, [some (.inl (x))], [], h)) (c2 := (11, [some (.inl (x))], [], h)) rfl (fun c1 => ?_) (fun c1 => ?_)
    · refine Ev.sts 1 (c' := (16, [some (.inl (x))], [.inl (0)], h)) rfl ?_
      exact Ev.ret rfl (k1 c0 c1)
    · refine Ev.sts 2 (c' := (16, [some (.inl (x))], [.inl (1)], h)) rfl ?_
      exact Ev.ret rfl (k2 c0 c1)

theorem wp_isLetter {d : Nat} {x : Int32} {h : PH} {Q : Rs → PH → Prop} (k0 : x < 97 → Q (.inl (some (.inl (0)))) h) (k1 : ¬ (x < 97) → 122 < x → Q (.inl (some (.inl (0)))) h) (k2 : ¬ (x < 97) → ¬ (122 < x) → Q (.inl (some (.inl (1)))) h) : Rn d 147 [.inl (x)] h Q := by
  refine Ev.sts 2 (c' := (3, [some (.inl (x))], [.inl (97), .inl (x)], h)) rfl ?_
  refine Ev.br (p := x < 97) (c1 := (16, [some (.inl (x))], [], h)) (c2 := (6, [some (.inl (x))], [], h)) rfl (fun c0 => ?_) (fun c0 => ?_)
  · refine Ev.sts 1 (c' := (17, [some (.inl (x))], [.inl (0)], h)) rfl ?_
    exact Ev.ret rfl (k0 c0)
  · refine Ev.sts 2 (c' := (9, [some (.inl (x))], [.inl (122), .inl (x)], h)) rfl ?_
    refine Ev.br (p := 122 < x) (c1 := (16, [some (.inl (x))], [], h)) (c2 := (12, [some (.inl (x))], [], h)) rfl (fun c1 => ?_) (fun c1 => ?_)
    · refine Ev.sts 1 (c' := (17, [some (.inl (x))], [.inl (0)], h)) rfl ?_
      exact Ev.ret rfl (k1 c0 c1)
    · refine Ev.sts 2 (c' := (17, [some (.inl (x))], [.inl (1)], h)) rfl ?_
      exact Ev.ret rfl (k2 c0 c1)

theorem wp_nights {d : Nat} {h : PH} {Q : Rs → PH → Prop} (k0 : Q (.inl (some (.inl ((h.1 1 9))))) h) : Rn d 36 [.inr (.inr (.inr (1, 0, 1)))] h Q := by
  refine Ev.sts 2 (c' := (4, [some (.inr (.inr (.inr (1, 0, 1))))], [.inl ((h.1 1 9))], h)) rfl ?_
  exact Ev.ret rfl (k0)

theorem wp_become {d c : Nat} {x y z w : Int32} {h : PH} {Q : Rs → PH → Prop} (k0 : Q (.inl none) (setI (setI (setI (setI (setI h c 0 (x)) c 1 (y)) c 2 (z)) c 3 (w)) c 4 (0))) : Rn d 96 [.inr (.inr (.inr (3, 0, c))), .inl (x), .inl (y), .inl (z), .inl (w)] h Q := by
  refine Ev.sts 15 (c' := (26, [some (.inr (.inr (.inr (3, 0, c)))), some (.inl (x)), some (.inl (y)), some (.inl (z)), some (.inl (w))], [], (setI (setI (setI (setI (setI h c 0 (x)) c 1 (y)) c 2 (z)) c 3 (w)) c 4 (0)))) rfl ?_
  exact Ev.ret rfl (k0)

