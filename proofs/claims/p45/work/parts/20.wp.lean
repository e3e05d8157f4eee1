/-! Rules for walks that gen/wp.py prints; its first methods. -/
theorem Ev.gfr {d m pc a k : Nat} {c : Cf} {ls : LV} {st : List VV} {h : PH} {r : VR} {Q : Rs → PH → Prop} (hs : step m c = some (.inl (pc, ls, .inr (.inr (.inr (h.2.2.1 a k))) :: st, h))) (hr : h.2.2.1 a k = r) (kk : Ev d m (pc, ls, .inr (.inr (.inr r)) :: st, h) Q) : Ev d m c Q := by
  rw [hr] at hs
  exact Ev.st hs kk
theorem Ev.ld {d m n : Nat} {c c' : Cf} {j : Int32} {Q : Rs → PH → Prop} (hin : ¬ (j < 0 ∨ n ≤ j.toNatClampNeg)) (hs : step m c = if j < 0 ∨ n ≤ j.toNatClampNeg then none else some (.inl c')) (kk : Ev d m c' Q) : Ev d m c Q := by
  rw [if_neg hin] at hs
  exact Ev.st hs kk
/-- a call by the callee's own paths -/
theorem Ev.callw {d m y : Nat} {c : Cf} {a : List VV} {pc : Nat} {ls : LV} {st : List VV} {h : PH} {Q : Rs → PH → Prop} (hs : step m c = some (.inr (.inl (y, a, (pc, ls, st, h)))))
    (hc : Rn d y a h (fun r h' => match r with | .inl v => Ev (d + 1) m (pc, ls, v.toList ++ st, h') Q | .inr e => thr m y c.1 = true ∧ match hnd m c.1 e with | none => 24 < m ∧ Q (.inr e) h' | some k => ∃ x, hres m k = some x ∧ Q (.inl (some (.inl x))) h')) : Ev (d + 1) m c Q :=
  Ev.callX hs hc (fun _ _ q => q) (fun _ _ q => q)
theorem Ev.brT {d m : Nat} {c c1 c2 : Cf} {p : Prop} [Decidable p] {Q : Rs → PH → Prop} (hp : p) (hs : step m c = some (.inl (if p then c1 else c2))) (k : Ev d m c1 Q) : Ev d m c Q := by
  rw [if_pos hp] at hs
  exact Ev.st hs k
theorem Ev.brF {d m : Nat} {c c1 c2 : Cf} {p : Prop} [Decidable p] {Q : Rs → PH → Prop} (hp : ¬ p) (hs : step m c = some (.inl (if p then c1 else c2))) (k : Ev d m c2 Q) : Ev d m c Q := by
  rw [if_neg hp] at hs
  exact Ev.st hs k
theorem Ev.lda {d m n pc a : Nat} {c : Cf} {ls : LV} {st : List VV} {h : PH} {j : Int32} {r : VR} {Q : Rs → PH → Prop} (hin : ¬ (j < 0 ∨ n ≤ j.toNatClampNeg)) (hs : step m c = if j < 0 ∨ n ≤ j.toNatClampNeg then none else some (.inl (pc, ls, .inr (.inr (.inr (h.2.2.1 a j.toNatClampNeg))) :: st, h))) (hr : h.2.2.1 a j.toNatClampNeg = r) (kk : Ev d m (pc, ls, .inr (.inr (.inr r)) :: st, h) Q) : Ev d m c Q := by
  rw [if_neg hin, hr] at hs
  exact Ev.st hs kk
theorem thrown {m y pc e : Nat} {h' : PH} {Q : Rs → PH → Prop} (ht : thr m y pc = true) (hh : hnd m pc e = none) (hm : 24 < m) (q : Q (.inr e) h') : thr m y pc = true ∧ match hnd m pc e with | none => 24 < m ∧ Q (.inr e) h' | some k => ∃ x, hres m k = some x ∧ Q (.inl (some (.inl x))) h' := ⟨ht, by rw [hh]; exact ⟨hm, q⟩⟩
theorem caught {m y pc e k : Nat} {x : Int32} {h' : PH} {Q : Rs → PH → Prop} (ht : thr m y pc = true) (hh : hnd m pc e = some k) (hr : hres m k = some x) (q : Q (.inl (some (.inl x))) h') : thr m y pc = true ∧ match hnd m pc e with | none => 24 < m ∧ Q (.inr e) h' | some k => ∃ x, hres m k = some x ∧ Q (.inl (some (.inl x))) h' := ⟨ht, by rw [hh]; exact ⟨x, hr, q⟩⟩
theorem wp_isHour {d : Nat} {x : Int32} {h : PH} {Q : Rs → PH → Prop}  (k0 : x < (0 : Int32) → Q (.inl (some (.inl ((0 : Int32))))) h) (k1 : ¬ (x < (0 : Int32)) → (999 : Int32) < x → Q (.inl (some (.inl ((0 : Int32))))) h) (k2 : ¬ (x < (0 : Int32)) → ¬ ((999 : Int32) < x) → Q (.inl (some (.inl ((1 : Int32))))) h) : Rn d 75 [.inl (x)] h Q := by
  refine Ev.sts 1 (c' := (1, [some (.inl (x))], [.inl (x)], h)) rfl ?_
  refine Ev.br (p := x < (0 : Int32)) (c1 := (15, [some (.inl (x))], [], h)) (c2 := (4, [some (.inl (x))], [], h)) rfl (fun c0 => ?_) (fun c0 => ?_)
  · refine Ev.sts 1 (c' := (16, [some (.inl (x))], [.inl ((0 : Int32))], h)) rfl ?_
    exact Ev.ret rfl (k0 c0)
  · refine Ev.sts 2 (c' := (8, [some (.inl (x))], [.inl ((999 : Int32)), .inl (x)], h)) rfl ?_
    refine Ev.br (p := (999 : Int32) < x) (c1 := (15, [some (.inl (x))], [], h)) (c2 := (11, [some (.inl (x))], [], h)) rfl (fun c1 => ?_) (fun c1 => ?_)
    · refine Ev.sts 1 (c' := (16, [some (.inl (x))], [.inl ((0 : Int32))], h)) rfl ?_
      exact Ev.ret rfl (k1 c0 c1)
    · refine Ev.sts 2 (c' := (16, [some (.inl (x))], [.inl ((1 : Int32))], h)) rfl ?_
      exact Ev.ret rfl (k2 c0 c1)

theorem wp_isLetter {d : Nat} {x : Int32} {h : PH} {Q : Rs → PH → Prop}  (k0 : x < (97 : Int32) → Q (.inl (some (.inl ((0 : Int32))))) h) (k1 : ¬ (x < (97 : Int32)) → (122 : Int32) < x → Q (.inl (some (.inl ((0 : Int32))))) h) (k2 : ¬ (x < (97 : Int32)) → ¬ ((122 : Int32) < x) → Q (.inl (some (.inl ((1 : Int32))))) h) : Rn d 142 [.inl (x)] h Q := by
  refine Ev.sts 2 (c' := (3, [some (.inl (x))], [.inl ((97 : Int32)), .inl (x)], h)) rfl ?_
  refine Ev.br (p := x < (97 : Int32)) (c1 := (16, [some (.inl (x))], [], h)) (c2 := (6, [some (.inl (x))], [], h)) rfl (fun c0 => ?_) (fun c0 => ?_)
  · refine Ev.sts 1 (c' := (17, [some (.inl (x))], [.inl ((0 : Int32))], h)) rfl ?_
    exact Ev.ret rfl (k0 c0)
  · refine Ev.sts 2 (c' := (9, [some (.inl (x))], [.inl ((122 : Int32)), .inl (x)], h)) rfl ?_
    refine Ev.br (p := (122 : Int32) < x) (c1 := (16, [some (.inl (x))], [], h)) (c2 := (12, [some (.inl (x))], [], h)) rfl (fun c1 => ?_) (fun c1 => ?_)
    · refine Ev.sts 1 (c' := (17, [some (.inl (x))], [.inl ((0 : Int32))], h)) rfl ?_
      exact Ev.ret rfl (k1 c0 c1)
    · refine Ev.sts 2 (c' := (17, [some (.inl (x))], [.inl ((1 : Int32))], h)) rfl ?_
      exact Ev.ret rfl (k2 c0 c1)

theorem wp_nights {d : Nat} {h : PH} {Q : Rs → PH → Prop}  (k0 : Q (.inl (some (.inl ((h.1 1 9))))) h) : Rn d 65 [.inr (.inr (.inr (1, 0, 1)))] h Q := by
  refine Ev.sts 2 (c' := (4, [some (.inr (.inr (.inr (1, 0, 1))))], [.inl ((h.1 1 9))], h)) rfl ?_
  exact Ev.ret rfl (k0)

theorem wp_become {d c : Nat} {x y z w : Int32} {h : PH} {Q : Rs → PH → Prop}  (k0 : Q (.inl none) (setI (setI (setI (setI (setI h c 0 (x)) c 1 (y)) c 2 (z)) c 3 (w)) c 4 ((0 : Int32)))) : Rn d 91 [.inr (.inr (.inr (3, 0, c))), .inl (x), .inl (y), .inl (z), .inl (w)] h Q := by
  refine Ev.sts 15 (c' := (26, [some (.inr (.inr (.inr (3, 0, c)))), some (.inl (x)), some (.inl (y)), some (.inl (z)), some (.inl (w))], [], (setI (setI (setI (setI (setI h c 0 (x)) c 1 (y)) c 2 (z)) c 3 (w)) c 4 ((0 : Int32))))) rfl ?_
  exact Ev.ret rfl (k0)

theorem wp_isComma {d : Nat} {x y z w : Int32} {h : PH} {Q : Rs → PH → Prop}  (k0 : x < (0 : Int32) → Q (.inl (some (.inl ((0 : Int32))))) h) (k1 : ¬ (x < (0 : Int32)) → (999 : Int32) < x → Q (.inl (some (.inl ((0 : Int32))))) h) (k2 : ¬ (x < (0 : Int32)) → ¬ ((999 : Int32) < x) → y < (0 : Int32) → Q (.inl (some (.inl ((0 : Int32))))) h) (k3 : ¬ (x < (0 : Int32)) → ¬ ((999 : Int32) < x) → ¬ (y < (0 : Int32)) → (9 : Int32) < y → Q (.inl (some (.inl ((0 : Int32))))) h) (k4 : ¬ (x < (0 : Int32)) → ¬ ((999 : Int32) < x) → ¬ (y < (0 : Int32)) → ¬ ((9 : Int32) < y) → z < (0 : Int32) → Q (.inl (some (.inl ((0 : Int32))))) h) (k5 : ¬ (x < (0 : Int32)) → ¬ ((999 : Int32) < x) → ¬ (y < (0 : Int32)) → ¬ ((9 : Int32) < y) → ¬ (z < (0 : Int32)) → (99 : Int32) < z → Q (.inl (some (.inl ((0 : Int32))))) h) (k6 : ¬ (x < (0 : Int32)) → ¬ ((999 : Int32) < x) → ¬ (y < (0 : Int32)) → ¬ ((9 : Int32) < y) → ¬ (z < (0 : Int32)) → ¬ ((99 : Int32) < z) → w < (0 : Int32) → Q (.inl (some (.inl ((0 : Int32))))) h) (k7 : ¬ (x < (0 : Int32)) → ¬ ((999 : Int32) < x) → ¬ (y < (0 : Int32)) → ¬ ((9 : Int32) < y) → ¬ (z < (0 : Int32)) → ¬ ((99 : Int32) < z) → ¬ (w < (0 : Int32)) → (9 : Int32) < w → Q (.inl (some (.inl ((0 : Int32))))) h) (k8 : ¬ (x < (0 : Int32)) → ¬ ((999 : Int32) < x) → ¬ (y < (0 : Int32)) → ¬ ((9 : Int32) < y) → ¬ (z < (0 : Int32)) → ¬ ((99 : Int32) < z) → ¬ (w < (0 : Int32)) → ¬ ((9 : Int32) < w) → Q (.inl (some (.inl ((1 : Int32))))) h) : Rn (d + 1) 74 [.inl (x), .inl (y), .inl (z), .inl (w)] h Q := by
  refine Ev.sts 1 (c' := (1, [some (.inl (x)), some (.inl (y)), some (.inl (z)), some (.inl (w))], [.inl (x)], h)) rfl ?_
  refine Ev.callw (a := [.inl (x)]) rfl (wp_isHour (fun c0 => ?_) (fun c0 c1 => ?_) (fun c0 c1 => ?_))
  · refine Ev.brT (p := (0 : Int32) = (0 : Int32)) (c1 := (41, [some (.inl (x)), some (.inl (y)), some (.inl (z)), some (.inl (w))], [], h)) (c2 := (7, [some (.inl (x)), some (.inl (y)), some (.inl (z)), some (.inl (w))], [], h)) (by decide) rfl ?_
    refine Ev.sts 1 (c' := (42, [some (.inl (x)), some (.inl (y)), some (.inl (z)), some (.inl (w))], [.inl ((0 : Int32))], h)) rfl ?_
    exact Ev.ret rfl (k0 c0)
  · refine Ev.brT (p := (0 : Int32) = (0 : Int32)) (c1 := (41, [some (.inl (x)), some (.inl (y)), some (.inl (z)), some (.inl (w))], [], h)) (c2 := (7, [some (.inl (x)), some (.inl (y)), some (.inl (z)), some (.inl (w))], [], h)) (by decide) rfl ?_
    refine Ev.sts 1 (c' := (42, [some (.inl (x)), some (.inl (y)), some (.inl (z)), some (.inl (w))], [.inl ((0 : Int32))], h)) rfl ?_
    exact Ev.ret rfl (k1 c0 c1)
  · refine Ev.brF (p := (1 : Int32) = (0 : Int32)) (c1 := (41, [some (.inl (x)), some (.inl (y)), some (.inl (z)), some (.inl (w))], [], h)) (c2 := (7, [some (.inl (x)), some (.inl (y)), some (.inl (z)), some (.inl (w))], [], h)) (by decide) rfl ?_
    refine Ev.sts 1 (c' := (8, [some (.inl (x)), some (.inl (y)), some (.inl (z)), some (.inl (w))], [.inl (y)], h)) rfl ?_
    refine Ev.br (p := y < (0 : Int32)) (c1 := (41, [some (.inl (x)), some (.inl (y)), some (.inl (z)), some (.inl (w))], [], h)) (c2 := (11, [some (.inl (x)), some (.inl (y)), some (.inl (z)), some (.inl (w))], [], h)) rfl (fun c2 => ?_) (fun c2 => ?_)
    · refine Ev.sts 1 (c' := (42, [some (.inl (x)), some (.inl (y)), some (.inl (z)), some (.inl (w))], [.inl ((0 : Int32))], h)) rfl ?_
      exact Ev.ret rfl (k2 c0 c1 c2)
    · refine Ev.sts 2 (c' := (14, [some (.inl (x)), some (.inl (y)), some (.inl (z)), some (.inl (w))], [.inl ((9 : Int32)), .inl (y)], h)) rfl ?_
      refine Ev.br (p := (9 : Int32) < y) (c1 := (41, [some (.inl (x)), some (.inl (y)), some (.inl (z)), some (.inl (w))], [], h)) (c2 := (17, [some (.inl (x)), some (.inl (y)), some (.inl (z)), some (.inl (w))], [], h)) rfl (fun c3 => ?_) (fun c3 => ?_)
      · refine Ev.sts 1 (c' := (42, [some (.inl (x)), some (.inl (y)), some (.inl (z)), some (.inl (w))], [.inl ((0 : Int32))], h)) rfl ?_
        exact Ev.ret rfl (k3 c0 c1 c2 c3)
      · refine Ev.sts 1 (c' := (18, [some (.inl (x)), some (.inl (y)), some (.inl (z)), some (.inl (w))], [.inl (z)], h)) rfl ?_
        refine Ev.br (p := z < (0 : Int32)) (c1 := (41, [some (.inl (x)), some (.inl (y)), some (.inl (z)), some (.inl (w))], [], h)) (c2 := (21, [some (.inl (x)), some (.inl (y)), some (.inl (z)), some (.inl (w))], [], h)) rfl (fun c4 => ?_) (fun c4 => ?_)
        · refine Ev.sts 1 (c' := (42, [some (.inl (x)), some (.inl (y)), some (.inl (z)), some (.inl (w))], [.inl ((0 : Int32))], h)) rfl ?_
          exact Ev.ret rfl (k4 c0 c1 c2 c3 c4)
        · refine Ev.sts 2 (c' := (24, [some (.inl (x)), some (.inl (y)), some (.inl (z)), some (.inl (w))], [.inl ((99 : Int32)), .inl (z)], h)) rfl ?_
          refine Ev.br (p := (99 : Int32) < z) (c1 := (41, [some (.inl (x)), some (.inl (y)), some (.inl (z)), some (.inl (w))], [], h)) (c2 := (27, [some (.inl (x)), some (.inl (y)), some (.inl (z)), some (.inl (w))], [], h)) rfl (fun c5 => ?_) (fun c5 => ?_)
          · refine Ev.sts 1 (c' := (42, [some (.inl (x)), some (.inl (y)), some (.inl (z)), some (.inl (w))], [.inl ((0 : Int32))], h)) rfl ?_
            exact Ev.ret rfl (k5 c0 c1 c2 c3 c4 c5)
          · refine Ev.sts 1 (c' := (28, [some (.inl (x)), some (.inl (y)), some (.inl (z)), some (.inl (w))], [.inl (w)], h)) rfl ?_
            refine Ev.br (p := w < (0 : Int32)) (c1 := (41, [some (.inl (x)), some (.inl (y)), some (.inl (z)), some (.inl (w))], [], h)) (c2 := (31, [some (.inl (x)), some (.inl (y)), some (.inl (z)), some (.inl (w))], [], h)) rfl (fun c6 => ?_) (fun c6 => ?_)
            · refine Ev.sts 1 (c' := (42, [some (.inl (x)), some (.inl (y)), some (.inl (z)), some (.inl (w))], [.inl ((0 : Int32))], h)) rfl ?_
              exact Ev.ret rfl (k6 c0 c1 c2 c3 c4 c5 c6)
            · refine Ev.sts 2 (c' := (34, [some (.inl (x)), some (.inl (y)), some (.inl (z)), some (.inl (w))], [.inl ((9 : Int32)), .inl (w)], h)) rfl ?_
              refine Ev.br (p := (9 : Int32) < w) (c1 := (41, [some (.inl (x)), some (.inl (y)), some (.inl (z)), some (.inl (w))], [], h)) (c2 := (37, [some (.inl (x)), some (.inl (y)), some (.inl (z)), some (.inl (w))], [], h)) rfl (fun c7 => ?_) (fun c7 => ?_)
              · refine Ev.sts 1 (c' := (42, [some (.inl (x)), some (.inl (y)), some (.inl (z)), some (.inl (w))], [.inl ((0 : Int32))], h)) rfl ?_
                exact Ev.ret rfl (k7 c0 c1 c2 c3 c4 c5 c6 c7)
              · refine Ev.sts 2 (c' := (42, [some (.inl (x)), some (.inl (y)), some (.inl (z)), some (.inl (w))], [.inl ((1 : Int32))], h)) rfl ?_
                exact Ev.ret rfl (k8 c0 c1 c2 c3 c4 c5 c6 c7)

