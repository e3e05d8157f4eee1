/-! Trees in the heap: what they are worth, as the commands. -/
/-- the flocks that have the comma, in a row of booleans, as the mask tk -/
def tkR (h : PH) (b : Nat) (tk : Int32) : Prop := ∀ i, i < 8 → h.1 b i = bitv tk (iZ (i : Int))
/-- the comma in a row of ints -/
def coR (h : PH) (a : Nat) (x : Ctx) : Prop := h.1 a 0 = iZ x.1 ∧ h.1 a 1 = iZ x.2.1 ∧ h.1 a 2 = iZ x.2.2.1 ∧ h.1 a 3 = iZ x.2.2.2
theorem tr_num {d a c b : Nat} {x : Ctx} {tk : Int32} {h : PH} (co : coR h c x) (ta : tkR h b tk) {n : Int} (e0 : h.1 a 0 = iZ 0) (e1 : h.1 a 1 = iZ n) : Rv d 183 [.inr (.inr (.inr (13, 0, a))), .inr (.inr (.inr (20, 4, c))), .inr (.inr (.inr (26, 8, b)))] h (some (.inl (iZ n))) h := Rv.of fun Q q_ => by
  refine Ev.sts 1 (c' := (1, [some (.inr (.inr (.inr (13, 0, a)))), some (.inr (.inr (.inr (20, 4, c)))), some (.inr (.inr (.inr (26, 8, b))))], [.inr (.inr (.inr (13, 0, a)))], h)) rfl ?_
  refine Ev.gv (w := (iZ (0))) rfl e0 ?_
  refine Ev.sts 2 (c' := (65, [some (.inr (.inr (.inr (13, 0, a)))), some (.inr (.inr (.inr (20, 4, c)))), some (.inr (.inr (.inr (26, 8, b))))], [.inr (.inr (.inr (13, 0, a)))], h)) rfl ?_
  refine Ev.gv (w := (iZ (n))) rfl e1 ?_
  exact Ev.ret rfl (q_)

theorem tr_fld {d a c b : Nat} {x : Ctx} {tk : Int32} {h : PH} (co : coR h c x) (ta : tkR h b tk) {f : Nat} {v : Int32} (hf : f < 4) (e0 : h.1 a 0 = iZ 1) (e1 : h.1 a 1 = iZ f) (e : h.1 c f = v) : Rv d 183 [.inr (.inr (.inr (13, 0, a))), .inr (.inr (.inr (20, 4, c))), .inr (.inr (.inr (26, 8, b)))] h (some (.inl v)) h := Rv.of fun Q q_ => by
  refine Ev.sts 1 (c' := (1, [some (.inr (.inr (.inr (13, 0, a)))), some (.inr (.inr (.inr (20, 4, c)))), some (.inr (.inr (.inr (26, 8, b))))], [.inr (.inr (.inr (13, 0, a)))], h)) rfl ?_
  refine Ev.gv (w := (iZ (1))) rfl e0 ?_
  refine Ev.sts 3 (c' := (71, [some (.inr (.inr (.inr (13, 0, a)))), some (.inr (.inr (.inr (20, 4, c)))), some (.inr (.inr (.inr (26, 8, b))))], [.inr (.inr (.inr (13, 0, a))), .inr (.inr (.inr (20, 4, c)))], h)) rfl ?_
  refine Ev.gv (w := (iZ ((f : Int)))) rfl e1 ?_
  refine Ev.ldv (j := (iZ ((f : Int)))) (n := 4) (w := .inl (v)) (iZ_in (by omega) (by omega) (by omega)) rfl (by rw [iZ_ix (n := f) (by omega) (by omega)]; exact congrArg vI e) ?_
  exact Ev.ret rfl (q_)

theorem tr_2 {d a c b : Nat} {x : Ctx} {tk : Int32} {h : PH} (co : coR h c x) (ta : tkR h b tk) {pa qa : Nat} {v w : Int32} (e0 : h.1 a 0 = iZ 2) (e2 : h.2.2.1 a 2 = (13, 0, pa)) (hp : Rv d 183 [.inr (.inr (.inr (13, 0, pa))), .inr (.inr (.inr (20, 4, c))), .inr (.inr (.inr (26, 8, b)))] h (some (.inl v)) h) (e3 : h.2.2.1 a 3 = (13, 0, qa)) (hq : Rv d 183 [.inr (.inr (.inr (13, 0, qa))), .inr (.inr (.inr (20, 4, c))), .inr (.inr (.inr (26, 8, b)))] h (some (.inl w)) h) : Rv (d + 1) 183 [.inr (.inr (.inr (13, 0, a))), .inr (.inr (.inr (20, 4, c))), .inr (.inr (.inr (26, 8, b)))] h (some (.inl (v + w))) h := Rv.of fun Q q_ => by
  refine Ev.sts 1 (c' := (1, [some (.inr (.inr (.inr (13, 0, a)))), some (.inr (.inr (.inr (20, 4, c)))), some (.inr (.inr (.inr (26, 8, b))))], [.inr (.inr (.inr (13, 0, a)))], h)) rfl ?_
  refine Ev.gv (w := (iZ (2))) rfl e0 ?_
  refine Ev.sts 2 (c' := (77, [some (.inr (.inr (.inr (13, 0, a)))), some (.inr (.inr (.inr (20, 4, c)))), some (.inr (.inr (.inr (26, 8, b))))], [.inr (.inr (.inr (13, 0, a)))], h)) rfl ?_
  refine Ev.gfr (r := (13, 0, pa)) rfl e2 ?_
  refine Ev.sts 2 (c' := (82, [some (.inr (.inr (.inr (13, 0, a)))), some (.inr (.inr (.inr (20, 4, c)))), some (.inr (.inr (.inr (26, 8, b))))], [.inr (.inr (.inr (26, 8, b))), .inr (.inr (.inr (20, 4, c))), .inr (.inr (.inr (13, 0, pa)))], h)) rfl ?_
  refine Ev.callv (a := [.inr (.inr (.inr (13, 0, pa))), .inr (.inr (.inr (20, 4, c))), .inr (.inr (.inr (26, 8, b)))]) rfl hp ?_
  refine Ev.sts 1 (c' := (86, [some (.inr (.inr (.inr (13, 0, a)))), some (.inr (.inr (.inr (20, 4, c)))), some (.inr (.inr (.inr (26, 8, b))))], [.inr (.inr (.inr (13, 0, a))), .inl (v)], h)) rfl ?_
  refine Ev.gfr (r := (13, 0, qa)) rfl e3 ?_
  refine Ev.sts 2 (c' := (91, [some (.inr (.inr (.inr (13, 0, a)))), some (.inr (.inr (.inr (20, 4, c)))), some (.inr (.inr (.inr (26, 8, b))))], [.inr (.inr (.inr (26, 8, b))), .inr (.inr (.inr (20, 4, c))), .inr (.inr (.inr (13, 0, qa))), .inl (v)], h)) rfl ?_
  refine Ev.callv (a := [.inr (.inr (.inr (13, 0, qa))), .inr (.inr (.inr (20, 4, c))), .inr (.inr (.inr (26, 8, b)))]) rfl hq ?_
  refine Ev.sts 1 (c' := (95, [some (.inr (.inr (.inr (13, 0, a)))), some (.inr (.inr (.inr (20, 4, c)))), some (.inr (.inr (.inr (26, 8, b))))], [.inl ((v + w))], h)) rfl ?_
  exact Ev.ret rfl (q_)

theorem tr_3 {d a c b : Nat} {x : Ctx} {tk : Int32} {h : PH} (co : coR h c x) (ta : tkR h b tk) {pa qa : Nat} {v w : Int32} (e0 : h.1 a 0 = iZ 3) (e2 : h.2.2.1 a 2 = (13, 0, pa)) (hp : Rv d 183 [.inr (.inr (.inr (13, 0, pa))), .inr (.inr (.inr (20, 4, c))), .inr (.inr (.inr (26, 8, b)))] h (some (.inl v)) h) (e3 : h.2.2.1 a 3 = (13, 0, qa)) (hq : Rv d 183 [.inr (.inr (.inr (13, 0, qa))), .inr (.inr (.inr (20, 4, c))), .inr (.inr (.inr (26, 8, b)))] h (some (.inl w)) h) : Rv (d + 1) 183 [.inr (.inr (.inr (13, 0, a))), .inr (.inr (.inr (20, 4, c))), .inr (.inr (.inr (26, 8, b)))] h (some (.inl (v - w))) h := Rv.of fun Q q_ => by
  refine Ev.sts 1 (c' := (1, [some (.inr (.inr (.inr (13, 0, a)))), some (.inr (.inr (.inr (20, 4, c)))), some (.inr (.inr (.inr (26, 8, b))))], [.inr (.inr (.inr (13, 0, a)))], h)) rfl ?_
  refine Ev.gv (w := (iZ (3))) rfl e0 ?_
  refine Ev.sts 2 (c' := (97, [some (.inr (.inr (.inr (13, 0, a)))), some (.inr (.inr (.inr (20, 4, c)))), some (.inr (.inr (.inr (26, 8, b))))], [.inr (.inr (.inr (13, 0, a)))], h)) rfl ?_
  refine Ev.gfr (r := (13, 0, pa)) rfl e2 ?_
  refine Ev.sts 2 (c' := (102, [some (.inr (.inr (.inr (13, 0, a)))), some (.inr (.inr (.inr (20, 4, c)))), some (.inr (.inr (.inr (26, 8, b))))], [.inr (.inr (.inr (26, 8, b))), .inr (.inr (.inr (20, 4, c))), .inr (.inr (.inr (13, 0, pa)))], h)) rfl ?_
  refine Ev.callv (a := [.inr (.inr (.inr (13, 0, pa))), .inr (.inr (.inr (20, 4, c))), .inr (.inr (.inr (26, 8, b)))]) rfl hp ?_
  refine Ev.sts 1 (c' := (106, [some (.inr (.inr (.inr (13, 0, a)))), some (.inr (.inr (.inr (20, 4, c)))), some (.inr (.inr (.inr (26, 8, b))))], [.inr (.inr (.inr (13, 0, a))), .inl (v)], h)) rfl ?_
  refine Ev.gfr (r := (13, 0, qa)) rfl e3 ?_
  refine Ev.sts 2 (c' := (111, [some (.inr (.inr (.inr (13, 0, a)))), some (.inr (.inr (.inr (20, 4, c)))), some (.inr (.inr (.inr (26, 8, b))))], [.inr (.inr (.inr (26, 8, b))), .inr (.inr (.inr (20, 4, c))), .inr (.inr (.inr (13, 0, qa))), .inl (v)], h)) rfl ?_
  refine Ev.callv (a := [.inr (.inr (.inr (13, 0, qa))), .inr (.inr (.inr (20, 4, c))), .inr (.inr (.inr (26, 8, b)))]) rfl hq ?_
  refine Ev.sts 1 (c' := (115, [some (.inr (.inr (.inr (13, 0, a)))), some (.inr (.inr (.inr (20, 4, c)))), some (.inr (.inr (.inr (26, 8, b))))], [.inl ((v - w))], h)) rfl ?_
  exact Ev.ret rfl (q_)

theorem tr_4 {d a c b : Nat} {x : Ctx} {tk : Int32} {h : PH} (co : coR h c x) (ta : tkR h b tk) {pa qa : Nat} {v w : Int32} (e0 : h.1 a 0 = iZ 4) (e2 : h.2.2.1 a 2 = (13, 0, pa)) (hp : Rv d 183 [.inr (.inr (.inr (13, 0, pa))), .inr (.inr (.inr (20, 4, c))), .inr (.inr (.inr (26, 8, b)))] h (some (.inl v)) h) (e3 : h.2.2.1 a 3 = (13, 0, qa)) (hq : Rv d 183 [.inr (.inr (.inr (13, 0, qa))), .inr (.inr (.inr (20, 4, c))), .inr (.inr (.inr (26, 8, b)))] h (some (.inl w)) h) : Rv (d + 1) 183 [.inr (.inr (.inr (13, 0, a))), .inr (.inr (.inr (20, 4, c))), .inr (.inr (.inr (26, 8, b)))] h (some (.inl (v * w))) h := Rv.of fun Q q_ => by
  refine Ev.sts 1 (c' := (1, [some (.inr (.inr (.inr (13, 0, a)))), some (.inr (.inr (.inr (20, 4, c)))), some (.inr (.inr (.inr (26, 8, b))))], [.inr (.inr (.inr (13, 0, a)))], h)) rfl ?_
  refine Ev.gv (w := (iZ (4))) rfl e0 ?_
  refine Ev.sts 2 (c' := (117, [some (.inr (.inr (.inr (13, 0, a)))), some (.inr (.inr (.inr (20, 4, c)))), some (.inr (.inr (.inr (26, 8, b))))], [.inr (.inr (.inr (13, 0, a)))], h)) rfl ?_
  refine Ev.gfr (r := (13, 0, pa)) rfl e2 ?_
  refine Ev.sts 2 (c' := (122, [some (.inr (.inr (.inr (13, 0, a)))), some (.inr (.inr (.inr (20, 4, c)))), some (.inr (.inr (.inr (26, 8, b))))], [.inr (.inr (.inr (26, 8, b))), .inr (.inr (.inr (20, 4, c))), .inr (.inr (.inr (13, 0, pa)))], h)) rfl ?_
  refine Ev.callv (a := [.inr (.inr (.inr (13, 0, pa))), .inr (.inr (.inr (20, 4, c))), .inr (.inr (.inr (26, 8, b)))]) rfl hp ?_
  refine Ev.sts 1 (c' := (126, [some (.inr (.inr (.inr (13, 0, a)))), some (.inr (.inr (.inr (20, 4, c)))), some (.inr (.inr (.inr (26, 8, b))))], [.inr (.inr (.inr (13, 0, a))), .inl (v)], h)) rfl ?_
  refine Ev.gfr (r := (13, 0, qa)) rfl e3 ?_
  refine Ev.sts 2 (c' := (131, [some (.inr (.inr (.inr (13, 0, a)))), some (.inr (.inr (.inr (20, 4, c)))), some (.inr (.inr (.inr (26, 8, b))))], [.inr (.inr (.inr (26, 8, b))), .inr (.inr (.inr (20, 4, c))), .inr (.inr (.inr (13, 0, qa))), .inl (v)], h)) rfl ?_
  refine Ev.callv (a := [.inr (.inr (.inr (13, 0, qa))), .inr (.inr (.inr (20, 4, c))), .inr (.inr (.inr (26, 8, b)))]) rfl hq ?_
  refine Ev.sts 1 (c' := (135, [some (.inr (.inr (.inr (13, 0, a)))), some (.inr (.inr (.inr (20, 4, c)))), some (.inr (.inr (.inr (26, 8, b))))], [.inl ((v * w))], h)) rfl ?_
  exact Ev.ret rfl (q_)

theorem tr_5 {d a c b : Nat} {x : Ctx} {tk : Int32} {h : PH} (co : coR h c x) (ta : tkR h b tk) {pa qa : Nat} {v w : Int32} (e0 : h.1 a 0 = iZ 5) (e2 : h.2.2.1 a 2 = (13, 0, pa)) (hp : Rv d 183 [.inr (.inr (.inr (13, 0, pa))), .inr (.inr (.inr (20, 4, c))), .inr (.inr (.inr (26, 8, b)))] h (some (.inl v)) h) (e3 : h.2.2.1 a 3 = (13, 0, qa)) (hq : Rv d 183 [.inr (.inr (.inr (13, 0, qa))), .inr (.inr (.inr (20, 4, c))), .inr (.inr (.inr (26, 8, b)))] h (some (.inl w)) h) : Rv (d + 1) 183 [.inr (.inr (.inr (13, 0, a))), .inr (.inr (.inr (20, 4, c))), .inr (.inr (.inr (26, 8, b)))] h (some (.inl (if v < w then iZ 1 else iZ 0))) h := Rv.of fun Q q_ => by
  refine Ev.sts 1 (c' := (1, [some (.inr (.inr (.inr (13, 0, a)))), some (.inr (.inr (.inr (20, 4, c)))), some (.inr (.inr (.inr (26, 8, b))))], [.inr (.inr (.inr (13, 0, a)))], h)) rfl ?_
  refine Ev.gv (w := (iZ (5))) rfl e0 ?_
  refine Ev.sts 2 (c' := (137, [some (.inr (.inr (.inr (13, 0, a)))), some (.inr (.inr (.inr (20, 4, c)))), some (.inr (.inr (.inr (26, 8, b))))], [.inr (.inr (.inr (13, 0, a)))], h)) rfl ?_
  refine Ev.gfr (r := (13, 0, pa)) rfl e2 ?_
  refine Ev.sts 2 (c' := (142, [some (.inr (.inr (.inr (13, 0, a)))), some (.inr (.inr (.inr (20, 4, c)))), some (.inr (.inr (.inr (26, 8, b))))], [.inr (.inr (.inr (26, 8, b))), .inr (.inr (.inr (20, 4, c))), .inr (.inr (.inr (13, 0, pa)))], h)) rfl ?_
  refine Ev.callv (a := [.inr (.inr (.inr (13, 0, pa))), .inr (.inr (.inr (20, 4, c))), .inr (.inr (.inr (26, 8, b)))]) rfl hp ?_
  refine Ev.sts 1 (c' := (146, [some (.inr (.inr (.inr (13, 0, a)))), some (.inr (.inr (.inr (20, 4, c)))), some (.inr (.inr (.inr (26, 8, b))))], [.inr (.inr (.inr (13, 0, a))), .inl (v)], h)) rfl ?_
  refine Ev.gfr (r := (13, 0, qa)) rfl e3 ?_
  refine Ev.sts 2 (c' := (151, [some (.inr (.inr (.inr (13, 0, a)))), some (.inr (.inr (.inr (20, 4, c)))), some (.inr (.inr (.inr (26, 8, b))))], [.inr (.inr (.inr (26, 8, b))), .inr (.inr (.inr (20, 4, c))), .inr (.inr (.inr (13, 0, qa))), .inl (v)], h)) rfl ?_
  refine Ev.callv (a := [.inr (.inr (.inr (13, 0, qa))), .inr (.inr (.inr (20, 4, c))), .inr (.inr (.inr (26, 8, b)))]) rfl hq ?_
  refine Ev.br (p := w ≤ v) (c1 := (161, [some (.inr (.inr (.inr (13, 0, a)))), some (.inr (.inr (.inr (20, 4, c)))), some (.inr (.inr (.inr (26, 8, b))))], [], h)) (c2 := (157, [some (.inr (.inr (.inr (13, 0, a)))), some (.inr (.inr (.inr (20, 4, c)))), some (.inr (.inr (.inr (26, 8, b))))], [], h)) rfl (fun c0 => ?_) (fun c0 => ?_)
  · refine Ev.sts 1 (c' := (162, [some (.inr (.inr (.inr (13, 0, a)))), some (.inr (.inr (.inr (20, 4, c)))), some (.inr (.inr (.inr (26, 8, b))))], [.inl (iZ (0))], h)) rfl ?_
    rw [if_neg (Int32.not_lt.mpr c0)] at q_
    exact Ev.ret rfl q_
  · refine Ev.sts 2 (c' := (162, [some (.inr (.inr (.inr (13, 0, a)))), some (.inr (.inr (.inr (20, 4, c)))), some (.inr (.inr (.inr (26, 8, b))))], [.inl (iZ (1))], h)) rfl ?_
    rw [if_pos (Int32.not_le.mp c0)] at q_
    exact Ev.ret rfl q_

theorem tr_6 {d a c b : Nat} {x : Ctx} {tk : Int32} {h : PH} (co : coR h c x) (ta : tkR h b tk) {pa qa : Nat} {v w : Int32} (e0 : h.1 a 0 = iZ 6) (e2 : h.2.2.1 a 2 = (13, 0, pa)) (hp : Rv d 183 [.inr (.inr (.inr (13, 0, pa))), .inr (.inr (.inr (20, 4, c))), .inr (.inr (.inr (26, 8, b)))] h (some (.inl v)) h) (e3 : h.2.2.1 a 3 = (13, 0, qa)) (hq : Rv d 183 [.inr (.inr (.inr (13, 0, qa))), .inr (.inr (.inr (20, 4, c))), .inr (.inr (.inr (26, 8, b)))] h (some (.inl w)) h) : Rv (d + 1) 183 [.inr (.inr (.inr (13, 0, a))), .inr (.inr (.inr (20, 4, c))), .inr (.inr (.inr (26, 8, b)))] h (some (.inl (if w < v then iZ 1 else iZ 0))) h := Rv.of fun Q q_ => by
  refine Ev.sts 1 (c' := (1, [some (.inr (.inr (.inr (13, 0, a)))), some (.inr (.inr (.inr (20, 4, c)))), some (.inr (.inr (.inr (26, 8, b))))], [.inr (.inr (.inr (13, 0, a)))], h)) rfl ?_
  refine Ev.gv (w := (iZ (6))) rfl e0 ?_
  refine Ev.sts 2 (c' := (164, [some (.inr (.inr (.inr (13, 0, a)))), some (.inr (.inr (.inr (20, 4, c)))), some (.inr (.inr (.inr (26, 8, b))))], [.inr (.inr (.inr (13, 0, a)))], h)) rfl ?_
  refine Ev.gfr (r := (13, 0, pa)) rfl e2 ?_
  refine Ev.sts 2 (c' := (169, [some (.inr (.inr (.inr (13, 0, a)))), some (.inr (.inr (.inr (20, 4, c)))), some (.inr (.inr (.inr (26, 8, b))))], [.inr (.inr (.inr (26, 8, b))), .inr (.inr (.inr (20, 4, c))), .inr (.inr (.inr (13, 0, pa)))], h)) rfl ?_
  refine Ev.callv (a := [.inr (.inr (.inr (13, 0, pa))), .inr (.inr (.inr (20, 4, c))), .inr (.inr (.inr (26, 8, b)))]) rfl hp ?_
  refine Ev.sts 1 (c' := (173, [some (.inr (.inr (.inr (13, 0, a)))), some (.inr (.inr (.inr (20, 4, c)))), some (.inr (.inr (.inr (26, 8, b))))], [.inr (.inr (.inr (13, 0, a))), .inl (v)], h)) rfl ?_
  refine Ev.gfr (r := (13, 0, qa)) rfl e3 ?_
  refine Ev.sts 2 (c' := (178, [some (.inr (.inr (.inr (13, 0, a)))), some (.inr (.inr (.inr (20, 4, c)))), some (.inr (.inr (.inr (26, 8, b))))], [.inr (.inr (.inr (26, 8, b))), .inr (.inr (.inr (20, 4, c))), .inr (.inr (.inr (13, 0, qa))), .inl (v)], h)) rfl ?_
  refine Ev.callv (a := [.inr (.inr (.inr (13, 0, qa))), .inr (.inr (.inr (20, 4, c))), .inr (.inr (.inr (26, 8, b)))]) rfl hq ?_
  refine Ev.br (p := v ≤ w) (c1 := (188, [some (.inr (.inr (.inr (13, 0, a)))), some (.inr (.inr (.inr (20, 4, c)))), some (.inr (.inr (.inr (26, 8, b))))], [], h)) (c2 := (184, [some (.inr (.inr (.inr (13, 0, a)))), some (.inr (.inr (.inr (20, 4, c)))), some (.inr (.inr (.inr (26, 8, b))))], [], h)) rfl (fun c0 => ?_) (fun c0 => ?_)
  · refine Ev.sts 1 (c' := (189, [some (.inr (.inr (.inr (13, 0, a)))), some (.inr (.inr (.inr (20, 4, c)))), some (.inr (.inr (.inr (26, 8, b))))], [.inl (iZ (0))], h)) rfl ?_
    rw [if_neg (Int32.not_lt.mpr c0)] at q_
    exact Ev.ret rfl q_
  · refine Ev.sts 2 (c' := (189, [some (.inr (.inr (.inr (13, 0, a)))), some (.inr (.inr (.inr (20, 4, c)))), some (.inr (.inr (.inr (26, 8, b))))], [.inl (iZ (1))], h)) rfl ?_
    rw [if_pos (Int32.not_le.mp c0)] at q_
    exact Ev.ret rfl q_

theorem tr_7 {d a c b : Nat} {x : Ctx} {tk : Int32} {h : PH} (co : coR h c x) (ta : tkR h b tk) {pa qa : Nat} {v w : Int32} (e0 : h.1 a 0 = iZ 7) (e2 : h.2.2.1 a 2 = (13, 0, pa)) (hp : Rv d 183 [.inr (.inr (.inr (13, 0, pa))), .inr (.inr (.inr (20, 4, c))), .inr (.inr (.inr (26, 8, b)))] h (some (.inl v)) h) (e3 : h.2.2.1 a 3 = (13, 0, qa)) (hq : Rv d 183 [.inr (.inr (.inr (13, 0, qa))), .inr (.inr (.inr (20, 4, c))), .inr (.inr (.inr (26, 8, b)))] h (some (.inl w)) h) : Rv (d + 1) 183 [.inr (.inr (.inr (13, 0, a))), .inr (.inr (.inr (20, 4, c))), .inr (.inr (.inr (26, 8, b)))] h (some (.inl (if v = w then iZ 1 else iZ 0))) h := Rv.of fun Q q_ => by
  refine Ev.sts 1 (c' := (1, [some (.inr (.inr (.inr (13, 0, a)))), some (.inr (.inr (.inr (20, 4, c)))), some (.inr (.inr (.inr (26, 8, b))))], [.inr (.inr (.inr (13, 0, a)))], h)) rfl ?_
  refine Ev.gv (w := (iZ (7))) rfl e0 ?_
  refine Ev.sts 2 (c' := (191, [some (.inr (.inr (.inr (13, 0, a)))), some (.inr (.inr (.inr (20, 4, c)))), some (.inr (.inr (.inr (26, 8, b))))], [.inr (.inr (.inr (13, 0, a)))], h)) rfl ?_
  refine Ev.gfr (r := (13, 0, pa)) rfl e2 ?_
  refine Ev.sts 2 (c' := (196, [some (.inr (.inr (.inr (13, 0, a)))), some (.inr (.inr (.inr (20, 4, c)))), some (.inr (.inr (.inr (26, 8, b))))], [.inr (.inr (.inr (26, 8, b))), .inr (.inr (.inr (20, 4, c))), .inr (.inr (.inr (13, 0, pa)))], h)) rfl ?_
  refine Ev.callv (a := [.inr (.inr (.inr (13, 0, pa))), .inr (.inr (.inr (20, 4, c))), .inr (.inr (.inr (26, 8, b)))]) rfl hp ?_
  refine Ev.sts 1 (c' := (200, [some (.inr (.inr (.inr (13, 0, a)))), some (.inr (.inr (.inr (20, 4, c)))), some (.inr (.inr (.inr (26, 8, b))))], [.inr (.inr (.inr (13, 0, a))), .inl (v)], h)) rfl ?_
  refine Ev.gfr (r := (13, 0, qa)) rfl e3 ?_
  refine Ev.sts 2 (c' := (205, [some (.inr (.inr (.inr (13, 0, a)))), some (.inr (.inr (.inr (20, 4, c)))), some (.inr (.inr (.inr (26, 8, b))))], [.inr (.inr (.inr (26, 8, b))), .inr (.inr (.inr (20, 4, c))), .inr (.inr (.inr (13, 0, qa))), .inl (v)], h)) rfl ?_
  refine Ev.callv (a := [.inr (.inr (.inr (13, 0, qa))), .inr (.inr (.inr (20, 4, c))), .inr (.inr (.inr (26, 8, b)))]) rfl hq ?_
  refine Ev.br (p := ¬ v = w) (c1 := (215, [some (.inr (.inr (.inr (13, 0, a)))), some (.inr (.inr (.inr (20, 4, c)))), some (.inr (.inr (.inr (26, 8, b))))], [], h)) (c2 := (211, [some (.inr (.inr (.inr (13, 0, a)))), some (.inr (.inr (.inr (20, 4, c)))), some (.inr (.inr (.inr (26, 8, b))))], [], h)) rfl (fun c0 => ?_) (fun c0 => ?_)
  · refine Ev.sts 1 (c' := (216, [some (.inr (.inr (.inr (13, 0, a)))), some (.inr (.inr (.inr (20, 4, c)))), some (.inr (.inr (.inr (26, 8, b))))], [.inl (iZ (0))], h)) rfl ?_
    rw [if_neg c0] at q_
    exact Ev.ret rfl q_
  · refine Ev.sts 2 (c' := (216, [some (.inr (.inr (.inr (13, 0, a)))), some (.inr (.inr (.inr (20, 4, c)))), some (.inr (.inr (.inr (26, 8, b))))], [.inl (iZ (1))], h)) rfl ?_
    rw [if_pos (Classical.not_not.mp c0)] at q_
    exact Ev.ret rfl q_

theorem tr_8 {d a c b : Nat} {x : Ctx} {tk : Int32} {h : PH} (co : coR h c x) (ta : tkR h b tk) {f : Nat} {v : Int32} (hf : f < 8) (e0 : h.1 a 0 = iZ 8) (e1 : h.1 a 1 = iZ f) (e : h.1 b f = v) (ev : v = iZ 0 ∨ v = iZ 1) : Rv d 183 [.inr (.inr (.inr (13, 0, a))), .inr (.inr (.inr (20, 4, c))), .inr (.inr (.inr (26, 8, b)))] h (some (.inl v)) h := Rv.of fun Q q_ => by
  refine Ev.sts 1 (c' := (1, [some (.inr (.inr (.inr (13, 0, a)))), some (.inr (.inr (.inr (20, 4, c)))), some (.inr (.inr (.inr (26, 8, b))))], [.inr (.inr (.inr (13, 0, a)))], h)) rfl ?_
  refine Ev.gv (w := (iZ (8))) rfl e0 ?_
  refine Ev.sts 3 (c' := (219, [some (.inr (.inr (.inr (13, 0, a)))), some (.inr (.inr (.inr (20, 4, c)))), some (.inr (.inr (.inr (26, 8, b))))], [.inr (.inr (.inr (13, 0, a))), .inr (.inr (.inr (26, 8, b)))], h)) rfl ?_
  refine Ev.gv (w := (iZ ((f : Int)))) rfl e1 ?_
  refine Ev.ldv (j := (iZ ((f : Int)))) (n := 8) (w := .inl (v)) (iZ_in (by omega) (by omega) (by omega)) rfl (by rw [iZ_ix (n := f) (by omega) (by omega)]; exact congrArg vI e) ?_
  refine Ev.br (p := v = (iZ (0))) (c1 := (230, [some (.inr (.inr (.inr (13, 0, a)))), some (.inr (.inr (.inr (20, 4, c)))), some (.inr (.inr (.inr (26, 8, b))))], [], h)) (c2 := (226, [some (.inr (.inr (.inr (13, 0, a)))), some (.inr (.inr (.inr (20, 4, c)))), some (.inr (.inr (.inr (26, 8, b))))], [], h)) rfl (fun c0 => ?_) (fun c0 => ?_)
  · refine Ev.sts 1 (c' := (231, [some (.inr (.inr (.inr (13, 0, a)))), some (.inr (.inr (.inr (20, 4, c)))), some (.inr (.inr (.inr (26, 8, b))))], [.inl (iZ (0))], h)) rfl ?_
    rw [show v = iZ 0 from c0] at q_
    exact Ev.ret rfl q_
  · refine Ev.sts 2 (c' := (231, [some (.inr (.inr (.inr (13, 0, a)))), some (.inr (.inr (.inr (20, 4, c)))), some (.inr (.inr (.inr (26, 8, b))))], [.inl (iZ (1))], h)) rfl ?_
    have e1 : v = iZ 1 := ev.elim (fun z => absurd z c0) (fun z => z)
    rw [e1] at q_
    exact Ev.ret rfl q_

theorem tr_9 {d a c b : Nat} {x : Ctx} {tk : Int32} {h : PH} (co : coR h c x) (ta : tkR h b tk) {pa : Nat} {v : Int32} (e0 : h.1 a 0 = iZ 9) (e2 : h.2.2.1 a 2 = (13, 0, pa)) (hp : Rv d 183 [.inr (.inr (.inr (13, 0, pa))), .inr (.inr (.inr (20, 4, c))), .inr (.inr (.inr (26, 8, b)))] h (some (.inl v)) h) : Rv (d + 1) 183 [.inr (.inr (.inr (13, 0, a))), .inr (.inr (.inr (20, 4, c))), .inr (.inr (.inr (26, 8, b)))] h (some (.inl (iZ 1 - v))) h := Rv.of fun Q q_ => by
  refine Ev.sts 1 (c' := (1, [some (.inr (.inr (.inr (13, 0, a)))), some (.inr (.inr (.inr (20, 4, c)))), some (.inr (.inr (.inr (26, 8, b))))], [.inr (.inr (.inr (13, 0, a)))], h)) rfl ?_
  refine Ev.gv (w := (iZ (9))) rfl e0 ?_
  refine Ev.sts 3 (c' := (234, [some (.inr (.inr (.inr (13, 0, a)))), some (.inr (.inr (.inr (20, 4, c)))), some (.inr (.inr (.inr (26, 8, b))))], [.inr (.inr (.inr (13, 0, a))), .inl (iZ (1))], h)) rfl ?_
  refine Ev.gfr (r := (13, 0, pa)) rfl e2 ?_
  refine Ev.sts 2 (c' := (239, [some (.inr (.inr (.inr (13, 0, a)))), some (.inr (.inr (.inr (20, 4, c)))), some (.inr (.inr (.inr (26, 8, b))))], [.inr (.inr (.inr (26, 8, b))), .inr (.inr (.inr (20, 4, c))), .inr (.inr (.inr (13, 0, pa))), .inl (iZ (1))], h)) rfl ?_
  refine Ev.callv (a := [.inr (.inr (.inr (13, 0, pa))), .inr (.inr (.inr (20, 4, c))), .inr (.inr (.inr (26, 8, b)))]) rfl hp ?_
  refine Ev.sts 1 (c' := (243, [some (.inr (.inr (.inr (13, 0, a)))), some (.inr (.inr (.inr (20, 4, c)))), some (.inr (.inr (.inr (26, 8, b))))], [.inl (((iZ (1)) - v))], h)) rfl ?_
  exact Ev.ret rfl (q_)

theorem tr_10 {d a c b : Nat} {x : Ctx} {tk : Int32} {h : PH} (co : coR h c x) (ta : tkR h b tk) {pa qa : Nat} {v w : Int32} (e0 : h.1 a 0 = iZ 10) (e2 : h.2.2.1 a 2 = (13, 0, pa)) (hp : Rv d 183 [.inr (.inr (.inr (13, 0, pa))), .inr (.inr (.inr (20, 4, c))), .inr (.inr (.inr (26, 8, b)))] h (some (.inl v)) h) (e3 : h.2.2.1 a 3 = (13, 0, qa)) (hq : Rv d 183 [.inr (.inr (.inr (13, 0, qa))), .inr (.inr (.inr (20, 4, c))), .inr (.inr (.inr (26, 8, b)))] h (some (.inl w)) h) : Rv (d + 1) 183 [.inr (.inr (.inr (13, 0, a))), .inr (.inr (.inr (20, 4, c))), .inr (.inr (.inr (26, 8, b)))] h (some (.inl (if v + w = iZ 2 then iZ 1 else iZ 0))) h := Rv.of fun Q q_ => by
  refine Ev.sts 1 (c' := (1, [some (.inr (.inr (.inr (13, 0, a)))), some (.inr (.inr (.inr (20, 4, c)))), some (.inr (.inr (.inr (26, 8, b))))], [.inr (.inr (.inr (13, 0, a)))], h)) rfl ?_
  refine Ev.gv (w := (iZ (10))) rfl e0 ?_
  refine Ev.sts 2 (c' := (245, [some (.inr (.inr (.inr (13, 0, a)))), some (.inr (.inr (.inr (20, 4, c)))), some (.inr (.inr (.inr (26, 8, b))))], [.inr (.inr (.inr (13, 0, a)))], h)) rfl ?_
  refine Ev.gfr (r := (13, 0, pa)) rfl e2 ?_
  refine Ev.sts 2 (c' := (250, [some (.inr (.inr (.inr (13, 0, a)))), some (.inr (.inr (.inr (20, 4, c)))), some (.inr (.inr (.inr (26, 8, b))))], [.inr (.inr (.inr (26, 8, b))), .inr (.inr (.inr (20, 4, c))), .inr (.inr (.inr (13, 0, pa)))], h)) rfl ?_
  refine Ev.callv (a := [.inr (.inr (.inr (13, 0, pa))), .inr (.inr (.inr (20, 4, c))), .inr (.inr (.inr (26, 8, b)))]) rfl hp ?_
  refine Ev.sts 1 (c' := (254, [some (.inr (.inr (.inr (13, 0, a)))), some (.inr (.inr (.inr (20, 4, c)))), some (.inr (.inr (.inr (26, 8, b))))], [.inr (.inr (.inr (13, 0, a))), .inl (v)], h)) rfl ?_
  refine Ev.gfr (r := (13, 0, qa)) rfl e3 ?_
  refine Ev.sts 2 (c' := (259, [some (.inr (.inr (.inr (13, 0, a)))), some (.inr (.inr (.inr (20, 4, c)))), some (.inr (.inr (.inr (26, 8, b))))], [.inr (.inr (.inr (26, 8, b))), .inr (.inr (.inr (20, 4, c))), .inr (.inr (.inr (13, 0, qa))), .inl (v)], h)) rfl ?_
  refine Ev.callv (a := [.inr (.inr (.inr (13, 0, qa))), .inr (.inr (.inr (20, 4, c))), .inr (.inr (.inr (26, 8, b)))]) rfl hq ?_
  refine Ev.sts 2 (c' := (264, [some (.inr (.inr (.inr (13, 0, a)))), some (.inr (.inr (.inr (20, 4, c)))), some (.inr (.inr (.inr (26, 8, b))))], [.inl (iZ (2)), .inl ((v + w))], h)) rfl ?_
  refine Ev.br (p := ¬ (v + w) = (iZ (2))) (c1 := (271, [some (.inr (.inr (.inr (13, 0, a)))), some (.inr (.inr (.inr (20, 4, c)))), some (.inr (.inr (.inr (26, 8, b))))], [], h)) (c2 := (267, [some (.inr (.inr (.inr (13, 0, a)))), some (.inr (.inr (.inr (20, 4, c)))), some (.inr (.inr (.inr (26, 8, b))))], [], h)) rfl (fun c0 => ?_) (fun c0 => ?_)
  · refine Ev.sts 1 (c' := (272, [some (.inr (.inr (.inr (13, 0, a)))), some (.inr (.inr (.inr (20, 4, c)))), some (.inr (.inr (.inr (26, 8, b))))], [.inl (iZ (0))], h)) rfl ?_
    rw [if_neg c0] at q_
    exact Ev.ret rfl q_
  · refine Ev.sts 2 (c' := (272, [some (.inr (.inr (.inr (13, 0, a)))), some (.inr (.inr (.inr (20, 4, c)))), some (.inr (.inr (.inr (26, 8, b))))], [.inl (iZ (1))], h)) rfl ?_
    rw [if_pos (Classical.not_not.mp c0)] at q_
    exact Ev.ret rfl q_

theorem tr_11 {d a c b : Nat} {x : Ctx} {tk : Int32} {h : PH} (co : coR h c x) (ta : tkR h b tk) {pa qa : Nat} {v w : Int32} (e0 : h.1 a 0 = iZ 11) (e2 : h.2.2.1 a 2 = (13, 0, pa)) (hp : Rv d 183 [.inr (.inr (.inr (13, 0, pa))), .inr (.inr (.inr (20, 4, c))), .inr (.inr (.inr (26, 8, b)))] h (some (.inl v)) h) (e3 : h.2.2.1 a 3 = (13, 0, qa)) (hq : Rv d 183 [.inr (.inr (.inr (13, 0, qa))), .inr (.inr (.inr (20, 4, c))), .inr (.inr (.inr (26, 8, b)))] h (some (.inl w)) h) : Rv (d + 1) 183 [.inr (.inr (.inr (13, 0, a))), .inr (.inr (.inr (20, 4, c))), .inr (.inr (.inr (26, 8, b)))] h (some (.inl (if iZ 0 < v + w then iZ 1 else iZ 0))) h := Rv.of fun Q q_ => by
  refine Ev.sts 1 (c' := (1, [some (.inr (.inr (.inr (13, 0, a)))), some (.inr (.inr (.inr (20, 4, c)))), some (.inr (.inr (.inr (26, 8, b))))], [.inr (.inr (.inr (13, 0, a)))], h)) rfl ?_
  refine Ev.gv (w := (iZ (11))) rfl e0 ?_
  refine Ev.sts 2 (c' := (274, [some (.inr (.inr (.inr (13, 0, a)))), some (.inr (.inr (.inr (20, 4, c)))), some (.inr (.inr (.inr (26, 8, b))))], [.inr (.inr (.inr (13, 0, a)))], h)) rfl ?_
  refine Ev.gfr (r := (13, 0, pa)) rfl e2 ?_
  refine Ev.sts 2 (c' := (279, [some (.inr (.inr (.inr (13, 0, a)))), some (.inr (.inr (.inr (20, 4, c)))), some (.inr (.inr (.inr (26, 8, b))))], [.inr (.inr (.inr (26, 8, b))), .inr (.inr (.inr (20, 4, c))), .inr (.inr (.inr (13, 0, pa)))], h)) rfl ?_
  refine Ev.callv (a := [.inr (.inr (.inr (13, 0, pa))), .inr (.inr (.inr (20, 4, c))), .inr (.inr (.inr (26, 8, b)))]) rfl hp ?_
  refine Ev.sts 1 (c' := (283, [some (.inr (.inr (.inr (13, 0, a)))), some (.inr (.inr (.inr (20, 4, c)))), some (.inr (.inr (.inr (26, 8, b))))], [.inr (.inr (.inr (13, 0, a))), .inl (v)], h)) rfl ?_
  refine Ev.gfr (r := (13, 0, qa)) rfl e3 ?_
  refine Ev.sts 2 (c' := (288, [some (.inr (.inr (.inr (13, 0, a)))), some (.inr (.inr (.inr (20, 4, c)))), some (.inr (.inr (.inr (26, 8, b))))], [.inr (.inr (.inr (26, 8, b))), .inr (.inr (.inr (20, 4, c))), .inr (.inr (.inr (13, 0, qa))), .inl (v)], h)) rfl ?_
  refine Ev.callv (a := [.inr (.inr (.inr (13, 0, qa))), .inr (.inr (.inr (20, 4, c))), .inr (.inr (.inr (26, 8, b)))]) rfl hq ?_
  refine Ev.sts 1 (c' := (292, [some (.inr (.inr (.inr (13, 0, a)))), some (.inr (.inr (.inr (20, 4, c)))), some (.inr (.inr (.inr (26, 8, b))))], [.inl ((v + w))], h)) rfl ?_
  refine Ev.br (p := (v + w) ≤ (iZ (0))) (c1 := (299, [some (.inr (.inr (.inr (13, 0, a)))), some (.inr (.inr (.inr (20, 4, c)))), some (.inr (.inr (.inr (26, 8, b))))], [], h)) (c2 := (295, [some (.inr (.inr (.inr (13, 0, a)))), some (.inr (.inr (.inr (20, 4, c)))), some (.inr (.inr (.inr (26, 8, b))))], [], h)) rfl (fun c0 => ?_) (fun c0 => ?_)
  · refine Ev.sts 1 (c' := (300, [some (.inr (.inr (.inr (13, 0, a)))), some (.inr (.inr (.inr (20, 4, c)))), some (.inr (.inr (.inr (26, 8, b))))], [.inl (iZ (0))], h)) rfl ?_
    rw [if_neg (Int32.not_lt.mpr c0)] at q_
    exact Ev.ret rfl q_
  · refine Ev.sts 2 (c' := (300, [some (.inr (.inr (.inr (13, 0, a)))), some (.inr (.inr (.inr (20, 4, c)))), some (.inr (.inr (.inr (26, 8, b))))], [.inl (iZ (1))], h)) rfl ?_
    rw [if_pos (Int32.not_le.mp c0)] at q_
    exact Ev.ret rfl q_

/-- a tree of one object -/
def TRl (h : PH) (lo N : Nat) (r : VR) (f : Ctx → Int32 → Int32) : Prop := ∃ a, r = (13, 0, a) ∧ (lo < a ∧ a < N) ∧ ((∃ n : Int, h.1 a 0 = iZ 0 ∧ h.1 a 1 = iZ n ∧ f = psh (3, n)) ∨ (∃ i : Nat, i < 4 ∧ h.1 a 0 = iZ 1 ∧ h.1 a 1 = iZ i ∧ f = psh (11 + i, 0)) ∨ (∃ i : Nat, i < 8 ∧ h.1 a 0 = iZ 8 ∧ h.1 a 1 = iZ i ∧ f = psh (7, (i : Int))))
def sJ (s k : Nat) : Prop := (s = 2 ∧ k = 35) ∨ (s = 3 ∧ k = 36) ∨ (s = 4 ∧ k = 37) ∨ (s = 5 ∧ k = 32) ∨ (s = 6 ∧ k = 33) ∨ (s = 7 ∧ k = 34)
def sG (s k : Nat) : Prop := (s = 10 ∧ k = 9) ∨ (s = 11 ∧ k = 10)
/-- the tree at r is worth f; its numbers lie between lo and N; no deeper than D -/
def TRr (h : PH) (lo N : Nat) : Nat → VR → (Ctx → Int32 → Int32) → Prop
  | 0, r, f => TRl h lo N r f
  | D + 1, r, f => TRl h lo N r f ∨ (∃ (a s k : Nat) (p q : VR) (u v : Ctx → Int32 → Int32), r = (13, 0, a) ∧ (lo < a ∧ a < N) ∧ (sJ s k ∨ (sG s k ∧ b01 u ∧ b01 v)) ∧ h.1 a 0 = iZ s ∧ h.2.2.1 a 2 = p ∧ h.2.2.1 a 3 = q ∧ TRr h lo N D p u ∧ TRr h lo N D q v ∧ f = fun x t => opj k (u x t) (v x t)) ∨ (∃ (a : Nat) (p : VR) (u : Ctx → Int32 → Int32), r = (13, 0, a) ∧ (lo < a ∧ a < N) ∧ h.1 a 0 = iZ 9 ∧ h.2.2.1 a 2 = p ∧ TRr h lo N D p u ∧ f = fun x t => iZ 1 - u x t)
theorem TR_l {h : PH} {lo N D : Nat} {r : VR} {f : Ctx → Int32 → Int32} (t : TRl h lo N r f) : TRr h lo N D r f := by
  cases D with
  | zero => exact t
  | succ D => exact .inl t
theorem TR_num {h : PH} {lo N D a : Nat} {n : Int} (l : lo < a ∧ a < N) (e0 : h.1 a 0 = iZ 0) (e1 : h.1 a 1 = iZ n) : TRr h lo N D (13, 0, a) (psh (3, n)) := TR_l ⟨a, rfl, l, .inl ⟨n, e0, e1, rfl⟩⟩
theorem TR_fld {h : PH} {lo N D a i : Nat} (l : lo < a ∧ a < N) (hi : i < 4) (e0 : h.1 a 0 = iZ 1) (e1 : h.1 a 1 = iZ i) : TRr h lo N D (13, 0, a) (psh (11 + i, 0)) := TR_l ⟨a, rfl, l, .inr (.inl ⟨i, hi, e0, e1, rfl⟩)⟩
theorem TR_tak {h : PH} {lo N D a i : Nat} (l : lo < a ∧ a < N) (hi : i < 8) (e0 : h.1 a 0 = iZ 8) (e1 : h.1 a 1 = iZ i) : TRr h lo N D (13, 0, a) (psh (7, (i : Int))) := TR_l ⟨a, rfl, l, .inr (.inr ⟨i, hi, e0, e1, rfl⟩)⟩
theorem TR_jn {h : PH} {lo N D a s k : Nat} {p q : VR} {u v : Ctx → Int32 → Int32} (l : lo < a ∧ a < N) (hs : sJ s k ∨ (sG s k ∧ b01 u ∧ b01 v)) (e0 : h.1 a 0 = iZ s) (e2 : h.2.2.1 a 2 = p) (e3 : h.2.2.1 a 3 = q) (tp : TRr h lo N D p u) (tq : TRr h lo N D q v) : TRr h lo N (D + 1) (13, 0, a) (fun x t => opj k (u x t) (v x t)) := .inr (.inl ⟨a, s, k, p, q, u, v, rfl, l, hs, e0, e2, e3, tp, tq, rfl⟩)
theorem TR_nt {h : PH} {lo N D a : Nat} {p : VR} {u : Ctx → Int32 → Int32} (l : lo < a ∧ a < N) (e0 : h.1 a 0 = iZ 9) (e2 : h.2.2.1 a 2 = p) (tp : TRr h lo N D p u) : TRr h lo N (D + 1) (13, 0, a) (fun x t => iZ 1 - u x t) := .inr (.inr ⟨a, p, u, rfl, l, e0, e2, tp, rfl⟩)
theorem TR_ref {h : PH} {lo N D : Nat} {r : VR} {f : Ctx → Int32 → Int32} (t : TRr h lo N D r f) : ∃ a, r = (13, 0, a) ∧ lo < a ∧ a < N := by
  cases D with
  | zero => obtain ⟨a, e, l, -⟩ := t; exact ⟨a, e, l⟩
  | succ D =>
    rcases t with ⟨a, e, l, -⟩ | ⟨a, s, k, p, q, u, v, e, l, -⟩ | ⟨a, p, u, e, l, -⟩
    · exact ⟨a, e, l⟩
    · exact ⟨a, e, l⟩
    · exact ⟨a, e, l⟩
theorem TR_up {h : PH} {lo N : Nat} : ∀ {D : Nat} {r : VR} {f : Ctx → Int32 → Int32}, TRr h lo N D r f → TRr h lo N (D + 1) r f := by
  intro D
  induction D with
  | zero => intro r f t; exact .inl t
  | succ D ih =>
    intro r f t
    rcases t with t | ⟨a, s, k, p, q, u, v, e, l, hs, e0, e2, e3, tp, tq, ef⟩ | ⟨a, p, u, e, l, e0, e2, tp, ef⟩
    · exact .inl t
    · exact .inr (.inl ⟨a, s, k, p, q, u, v, e, l, hs, e0, e2, e3, ih tp, ih tq, ef⟩)
    · exact .inr (.inr ⟨a, p, u, e, l, e0, e2, ih tp, ef⟩)
theorem TR_le {h : PH} {lo N D M : Nat} {r : VR} {f : Ctx → Int32 → Int32} (t : TRr h lo N D r f) (l : D ≤ M) : TRr h lo N M r f := by
  induction M with
  | zero => rw [show (0 : Nat) = D by omega]; exact t
  | succ M ih =>
    by_cases c : D = M + 1
    · rw [← c]; exact t
    · exact TR_up (ih (by omega))
theorem TR_Kp {N M lo l2 K : Nat} {A : Nat → Prop} {h h1 : PH} (k : Kp M A h h1) (hN1 : N ≤ M) (hA : ∀ a, lo < a → ¬ A a) (hK : N ≤ K) (hl : l2 ≤ lo) : ∀ {D : Nat} {r : VR} {f : Ctx → Int32 → Int32}, TRr h lo N D r f → TRr h1 l2 K D r f := by
  have e : ∀ a, lo < a ∧ a < N → h1.1 a = h.1 a ∧ h1.2.2.1 a = h.2.2.1 a := fun a l => k.2.1 a (by omega) (hA a l.1)
  have le : ∀ (r : VR) (f : Ctx → Int32 → Int32), TRl h lo N r f → TRl h1 l2 K r f := by
    intro r f ⟨a, er, l, c⟩
    refine ⟨a, er, ⟨by omega, by omega⟩, ?_⟩
    rw [(e a l).1]
    exact c
  intro D
  induction D with
  | zero => intro r f t; exact le r f t
  | succ D ih =>
    intro r f t
    rcases t with t | ⟨a, s, kk, p, q, u, v, er, l, hs, e0, e2, e3, tp, tq, ef⟩ | ⟨a, p, u, er, l, e0, e2, tp, ef⟩
    · exact .inl (le r f t)
    · exact .inr (.inl ⟨a, s, kk, p, q, u, v, er, ⟨by omega, by omega⟩, hs, by rw [(e a l).1]; exact e0, by rw [(e a l).2]; exact e2, by rw [(e a l).2]; exact e3, ih tp, ih tq, ef⟩)
    · exact .inr (.inr ⟨a, p, u, er, ⟨by omega, by omega⟩, by rw [(e a l).1]; exact e0, by rw [(e a l).2]; exact e2, ih tp, ef⟩)
theorem and_01 {v w : Int32} (a : v = iZ 0 ∨ v = iZ 1) (b : w = iZ 0 ∨ w = iZ 1) : (if v + w = iZ 2 then iZ 1 else iZ 0) = opj 9 v w ∧ (if iZ 0 < v + w then iZ 1 else iZ 0) = opj 10 v w := by
  rcases a with rfl | rfl <;> rcases b with rfl | rfl <;> decide
theorem tr_lf {h : PH} {lo N c b d : Nat} {x : Ctx} {tk : Int32} (co : coR h c x) (ta : tkR h b tk) {r : VR} {f : Ctx → Int32 → Int32} (t : TRl h lo N r f) : Rv d 183 [.inr (.inr (.inr r)), .inr (.inr (.inr (20, 4, c))), .inr (.inr (.inr (26, 8, b)))] h (some (.inl (f x tk))) h := by
  obtain ⟨a, rfl, l, ⟨n, e0, e1, rfl⟩ | ⟨i, hi, e0, e1, rfl⟩ | ⟨i, hi, e0, e1, rfl⟩⟩ := t
  · exact tr_num co ta e0 e1
  · refine tr_fld co ta hi e0 e1 ?_
    rcases (show i = 0 ∨ i = 1 ∨ i = 2 ∨ i = 3 by omega) with rfl | rfl | rfl | rfl
    · exact co.1
    · exact co.2.1
    · exact co.2.2.1
    · exact co.2.2.2
  · exact tr_8 co ta hi e0 e1 (ta _ hi) (bitv_01 _ _)
/-- what the tree answers -/
theorem tr_of {h : PH} {lo N c b : Nat} {x : Ctx} {tk : Int32} (co : coR h c x) (ta : tkR h b tk) : ∀ {D : Nat} {r : VR} {f : Ctx → Int32 → Int32}, TRr h lo N D r f → ∀ d, D ≤ d → Rv d 183 [.inr (.inr (.inr r)), .inr (.inr (.inr (20, 4, c))), .inr (.inr (.inr (26, 8, b)))] h (some (.inl (f x tk))) h := by
  intro D
  induction D with
  | zero => intro r f t d _; exact tr_lf co ta t
  | succ D ih =>
    intro r f t d hd
    obtain ⟨d, rfl⟩ : ∃ k, d = k + 1 := ⟨d - 1, by omega⟩
    rcases t with t | ⟨a, s, k, p, q, u, v, rfl, l, hs, e0, e2, e3, tp, tq, rfl⟩ | ⟨a, p, u, rfl, l, e0, e2, tp, rfl⟩
    · exact tr_lf co ta t
    · obtain ⟨pa, rfl, -⟩ := TR_ref tp
      obtain ⟨qa, rfl, -⟩ := TR_ref tq
      have hp := ih tp d (by omega)
      have hq := ih tq d (by omega)
      rcases hs with (⟨rfl, rfl⟩ | ⟨rfl, rfl⟩ | ⟨rfl, rfl⟩ | ⟨rfl, rfl⟩ | ⟨rfl, rfl⟩ | ⟨rfl, rfl⟩) | ⟨⟨rfl, rfl⟩ | ⟨rfl, rfl⟩, bu, bv⟩
      · exact tr_2 co ta e0 e2 hp e3 hq
      · exact tr_3 co ta e0 e2 hp e3 hq
      · exact tr_4 co ta e0 e2 hp e3 hq
      · exact tr_5 co ta e0 e2 hp e3 hq
      · exact tr_6 co ta e0 e2 hp e3 hq
      · exact tr_7 co ta e0 e2 hp e3 hq
      · exact (tr_10 co ta e0 e2 hp e3 hq).mono (by rw [(and_01 (bu x tk) (bv x tk)).1]) rfl
      · exact (tr_11 co ta e0 e2 hp e3 hq).mono (by rw [(and_01 (bu x tk) (bv x tk)).2]) rfl
    · obtain ⟨pa, rfl, -⟩ := TR_ref tp
      exact tr_9 co ta e0 e2 (ih tp d (by omega))
