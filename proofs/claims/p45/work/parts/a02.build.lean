/-! Builders of texts: room, letters, numbers, the text itself. -/
theorem sb_isL {d a : Nat} {h : PH} (e1 : h.1 a 1 = iZ 0) : Rv d 203 [.inr (.inr (.inr (15, 0, a)))] h (some (.inl (iZ 1))) h := Rv.of fun Q q => by
  refine Ev.sts 1 (c' := (3, [some (.inr (.inr (.inr (15, 0, a))))], [.inl (iZ (1))], h)) rfl ?_
  refine Ev.brF (p := (iZ (1)) = (iZ (0))) (c1 := (17, [some (.inr (.inr (.inr (15, 0, a))))], [], h)) (c2 := (6, [some (.inr (.inr (.inr (15, 0, a))))], [], h)) (by decide) rfl ?_
  refine Ev.sts 1 (c' := (7, [some (.inr (.inr (.inr (15, 0, a))))], [.inr (.inr (.inr (15, 0, a)))], h)) rfl ?_
  refine Ev.gv (w := (iZ (0))) rfl e1 ?_
  refine Ev.brF (p := ¬ (iZ (0)) = (iZ (0))) (c1 := (17, [some (.inr (.inr (.inr (15, 0, a))))], [], h)) (c2 := (13, [some (.inr (.inr (.inr (15, 0, a))))], [], h)) (by decide) rfl ?_
  refine Ev.sts 2 (c' := (18, [some (.inr (.inr (.inr (15, 0, a))))], [.inl (iZ (1))], h)) rfl ?_
  exact Ev.ret rfl (q)

theorem sb_getValue {d a cap b : Nat} {h : PH} (e0 : h.2.2.1 a 0 = (22, cap, b)) : Rv d 206 [.inr (.inr (.inr (15, 0, a)))] h (some (.inr (.inr (.inr (22, cap, b))))) h := Rv.of fun Q q => by
  refine Ev.sts 1 (c' := (1, [some (.inr (.inr (.inr (15, 0, a))))], [.inr (.inr (.inr (15, 0, a)))], h)) rfl ?_
  refine Ev.gfr (r := (22, cap, b)) rfl e0 ?_
  exact Ev.ret rfl (q)

theorem sb_len {d a L : Nat} {h : PH} (e3 : h.1 a 3 = iZ (L : Int)) : Rv d 207 [.inr (.inr (.inr (15, 0, a)))] h (some (.inl (iZ (L : Int)))) h := Rv.of fun Q q => by
  refine Ev.sts 1 (c' := (1, [some (.inr (.inr (.inr (15, 0, a))))], [.inr (.inr (.inr (15, 0, a)))], h)) rfl ?_
  refine Ev.gv (w := (iZ ((L : Int)))) rfl e3 ?_
  exact Ev.ret rfl (q)

theorem sb_length {d a L : Nat} {h : PH} (e3 : h.1 a 3 = iZ (L : Int)) : Rv (d + 1) 196 [.inr (.inr (.inr (15, 0, a)))] h (some (.inl (iZ (L : Int)))) h := Rv.of fun Q q => by
  refine Ev.sts 1 (c' := (1, [some (.inr (.inr (.inr (15, 0, a))))], [.inr (.inr (.inr (15, 0, a)))], h)) rfl ?_
  refine Ev.callv (a := [.inr (.inr (.inr (15, 0, a)))]) rfl (sb_len e3) ?_
  exact Ev.ret rfl (q)

theorem la_can {d : Nat} {h : PH} {c : Int} (hc : 0 ≤ c ∧ c ≤ 255) : Rv d 210 [.inl (iZ (c))] h (some (.inl (iZ 1))) h := Rv.of fun Q q => by
  refine Ev.sts 2 (c' := (4, [some (.inl (iZ (c)))], [.inl (iZ (255)), .inl (iZ (c))], h)) rfl ?_
  refine Ev.brF (p := (iZ (255)) < (iZ (c))) (c1 := (11, [some (.inl (iZ (c)))], [], h)) (c2 := (7, [some (.inl (iZ (c)))], [], h)) (fun c_ => absurd ((iZ_lt ⟨by omega, by omega⟩ ⟨by omega, by omega⟩).mp c_) (by omega)) rfl ?_
  refine Ev.sts 2 (c' := (12, [some (.inl (iZ (c)))], [.inl (iZ (1))], h)) rfl ?_
  exact Ev.ret rfl (q)

theorem sb_newLength {d : Nat} {h : PH} {x y w : Int} (hx : 0 ≤ x ∧ x ≤ 100000) (hy : 0 < y ∧ y ≤ 100000) (hw : 0 ≤ w ∧ w ≤ 100000) : Rv d 224 [.inl (iZ (x)), .inl (iZ (y)), .inl (iZ (w))] h (some (.inl (iZ (x + max y w)))) h := Rv.of fun Q q => by
  refine Ev.sts 3 (c' := (3, [some (.inl (iZ (x))), some (.inl (iZ (y))), some (.inl (iZ (w))), none], [.inl (iZ (w)), .inl (iZ (y)), .inl (iZ (x))], h)) rfl ?_
  refine Ev.gv (w := (iZ (max y w))) rfl (iZ_max ⟨by omega, by omega⟩ ⟨by omega, by omega⟩) ?_
  refine Ev.gv (w := (iZ (x + (max y w)))) rfl (iZ_add _ _) ?_
  refine Ev.sts 3 (c' := (10, [some (.inl (iZ (x))), some (.inl (iZ (y))), some (.inl (iZ (w))), some (.inl (iZ (x + (max y w))))], [.inl (iZ (x + (max y w))), .inl (iZ (0))], h)) rfl ?_
  refine Ev.brF (p := (iZ (x + (max y w))) ≤ (iZ (0))) (c1 := (21, [some (.inl (iZ (x))), some (.inl (iZ (y))), some (.inl (iZ (w))), some (.inl (iZ (x + (max y w))))], [], h)) (c2 := (13, [some (.inl (iZ (x))), some (.inl (iZ (y))), some (.inl (iZ (w))), some (.inl (iZ (x + (max y w))))], [], h)) (fun c_ => absurd ((iZ_le ⟨by omega, by omega⟩ ⟨by omega, by omega⟩).mp c_) (by omega)) rfl ?_
  refine Ev.sts 2 (c' := (16, [some (.inl (iZ (x))), some (.inl (iZ (y))), some (.inl (iZ (w))), some (.inl (iZ (x + (max y w))))], [.inl (iZ (2147483639)), .inl (iZ (x + (max y w)))], h)) rfl ?_
  refine Ev.brF (p := (iZ (2147483639)) < (iZ (x + (max y w)))) (c1 := (21, [some (.inl (iZ (x))), some (.inl (iZ (y))), some (.inl (iZ (w))), some (.inl (iZ (x + (max y w))))], [], h)) (c2 := (19, [some (.inl (iZ (x))), some (.inl (iZ (y))), some (.inl (iZ (w))), some (.inl (iZ (x + (max y w))))], [], h)) (fun c_ => absurd ((iZ_lt ⟨by omega, by omega⟩ ⟨by omega, by omega⟩).mp c_) (by omega)) rfl ?_
  refine Ev.sts 1 (c' := (20, [some (.inl (iZ (x))), some (.inl (iZ (y))), some (.inl (iZ (w))), some (.inl (iZ (x + (max y w))))], [.inl (iZ (x + (max y w)))], h)) rfl ?_
  exact Ev.ret rfl (q)

theorem sb_newCap {d a cap b : Nat} {h : PH} {m : Int} (e0 : h.2.2.1 a 0 = (22, cap, b)) (e1 : h.1 a 1 = iZ 0) (hc : cap ≤ 50000) (hm : (cap : Int) < m ∧ m ≤ 50000) : Rv (d + 1) 202 [.inr (.inr (.inr (15, 0, a))), .inl (iZ (m))] h (some (.inl (iZ (cap + max (m - cap) (cap + 2))))) h := Rv.of fun Q q => by
  refine Ev.sts 1 (c' := (1, [some (.inr (.inr (.inr (15, 0, a)))), some (.inl (iZ (m))), none, none, none, none], [.inr (.inr (.inr (15, 0, a)))], h)) rfl ?_
  refine Ev.gfr (r := (22, cap, b)) rfl e0 ?_
  refine Ev.gv (w := (iZ (cap))) rfl (iZ_nat _) ?_
  refine Ev.sts 3 (c' := (8, [some (.inr (.inr (.inr (15, 0, a)))), some (.inl (iZ (m))), some (.inl (iZ (cap))), none, none, none], [.inr (.inr (.inr (15, 0, a))), .inl (iZ (m))], h)) rfl ?_
  refine Ev.gv (w := (iZ (0))) rfl e1 ?_
  refine Ev.gv (w := (iZ (m))) rfl (shl0 _) ?_
  refine Ev.sts 3 (c' := (15, [some (.inr (.inr (.inr (15, 0, a)))), some (.inl (iZ (m))), some (.inl (iZ (cap))), some (.inl (iZ (m))), none, none], [.inl (iZ (cap)), .inl (iZ (m))], h)) rfl ?_
  refine Ev.gv (w := (iZ (m - cap))) rfl (iZ_sub _ _) ?_
  refine Ev.sts 6 (c' := (24, [some (.inr (.inr (.inr (15, 0, a)))), some (.inl (iZ (m))), some (.inl (iZ (cap))), some (.inl (iZ (m))), some (.inl (iZ (m - cap))), none], [.inr (.inr (.inr (15, 0, a))), .inl (iZ (2)), .inl (iZ (cap)), .inl (iZ (m - cap)), .inl (iZ (cap))], h)) rfl ?_
  refine Ev.gv (w := (iZ (0))) rfl e1 ?_
  refine Ev.gv (w := (iZ (2))) rfl (shl0 _) ?_
  refine Ev.gv (w := (iZ (cap + 2))) rfl (iZ_add _ _) ?_
  refine Ev.callv (a := [.inl (iZ (cap)), .inl (iZ (m - cap)), .inl (iZ (cap + 2))]) rfl (sb_newLength ⟨by omega, by omega⟩ ⟨by omega, by omega⟩ ⟨by omega, by omega⟩) ?_
  refine Ev.sts 3 (c' := (38, [some (.inr (.inr (.inr (15, 0, a)))), some (.inl (iZ (m))), some (.inl (iZ (cap))), some (.inl (iZ (m))), some (.inl (iZ (m - cap))), some (.inl (iZ (cap + max (m - cap) (cap + 2))))], [.inl (iZ (2147483647)), .inl (iZ (cap + max (m - cap) (cap + 2)))], h)) rfl ?_
  refine Ev.brT (p := ¬ (iZ (cap + max (m - cap) (cap + 2))) = (iZ (2147483647))) (c1 := (51, [some (.inr (.inr (.inr (15, 0, a)))), some (.inl (iZ (m))), some (.inl (iZ (cap))), some (.inl (iZ (m))), some (.inl (iZ (m - cap))), some (.inl (iZ (cap + max (m - cap) (cap + 2))))], [], h)) (c2 := (41, [some (.inr (.inr (.inr (15, 0, a)))), some (.inl (iZ (m))), some (.inl (iZ (cap))), some (.inl (iZ (m))), some (.inl (iZ (m - cap))), some (.inl (iZ (cap + max (m - cap) (cap + 2))))], [], h)) ((not_congr (iZ_eq ⟨by omega, by omega⟩ ⟨by omega, by omega⟩)).mpr (by omega)) rfl ?_
  refine Ev.sts 2 (c' := (54, [some (.inr (.inr (.inr (15, 0, a)))), some (.inl (iZ (m))), some (.inl (iZ (cap))), some (.inl (iZ (m))), some (.inl (iZ (m - cap))), some (.inl (iZ (cap + max (m - cap) (cap + 2))))], [.inr (.inr (.inr (15, 0, a))), .inl (iZ (cap + max (m - cap) (cap + 2)))], h)) rfl ?_
  refine Ev.gv (w := (iZ (0))) rfl e1 ?_
  refine Ev.gv (w := (iZ (cap + max (m - cap) (cap + 2)))) rfl (shr0 _) ?_
  exact Ev.ret rfl (q)

theorem sb_copyOf {d n M v : Nat} {h : PH} (hn : n < M) (hM : M ≤ 100000) (bt : ∀ j, j < n → byt (h.1 v j)) : Rv d 220 [.inr (.inr (.inr (22, n, v))), .inl (iZ ((M : Int)))] h (some (.inr (.inr (.inr (22, M, hN h))))) (cpyI (grow h M) v 0 (hN h) 0 n) := Rv.of fun Q q => by
  refine Ev.sts 2 (c' := (2, [some (.inr (.inr (.inr (22, n, v)))), some (.inl (iZ ((M : Int)))), none], [.inr (.inr (.inr (22, n, v))), .inl (iZ ((M : Int)))], h)) rfl ?_
  refine Ev.gv (w := (iZ (n))) rfl (iZ_nat _) ?_
  refine Ev.brT (p := ¬ (iZ ((M : Int))) = (iZ (n))) (c1 := (14, [some (.inr (.inr (.inr (22, n, v)))), some (.inl (iZ ((M : Int)))), none], [], h)) (c2 := (6, [some (.inr (.inr (.inr (22, n, v)))), some (.inl (iZ ((M : Int)))), none], [], h)) ((not_congr (iZ_eq ⟨by omega, by omega⟩ ⟨by omega, by omega⟩)).mpr (by omega)) rfl ?_
  refine Ev.sts 1 (c' := (15, [some (.inr (.inr (.inr (22, n, v)))), some (.inl (iZ ((M : Int)))), none], [.inl (iZ ((M : Int)))], h)) rfl ?_
  refine Ev.pc (p := (iZ ((M : Int))) < 0 ∨ 100000 < ((iZ ((M : Int)))).toNatClampNeg) (c1 := (17, [some (.inr (.inr (.inr (22, n, v)))), some (.inl (iZ ((M : Int)))), none], [.inr (.inr (.inr (22, ((iZ ((M : Int)))).toNatClampNeg, (hN h))))], (grow h (((iZ ((M : Int)))).toNatClampNeg)))) (c2 := (17, [some (.inr (.inr (.inr (22, n, v)))), some (.inl (iZ ((M : Int)))), none], [.inr (.inr (.inr (22, M, (hN h))))], (grow h M))) (nwa_in (by omega) (by omega)) rfl (by rw [iZ_ix (n := M) (by omega) (by omega)]) ?_
  refine Ev.sts 6 (c' := (23, [some (.inr (.inr (.inr (22, n, v)))), some (.inl (iZ ((M : Int)))), some (.inr (.inr (.inr (22, M, (hN h)))))], [.inr (.inr (.inr (22, n, v))), .inl (iZ (0)), .inr (.inr (.inr (22, M, (hN h)))), .inl (iZ (0)), .inr (.inr (.inr (22, n, v)))], (grow h M))) rfl ?_
  refine Ev.gv (w := (iZ (n))) rfl (iZ_nat _) ?_
  refine Ev.sts 1 (c' := (25, [some (.inr (.inr (.inr (22, n, v)))), some (.inl (iZ ((M : Int)))), some (.inr (.inr (.inr (22, M, (hN h)))))], [.inl (iZ ((M : Int))), .inl (iZ (n)), .inl (iZ (0)), .inr (.inr (.inr (22, M, (hN h)))), .inl (iZ (0)), .inr (.inr (.inr (22, n, v)))], (grow h M))) rfl ?_
  refine Ev.gv (w := (iZ (min n ((M : Int))))) rfl (iZ_min ⟨by omega, by omega⟩ ⟨by omega, by omega⟩) ?_
  rw [show min (n : Int) (M : Int) = (n : Int) by omega]
  refine Ev.pcb (p := (iZ (0)) < 0 ∨ (iZ (0)) < 0 ∨ (iZ ((n : Int))) < 0 ∨ n < ((iZ (0))).toNatClampNeg + ((iZ ((n : Int)))).toNatClampNeg ∨ M < ((iZ (0))).toNatClampNeg + ((iZ ((n : Int)))).toNatClampNeg) (f := fitb ((grow h M).1 v) ((iZ (0))).toNatClampNeg ((iZ ((n : Int)))).toNatClampNeg) (c1 := (31, [some (.inr (.inr (.inr (22, n, v)))), some (.inl (iZ ((M : Int)))), some (.inr (.inr (.inr (22, M, (hN h)))))], [], (cpyI (grow h M) v ((iZ (0))).toNatClampNeg ((hN h)) ((iZ (0))).toNatClampNeg ((iZ ((n : Int)))).toNatClampNeg))) (c2 := (31, [some (.inr (.inr (.inr (22, n, v)))), some (.inl (iZ ((M : Int)))), some (.inr (.inr (.inr (22, M, (hN h)))))], [], (cpyI (grow h M) v 0 (hN h) 0 n))) (cpy_in (s := 0) (d := 0) (k := n) (by omega) (by omega) (by omega) (by omega) (by omega) (by omega) (by omega)) (by rw [iZ_ix (n := 0) (by omega) (by omega), iZ_ix (n := n) (by omega) (by omega)]; exact (fit_ok (fun j hj => by rw [Nat.zero_add]; exact bt j hj))) rfl (by rw [cpy_c (s := 0) (d := 0) (k := n) (by omega) (by omega) (by omega) (by omega) (by omega) (by omega)]) ?_
  refine Ev.sts 1 (c' := (32, [some (.inr (.inr (.inr (22, n, v)))), some (.inl (iZ ((M : Int)))), some (.inr (.inr (.inr (22, M, (hN h)))))], [.inr (.inr (.inr (22, M, (hN h))))], (cpyI (grow h M) v 0 (hN h) 0 n))) rfl ?_
  exact Ev.ret rfl (q)

theorem sbR_at {h : PH} {N a cap b : Nat} {T : List Int} (s : sbR h N a cap b T) : h.2.2.1 a 0 = (22, cap, b) ∧ h.1 a 1 = iZ 0 ∧ h.1 a 3 = iZ (T.length : Int) ∧ ∀ j, j < cap → byt (h.1 b j) := ⟨s.2.1, s.2.2.1, s.2.2.2.1, s.2.2.2.2.2.2⟩
/-- the builder with a longer row -/
def bigH (h : PH) (a cap b M : Nat) : PH := setR (cpyI (grow h M) b 0 (hN h) 0 cap) a 0 (22, M, hN h)
theorem sbR_big {h : PH} {N a cap b M : Nat} {T : List Int} (s : sbR h N a cap b T) (z : Zr h) (hM : cap < M) : sbR (bigH h a cap b M) N a M (hN h) T ∧ Kp N nA h (bigH h a cap b M) := by
  obtain ⟨⟨l1, l2, l3, l4, l5⟩, e0, e1, e3, e4, e5, e6⟩ := s
  have o : ∀ x, x ≠ hN h → (bigH h a cap b M).1 x = h.1 x := fun x hx => (congrFun (setR_1 _ _ _ _) x).trans (cpy_oth hx)
  have c : ∀ j, j < cap → (bigH h a cap b M).1 (hN h) j = h.1 b j := fun j hj => (congrFun (congrFun (setR_1 _ _ _ _) (hN h)) j).trans (cpy_at hj)
  have n : hN (bigH h a cap b M) = hN h + 1 := rfl
  refine ⟨⟨⟨l1, by omega, by omega, by omega, by omega⟩, setR_self _ _ _ _, by rw [o a (by omega)]; exact e1, by rw [o a (by omega)]; exact e3, by omega, fun j hj => by rw [c j (by omega)]; exact e5 j hj, fun j hj => ?_⟩, ⟨rfl, fun x x1 x2 => ⟨o x (by omega), setR_oth (by omega)⟩, fun x hx => o x (by omega), by omega⟩⟩
  by_cases k : j < cap
  · rw [c j k]; exact e6 j k
  · have : (bigH h a cap b M).1 (hN h) j = h.1 (hN h) j := (congrFun (congrFun (setR_1 _ _ _ _) (hN h)) j).trans (if_neg (fun z => k (by have := z.2.2; omega)))
    rw [this, z (hN h) (Nat.le_refl _) j]
    exact byt_i 0 (by decide)
theorem sb_ensure1 {d a cap b : Nat} {m : Int} {h : PH} {Q : Rs → PH → Prop} (e0 : h.2.2.1 a 0 = (22, cap, b)) (e1 : h.1 a 1 = iZ 0) (bt : ∀ j, j < cap → byt (h.1 b j)) (hc : cap ≤ 50000) (hm : 0 ≤ m ∧ m ≤ 40000) (q0 : m ≤ cap → Q (.inl none) h) (q1 : ∀ M : Nat, ¬ m ≤ cap → (M : Int) = cap + max (m - cap) (cap + 2) → Q (.inl none) (bigH h a cap b M)) : Rn (d + 2) 201 [.inr (.inr (.inr (15, 0, a))), .inl (iZ (m))] h Q := by
  refine Ev.sts 1 (c' := (1, [some (.inr (.inr (.inr (15, 0, a)))), some (.inl (iZ (m))), none], [.inr (.inr (.inr (15, 0, a)))], h)) rfl ?_
  refine Ev.gfr (r := (22, cap, b)) rfl e0 ?_
  refine Ev.gv (w := (iZ (cap))) rfl (iZ_nat _) ?_
  refine Ev.sts 1 (c' := (6, [some (.inr (.inr (.inr (15, 0, a)))), some (.inl (iZ (m))), none], [.inr (.inr (.inr (15, 0, a))), .inl (iZ (cap))], h)) rfl ?_
  refine Ev.gv (w := (iZ (0))) rfl e1 ?_
  refine Ev.gv (w := (iZ (cap))) rfl (shr0 _) ?_
  refine Ev.sts 3 (c' := (13, [some (.inr (.inr (.inr (15, 0, a)))), some (.inl (iZ (m))), some (.inl (iZ (cap)))], [.inl (iZ (cap)), .inl (iZ (m))], h)) rfl ?_
  refine Ev.gv (w := (iZ (m - cap))) rfl (iZ_sub _ _) ?_
  refine Ev.brc (p := (iZ (m - cap)) ≤ (iZ (0))) (q := ((m - cap : Int)) ≤ 0) (c1 := (38, [some (.inr (.inr (.inr (15, 0, a)))), some (.inl (iZ (m))), some (.inl (iZ (cap)))], [], h)) (c2 := (17, [some (.inr (.inr (.inr (15, 0, a)))), some (.inl (iZ (m))), some (.inl (iZ (cap)))], [], h)) rfl (iZ_le ⟨by omega, by omega⟩ ⟨by omega, by omega⟩) (fun c0 => ?_) (fun c0 => ?_)
  · exact Ev.ret rfl (q0 (by omega))
  · obtain ⟨M, hM⟩ : ∃ M : Nat, (M : Int) = cap + max (m - cap) (cap + 2) := ⟨((cap : Int) + max (m - cap) (cap + 2)).toNat, by omega⟩
    refine Ev.sts 2 (c' := (19, [some (.inr (.inr (.inr (15, 0, a)))), some (.inl (iZ (m))), some (.inl (iZ (cap)))], [.inr (.inr (.inr (15, 0, a))), .inr (.inr (.inr (15, 0, a)))], h)) rfl ?_
    refine Ev.gfr (r := (22, cap, b)) rfl e0 ?_
    refine Ev.sts 2 (c' := (24, [some (.inr (.inr (.inr (15, 0, a)))), some (.inl (iZ (m))), some (.inl (iZ (cap)))], [.inl (iZ (m)), .inr (.inr (.inr (15, 0, a))), .inr (.inr (.inr (22, cap, b))), .inr (.inr (.inr (15, 0, a)))], h)) rfl ?_
    refine Ev.callv (a := [.inr (.inr (.inr (15, 0, a))), .inl (iZ (m))]) rfl ((sb_newCap e0 e1 (by omega) ⟨by omega, by omega⟩).mono (by rw [← hM]) rfl) ?_
    refine Ev.sts 1 (c' := (28, [some (.inr (.inr (.inr (15, 0, a)))), some (.inl (iZ (m))), some (.inl (iZ (cap)))], [.inr (.inr (.inr (15, 0, a))), .inl (iZ ((M : Int))), .inr (.inr (.inr (22, cap, b))), .inr (.inr (.inr (15, 0, a)))], h)) rfl ?_
    refine Ev.gv (w := (iZ (0))) rfl e1 ?_
    refine Ev.gv (w := (iZ ((M : Int)))) rfl (shl0 _) ?_
    refine Ev.callv (a := [.inr (.inr (.inr (22, cap, b))), .inl (iZ ((M : Int)))]) rfl (sb_copyOf (by omega) (by omega) bt) ?_
    refine Ev.sts 1 (c' := (38, [some (.inr (.inr (.inr (15, 0, a)))), some (.inl (iZ (m))), some (.inl (iZ (cap)))], [], (setR (cpyI (grow h M) b 0 (hN h) 0 cap) a 0 (22, M, (hN h))))) rfl ?_
    exact Ev.ret rfl (q1 M (by omega) hM)

/-- room for m letters -/
theorem sb_ensure {d N a cap b : Nat} {m : Int} {T : List Int} {h : PH} {Q : Rs → PH → Prop} (s : sbR h N a cap b T) (z : Zr h) (hc : cap ≤ 50000) (hm : 0 ≤ m ∧ m ≤ 20000) (q : ∀ h1 cap1 b1, sbR h1 N a cap1 b1 T → Kp N nA h h1 → m ≤ cap1 → (cap1 : Int) ≤ max (cap : Int) (2 * m + 2) → hN h1 ≤ hN h + 1 → (hS h1 : Int) ≤ (hS h : Int) + (2 * m + 2) → Q (.inl none) h1) : Rn (d + 2) 201 [.inr (.inr (.inr (15, 0, a))), .inl (iZ (m))] h Q := by
  obtain ⟨e0, e1, e3, e6⟩ := sbR_at s
  refine sb_ensure1 e0 e1 e6 hc ⟨hm.1, by omega⟩ (fun c => q h cap b s (Kp_r _ _ _) c (by omega) (by omega) (by omega)) (fun M c hM => ?_)
  obtain ⟨s1, k1⟩ := sbR_big (M := M) s z (by omega)
  have n1 : hN (bigH h a cap b M) = hN h + 1 := rfl
  have n2 : hS (bigH h a cap b M) = hS h + M := rfl
  exact q _ _ _ s1 k1 (by omega) (by omega) (by omega) (by omega)
theorem sbR_add {h1 h2 : PH} {N a cap b L : Nat} {T0 T : List Int} (s : sbR h1 N a cap b T0) (w : wrB h1 h2 b T0.length T) (as : asT T) (hL : T0.length + T.length = L) (hc : L ≤ cap) : sbR (setI h2 a 3 (iZ (L : Int))) N a cap b (T0 ++ T) ∧ Kp N nA h1 (setI h2 a 3 (iZ (L : Int))) := by
  obtain ⟨⟨l1, l2, l3, l4, l5⟩, e0, e1, e3, e4, e5, e6⟩ := s
  obtain ⟨w2, w1, w3, w4⟩ := w
  have n : hN (setI h2 a 3 (iZ (L : Int))) = hN h1 := by show h2.2.2.2.1 = h1.2.2.2.1; rw [w2]
  have rb : (setI h2 a 3 (iZ (L : Int))).1 b = h2.1 b := setI_oth (fun z => l5 z.symm)
  have len : (T0 ++ T).length = L := by rw [List.length_append, hL]
  refine ⟨⟨⟨l1, by omega, l3, by omega, l5⟩, by show h2.2.2.1 a 0 = _; rw [w2]; exact e0, (setI_ne (by omega)).trans (by rw [w1 a l5]; exact e1), (setI_self _ _ _ _).trans (by rw [len]), by omega, fun j hj => ?_, fun j hj => ?_⟩, ?_⟩
  · rw [rb]
    by_cases c : j < T0.length
    · rw [w4 j (by omega), e5 j c, List.getD_eq_getElem?_getD, List.getD_eq_getElem?_getD, List.getElem?_append_left c]
    · have := w3 (j - T0.length) (by omega)
      rw [show T0.length + (j - T0.length) = j by omega] at this
      rw [this, List.getD_eq_getElem?_getD, List.getD_eq_getElem?_getD, List.getElem?_append_right (by omega)]
  · rw [rb]
    by_cases c : T0.length ≤ j ∧ j < T0.length + T.length
    · have := w3 (j - T0.length) (by omega)
      rw [show T0.length + (j - T0.length) = j by omega] at this
      rw [this]
      exact byt_i _ (asT_get as _)
    · rw [w4 j c]; exact e6 j hj
  · refine Kp_t (Kp_w (b := b) (fun z => absurd z (by omega)) l4 w2 w1) (Kp_I (fun z => absurd z (by omega)) (by show a < hN h2; unfold hN; rw [w2]; exact l2))
theorem sb_infl_c {d lo N a k : Nat} {T : List Int} {h : PH} (e1 : h.1 a 1 = iZ 0) (t : txR h lo N (43, 0, k) T) : Rv (d + 1) 205 [.inr (.inr (.inr (15, 0, a))), .inr (.inr (.inr (43, 0, k)))] h (none) h := Rv.of fun Q q => by
  refine Ev.sts 1 (c' := (3, [some (.inr (.inr (.inr (15, 0, a)))), some (.inr (.inr (.inr (43, 0, k))))], [.inl (iZ (1))], h)) rfl ?_
  refine Ev.brF (p := (iZ (1)) = (iZ (0))) (c1 := (21, [some (.inr (.inr (.inr (15, 0, a)))), some (.inr (.inr (.inr (43, 0, k))))], [], h)) (c2 := (6, [some (.inr (.inr (.inr (15, 0, a)))), some (.inr (.inr (.inr (43, 0, k))))], [], h)) (by decide) rfl ?_
  refine Ev.sts 1 (c' := (7, [some (.inr (.inr (.inr (15, 0, a)))), some (.inr (.inr (.inr (43, 0, k))))], [.inr (.inr (.inr (15, 0, a)))], h)) rfl ?_
  refine Ev.gv (w := (iZ (0))) rfl e1 ?_
  refine Ev.sts 1 (c' := (11, [some (.inr (.inr (.inr (15, 0, a)))), some (.inr (.inr (.inr (43, 0, k))))], [.inr (.inr (.inr (43, 0, k))), .inl (iZ (0))], h)) rfl ?_
  refine Ev.callv (a := [.inr (.inr (.inr (43, 0, k)))]) rfl (tx_coder t) ?_
  refine Ev.brT (p := (iZ (0)) = (iZ (0))) (c1 := (21, [some (.inr (.inr (.inr (15, 0, a)))), some (.inr (.inr (.inr (43, 0, k))))], [], h)) (c2 := (17, [some (.inr (.inr (.inr (15, 0, a)))), some (.inr (.inr (.inr (43, 0, k))))], [], h)) (by decide) rfl ?_
  exact Ev.ret rfl (q)

theorem sb_put_c {d lo N a cap b k at_ : Nat} {T : List Int} {h : PH} {Q : Rs → PH → Prop} (e0 : h.2.2.1 a 0 = (22, cap, b)) (e1 : h.1 a 1 = iZ 0) (t : txR h lo N (43, 0, k) T) (as : asT T) (hb : N ≤ b) (hl : T.length ≤ 2000) (hc : at_ + T.length ≤ cap) (hc2 : cap ≤ 100000) (q : ∀ h1, wrB h h1 b at_ T → Q (.inl none) h1) : Rn (d + 2) 204 [.inr (.inr (.inr (15, 0, a))), .inl (iZ ((at_ : Int))), .inr (.inr (.inr (43, 0, k)))] h Q := by
  refine Ev.sts 2 (c' := (2, [some (.inr (.inr (.inr (15, 0, a)))), some (.inl (iZ ((at_ : Int)))), some (.inr (.inr (.inr (43, 0, k))))], [.inr (.inr (.inr (43, 0, k))), .inr (.inr (.inr (15, 0, a)))], h)) rfl ?_
  refine Ev.callv (a := [.inr (.inr (.inr (15, 0, a))), .inr (.inr (.inr (43, 0, k)))]) rfl (sb_infl_c e1 t) ?_
  refine Ev.sts 2 (c' := (7, [some (.inr (.inr (.inr (15, 0, a)))), some (.inl (iZ ((at_ : Int)))), some (.inr (.inr (.inr (43, 0, k))))], [.inr (.inr (.inr (15, 0, a))), .inr (.inr (.inr (43, 0, k)))], h)) rfl ?_
  refine Ev.gfr (r := (22, cap, b)) rfl e0 ?_
  refine Ev.sts 2 (c' := (12, [some (.inr (.inr (.inr (15, 0, a)))), some (.inl (iZ ((at_ : Int)))), some (.inr (.inr (.inr (43, 0, k))))], [.inr (.inr (.inr (15, 0, a))), .inl (iZ ((at_ : Int))), .inr (.inr (.inr (22, cap, b))), .inr (.inr (.inr (43, 0, k)))], h)) rfl ?_
  refine Ev.gv (w := (iZ (0))) rfl e1 ?_
  refine Ev.callw (a := [.inr (.inr (.inr (43, 0, k))), .inr (.inr (.inr (22, cap, b))), .inl (iZ ((at_ : Int))), .inl (iZ (0))]) rfl (tx_getBytes t as hb (by omega) hc (by omega) (fun h2 w => ?_))
  exact Ev.ret rfl (q h2 w)

theorem sb_app_c {d lo N a cap b k : Nat} {T0 T : List Int} {h : PH} {Q : Rs → PH → Prop} (s : sbR h N a cap b T0) (z : Zr h) (t : txR h lo N (43, 0, k) T) (as : asT T) (hc0 : cap ≤ 50000) (hl : T.length ≤ 2000) (hl0 : T0.length ≤ 4000) (q : ∀ h1 cap1 b1, sbR h1 N a cap1 b1 (T0 ++ T) → Kp N nA h h1 → (cap1 : Int) ≤ max (cap : Int) (2 * (T0.length + T.length : Int) + 2) → hN h1 ≤ hN h + 1 → (hS h1 : Int) ≤ (hS h : Int) + (2 * (T0.length + T.length : Int) + 2) → Q (.inl (some (.inr (.inr (.inr (15, 0, a)))))) h1) : Rn (d + 3) 200 [.inr (.inr (.inr (15, 0, a))), .inr (.inr (.inr (43, 0, k)))] h Q := by
  obtain ⟨e0, e1, e3, e6⟩ := sbR_at s
  refine Ev.sts 1 (c' := (1, [some (.inr (.inr (.inr (15, 0, a)))), some (.inr (.inr (.inr (43, 0, k)))), none], [.inr (.inr (.inr (43, 0, k)))], h)) rfl ?_
  refine Ev.brT (p := ¬ (43 : Nat) = 0) (c1 := (9, [some (.inr (.inr (.inr (15, 0, a)))), some (.inr (.inr (.inr (43, 0, k)))), none], [], h)) (c2 := (4, [some (.inr (.inr (.inr (15, 0, a)))), some (.inr (.inr (.inr (43, 0, k)))), none], [], h)) (by decide) rfl ?_
  refine Ev.sts 1 (c' := (10, [some (.inr (.inr (.inr (15, 0, a)))), some (.inr (.inr (.inr (43, 0, k)))), none], [.inr (.inr (.inr (43, 0, k)))], h)) rfl ?_
  refine Ev.callv (a := [.inr (.inr (.inr (43, 0, k)))]) rfl (tx_length t) ?_
  refine Ev.sts 3 (c' := (16, [some (.inr (.inr (.inr (15, 0, a)))), some (.inr (.inr (.inr (43, 0, k)))), some (.inl (iZ ((T.length : Int))))], [.inr (.inr (.inr (15, 0, a))), .inr (.inr (.inr (15, 0, a)))], h)) rfl ?_
  refine Ev.gv (w := (iZ ((T0.length : Int)))) rfl e3 ?_
  refine Ev.sts 1 (c' := (20, [some (.inr (.inr (.inr (15, 0, a)))), some (.inr (.inr (.inr (43, 0, k)))), some (.inl (iZ ((T.length : Int))))], [.inl (iZ ((T.length : Int))), .inl (iZ ((T0.length : Int))), .inr (.inr (.inr (15, 0, a)))], h)) rfl ?_
  refine Ev.gv (w := (iZ (((T0.length : Int)) + ((T.length : Int))))) rfl (iZ_add _ _) ?_
  refine Ev.callw (a := [.inr (.inr (.inr (15, 0, a))), .inl (iZ (((T0.length : Int)) + ((T.length : Int))))]) rfl (sb_ensure s z (by omega) ⟨by omega, by omega⟩ (fun h1 cap1 b1 s1 k1 c1 c2 c3 c4 => ?_))
  obtain ⟨f0, f1, f3, f6⟩ := sbR_at s1
  have t1 := txR_Kp t k1 (Nat.le_refl _) (fun _ _ z => z)
  refine Ev.sts 2 (c' := (26, [some (.inr (.inr (.inr (15, 0, a)))), some (.inr (.inr (.inr (43, 0, k)))), some (.inl (iZ ((T.length : Int))))], [.inr (.inr (.inr (15, 0, a))), .inr (.inr (.inr (15, 0, a)))], h1)) rfl ?_
  refine Ev.gv (w := (iZ ((T0.length : Int)))) rfl f3 ?_
  refine Ev.sts 1 (c' := (30, [some (.inr (.inr (.inr (15, 0, a)))), some (.inr (.inr (.inr (43, 0, k)))), some (.inl (iZ ((T.length : Int))))], [.inr (.inr (.inr (43, 0, k))), .inl (iZ ((T0.length : Int))), .inr (.inr (.inr (15, 0, a)))], h1)) rfl ?_
  refine Ev.callw (a := [.inr (.inr (.inr (15, 0, a))), .inl (iZ ((T0.length : Int))), .inr (.inr (.inr (43, 0, k)))]) rfl (sb_put_c (at_ := T0.length) f0 f1 t1 as s1.1.2.2.1 hl (by omega) (by omega) (fun h2 w => ?_))
  have g3 : h2.1 a 3 = iZ (T0.length : Int) := by rw [w.2.1 a s1.1.2.2.2.2]; exact f3
  obtain ⟨s2, k2⟩ := sbR_add (L := T0.length + T.length) s1 w as rfl (by omega)
  have n2 : hN h2 = hN h1 := by unfold hN; rw [w.1]
  have m2 : hS h2 = hS h1 := by unfold hS; rw [w.1]
  refine Ev.sts 2 (c' := (35, [some (.inr (.inr (.inr (15, 0, a)))), some (.inr (.inr (.inr (43, 0, k)))), some (.inl (iZ ((T.length : Int))))], [.inr (.inr (.inr (15, 0, a))), .inr (.inr (.inr (15, 0, a)))], h2)) rfl ?_
  refine Ev.gv (w := (iZ ((T0.length : Int)))) rfl g3 ?_
  refine Ev.sts 1 (c' := (39, [some (.inr (.inr (.inr (15, 0, a)))), some (.inr (.inr (.inr (43, 0, k)))), some (.inl (iZ ((T.length : Int))))], [.inl (iZ ((T.length : Int))), .inl (iZ ((T0.length : Int))), .inr (.inr (.inr (15, 0, a)))], h2)) rfl ?_
  refine Ev.gv (w := (iZ (((T0.length : Int)) + ((T.length : Int))))) rfl (iZ_add _ _) ?_
  refine Ev.sts 2 (c' := (44, [some (.inr (.inr (.inr (15, 0, a)))), some (.inr (.inr (.inr (43, 0, k)))), some (.inl (iZ ((T.length : Int))))], [.inr (.inr (.inr (15, 0, a)))], (setI h2 a 3 ((iZ (((T0.length : Int)) + ((T.length : Int)))))))) rfl ?_
  rw [show ((T0.length : Int) + (T.length : Int)) = ((T0.length + T.length : Nat) : Int) by omega]
  exact Ev.ret rfl (q _ _ _ s2 (Kp_t k1 k2) (by omega) (by show hN h2 ≤ _; omega) (by show ((hS h2 : Nat) : Int) ≤ _; omega))

theorem sb_append_c {d lo N a cap b k : Nat} {T0 T : List Int} {h : PH} {Q : Rs → PH → Prop} (s : sbR h N a cap b T0) (z : Zr h) (t : txR h lo N (43, 0, k) T) (as : asT T) (hc0 : cap ≤ 50000) (hl : T.length ≤ 2000) (hl0 : T0.length ≤ 4000) (q : ∀ h1 cap1 b1, sbR h1 N a cap1 b1 (T0 ++ T) → Kp N nA h h1 → (cap1 : Int) ≤ max (cap : Int) (2 * (T0.length + T.length : Int) + 2) → hN h1 ≤ hN h + 1 → (hS h1 : Int) ≤ (hS h : Int) + (2 * (T0.length + T.length : Int) + 2) → Q (.inl (some (.inr (.inr (.inr (15, 0, a)))))) h1) : Rn (d + 4) 194 [.inr (.inr (.inr (15, 0, a))), .inr (.inr (.inr (43, 0, k)))] h Q := by
  refine Ev.sts 2 (c' := (2, [some (.inr (.inr (.inr (15, 0, a)))), some (.inr (.inr (.inr (43, 0, k))))], [.inr (.inr (.inr (43, 0, k))), .inr (.inr (.inr (15, 0, a)))], h)) rfl ?_
  refine Ev.callw (a := [.inr (.inr (.inr (15, 0, a))), .inr (.inr (.inr (43, 0, k)))]) rfl (sb_app_c s z t as hc0 hl hl0 (fun h1 cap1 b1 s1 k1 c2 c3 c4 => ?_))
  refine Ev.sts 2 (c' := (7, [some (.inr (.inr (.inr (15, 0, a)))), some (.inr (.inr (.inr (43, 0, k))))], [.inr (.inr (.inr (15, 0, a)))], h1)) rfl ?_
  exact Ev.ret rfl (q h1 cap1 b1 s1 k1 c2 c3 c4)

theorem sb_infl_o {d lo N a k : Nat} {T : List Int} {h : PH} (e1 : h.1 a 1 = iZ 0) (t : txR h lo N (14, 0, k) T) : Rv (d + 1) 205 [.inr (.inr (.inr (15, 0, a))), .inr (.inr (.inr (14, 0, k)))] h (none) h := Rv.of fun Q q => by
  refine Ev.sts 1 (c' := (3, [some (.inr (.inr (.inr (15, 0, a)))), some (.inr (.inr (.inr (14, 0, k))))], [.inl (iZ (1))], h)) rfl ?_
  refine Ev.brF (p := (iZ (1)) = (iZ (0))) (c1 := (21, [some (.inr (.inr (.inr (15, 0, a)))), some (.inr (.inr (.inr (14, 0, k))))], [], h)) (c2 := (6, [some (.inr (.inr (.inr (15, 0, a)))), some (.inr (.inr (.inr (14, 0, k))))], [], h)) (by decide) rfl ?_
  refine Ev.sts 1 (c' := (7, [some (.inr (.inr (.inr (15, 0, a)))), some (.inr (.inr (.inr (14, 0, k))))], [.inr (.inr (.inr (15, 0, a)))], h)) rfl ?_
  refine Ev.gv (w := (iZ (0))) rfl e1 ?_
  refine Ev.sts 1 (c' := (11, [some (.inr (.inr (.inr (15, 0, a)))), some (.inr (.inr (.inr (14, 0, k))))], [.inr (.inr (.inr (14, 0, k))), .inl (iZ (0))], h)) rfl ?_
  refine Ev.callv (a := [.inr (.inr (.inr (14, 0, k)))]) rfl (tx_coder t) ?_
  refine Ev.brT (p := (iZ (0)) = (iZ (0))) (c1 := (21, [some (.inr (.inr (.inr (15, 0, a)))), some (.inr (.inr (.inr (14, 0, k))))], [], h)) (c2 := (17, [some (.inr (.inr (.inr (15, 0, a)))), some (.inr (.inr (.inr (14, 0, k))))], [], h)) (by decide) rfl ?_
  exact Ev.ret rfl (q)

theorem sb_put_o {d lo N a cap b k at_ : Nat} {T : List Int} {h : PH} {Q : Rs → PH → Prop} (e0 : h.2.2.1 a 0 = (22, cap, b)) (e1 : h.1 a 1 = iZ 0) (t : txR h lo N (14, 0, k) T) (as : asT T) (hb : N ≤ b) (hl : T.length ≤ 2000) (hc : at_ + T.length ≤ cap) (hc2 : cap ≤ 100000) (q : ∀ h1, wrB h h1 b at_ T → Q (.inl none) h1) : Rn (d + 2) 204 [.inr (.inr (.inr (15, 0, a))), .inl (iZ ((at_ : Int))), .inr (.inr (.inr (14, 0, k)))] h Q := by
  refine Ev.sts 2 (c' := (2, [some (.inr (.inr (.inr (15, 0, a)))), some (.inl (iZ ((at_ : Int)))), some (.inr (.inr (.inr (14, 0, k))))], [.inr (.inr (.inr (14, 0, k))), .inr (.inr (.inr (15, 0, a)))], h)) rfl ?_
  refine Ev.callv (a := [.inr (.inr (.inr (15, 0, a))), .inr (.inr (.inr (14, 0, k)))]) rfl (sb_infl_o e1 t) ?_
  refine Ev.sts 2 (c' := (7, [some (.inr (.inr (.inr (15, 0, a)))), some (.inl (iZ ((at_ : Int)))), some (.inr (.inr (.inr (14, 0, k))))], [.inr (.inr (.inr (15, 0, a))), .inr (.inr (.inr (14, 0, k)))], h)) rfl ?_
  refine Ev.gfr (r := (22, cap, b)) rfl e0 ?_
  refine Ev.sts 2 (c' := (12, [some (.inr (.inr (.inr (15, 0, a)))), some (.inl (iZ ((at_ : Int)))), some (.inr (.inr (.inr (14, 0, k))))], [.inr (.inr (.inr (15, 0, a))), .inl (iZ ((at_ : Int))), .inr (.inr (.inr (22, cap, b))), .inr (.inr (.inr (14, 0, k)))], h)) rfl ?_
  refine Ev.gv (w := (iZ (0))) rfl e1 ?_
  refine Ev.callw (a := [.inr (.inr (.inr (14, 0, k))), .inr (.inr (.inr (22, cap, b))), .inl (iZ ((at_ : Int))), .inl (iZ (0))]) rfl (tx_getBytes t as hb (by omega) hc (by omega) (fun h2 w => ?_))
  exact Ev.ret rfl (q h2 w)

theorem sb_app_o {d lo N a cap b k : Nat} {T0 T : List Int} {h : PH} {Q : Rs → PH → Prop} (s : sbR h N a cap b T0) (z : Zr h) (t : txR h lo N (14, 0, k) T) (as : asT T) (hc0 : cap ≤ 50000) (hl : T.length ≤ 2000) (hl0 : T0.length ≤ 4000) (q : ∀ h1 cap1 b1, sbR h1 N a cap1 b1 (T0 ++ T) → Kp N nA h h1 → (cap1 : Int) ≤ max (cap : Int) (2 * (T0.length + T.length : Int) + 2) → hN h1 ≤ hN h + 1 → (hS h1 : Int) ≤ (hS h : Int) + (2 * (T0.length + T.length : Int) + 2) → Q (.inl (some (.inr (.inr (.inr (15, 0, a)))))) h1) : Rn (d + 3) 200 [.inr (.inr (.inr (15, 0, a))), .inr (.inr (.inr (14, 0, k)))] h Q := by
  obtain ⟨e0, e1, e3, e6⟩ := sbR_at s
  refine Ev.sts 1 (c' := (1, [some (.inr (.inr (.inr (15, 0, a)))), some (.inr (.inr (.inr (14, 0, k)))), none], [.inr (.inr (.inr (14, 0, k)))], h)) rfl ?_
  refine Ev.brT (p := ¬ (14 : Nat) = 0) (c1 := (9, [some (.inr (.inr (.inr (15, 0, a)))), some (.inr (.inr (.inr (14, 0, k)))), none], [], h)) (c2 := (4, [some (.inr (.inr (.inr (15, 0, a)))), some (.inr (.inr (.inr (14, 0, k)))), none], [], h)) (by decide) rfl ?_
  refine Ev.sts 1 (c' := (10, [some (.inr (.inr (.inr (15, 0, a)))), some (.inr (.inr (.inr (14, 0, k)))), none], [.inr (.inr (.inr (14, 0, k)))], h)) rfl ?_
  refine Ev.callv (a := [.inr (.inr (.inr (14, 0, k)))]) rfl (tx_length t) ?_
  refine Ev.sts 3 (c' := (16, [some (.inr (.inr (.inr (15, 0, a)))), some (.inr (.inr (.inr (14, 0, k)))), some (.inl (iZ ((T.length : Int))))], [.inr (.inr (.inr (15, 0, a))), .inr (.inr (.inr (15, 0, a)))], h)) rfl ?_
  refine Ev.gv (w := (iZ ((T0.length : Int)))) rfl e3 ?_
  refine Ev.sts 1 (c' := (20, [some (.inr (.inr (.inr (15, 0, a)))), some (.inr (.inr (.inr (14, 0, k)))), some (.inl (iZ ((T.length : Int))))], [.inl (iZ ((T.length : Int))), .inl (iZ ((T0.length : Int))), .inr (.inr (.inr (15, 0, a)))], h)) rfl ?_
  refine Ev.gv (w := (iZ (((T0.length : Int)) + ((T.length : Int))))) rfl (iZ_add _ _) ?_
  refine Ev.callw (a := [.inr (.inr (.inr (15, 0, a))), .inl (iZ (((T0.length : Int)) + ((T.length : Int))))]) rfl (sb_ensure s z (by omega) ⟨by omega, by omega⟩ (fun h1 cap1 b1 s1 k1 c1 c2 c3 c4 => ?_))
  obtain ⟨f0, f1, f3, f6⟩ := sbR_at s1
  have t1 := txR_Kp t k1 (Nat.le_refl _) (fun _ _ z => z)
  refine Ev.sts 2 (c' := (26, [some (.inr (.inr (.inr (15, 0, a)))), some (.inr (.inr (.inr (14, 0, k)))), some (.inl (iZ ((T.length : Int))))], [.inr (.inr (.inr (15, 0, a))), .inr (.inr (.inr (15, 0, a)))], h1)) rfl ?_
  refine Ev.gv (w := (iZ ((T0.length : Int)))) rfl f3 ?_
  refine Ev.sts 1 (c' := (30, [some (.inr (.inr (.inr (15, 0, a)))), some (.inr (.inr (.inr (14, 0, k)))), some (.inl (iZ ((T.length : Int))))], [.inr (.inr (.inr (14, 0, k))), .inl (iZ ((T0.length : Int))), .inr (.inr (.inr (15, 0, a)))], h1)) rfl ?_
  refine Ev.callw (a := [.inr (.inr (.inr (15, 0, a))), .inl (iZ ((T0.length : Int))), .inr (.inr (.inr (14, 0, k)))]) rfl (sb_put_o (at_ := T0.length) f0 f1 t1 as s1.1.2.2.1 hl (by omega) (by omega) (fun h2 w => ?_))
  have g3 : h2.1 a 3 = iZ (T0.length : Int) := by rw [w.2.1 a s1.1.2.2.2.2]; exact f3
  obtain ⟨s2, k2⟩ := sbR_add (L := T0.length + T.length) s1 w as rfl (by omega)
  have n2 : hN h2 = hN h1 := by unfold hN; rw [w.1]
  have m2 : hS h2 = hS h1 := by unfold hS; rw [w.1]
  refine Ev.sts 2 (c' := (35, [some (.inr (.inr (.inr (15, 0, a)))), some (.inr (.inr (.inr (14, 0, k)))), some (.inl (iZ ((T.length : Int))))], [.inr (.inr (.inr (15, 0, a))), .inr (.inr (.inr (15, 0, a)))], h2)) rfl ?_
  refine Ev.gv (w := (iZ ((T0.length : Int)))) rfl g3 ?_
  refine Ev.sts 1 (c' := (39, [some (.inr (.inr (.inr (15, 0, a)))), some (.inr (.inr (.inr (14, 0, k)))), some (.inl (iZ ((T.length : Int))))], [.inl (iZ ((T.length : Int))), .inl (iZ ((T0.length : Int))), .inr (.inr (.inr (15, 0, a)))], h2)) rfl ?_
  refine Ev.gv (w := (iZ (((T0.length : Int)) + ((T.length : Int))))) rfl (iZ_add _ _) ?_
  refine Ev.sts 2 (c' := (44, [some (.inr (.inr (.inr (15, 0, a)))), some (.inr (.inr (.inr (14, 0, k)))), some (.inl (iZ ((T.length : Int))))], [.inr (.inr (.inr (15, 0, a)))], (setI h2 a 3 ((iZ (((T0.length : Int)) + ((T.length : Int)))))))) rfl ?_
  rw [show ((T0.length : Int) + (T.length : Int)) = ((T0.length + T.length : Nat) : Int) by omega]
  exact Ev.ret rfl (q _ _ _ s2 (Kp_t k1 k2) (by omega) (by show hN h2 ≤ _; omega) (by show ((hS h2 : Nat) : Int) ≤ _; omega))

theorem sb_append_o {d lo N a cap b k : Nat} {T0 T : List Int} {h : PH} {Q : Rs → PH → Prop} (s : sbR h N a cap b T0) (z : Zr h) (t : txR h lo N (14, 0, k) T) (as : asT T) (hc0 : cap ≤ 50000) (hl : T.length ≤ 2000) (hl0 : T0.length ≤ 4000) (q : ∀ h1 cap1 b1, sbR h1 N a cap1 b1 (T0 ++ T) → Kp N nA h h1 → (cap1 : Int) ≤ max (cap : Int) (2 * (T0.length + T.length : Int) + 2) → hN h1 ≤ hN h + 1 → (hS h1 : Int) ≤ (hS h : Int) + (2 * (T0.length + T.length : Int) + 2) → Q (.inl (some (.inr (.inr (.inr (15, 0, a)))))) h1) : Rn (d + 4) 194 [.inr (.inr (.inr (15, 0, a))), .inr (.inr (.inr (14, 0, k)))] h Q := by
  refine Ev.sts 2 (c' := (2, [some (.inr (.inr (.inr (15, 0, a)))), some (.inr (.inr (.inr (14, 0, k))))], [.inr (.inr (.inr (14, 0, k))), .inr (.inr (.inr (15, 0, a)))], h)) rfl ?_
  refine Ev.callw (a := [.inr (.inr (.inr (15, 0, a))), .inr (.inr (.inr (14, 0, k)))]) rfl (sb_app_o s z t as hc0 hl hl0 (fun h1 cap1 b1 s1 k1 c2 c3 c4 => ?_))
  refine Ev.sts 2 (c' := (7, [some (.inr (.inr (.inr (15, 0, a)))), some (.inr (.inr (.inr (14, 0, k))))], [.inr (.inr (.inr (15, 0, a)))], h1)) rfl ?_
  exact Ev.ret rfl (q h1 cap1 b1 s1 k1 c2 c3 c4)

/-- a builder takes a text -/
theorem sb_append {d lo N a cap b : Nat} {r : VR} {T0 T : List Int} {h : PH} {Q : Rs → PH → Prop} (s : sbR h N a cap b T0) (z : Zr h) (t : txR h lo N r T) (as : asT T) (hc0 : cap ≤ 50000) (hl : T.length ≤ 2000) (hl0 : T0.length ≤ 4000) (q : ∀ h1 cap1 b1, sbR h1 N a cap1 b1 (T0 ++ T) → Kp N nA h h1 → (cap1 : Int) ≤ max (cap : Int) (2 * (T0.length + T.length : Int) + 2) → hN h1 ≤ hN h + 1 → (hS h1 : Int) ≤ (hS h : Int) + (2 * (T0.length + T.length : Int) + 2) → Q (.inl (some (.inr (.inr (.inr (15, 0, a)))))) h1) : Rn (d + 4) 194 [.inr (.inr (.inr (15, 0, a))), .inr (.inr (.inr r))] h Q := by
  rcases t with ⟨k, rfl, rfl⟩ | ⟨k, v, rfl, t⟩
  · exact sb_append_c (lo := lo) s z (.inl ⟨k, rfl, rfl⟩) as hc0 hl hl0 q
  · exact sb_append_o (lo := lo) s z (.inr ⟨k, v, rfl, t⟩) as hc0 hl hl0 q
theorem wrB_1 (h : PH) (a b at_ : Nat) (L : Int) (c : Int) (hc : 0 ≤ c ∧ c < 128) (hab : a ≠ b) : setI (setI h a 3 (iZ L)) b at_ (((iZ c).toInt8.toInt32).toInt8.toInt32) = setI (setI h b at_ (iZ c)) a 3 (iZ L) := by
  have e : (iZ c).toInt8.toInt32 = iZ c := byt_i c hc
  rw [e, e]
  unfold setI up2
  refine Prod.ext (funext fun x => funext fun j => ?_) rfl
  dsimp only
  by_cases p : x = b ∧ j = at_
  · rw [if_pos p, if_neg (fun z => hab (z.1.symm.trans p.1)), if_pos p]
  · rw [if_neg p, if_neg p]
theorem wrB_c (h : PH) (b at_ : Nat) (c : Int) : wrB h (setI h b at_ (iZ c)) b at_ [c] := by
  refine ⟨rfl, fun x hx => setI_oth hx, fun j hj => ?_, fun j hj => setI_ne (fun z => hj ⟨by omega, by show j < at_ + 1; omega⟩)⟩
  obtain rfl : j = 0 := by have : j < 1 := hj; omega
  exact setI_self _ _ _ _
theorem sb_apc {d N a cap b : Nat} {c : Int} {T0 : List Int} {h : PH} {Q : Rs → PH → Prop} (s : sbR h N a cap b T0) (z : Zr h) (hc : 0 ≤ c ∧ c < 128) (hc0 : cap ≤ 50000) (hl0 : T0.length ≤ 4000) (q : ∀ h1 cap1 b1, sbR h1 N a cap1 b1 (T0 ++ [c]) → Kp N nA h h1 → (cap1 : Int) ≤ max (cap : Int) (2 * (T0.length + [c].length : Int) + 2) → hN h1 ≤ hN h + 1 → (hS h1 : Int) ≤ (hS h : Int) + (2 * (T0.length + [c].length : Int) + 2) → Q (.inl (some (.inr (.inr (.inr (15, 0, a)))))) h1) : Rn (d + 3) 209 [.inr (.inr (.inr (15, 0, a))), .inl (iZ (c))] h Q := by
  obtain ⟨e0, e1, e3, e6⟩ := sbR_at s
  refine Ev.sts 2 (c' := (2, [some (.inr (.inr (.inr (15, 0, a)))), some (.inl (iZ (c)))], [.inr (.inr (.inr (15, 0, a))), .inr (.inr (.inr (15, 0, a)))], h)) rfl ?_
  refine Ev.gv (w := (iZ ((T0.length : Int)))) rfl e3 ?_
  refine Ev.sts 1 (c' := (6, [some (.inr (.inr (.inr (15, 0, a)))), some (.inl (iZ (c)))], [.inl (iZ (1)), .inl (iZ ((T0.length : Int))), .inr (.inr (.inr (15, 0, a)))], h)) rfl ?_
  refine Ev.gv (w := (iZ (((T0.length : Int)) + 1))) rfl (iZ_add _ _) ?_
  refine Ev.callw (a := [.inr (.inr (.inr (15, 0, a))), .inl (iZ (((T0.length : Int)) + 1))]) rfl (sb_ensure s z (by omega) ⟨by omega, by omega⟩ (fun h1 cap1 b1 s1 k1 c1 c2 c3 c4 => ?_))
  obtain ⟨f0, f1, f3, f6⟩ := sbR_at s1
  refine Ev.sts 1 (c' := (11, [some (.inr (.inr (.inr (15, 0, a)))), some (.inl (iZ (c)))], [.inr (.inr (.inr (15, 0, a)))], h1)) rfl ?_
  refine Ev.callv (a := [.inr (.inr (.inr (15, 0, a)))]) rfl (sb_isL f1) ?_
  refine Ev.brF (p := (iZ (1)) = (iZ (0))) (c1 := (45, [some (.inr (.inr (.inr (15, 0, a)))), some (.inl (iZ (c)))], [], h1)) (c2 := (17, [some (.inr (.inr (.inr (15, 0, a)))), some (.inl (iZ (c)))], [], h1)) (by decide) rfl ?_
  refine Ev.sts 1 (c' := (18, [some (.inr (.inr (.inr (15, 0, a)))), some (.inl (iZ (c)))], [.inl (iZ (c))], h1)) rfl ?_
  refine Ev.callv (a := [.inl (iZ (c))]) rfl (la_can ⟨by omega, by omega⟩) ?_
  refine Ev.brF (p := (iZ (1)) = (iZ (0))) (c1 := (45, [some (.inr (.inr (.inr (15, 0, a)))), some (.inl (iZ (c)))], [], h1)) (c2 := (24, [some (.inr (.inr (.inr (15, 0, a)))), some (.inl (iZ (c)))], [], h1)) (by decide) rfl ?_
  refine Ev.sts 1 (c' := (25, [some (.inr (.inr (.inr (15, 0, a)))), some (.inl (iZ (c)))], [.inr (.inr (.inr (15, 0, a)))], h1)) rfl ?_
  refine Ev.gfr (r := (22, cap1, b1)) rfl f0 ?_
  refine Ev.sts 2 (c' := (30, [some (.inr (.inr (.inr (15, 0, a)))), some (.inl (iZ (c)))], [.inr (.inr (.inr (15, 0, a))), .inr (.inr (.inr (15, 0, a))), .inr (.inr (.inr (22, cap1, b1)))], h1)) rfl ?_
  refine Ev.gv (w := (iZ ((T0.length : Int)))) rfl f3 ?_
  refine Ev.sts 2 (c' := (35, [some (.inr (.inr (.inr (15, 0, a)))), some (.inl (iZ (c)))], [.inl (iZ (1)), .inl (iZ ((T0.length : Int))), .inr (.inr (.inr (15, 0, a))), .inl (iZ ((T0.length : Int))), .inr (.inr (.inr (22, cap1, b1)))], h1)) rfl ?_
  refine Ev.gv (w := (iZ (((T0.length : Int)) + 1))) rfl (iZ_add _ _) ?_
  refine Ev.sts 3 (c' := (41, [some (.inr (.inr (.inr (15, 0, a)))), some (.inl (iZ (c)))], [.inl (((iZ (c))).toInt8.toInt32), .inl (iZ ((T0.length : Int))), .inr (.inr (.inr (22, cap1, b1)))], (setI h1 a 3 ((iZ (((T0.length : Int)) + 1)))))) rfl ?_
  refine Ev.sto (j := (iZ ((T0.length : Int)))) (n := cap1) (h2 := (setI (setI h1 a 3 ((iZ (((T0.length : Int)) + 1)))) b1 T0.length ((((iZ (c))).toInt8.toInt32).toInt8.toInt32))) (iZ_in (by omega) (by omega) (by omega)) rfl (by rw [iZ_ix (n := T0.length) (by omega) (by omega)]) ?_
  refine Ev.sts 2 (c' := (76, [some (.inr (.inr (.inr (15, 0, a)))), some (.inl (iZ (c)))], [.inr (.inr (.inr (15, 0, a)))], (setI (setI h1 a 3 ((iZ (((T0.length : Int)) + 1)))) b1 T0.length ((((iZ (c))).toInt8.toInt32).toInt8.toInt32)))) rfl ?_
  rw [wrB_1 _ _ _ _ _ _ hc s1.1.2.2.2.2, show ((T0.length : Int) + 1) = ((T0.length + 1 : Nat) : Int) by omega]
  obtain ⟨s2, k2⟩ := sbR_add (L := T0.length + 1) s1 (wrB_c h1 b1 T0.length c) (fun x hx => by rw [List.mem_singleton.mp hx]; exact hc) rfl (by omega)
  exact Ev.ret rfl (q _ _ _ s2 (Kp_t k1 k2) (by show (cap1 : Int) ≤ max (cap : Int) (2 * ((T0.length : Int) + ((1 : Nat) : Int)) + 2); omega) (by show hN h1 ≤ _; omega) (by show ((hS h1 : Nat) : Int) ≤ (hS h : Int) + (2 * ((T0.length : Int) + ((1 : Nat) : Int)) + 2); omega))

theorem sb_appendC {d N a cap b : Nat} {c : Int} {T0 : List Int} {h : PH} {Q : Rs → PH → Prop} (s : sbR h N a cap b T0) (z : Zr h) (hc : 0 ≤ c ∧ c < 128) (hc0 : cap ≤ 50000) (hl0 : T0.length ≤ 4000) (q : ∀ h1 cap1 b1, sbR h1 N a cap1 b1 (T0 ++ [c]) → Kp N nA h h1 → (cap1 : Int) ≤ max (cap : Int) (2 * (T0.length + [c].length : Int) + 2) → hN h1 ≤ hN h + 1 → (hS h1 : Int) ≤ (hS h : Int) + (2 * (T0.length + [c].length : Int) + 2) → Q (.inl (some (.inr (.inr (.inr (15, 0, a)))))) h1) : Rn (d + 4) 198 [.inr (.inr (.inr (15, 0, a))), .inl (iZ (c))] h Q := by
  refine Ev.sts 2 (c' := (2, [some (.inr (.inr (.inr (15, 0, a)))), some (.inl (iZ (c)))], [.inl (iZ (c)), .inr (.inr (.inr (15, 0, a)))], h)) rfl ?_
  refine Ev.callw (a := [.inr (.inr (.inr (15, 0, a))), .inl (iZ (c))]) rfl (sb_apc s z hc hc0 hl0 (fun h1 cap1 b1 s1 k1 c2 c3 c4 => ?_))
  refine Ev.sts 2 (c' := (7, [some (.inr (.inr (.inr (15, 0, a)))), some (.inl (iZ (c)))], [.inr (.inr (.inr (15, 0, a)))], h1)) rfl ?_
  exact Ev.ret rfl (q h1 cap1 b1 s1 k1 c2 c3 c4)

