/-! The text of a builder; a new builder; a text's letters. -/
theorem ar_check {d : Nat} {L : Int} {h : PH} (hL : 0 ≤ L ∧ L ≤ 100000) : Rv d 223 [.inl (iZ (0)), .inl (iZ (L))] h (none) h := Rv.of fun Q q => by
  refine Ev.sts 2 (c' := (2, [some (.inl (iZ (0))), some (.inl (iZ (L)))], [.inl (iZ (0)), .inl (iZ (L))], h)) rfl ?_
  refine Ev.brT (p := (iZ (0)) ≤ (iZ (L))) (c1 := (37, [some (.inl (iZ (0))), some (.inl (iZ (L)))], [], h)) (c2 := (5, [some (.inl (iZ (0))), some (.inl (iZ (L)))], [], h)) ((iZ_le ⟨by omega, by omega⟩ ⟨by omega, by omega⟩).mpr (by omega)) rfl ?_
  exact Ev.ret rfl (q)

theorem ar_range {d n v L : Nat} {h : PH} (hL : L ≤ n) (hn : n ≤ 100000) (bt : ∀ j, j < n → byt (h.1 v j)) : Rv (d + 1) 222 [.inr (.inr (.inr (22, n, v))), .inl (iZ (0)), .inl (iZ ((L : Int)))] h (some (.inr (.inr (.inr (22, L, hN h))))) (cpyI (grow h L) v 0 (hN h) 0 L) := Rv.of fun Q q => by
  refine Ev.sts 2 (c' := (2, [some (.inr (.inr (.inr (22, n, v)))), some (.inl (iZ (0))), some (.inl (iZ ((L : Int)))), none, none], [.inl (iZ ((L : Int))), .inl (iZ (0))], h)) rfl ?_
  refine Ev.callv (a := [.inl (iZ (0)), .inl (iZ ((L : Int)))]) rfl (ar_check ⟨by omega, by omega⟩) ?_
  refine Ev.sts 2 (c' := (7, [some (.inr (.inr (.inr (22, n, v)))), some (.inl (iZ (0))), some (.inl (iZ ((L : Int)))), none, none], [.inl (iZ (0)), .inl (iZ ((L : Int)))], h)) rfl ?_
  refine Ev.gv (w := (iZ (((L : Int)) - 0))) rfl (iZ_sub _ _) ?_
  refine Ev.sts 2 (c' := (10, [some (.inr (.inr (.inr (22, n, v)))), some (.inl (iZ (0))), some (.inl (iZ ((L : Int)))), some (.inl (iZ (((L : Int)) - 0))), none], [.inl (iZ (((L : Int)) - 0))], h)) rfl ?_
  refine Ev.pc (p := (iZ (((L : Int)) - 0)) < 0 ∨ 100000 < ((iZ (((L : Int)) - 0))).toNatClampNeg) (c1 := (12, [some (.inr (.inr (.inr (22, n, v)))), some (.inl (iZ (0))), some (.inl (iZ ((L : Int)))), some (.inl (iZ (((L : Int)) - 0))), none], [.inr (.inr (.inr (22, ((iZ (((L : Int)) - 0))).toNatClampNeg, (hN h))))], (grow h (((iZ (((L : Int)) - 0))).toNatClampNeg)))) (c2 := (12, [some (.inr (.inr (.inr (22, n, v)))), some (.inl (iZ (0))), some (.inl (iZ ((L : Int)))), some (.inl (iZ (((L : Int)) - 0))), none], [.inr (.inr (.inr (22, L, (hN h))))], (grow h L))) (nwa_in (by omega) (by omega)) rfl (by rw [iZ_ix (n := L) (by omega) (by omega)]) ?_
  refine Ev.sts 6 (c' := (20, [some (.inr (.inr (.inr (22, n, v)))), some (.inl (iZ (0))), some (.inl (iZ ((L : Int)))), some (.inl (iZ (((L : Int)) - 0))), some (.inr (.inr (.inr (22, L, (hN h)))))], [.inr (.inr (.inr (22, n, v))), .inl (iZ (0)), .inr (.inr (.inr (22, L, (hN h)))), .inl (iZ (0)), .inr (.inr (.inr (22, n, v)))], (grow h L))) rfl ?_
  refine Ev.gv (w := (iZ (n))) rfl (iZ_nat _) ?_
  refine Ev.sts 1 (c' := (22, [some (.inr (.inr (.inr (22, n, v)))), some (.inl (iZ (0))), some (.inl (iZ ((L : Int)))), some (.inl (iZ (((L : Int)) - 0))), some (.inr (.inr (.inr (22, L, (hN h)))))], [.inl (iZ (0)), .inl (iZ (n)), .inl (iZ (0)), .inr (.inr (.inr (22, L, (hN h)))), .inl (iZ (0)), .inr (.inr (.inr (22, n, v)))], (grow h L))) rfl ?_
  refine Ev.gv (w := (iZ (n - 0))) rfl (iZ_sub _ _) ?_
  refine Ev.sts 1 (c' := (24, [some (.inr (.inr (.inr (22, n, v)))), some (.inl (iZ (0))), some (.inl (iZ ((L : Int)))), some (.inl (iZ (((L : Int)) - 0))), some (.inr (.inr (.inr (22, L, (hN h)))))], [.inl (iZ (((L : Int)) - 0)), .inl (iZ (n - 0)), .inl (iZ (0)), .inr (.inr (.inr (22, L, (hN h)))), .inl (iZ (0)), .inr (.inr (.inr (22, n, v)))], (grow h L))) rfl ?_
  refine Ev.gv (w := (iZ (min (n - 0) (((L : Int)) - 0)))) rfl (iZ_min ⟨by omega, by omega⟩ ⟨by omega, by omega⟩) ?_
  rw [show min ((n : Int) - 0) ((L : Int) - 0) = (L : Int) by omega]
  refine Ev.pcb (p := (iZ (0)) < 0 ∨ (iZ (0)) < 0 ∨ (iZ ((L : Int))) < 0 ∨ n < ((iZ (0))).toNatClampNeg + ((iZ ((L : Int)))).toNatClampNeg ∨ L < ((iZ (0))).toNatClampNeg + ((iZ ((L : Int)))).toNatClampNeg) (f := fitb ((grow h L).1 v) ((iZ (0))).toNatClampNeg ((iZ ((L : Int)))).toNatClampNeg) (c1 := (30, [some (.inr (.inr (.inr (22, n, v)))), some (.inl (iZ (0))), some (.inl (iZ ((L : Int)))), some (.inl (iZ (((L : Int)) - 0))), some (.inr (.inr (.inr (22, L, (hN h)))))], [], (cpyI (grow h L) v ((iZ (0))).toNatClampNeg ((hN h)) ((iZ (0))).toNatClampNeg ((iZ ((L : Int)))).toNatClampNeg))) (c2 := (30, [some (.inr (.inr (.inr (22, n, v)))), some (.inl (iZ (0))), some (.inl (iZ ((L : Int)))), some (.inl (iZ (((L : Int)) - 0))), some (.inr (.inr (.inr (22, L, (hN h)))))], [], (cpyI (grow h L) v 0 (hN h) 0 L))) (cpy_in (s := 0) (d := 0) (k := L) (by omega) (by omega) (by omega) (by omega) (by omega) (by omega) (by omega)) (by rw [iZ_ix (n := 0) (by omega) (by omega), iZ_ix (n := L) (by omega) (by omega)]; exact (fit_ok (fun j hj => by rw [Nat.zero_add]; exact bt j (by omega)))) rfl (by rw [cpy_c (s := 0) (d := 0) (k := L) (by omega) (by omega) (by omega) (by omega) (by omega) (by omega)]) ?_
  refine Ev.sts 1 (c' := (32, [some (.inr (.inr (.inr (22, n, v)))), some (.inl (iZ (0))), some (.inl (iZ ((L : Int)))), some (.inl (iZ (((L : Int)) - 0))), some (.inr (.inr (.inr (22, L, (hN h)))))], [.inr (.inr (.inr (22, L, (hN h))))], (cpyI (grow h L) v 0 (hN h) 0 L))) rfl ?_
  exact Ev.ret rfl (q)

seal sClone in
theorem ar_rg {d n v L : Nat} {h : PH} {Q : Rs → PH → Prop} (hL : L ≤ n) (hn : n ≤ 100000) (bt : ∀ j, j < n → byt (h.1 v j)) (q1 : Q (.inl (some (.inr (.inr (.inr (22, L, hN h)))))) (cpyI (grow h L) v 0 (hN h) 0 L)) (q2 : L = n → Q (.inl (some (.inr (.inr (.inr (22, n, hN h)))))) (cpyR (grow h n) v (hN h))) : Rn (d + 2) 221 [.inr (.inr (.inr (22, n, v))), .inl (iZ (0)), .inl (iZ ((L : Int)))] h Q := by
  refine Ev.sts 1 (c' := (1, [some (.inr (.inr (.inr (22, n, v)))), some (.inl (iZ (0))), some (.inl (iZ ((L : Int))))], [.inl (iZ (0))], h)) rfl ?_
  refine Ev.brF (p := ¬ (iZ (0)) = (iZ (0))) (c1 := (10, [some (.inr (.inr (.inr (22, n, v)))), some (.inl (iZ (0))), some (.inl (iZ ((L : Int))))], [], h)) (c2 := (4, [some (.inr (.inr (.inr (22, n, v)))), some (.inl (iZ (0))), some (.inl (iZ ((L : Int))))], [], h)) (by decide) rfl ?_
  refine Ev.sts 2 (c' := (6, [some (.inr (.inr (.inr (22, n, v)))), some (.inl (iZ (0))), some (.inl (iZ ((L : Int))))], [.inr (.inr (.inr (22, n, v))), .inl (iZ ((L : Int)))], h)) rfl ?_
  refine Ev.gv (w := (iZ (n))) rfl (iZ_nat _) ?_
  refine Ev.brc (p := (iZ ((L : Int))) = (iZ (n))) (q := (((L : Int) : Int)) = n) (c1 := (17, [some (.inr (.inr (.inr (22, n, v)))), some (.inl (iZ (0))), some (.inl (iZ ((L : Int))))], [], h)) (c2 := (10, [some (.inr (.inr (.inr (22, n, v)))), some (.inl (iZ (0))), some (.inl (iZ ((L : Int))))], [], h)) rfl (iZ_eq ⟨by omega, by omega⟩ ⟨by omega, by omega⟩) (fun c0 => ?_) (fun c0 => ?_)
  · refine Ev.sts 1 (c' := (18, [some (.inr (.inr (.inr (22, n, v)))), some (.inl (iZ (0))), some (.inl (iZ ((L : Int))))], [.inr (.inr (.inr (22, n, v)))], h)) rfl ?_
    refine Ev.cln (n := n) (v := v) (by omega) (fit_ok (fun j hj => by rw [Nat.zero_add]; exact bt j hj)) rfl rfl ?_
    refine Ev.sts 1 (c' := (24, [some (.inr (.inr (.inr (22, n, v)))), some (.inl (iZ (0))), some (.inl (iZ ((L : Int))))], [.inr (.inr (.inr (22, n, (hN h))))], (cpyR (grow h n) v (hN h)))) rfl ?_
    exact Ev.ret rfl (q2 (by omega))
  · refine Ev.sts 3 (c' := (13, [some (.inr (.inr (.inr (22, n, v)))), some (.inl (iZ (0))), some (.inl (iZ ((L : Int))))], [.inl (iZ ((L : Int))), .inl (iZ (0)), .inr (.inr (.inr (22, n, v)))], h)) rfl ?_
    refine Ev.callv (a := [.inr (.inr (.inr (22, n, v))), .inl (iZ (0)), .inl (iZ ((L : Int)))]) rfl (ar_range (by omega) (by omega) bt) ?_
    exact Ev.ret rfl (q1)

/-- h1 has one row more, the first L of v -/
def cpB (h h1 : PH) (v L : Nat) : Prop := h1.2.1 = h.2.1 ∧ h1.2.2.1 = h.2.2.1 ∧ hN h1 = hN h + 1 ∧ hS h1 = hS h + L ∧ (∀ x, x ≠ hN h → h1.1 x = h.1 x) ∧ ∀ j, j < L → h1.1 (hN h) j = h.1 v j
theorem ar_copy {d n v L : Nat} {h : PH} {Q : Rs → PH → Prop} (hL : L ≤ n) (hn : n ≤ 100000) (bt : ∀ j, j < n → byt (h.1 v j)) (q : ∀ h1, cpB h h1 v L → Q (.inl (some (.inr (.inr (.inr (22, L, hN h)))))) h1) : Rn (d + 2) 221 [.inr (.inr (.inr (22, n, v))), .inl (iZ (0)), .inl (iZ ((L : Int)))] h Q := by
  refine ar_rg hL hn bt (q _ ⟨rfl, rfl, rfl, rfl, fun x hx => cpy_oth hx, fun j hj => cpy_at hj⟩) (fun e => ?_)
  subst e
  exact q _ ⟨rfl, rfl, rfl, rfl, fun x hx => funext fun j => if_neg hx, fun j hj => if_pos rfl⟩
theorem st_init1 {d t a cap b L : Nat} {h : PH} {Q : Rs → PH → Prop} (e0 : h.2.2.1 a 0 = (22, cap, b)) (e1 : h.1 a 1 = iZ 0) (e3 : h.1 a 3 = iZ (L : Int)) (hL : L ≤ cap) (hc : cap ≤ 100000) (hb : t ≠ b) (bt : ∀ j, j < cap → byt (h.1 b j)) (q : ∀ h1, cpB (setI h t 1 (iZ 0)) h1 b L → Q (.inl none) (setR h1 t 0 (22, L, hN h))) : Rn (d + 3) 189 [.inr (.inr (.inr (14, 0, t))), .inr (.inr (.inr (15, 0, a))), .inr (.inr (.inr (0, 0, 0)))] h Q := by
  refine Ev.sts 3 (c' := (5, [some (.inr (.inr (.inr (14, 0, t)))), some (.inr (.inr (.inr (15, 0, a)))), some (.inr (.inr (.inr (0, 0, 0)))), none, none], [.inr (.inr (.inr (15, 0, a)))], h)) rfl ?_
  refine Ev.callv (a := [.inr (.inr (.inr (15, 0, a)))]) rfl (sb_getValue e0) ?_
  refine Ev.sts 2 (c' := (10, [some (.inr (.inr (.inr (14, 0, t)))), some (.inr (.inr (.inr (15, 0, a)))), some (.inr (.inr (.inr (0, 0, 0)))), some (.inr (.inr (.inr (22, cap, b)))), none], [.inr (.inr (.inr (15, 0, a)))], h)) rfl ?_
  refine Ev.callv (a := [.inr (.inr (.inr (15, 0, a)))]) rfl (sb_length e3) ?_
  refine Ev.sts 2 (c' := (16, [some (.inr (.inr (.inr (14, 0, t)))), some (.inr (.inr (.inr (15, 0, a)))), some (.inr (.inr (.inr (0, 0, 0)))), some (.inr (.inr (.inr (22, cap, b)))), some (.inl (iZ ((L : Int))))], [.inr (.inr (.inr (15, 0, a)))], h)) rfl ?_
  refine Ev.callv (a := [.inr (.inr (.inr (15, 0, a)))]) rfl (sb_isL e1) ?_
  refine Ev.brF (p := (iZ (1)) = (iZ (0))) (c1 := (41, [some (.inr (.inr (.inr (14, 0, t)))), some (.inr (.inr (.inr (15, 0, a)))), some (.inr (.inr (.inr (0, 0, 0)))), some (.inr (.inr (.inr (22, cap, b)))), some (.inl (iZ ((L : Int))))], [], h)) (c2 := (22, [some (.inr (.inr (.inr (14, 0, t)))), some (.inr (.inr (.inr (15, 0, a)))), some (.inr (.inr (.inr (0, 0, 0)))), some (.inr (.inr (.inr (22, cap, b)))), some (.inl (iZ ((L : Int))))], [], h)) (by decide) rfl ?_
  refine Ev.sts 2 (c' := (24, [some (.inr (.inr (.inr (14, 0, t)))), some (.inr (.inr (.inr (15, 0, a)))), some (.inr (.inr (.inr (0, 0, 0)))), some (.inr (.inr (.inr (22, cap, b)))), some (.inl (iZ ((L : Int))))], [.inl (iZ (0)), .inr (.inr (.inr (14, 0, t)))], h)) rfl ?_
  refine Ev.stB (c' := (27, [some (.inr (.inr (.inr (14, 0, t)))), some (.inr (.inr (.inr (15, 0, a)))), some (.inr (.inr (.inr (0, 0, 0)))), some (.inr (.inr (.inr (22, cap, b)))), some (.inl (iZ ((L : Int))))], [], (setI h t 1 (iZ (0))))) (x := iZ 0) (by decide) rfl ?_
  refine Ev.sts 4 (c' := (32, [some (.inr (.inr (.inr (14, 0, t)))), some (.inr (.inr (.inr (15, 0, a)))), some (.inr (.inr (.inr (0, 0, 0)))), some (.inr (.inr (.inr (22, cap, b)))), some (.inl (iZ ((L : Int))))], [.inl (iZ ((L : Int))), .inl (iZ (0)), .inr (.inr (.inr (22, cap, b))), .inr (.inr (.inr (14, 0, t)))], (setI h t 1 (iZ (0))))) rfl ?_
  refine Ev.callw (a := [.inr (.inr (.inr (22, cap, b))), .inl (iZ (0)), .inl (iZ ((L : Int)))]) rfl (ar_copy (h := setI h t 1 (iZ 0)) (n := cap) (v := b) hL hc (fun j hj => by rw [setI_oth (fun z => hb z.symm)]; exact bt j hj) (fun h1 w => ?_))
  refine Ev.sts 2 (c' := (97, [some (.inr (.inr (.inr (14, 0, t)))), some (.inr (.inr (.inr (15, 0, a)))), some (.inr (.inr (.inr (0, 0, 0)))), some (.inr (.inr (.inr (22, cap, b)))), some (.inl (iZ ((L : Int))))], [], (setR h1 t 0 (22, L, (hN h))))) rfl ?_
  exact Ev.ret rfl (q h1 w)

theorem st_init {d t a cap b L : Nat} {h : PH} {Q : Rs → PH → Prop} (e0 : h.2.2.1 a 0 = (22, cap, b)) (e1 : h.1 a 1 = iZ 0) (e3 : h.1 a 3 = iZ (L : Int)) (hL : L ≤ cap) (hc : cap ≤ 100000) (hb : t ≠ b) (bt : ∀ j, j < cap → byt (h.1 b j)) (q : ∀ h1, cpB (setI h t 1 (iZ 0)) h1 b L → Q (.inl none) (setR h1 t 0 (22, L, hN h))) : Rn (d + 4) 188 [.inr (.inr (.inr (14, 0, t))), .inr (.inr (.inr (15, 0, a)))] h Q := by
  refine Ev.sts 3 (c' := (3, [some (.inr (.inr (.inr (14, 0, t)))), some (.inr (.inr (.inr (15, 0, a))))], [.inr (.inr (.inr (0, 0, 0))), .inr (.inr (.inr (15, 0, a))), .inr (.inr (.inr (14, 0, t)))], h)) rfl ?_
  refine Ev.callw (a := [.inr (.inr (.inr (14, 0, t))), .inr (.inr (.inr (15, 0, a))), .inr (.inr (.inr (0, 0, 0)))]) rfl (st_init1 e0 e1 e3 hL hc hb bt (fun h1 w => ?_))
  exact Ev.ret rfl (q h1 w)

theorem st_txt {h h1 : PH} {N lo a cap b : Nat} {T : List Int} (hlo : lo < N) (hN0 : N ≤ hN h) (s : sbR h N a cap b T) (w : cpB (setI (grow h 4) (hN h) 1 (iZ 0)) h1 b T.length) : txR (setR h1 (hN h) 0 (22, T.length, hN h + 1)) lo (hN (setR h1 (hN h) 0 (22, T.length, hN h + 1))) (14, 0, hN h) T ∧ Kp N nA h (setR h1 (hN h) 0 (22, T.length, hN h + 1)) ∧ hN (setR h1 (hN h) 0 (22, T.length, hN h + 1)) = hN h + 2 ∧ hS (setR h1 (hN h) 0 (22, T.length, hN h + 1)) = hS h + 4 + T.length := by
  obtain ⟨w1, w2, w3, w4, w5, w6⟩ := w
  have l4 := s.1.2.2.2.1
  have n0 : hN (setI (grow h 4) (hN h) 1 (iZ 0)) = hN h + 1 := rfl
  have m0 : hS (setI (grow h 4) (hN h) 1 (iZ 0)) = hS h + 4 := rfl
  have n1 : hN (setR h1 (hN h) 0 (22, T.length, hN h + 1)) = hN h1 := rfl
  have m1 : hS (setR h1 (hN h) 0 (22, T.length, hN h + 1)) = hS h1 := rfl
  rw [n0] at w3 w5 w6
  rw [m0] at w4
  refine ⟨.inr ⟨hN h, hN h + 1, rfl, ⟨by omega, by omega, by omega, by omega⟩, setR_self _ _ _ _, ?_, fun j hj => ?_⟩, ⟨rfl, fun x x1 _ => ⟨?_, ?_⟩, fun x hx => ?_, by omega⟩, by omega, by omega⟩
  · rw [setR_1, w5 _ (by omega)]; exact setI_self _ _ _ _
  · rw [setR_1, w6 j hj, setI_oth (by omega)]; exact s.2.2.2.2.2.1 j hj
  · rw [setR_1, w5 _ (by omega), setI_oth (by omega)]; rfl
  · rw [setR_oth (by omega), w2]; rfl
  · rw [setR_1, w5 _ (by omega), setI_oth (by omega)]; rfl
theorem sb_toString {d N lo a cap b : Nat} {T : List Int} {h : PH} {Q : Rs → PH → Prop} (s : sbR h N a cap b T) (hlo : lo < N) (hN0 : N ≤ hN h) (hc : cap ≤ 100000) (q : ∀ h1 ra, txR h1 lo (hN h1) (14, 0, ra) T → Kp N nA h h1 → hN h1 = hN h + 2 → hS h1 = hS h + 4 + T.length → Q (.inl (some (.inr (.inr (.inr (14, 0, ra)))))) h1) : Rn (d + 5) 195 [.inr (.inr (.inr (15, 0, a)))] h Q := by
  obtain ⟨e0, e1, e3, e6⟩ := sbR_at s
  refine Ev.sts 3 (c' := (5, [some (.inr (.inr (.inr (15, 0, a))))], [.inr (.inr (.inr (15, 0, a))), .inr (.inr (.inr (14, 0, (hN h)))), .inr (.inr (.inr (14, 0, (hN h))))], (grow h 4))) rfl ?_
  refine Ev.callw (a := [.inr (.inr (.inr (14, 0, (hN h)))), .inr (.inr (.inr (15, 0, a)))]) rfl (st_init (h := grow h 4) (t := hN h) (L := T.length) e0 e1 e3 s.2.2.2.2.1 hc (by have := s.1; omega) e6 (fun h1 w => ?_))
  obtain ⟨x1, x2, x3, x4⟩ := st_txt hlo hN0 s w
  exact Ev.ret rfl (q _ _ x1 x2 x3 x4)

theorem sb_init0 {d a : Nat} {h : PH} : Rv d 199 [.inr (.inr (.inr (15, 0, a))), .inl (iZ (16))] h (none) (setI (setR (grow h 16) a 0 (22, 16, (hN h))) a 1 (iZ (0))) := Rv.of fun Q q => by
  refine Ev.sts 3 (c' := (7, [some (.inr (.inr (.inr (15, 0, a)))), some (.inl (iZ (16)))], [.inl (iZ (1))], h)) rfl ?_
  refine Ev.brF (p := (iZ (1)) = (iZ (0))) (c1 := (25, [some (.inr (.inr (.inr (15, 0, a)))), some (.inl (iZ (16)))], [], h)) (c2 := (10, [some (.inr (.inr (.inr (15, 0, a)))), some (.inl (iZ (16)))], [], h)) (by decide) rfl ?_
  refine Ev.sts 2 (c' := (12, [some (.inr (.inr (.inr (15, 0, a)))), some (.inl (iZ (16)))], [.inl (iZ (16)), .inr (.inr (.inr (15, 0, a)))], h)) rfl ?_
  refine Ev.sts 1 (c' := (14, [some (.inr (.inr (.inr (15, 0, a)))), some (.inl (iZ (16)))], [.inr (.inr (.inr (22, 16, (hN h)))), .inr (.inr (.inr (15, 0, a)))], (grow h 16))) rfl ?_
  refine Ev.sts 3 (c' := (19, [some (.inr (.inr (.inr (15, 0, a)))), some (.inl (iZ (16)))], [.inl (iZ (0)), .inr (.inr (.inr (15, 0, a)))], (setR (grow h 16) a 0 (22, 16, (hN h))))) rfl ?_
  refine Ev.stB (c' := (22, [some (.inr (.inr (.inr (15, 0, a)))), some (.inl (iZ (16)))], [], (setI (setR (grow h 16) a 0 (22, 16, (hN h))) a 1 (iZ (0))))) (x := iZ 0) (by decide) rfl ?_
  refine Ev.sts 1 (c' := (38, [some (.inr (.inr (.inr (15, 0, a)))), some (.inl (iZ (16)))], [], (setI (setR (grow h 16) a 0 (22, 16, (hN h))) a 1 (iZ (0))))) rfl ?_
  exact Ev.ret rfl (q)

theorem sb_init {d a : Nat} {h : PH} : Rv (d + 1) 193 [.inr (.inr (.inr (15, 0, a)))] h (none) (setI (setR (grow h 16) a 0 (22, 16, (hN h))) a 1 (iZ (0))) := Rv.of fun Q q => by
  refine Ev.sts 2 (c' := (3, [some (.inr (.inr (.inr (15, 0, a))))], [.inl (iZ (16)), .inr (.inr (.inr (15, 0, a)))], h)) rfl ?_
  refine Ev.callv (a := [.inr (.inr (.inr (15, 0, a))), .inl (iZ (16))]) rfl sb_init0 ?_
  exact Ev.ret rfl (q)

/-- the new builder -/
def newB (h : PH) : PH := setI (setR (grow (grow h 4) 16) (hN h) 0 (22, 16, hN h + 1)) (hN h) 1 (iZ (0))
theorem newB_s {h : PH} (z : Zr h) : sbR (newB h) (hN h) (hN h) 16 (hN h + 1) [] ∧ Kp (hN h) nA h (newB h) ∧ hN (newB h) = hN h + 2 ∧ hS (newB h) = hS h + 20 := by
  have n : hN (newB h) = hN h + 2 := rfl
  have e : ∀ x k, ¬ (x = hN h ∧ k = 1) → (newB h).1 x k = h.1 x k := fun x k c => setI_ne c
  refine ⟨⟨⟨Nat.le_refl _, by omega, by omega, by omega, by omega⟩, setR_self _ _ _ _, setI_self _ _ _ _, by rw [e _ _ (by omega), z _ (Nat.le_refl _)]; rfl, by decide, fun j hj => absurd hj (Nat.not_lt_zero _), fun j hj => ?_⟩, ⟨rfl, fun x x1 _ => ⟨funext fun k => e x k (by omega), setR_oth (by omega)⟩, fun x hx => funext fun k => e x k (by omega), by omega⟩, n, rfl⟩
  rw [e _ _ (by omega), z _ (Nat.le_succ _)]
  exact byt_i 0 (by decide)
theorem la_idx {d : Nat} {i n : Int} {f : VR} {h : PH} (hi : 0 ≤ i ∧ i < n) (hn : n ≤ 100000) : Rv d 212 [.inl (iZ (i)), .inl (iZ (n)), .inr (.inr (.inr (f)))] h (some (.inl (iZ (i)))) h := Rv.of fun Q q => by
  refine Ev.sts 1 (c' := (1, [some (.inl (iZ (i))), some (.inl (iZ (n))), some (.inr (.inr (.inr (f))))], [.inl (iZ (i))], h)) rfl ?_
  refine Ev.brF (p := (iZ (i)) < (iZ (0))) (c1 := (9, [some (.inl (iZ (i))), some (.inl (iZ (n))), some (.inr (.inr (.inr (f))))], [], h)) (c2 := (4, [some (.inl (iZ (i))), some (.inl (iZ (n))), some (.inr (.inr (.inr (f))))], [], h)) (fun c_ => absurd ((iZ_lt ⟨by omega, by omega⟩ ⟨by omega, by omega⟩).mp c_) (by omega)) rfl ?_
  refine Ev.sts 2 (c' := (6, [some (.inl (iZ (i))), some (.inl (iZ (n))), some (.inr (.inr (.inr (f))))], [.inl (iZ (n)), .inl (iZ (i))], h)) rfl ?_
  refine Ev.brT (p := (iZ (i)) < (iZ (n))) (c1 := (16, [some (.inl (iZ (i))), some (.inl (iZ (n))), some (.inr (.inr (.inr (f))))], [], h)) (c2 := (9, [some (.inl (iZ (i))), some (.inl (iZ (n))), some (.inr (.inr (.inr (f))))], [], h)) ((iZ_lt ⟨by omega, by omega⟩ ⟨by omega, by omega⟩).mpr (by omega)) rfl ?_
  refine Ev.sts 1 (c' := (17, [some (.inl (iZ (i))), some (.inl (iZ (n))), some (.inr (.inr (.inr (f))))], [.inl (iZ (i))], h)) rfl ?_
  exact Ev.ret rfl (q)

