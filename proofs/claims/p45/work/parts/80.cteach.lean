/-! The class teaches. -/
theorem shL_p : ∀ t ∈ shL, t.1 ≠ 19 ∧ t.1 ≠ 74 := by decide
theorem Sh_fT {h h1 : PH} {b : Nat} (hb : b = 13 ∨ b = 68) (s : Sh h) (f : fTt b h h1) : Sh h1 := fun t ht => by
  have g := shL_g t ht
  have g2 := shL_p t ht
  have g3 := shL_6 t ht
  rw [f.2.2.2 t.1 t.2.1 (by omega)]
  exact s t ht
theorem pgC_sl {h : PH} {b x y : Nat} {P : List Cmd} (p : pgC h b 0 P) (hx : x ≤ y) (hy : y ≤ P.length) : pgC h b x (slP P x y) := by
  intro j hj
  rw [slP_len hx hy] at hj
  have e : (slP P x y).getD j (3, 0) = P.getD (x + j) (3, 0) := by
    unfold slP
    rw [List.getD_eq_getElem?_getD, List.getD_eq_getElem?_getD, List.getElem?_take_of_lt hj, List.getElem?_drop]
  rw [e]
  have q := p (x + j) (by omega)
  rw [Nat.zero_add] at q
  exact q
/-- the class's book out of its reading -/
theorem bkC_O {h : PH} {b p : Nat} {T : List Tok} {s : Sm} (l : LCs h b T p s) (ok : smOk s) (e : (smE s).1 = 0) : bkC h b (bkO s) := by
  obtain ⟨q, ⟨m1, m2, m3⟩, ⟨t1, t2⟩, ⟨x1, x2⟩⟩ := l
  obtain ⟨n1, n2, n3, n4, n5, n6⟩ := qc_nm q
  obtain ⟨r1, r2, r3⟩ := qc_pr q
  obtain ⟨h1, h2, h3, h4, h5, h6, h7⟩ := ok
  obtain ⟨m, g⟩ := h7 e
  refine ⟨?_, ?_, ?_, fun f hf => ?_, fun j hj => ?_⟩
  · show moC h b (if smM s = [] then [5] else smM s)
    by_cases c : smM s = []
    · rw [if_pos c]
      rw [c] at m1
      exact .inl ⟨m1, rfl⟩
    · rw [if_neg c]
      exact .inr ⟨m1, m3⟩
  · show h.1 b 6 = iZ ((smT s).map (fun t => slP (smP s) t.1 t.2)).length
    rw [List.length_map, t1]; exact n1
  · show h.1 b 7 = iZ ((smX s).map (gsO (smP s))).length
    rw [List.length_map, x1]; exact n4
  · replace hf : f < ((smT s).map (fun t => slP (smP s) t.1 t.2)).length := hf
    rw [List.length_map] at hf
    show tsC h b f (((smT s).map (fun t => slP (smP s) t.1 t.2)).getD f [])
    rw [mapgD _ _ (0, 0) _ _ hf]
    obtain ⟨g1, g2, -⟩ := h6 _ (getD_mem (d := (0, 0)) hf)
    obtain ⟨c1, c2⟩ := t2 f hf
    generalize (smT s).getD f (0, 0) = t at g1 g2 c1 c2
    have sl := slP_len g1 g2
    exact ⟨t.1, by rw [sl]; omega, c1, by rw [sl, show t.1 + (t.2 - t.1) = t.2 by omega]; exact c2, pgC_sl r3 g1 g2⟩
  · replace hj : j < ((smX s).map (gsO (smP s))).length := hj
    rw [List.length_map] at hj
    show gsC h b j (((smX s).map (gsO (smP s))).getD j g0)
    rw [mapgD _ _ gc0 _ _ hj]
    obtain ⟨g1, g2, g3, g4, g5, g6, g7, g8, g9, g10, g11, g12, g13, g14⟩ := g _ (getD_mem (d := gc0) hj)
    obtain ⟨c0, c1, c2, c3, c4, c5, c6⟩ := x2 j hj
    generalize (smX s).getD j gc0 = x at g1 g2 g3 g4 g5 g6 g7 g8 g9 g10 g11 g12 g13 g14 c0 c1 c2 c3 c4 c5 c6
    have sl := slP_len g1 g2
    refine ⟨?_, ?_, c2, ?_, c4, x.2.2.2.2.2.1, ?_, c5, ?_, ?_⟩
    · show h.1 (b + 9 + j) 0 = iZ (x.1.toNat : Int)
      rw [show (x.1.toNat : Int) = x.1 by omega]; exact c0
    · show h.1 (b + 9 + j) 1 = iZ (if (if x.2.1 = 1 then 0 else x.2.2.2.1) = 0 then 1 else 0)
      rw [c1]
      rcases g5 with y | y
      · rw [y, show (if (0 : Nat) = 1 then (0 : Int) else x.2.2.2.1) = x.2.2.2.1 from if_neg (by decide), if_neg (by omega)]; rfl
      · rw [y, if_pos rfl, if_pos rfl]; rfl
    · show h.1 (b + 9 + j) 3 = iZ (if (if x.2.1 = 1 then 0 else x.2.2.2.1) = 0 then 1 else (if x.2.1 = 1 then 0 else x.2.2.2.1))
      rw [c3]
      rcases g5 with y | y
      · rw [y, show (if (0 : Nat) = 1 then (0 : Int) else x.2.2.2.1) = x.2.2.2.1 from if_neg (by decide), if_neg (by omega)]
      · rw [y, if_pos rfl, if_pos rfl, g10 y]
    · show x.2.2.2.2.2.1 + (slP (smP s) x.2.2.2.2.2.1 x.2.2.2.2.2.2).length ≤ 400
      rw [sl]; omega
    · show h.1 (b + 9 + j) 6 = iZ ((x.2.2.2.2.2.1 + (slP (smP s) x.2.2.2.2.2.1 x.2.2.2.2.2.2).length : Nat) : Int)
      rw [sl, show x.2.2.2.2.2.1 + (x.2.2.2.2.2.2 - x.2.2.2.2.2.1) = x.2.2.2.2.2.2 by omega]; exact c6
    · exact pgC_sl r3 g1 g2
theorem bkC_T {h h1 : PH} {b : Nat} {B : Bk} (hg : B.2.2.length ≤ 6) (e1 : ∀ a, b ≤ a → a ≤ b + 14 → h1.1 a = h.1 a) (e2 : ∀ a, b ≤ a → a ≤ b + 14 → h1.2.2.1 a = h.2.2.1 a) (k : bkC h b B) : bkC h1 b B := by
  obtain ⟨k1, k2, k3, k4, k5⟩ := k
  have pg : ∀ x l, pgC h b x l → pgC h1 b x l := fun x l p j hj => by
    rw [e2 (b + 6) (by omega) (by omega), e1 (b + 7) (by omega) (by omega)]; exact p j hj
  refine ⟨?_, by rw [e1 b (by omega) (by omega)]; exact k2, by rw [e1 b (by omega) (by omega)]; exact k3, fun f hf => ?_, fun g hg2 => ?_⟩
  · unfold moC
    rw [e1 b (by omega) (by omega), e1 (b + 1) (by omega) (by omega)]; exact k1
  · obtain ⟨x, x1, x2, x3, x4⟩ := k4 f hf
    exact ⟨x, x1, by rw [e1 (b + 2) (by omega) (by omega)]; exact x2, by rw [e1 (b + 3) (by omega) (by omega)]; exact x3, pg _ _ x4⟩
  · obtain ⟨c0, c1, c2, c3, c4, x, c5, c6, c7, c8⟩ := k5 g hg2
    have eg := e1 (b + 9 + g) (by omega) (by omega)
    exact ⟨by rw [eg]; exact c0, by rw [eg]; exact c1, by rw [eg]; exact c2, by rw [eg]; exact c3, by rw [e2 (b + 9 + g) (by omega) (by omega)]; exact c4, x, c5, by rw [eg]; exact c6, by rw [eg]; exact c7, pg _ _ c8⟩
/-- nothing but the class's own cells has changed -/
def fW (h h1 : PH) : Prop := h1.2.2.2 = h.2.2.2 ∧ ∀ a, ¬ pCl a → h1.1 a = h.1 a ∧ h1.2.1 a = h.2.1 a ∧ h1.2.2.1 a = h.2.2.1 a
theorem fW_t {h h1 h2 : PH} (a : fW h h1) (c : fW h1 h2) : fW h h2 := ⟨c.1.trans a.1, fun x hx => ⟨(c.2 x hx).1.trans (a.2 x hx).1, (c.2 x hx).2.1.trans (a.2 x hx).2.1, (c.2 x hx).2.2.trans (a.2 x hx).2.2⟩⟩
theorem fW_T {h h1 : PH} {b : Nat} (hb : b = 13 ∨ b = 68) (f : fTt b h h1) : fW h h1 := ⟨f.1, fun a ha => by
  unfold pCl at ha
  exact ⟨f.2.1 a (by omega) (by omega) (by omega) (by omega) (by omega) (by omega), f.2.2.1 a (by omega) (by omega) (by omega), funext fun k => f.2.2.2 a k (by omega)⟩⟩
theorem fW_I {h : PH} {a k : Nat} {v : Int32} (ha : pCl a) : fW h (setI h a k v) := ⟨rfl, fun c hc => ⟨setI_oth (fun z => hc (by rw [z]; exact ha)), rfl, rfl⟩⟩
theorem fW_R {h : PH} {a k : Nat} {v : VR} (ha : pCl a) : fW h (setR h a k v) := ⟨rfl, fun c hc => ⟨rfl, rfl, setR_oth (fun z => hc (by rw [z]; exact ha))⟩⟩
theorem tlC_T {h h1 : PH} {TL : List Tel} {n : Nat} {q : Q5} (t : tlC h TL n q) (eN : hN h1 = hN h) (e5 : h1.1 62 5 = h.1 62 5) (er : h1.2.2.1 62 = h.2.2.1 62) (ei : ∀ a, qO a (hN h) → h1.1 a = h.1 a) : tlC h1 TL n q := by
  obtain ⟨t1, t2, t3, t4, t5, t6⟩ := t
  have d := t5
  obtain ⟨d1, d2, d3, d4, d5, -⟩ := d
  refine ⟨by rw [e5]; exact t1, t2, t3, ?_, by rw [eN]; exact t5, fun j hj => ?_⟩
  · unfold qR
    rw [er]; exact t4
  · unfold qT
    rw [ei _ d1, ei _ d2, ei _ d3, ei _ d4, ei _ d5]
    exact t6 j hj
def terS (S : Sta) : Sta := mkS [] (rdE (lex (tpS S))).2 (bkS S) (csS S) (ntS S) (grS S) (wmS S) (wdS S) (ltS S) (tlS S)
def tauS (S : Sta) : Sta := mkS [] (rdE (lex (tpS S))).2 (bkO (rdS (lex (tpS S)))) [] 0 (-1) 0 (fun _ => []) (fun _ => 0) []
theorem tc_wclr {d a : Nat} {h : PH} : Rv d 159 [.inr (.inr (.inr (10, 0, a)))] h (none) (setI (setI h a 4 ((iZ (0)))) a 5 ((iZ (0)))) := Rv.of fun Q q => by
  refine Ev.sts 6 (c' := (10, [some (.inr (.inr (.inr (10, 0, a))))], [], (setI (setI h a 4 ((iZ (0)))) a 5 ((iZ (0)))))) rfl ?_
  exact Ev.ret rfl (q)

/-- the class begins anew -/
def anH (h : PH) : PH := (setI (setI (setI (setI (setI (setI (setI (setI (setI (setI (setI (setI (setI (setI (setI (setI (setI h 1 8 ((iZ (0)))) 1 9 ((iZ (0)))) 1 10 ((iZ (-1)))) 1 11 ((iZ (0)))) 62 5 ((iZ (0)))) 32 4 ((iZ (0)))) 32 5 ((iZ (0)))) 37 4 ((iZ (0)))) 37 5 ((iZ (0)))) 42 4 ((iZ (0)))) 42 5 ((iZ (0)))) 47 4 ((iZ (0)))) 47 5 ((iZ (0)))) 52 4 ((iZ (0)))) 52 5 ((iZ (0)))) 57 4 ((iZ (0)))) 57 5 ((iZ (0))))
theorem tc_anew {d : Nat} {h : PH} (sh : Sh h) : Rv (d + 1) 80 [.inr (.inr (.inr (1, 0, 1)))] h (none) (anH h) := Rv.of fun Q q => by
  refine Ev.sts 13 (c' := (21, [some (.inr (.inr (.inr (1, 0, 1)))), none], [.inr (.inr (.inr (1, 0, 1)))], (setI (setI (setI (setI h 1 8 ((iZ (0)))) 1 9 ((iZ (0)))) 1 10 ((iZ (-1)))) 1 11 ((iZ (0)))))) rfl ?_
  refine Ev.gfr (r := (8, 0, 62)) rfl (sh_1_6 (h := h) sh) ?_
  refine Ev.sts 6 (c' := (32, [some (.inr (.inr (.inr (1, 0, 1)))), some (.inl (iZ (0)))], [.inr (.inr (.inr (1, 0, 1))), .inl (iZ (0))], (setI (setI (setI (setI (setI h 1 8 ((iZ (0)))) 1 9 ((iZ (0)))) 1 10 ((iZ (-1)))) 1 11 ((iZ (0)))) 62 5 ((iZ (0)))))) rfl ?_
  refine Ev.gfr (r := (25, 6, 31)) rfl (sh_1_5 (h := h) sh) ?_
  refine Ev.sts 1 (c' := (36, [some (.inr (.inr (.inr (1, 0, 1)))), some (.inl (iZ (0)))], [.inl (iZ (6)), .inl (iZ (0))], (setI (setI (setI (setI (setI h 1 8 ((iZ (0)))) 1 9 ((iZ (0)))) 1 10 ((iZ (-1)))) 1 11 ((iZ (0)))) 62 5 ((iZ (0)))))) rfl ?_
  refine Ev.brF (p := (iZ (6)) ≤ (iZ (0))) (c1 := (54, [some (.inr (.inr (.inr (1, 0, 1)))), some (.inl (iZ (0)))], [], (setI (setI (setI (setI (setI h 1 8 ((iZ (0)))) 1 9 ((iZ (0)))) 1 10 ((iZ (-1)))) 1 11 ((iZ (0)))) 62 5 ((iZ (0)))))) (c2 := (39, [some (.inr (.inr (.inr (1, 0, 1)))), some (.inl (iZ (0)))], [], (setI (setI (setI (setI (setI h 1 8 ((iZ (0)))) 1 9 ((iZ (0)))) 1 10 ((iZ (-1)))) 1 11 ((iZ (0)))) 62 5 ((iZ (0)))))) (by decide) rfl ?_
  refine Ev.sts 1 (c' := (40, [some (.inr (.inr (.inr (1, 0, 1)))), some (.inl (iZ (0)))], [.inr (.inr (.inr (1, 0, 1)))], (setI (setI (setI (setI (setI h 1 8 ((iZ (0)))) 1 9 ((iZ (0)))) 1 10 ((iZ (-1)))) 1 11 ((iZ (0)))) 62 5 ((iZ (0)))))) rfl ?_
  refine Ev.gfr (r := (25, 6, 31)) rfl (sh_1_5 (h := h) sh) ?_
  refine Ev.sts 1 (c' := (44, [some (.inr (.inr (.inr (1, 0, 1)))), some (.inl (iZ (0)))], [.inl (iZ (0)), .inr (.inr (.inr (25, 6, 31)))], (setI (setI (setI (setI (setI h 1 8 ((iZ (0)))) 1 9 ((iZ (0)))) 1 10 ((iZ (-1)))) 1 11 ((iZ (0)))) 62 5 ((iZ (0)))))) rfl ?_
  refine Ev.ldv (j := (iZ (0))) (n := 6) (w := .inr (.inr (.inr (10, 0, 32)))) (by decide) rfl (congrArg vR (sh_31_0 (h := h) sh)) ?_
  refine Ev.callv (a := [.inr (.inr (.inr (10, 0, 32)))]) rfl (tc_wclr (a := 32)) ?_
  refine Ev.stc (c1 := (51, [some (.inr (.inr (.inr (1, 0, 1)))), some (.inl ((iZ (0)) + (iZ (1))))], [], (setI (setI (setI (setI (setI (setI (setI h 1 8 ((iZ (0)))) 1 9 ((iZ (0)))) 1 10 ((iZ (-1)))) 1 11 ((iZ (0)))) 62 5 ((iZ (0)))) 32 4 ((iZ (0)))) 32 5 ((iZ (0)))))) (c2 := (51, [some (.inr (.inr (.inr (1, 0, 1)))), some (.inl (iZ (1)))], [], (setI (setI (setI (setI (setI (setI (setI h 1 8 ((iZ (0)))) 1 9 ((iZ (0)))) 1 10 ((iZ (-1)))) 1 11 ((iZ (0)))) 62 5 ((iZ (0)))) 32 4 ((iZ (0)))) 32 5 ((iZ (0)))))) rfl (by rw [iZ_add]; rfl) ?_
  refine Ev.sts 3 (c' := (32, [some (.inr (.inr (.inr (1, 0, 1)))), some (.inl (iZ (1)))], [.inr (.inr (.inr (1, 0, 1))), .inl (iZ (1))], (setI (setI (setI (setI (setI (setI (setI h 1 8 ((iZ (0)))) 1 9 ((iZ (0)))) 1 10 ((iZ (-1)))) 1 11 ((iZ (0)))) 62 5 ((iZ (0)))) 32 4 ((iZ (0)))) 32 5 ((iZ (0)))))) rfl ?_
  refine Ev.gfr (r := (25, 6, 31)) rfl (sh_1_5 (h := h) sh) ?_
  refine Ev.sts 1 (c' := (36, [some (.inr (.inr (.inr (1, 0, 1)))), some (.inl (iZ (1)))], [.inl (iZ (6)), .inl (iZ (1))], (setI (setI (setI (setI (setI (setI (setI h 1 8 ((iZ (0)))) 1 9 ((iZ (0)))) 1 10 ((iZ (-1)))) 1 11 ((iZ (0)))) 62 5 ((iZ (0)))) 32 4 ((iZ (0)))) 32 5 ((iZ (0)))))) rfl ?_
  refine Ev.brF (p := (iZ (6)) ≤ (iZ (1))) (c1 := (54, [some (.inr (.inr (.inr (1, 0, 1)))), some (.inl (iZ (1)))], [], (setI (setI (setI (setI (setI (setI (setI h 1 8 ((iZ (0)))) 1 9 ((iZ (0)))) 1 10 ((iZ (-1)))) 1 11 ((iZ (0)))) 62 5 ((iZ (0)))) 32 4 ((iZ (0)))) 32 5 ((iZ (0)))))) (c2 := (39, [some (.inr (.inr (.inr (1, 0, 1)))), some (.inl (iZ (1)))], [], (setI (setI (setI (setI (setI (setI (setI h 1 8 ((iZ (0)))) 1 9 ((iZ (0)))) 1 10 ((iZ (-1)))) 1 11 ((iZ (0)))) 62 5 ((iZ (0)))) 32 4 ((iZ (0)))) 32 5 ((iZ (0)))))) (by decide) rfl ?_
  refine Ev.sts 1 (c' := (40, [some (.inr (.inr (.inr (1, 0, 1)))), some (.inl (iZ (1)))], [.inr (.inr (.inr (1, 0, 1)))], (setI (setI (setI (setI (setI (setI (setI h 1 8 ((iZ (0)))) 1 9 ((iZ (0)))) 1 10 ((iZ (-1)))) 1 11 ((iZ (0)))) 62 5 ((iZ (0)))) 32 4 ((iZ (0)))) 32 5 ((iZ (0)))))) rfl ?_
  refine Ev.gfr (r := (25, 6, 31)) rfl (sh_1_5 (h := h) sh) ?_
  refine Ev.sts 1 (c' := (44, [some (.inr (.inr (.inr (1, 0, 1)))), some (.inl (iZ (1)))], [.inl (iZ (1)), .inr (.inr (.inr (25, 6, 31)))], (setI (setI (setI (setI (setI (setI (setI h 1 8 ((iZ (0)))) 1 9 ((iZ (0)))) 1 10 ((iZ (-1)))) 1 11 ((iZ (0)))) 62 5 ((iZ (0)))) 32 4 ((iZ (0)))) 32 5 ((iZ (0)))))) rfl ?_
  refine Ev.ldv (j := (iZ (1))) (n := 6) (w := .inr (.inr (.inr (10, 0, 37)))) (by decide) rfl (congrArg vR (sh_31_1 (h := h) sh)) ?_
  refine Ev.callv (a := [.inr (.inr (.inr (10, 0, 37)))]) rfl (tc_wclr (a := 37)) ?_
  refine Ev.stc (c1 := (51, [some (.inr (.inr (.inr (1, 0, 1)))), some (.inl ((iZ (1)) + (iZ (1))))], [], (setI (setI (setI (setI (setI (setI (setI (setI (setI h 1 8 ((iZ (0)))) 1 9 ((iZ (0)))) 1 10 ((iZ (-1)))) 1 11 ((iZ (0)))) 62 5 ((iZ (0)))) 32 4 ((iZ (0)))) 32 5 ((iZ (0)))) 37 4 ((iZ (0)))) 37 5 ((iZ (0)))))) (c2 := (51, [some (.inr (.inr (.inr (1, 0, 1)))), some (.inl (iZ (2)))], [], (setI (setI (setI (setI (setI (setI (setI (setI (setI h 1 8 ((iZ (0)))) 1 9 ((iZ (0)))) 1 10 ((iZ (-1)))) 1 11 ((iZ (0)))) 62 5 ((iZ (0)))) 32 4 ((iZ (0)))) 32 5 ((iZ (0)))) 37 4 ((iZ (0)))) 37 5 ((iZ (0)))))) rfl (by rw [iZ_add]; rfl) ?_
  refine Ev.sts 3 (c' := (32, [some (.inr (.inr (.inr (1, 0, 1)))), some (.inl (iZ (2)))], [.inr (.inr (.inr (1, 0, 1))), .inl (iZ (2))], (setI (setI (setI (setI (setI (setI (setI (setI (setI h 1 8 ((iZ (0)))) 1 9 ((iZ (0)))) 1 10 ((iZ (-1)))) 1 11 ((iZ (0)))) 62 5 ((iZ (0)))) 32 4 ((iZ (0)))) 32 5 ((iZ (0)))) 37 4 ((iZ (0)))) 37 5 ((iZ (0)))))) rfl ?_
  refine Ev.gfr (r := (25, 6, 31)) rfl (sh_1_5 (h := h) sh) ?_
  refine Ev.sts 1 (c' := (36, [some (.inr (.inr (.inr (1, 0, 1)))), some (.inl (iZ (2)))], [.inl (iZ (6)), .inl (iZ (2))], (setI (setI (setI (setI (setI (setI (setI (setI (setI h 1 8 ((iZ (0)))) 1 9 ((iZ (0)))) 1 10 ((iZ (-1)))) 1 11 ((iZ (0)))) 62 5 ((iZ (0)))) 32 4 ((iZ (0)))) 32 5 ((iZ (0)))) 37 4 ((iZ (0)))) 37 5 ((iZ (0)))))) rfl ?_
  refine Ev.brF (p := (iZ (6)) ≤ (iZ (2))) (c1 := (54, [some (.inr (.inr (.inr (1, 0, 1)))), some (.inl (iZ (2)))], [], (setI (setI (setI (setI (setI (setI (setI (setI (setI h 1 8 ((iZ (0)))) 1 9 ((iZ (0)))) 1 10 ((iZ (-1)))) 1 11 ((iZ (0)))) 62 5 ((iZ (0)))) 32 4 ((iZ (0)))) 32 5 ((iZ (0)))) 37 4 ((iZ (0)))) 37 5 ((iZ (0)))))) (c2 := (39, [some (.inr (.inr (.inr (1, 0, 1)))), some (.inl (iZ (2)))], [], (setI (setI (setI (setI (setI (setI (setI (setI (setI h 1 8 ((iZ (0)))) 1 9 ((iZ (0)))) 1 10 ((iZ (-1)))) 1 11 ((iZ (0)))) 62 5 ((iZ (0)))) 32 4 ((iZ (0)))) 32 5 ((iZ (0)))) 37 4 ((iZ (0)))) 37 5 ((iZ (0)))))) (by decide) rfl ?_
  refine Ev.sts 1 (c' := (40, [some (.inr (.inr (.inr (1, 0, 1)))), some (.inl (iZ (2)))], [.inr (.inr (.inr (1, 0, 1)))], (setI (setI (setI (setI (setI (setI (setI (setI (setI h 1 8 ((iZ (0)))) 1 9 ((iZ (0)))) 1 10 ((iZ (-1)))) 1 11 ((iZ (0)))) 62 5 ((iZ (0)))) 32 4 ((iZ (0)))) 32 5 ((iZ (0)))) 37 4 ((iZ (0)))) 37 5 ((iZ (0)))))) rfl ?_
  refine Ev.gfr (r := (25, 6, 31)) rfl (sh_1_5 (h := h) sh) ?_
  refine Ev.sts 1 (c' := (44, [some (.inr (.inr (.inr (1, 0, 1)))), some (.inl (iZ (2)))], [.inl (iZ (2)), .inr (.inr (.inr (25, 6, 31)))], (setI (setI (setI (setI (setI (setI (setI (setI (setI h 1 8 ((iZ (0)))) 1 9 ((iZ (0)))) 1 10 ((iZ (-1)))) 1 11 ((iZ (0)))) 62 5 ((iZ (0)))) 32 4 ((iZ (0)))) 32 5 ((iZ (0)))) 37 4 ((iZ (0)))) 37 5 ((iZ (0)))))) rfl ?_
  refine Ev.ldv (j := (iZ (2))) (n := 6) (w := .inr (.inr (.inr (10, 0, 42)))) (by decide) rfl (congrArg vR (sh_31_2 (h := h) sh)) ?_
  refine Ev.callv (a := [.inr (.inr (.inr (10, 0, 42)))]) rfl (tc_wclr (a := 42)) ?_
  refine Ev.stc (c1 := (51, [some (.inr (.inr (.inr (1, 0, 1)))), some (.inl ((iZ (2)) + (iZ (1))))], [], (setI (setI (setI (setI (setI (setI (setI (setI (setI (setI (setI h 1 8 ((iZ (0)))) 1 9 ((iZ (0)))) 1 10 ((iZ (-1)))) 1 11 ((iZ (0)))) 62 5 ((iZ (0)))) 32 4 ((iZ (0)))) 32 5 ((iZ (0)))) 37 4 ((iZ (0)))) 37 5 ((iZ (0)))) 42 4 ((iZ (0)))) 42 5 ((iZ (0)))))) (c2 := (51, [some (.inr (.inr (.inr (1, 0, 1)))), some (.inl (iZ (3)))], [], (setI (setI (setI (setI (setI (setI (setI (setI (setI (setI (setI h 1 8 ((iZ (0)))) 1 9 ((iZ (0)))) 1 10 ((iZ (-1)))) 1 11 ((iZ (0)))) 62 5 ((iZ (0)))) 32 4 ((iZ (0)))) 32 5 ((iZ (0)))) 37 4 ((iZ (0)))) 37 5 ((iZ (0)))) 42 4 ((iZ (0)))) 42 5 ((iZ (0)))))) rfl (by rw [iZ_add]; rfl) ?_
  refine Ev.sts 3 (c' := (32, [some (.inr (.inr (.inr (1, 0, 1)))), some (.inl (iZ (3)))], [.inr (.inr (.inr (1, 0, 1))), .inl (iZ (3))], (setI (setI (setI (setI (setI (setI (setI (setI (setI (setI (setI h 1 8 ((iZ (0)))) 1 9 ((iZ (0)))) 1 10 ((iZ (-1)))) 1 11 ((iZ (0)))) 62 5 ((iZ (0)))) 32 4 ((iZ (0)))) 32 5 ((iZ (0)))) 37 4 ((iZ (0)))) 37 5 ((iZ (0)))) 42 4 ((iZ (0)))) 42 5 ((iZ (0)))))) rfl ?_
  refine Ev.gfr (r := (25, 6, 31)) rfl (sh_1_5 (h := h) sh) ?_
  refine Ev.sts 1 (c' := (36, [some (.inr (.inr (.inr (1, 0, 1)))), some (.inl (iZ (3)))], [.inl (iZ (6)), .inl (iZ (3))], (setI (setI (setI (setI (setI (setI (setI (setI (setI (setI (setI h 1 8 ((iZ (0)))) 1 9 ((iZ (0)))) 1 10 ((iZ (-1)))) 1 11 ((iZ (0)))) 62 5 ((iZ (0)))) 32 4 ((iZ (0)))) 32 5 ((iZ (0)))) 37 4 ((iZ (0)))) 37 5 ((iZ (0)))) 42 4 ((iZ (0)))) 42 5 ((iZ (0)))))) rfl ?_
  refine Ev.brF (p := (iZ (6)) ≤ (iZ (3))) (c1 := (54, [some (.inr (.inr (.inr (1, 0, 1)))), some (.inl (iZ (3)))], [], (setI (setI (setI (setI (setI (setI (setI (setI (setI (setI (setI h 1 8 ((iZ (0)))) 1 9 ((iZ (0)))) 1 10 ((iZ (-1)))) 1 11 ((iZ (0)))) 62 5 ((iZ (0)))) 32 4 ((iZ (0)))) 32 5 ((iZ (0)))) 37 4 ((iZ (0)))) 37 5 ((iZ (0)))) 42 4 ((iZ (0)))) 42 5 ((iZ (0)))))) (c2 := (39, [some (.inr (.inr (.inr (1, 0, 1)))), some (.inl (iZ (3)))], [], (setI (setI (setI (setI (setI (setI (setI (setI (setI (setI (setI h 1 8 ((iZ (0)))) 1 9 ((iZ (0)))) 1 10 ((iZ (-1)))) 1 11 ((iZ (0)))) 62 5 ((iZ (0)))) 32 4 ((iZ (0)))) 32 5 ((iZ (0)))) 37 4 ((iZ (0)))) 37 5 ((iZ (0)))) 42 4 ((iZ (0)))) 42 5 ((iZ (0)))))) (by decide) rfl ?_
  refine Ev.sts 1 (c' := (40, [some (.inr (.inr (.inr (1, 0, 1)))), some (.inl (iZ (3)))], [.inr (.inr (.inr (1, 0, 1)))], (setI (setI (setI (setI (setI (setI (setI (setI (setI (setI (setI h 1 8 ((iZ (0)))) 1 9 ((iZ (0)))) 1 10 ((iZ (-1)))) 1 11 ((iZ (0)))) 62 5 ((iZ (0)))) 32 4 ((iZ (0)))) 32 5 ((iZ (0)))) 37 4 ((iZ (0)))) 37 5 ((iZ (0)))) 42 4 ((iZ (0)))) 42 5 ((iZ (0)))))) rfl ?_
  refine Ev.gfr (r := (25, 6, 31)) rfl (sh_1_5 (h := h) sh) ?_
  refine Ev.sts 1 (c' := (44, [some (.inr (.inr (.inr (1, 0, 1)))), some (.inl (iZ (3)))], [.inl (iZ (3)), .inr (.inr (.inr (25, 6, 31)))], (setI (setI (setI (setI (setI (setI (setI (setI (setI (setI (setI h 1 8 ((iZ (0)))) 1 9 ((iZ (0)))) 1 10 ((iZ (-1)))) 1 11 ((iZ (0)))) 62 5 ((iZ (0)))) 32 4 ((iZ (0)))) 32 5 ((iZ (0)))) 37 4 ((iZ (0)))) 37 5 ((iZ (0)))) 42 4 ((iZ (0)))) 42 5 ((iZ (0)))))) rfl ?_
  refine Ev.ldv (j := (iZ (3))) (n := 6) (w := .inr (.inr (.inr (10, 0, 47)))) (by decide) rfl (congrArg vR (sh_31_3 (h := h) sh)) ?_
  refine Ev.callv (a := [.inr (.inr (.inr (10, 0, 47)))]) rfl (tc_wclr (a := 47)) ?_
  refine Ev.stc (c1 := (51, [some (.inr (.inr (.inr (1, 0, 1)))), some (.inl ((iZ (3)) + (iZ (1))))], [], (setI (setI (setI (setI (setI (setI (setI (setI (setI (setI (setI (setI (setI h 1 8 ((iZ (0)))) 1 9 ((iZ (0)))) 1 10 ((iZ (-1)))) 1 11 ((iZ (0)))) 62 5 ((iZ (0)))) 32 4 ((iZ (0)))) 32 5 ((iZ (0)))) 37 4 ((iZ (0)))) 37 5 ((iZ (0)))) 42 4 ((iZ (0)))) 42 5 ((iZ (0)))) 47 4 ((iZ (0)))) 47 5 ((iZ (0)))))) (c2 := (51, [some (.inr (.inr (.inr (1, 0, 1)))), some (.inl (iZ (4)))], [], (setI (setI (setI (setI (setI (setI (setI (setI (setI (setI (setI (setI (setI h 1 8 ((iZ (0)))) 1 9 ((iZ (0)))) 1 10 ((iZ (-1)))) 1 11 ((iZ (0)))) 62 5 ((iZ (0)))) 32 4 ((iZ (0)))) 32 5 ((iZ (0)))) 37 4 ((iZ (0)))) 37 5 ((iZ (0)))) 42 4 ((iZ (0)))) 42 5 ((iZ (0)))) 47 4 ((iZ (0)))) 47 5 ((iZ (0)))))) rfl (by rw [iZ_add]; rfl) ?_
  refine Ev.sts 3 (c' := (32, [some (.inr (.inr (.inr (1, 0, 1)))), some (.inl (iZ (4)))], [.inr (.inr (.inr (1, 0, 1))), .inl (iZ (4))], (setI (setI (setI (setI (setI (setI (setI (setI (setI (setI (setI (setI (setI h 1 8 ((iZ (0)))) 1 9 ((iZ (0)))) 1 10 ((iZ (-1)))) 1 11 ((iZ (0)))) 62 5 ((iZ (0)))) 32 4 ((iZ (0)))) 32 5 ((iZ (0)))) 37 4 ((iZ (0)))) 37 5 ((iZ (0)))) 42 4 ((iZ (0)))) 42 5 ((iZ (0)))) 47 4 ((iZ (0)))) 47 5 ((iZ (0)))))) rfl ?_
  refine Ev.gfr (r := (25, 6, 31)) rfl (sh_1_5 (h := h) sh) ?_
  refine Ev.sts 1 (c' := (36, [some (.inr (.inr (.inr (1, 0, 1)))), some (.inl (iZ (4)))], [.inl (iZ (6)), .inl (iZ (4))], (setI (setI (setI (setI (setI (setI (setI (setI (setI (setI (setI (setI (setI h 1 8 ((iZ (0)))) 1 9 ((iZ (0)))) 1 10 ((iZ (-1)))) 1 11 ((iZ (0)))) 62 5 ((iZ (0)))) 32 4 ((iZ (0)))) 32 5 ((iZ (0)))) 37 4 ((iZ (0)))) 37 5 ((iZ (0)))) 42 4 ((iZ (0)))) 42 5 ((iZ (0)))) 47 4 ((iZ (0)))) 47 5 ((iZ (0)))))) rfl ?_
  refine Ev.brF (p := (iZ (6)) ≤ (iZ (4))) (c1 := (54, [some (.inr (.inr (.inr (1, 0, 1)))), some (.inl (iZ (4)))], [], (setI (setI (setI (setI (setI (setI (setI (setI (setI (setI (setI (setI (setI h 1 8 ((iZ (0)))) 1 9 ((iZ (0)))) 1 10 ((iZ (-1)))) 1 11 ((iZ (0)))) 62 5 ((iZ (0)))) 32 4 ((iZ (0)))) 32 5 ((iZ (0)))) 37 4 ((iZ (0)))) 37 5 ((iZ (0)))) 42 4 ((iZ (0)))) 42 5 ((iZ (0)))) 47 4 ((iZ (0)))) 47 5 ((iZ (0)))))) (c2 := (39, [some (.inr (.inr (.inr (1, 0, 1)))), some (.inl (iZ (4)))], [], (setI (setI (setI (setI (setI (setI (setI (setI (setI (setI (setI (setI (setI h 1 8 ((iZ (0)))) 1 9 ((iZ (0)))) 1 10 ((iZ (-1)))) 1 11 ((iZ (0)))) 62 5 ((iZ (0)))) 32 4 ((iZ (0)))) 32 5 ((iZ (0)))) 37 4 ((iZ (0)))) 37 5 ((iZ (0)))) 42 4 ((iZ (0)))) 42 5 ((iZ (0)))) 47 4 ((iZ (0)))) 47 5 ((iZ (0)))))) (by decide) rfl ?_
  refine Ev.sts 1 (c' := (40, [some (.inr (.inr (.inr (1, 0, 1)))), some (.inl (iZ (4)))], [.inr (.inr (.inr (1, 0, 1)))], (setI (setI (setI (setI (setI (setI (setI (setI (setI (setI (setI (setI (setI h 1 8 ((iZ (0)))) 1 9 ((iZ (0)))) 1 10 ((iZ (-1)))) 1 11 ((iZ (0)))) 62 5 ((iZ (0)))) 32 4 ((iZ (0)))) 32 5 ((iZ (0)))) 37 4 ((iZ (0)))) 37 5 ((iZ (0)))) 42 4 ((iZ (0)))) 42 5 ((iZ (0)))) 47 4 ((iZ (0)))) 47 5 ((iZ (0)))))) rfl ?_
  refine Ev.gfr (r := (25, 6, 31)) rfl (sh_1_5 (h := h) sh) ?_
  refine Ev.sts 1 (c' := (44, [some (.inr (.inr (.inr (1, 0, 1)))), some (.inl (iZ (4)))], [.inl (iZ (4)), .inr (.inr (.inr (25, 6, 31)))], (setI (setI (setI (setI (setI (setI (setI (setI (setI (setI (setI (setI (setI h 1 8 ((iZ (0)))) 1 9 ((iZ (0)))) 1 10 ((iZ (-1)))) 1 11 ((iZ (0)))) 62 5 ((iZ (0)))) 32 4 ((iZ (0)))) 32 5 ((iZ (0)))) 37 4 ((iZ (0)))) 37 5 ((iZ (0)))) 42 4 ((iZ (0)))) 42 5 ((iZ (0)))) 47 4 ((iZ (0)))) 47 5 ((iZ (0)))))) rfl ?_
  refine Ev.ldv (j := (iZ (4))) (n := 6) (w := .inr (.inr (.inr (10, 0, 52)))) (by decide) rfl (congrArg vR (sh_31_4 (h := h) sh)) ?_
  refine Ev.callv (a := [.inr (.inr (.inr (10, 0, 52)))]) rfl (tc_wclr (a := 52)) ?_
  refine Ev.stc (c1 := (51, [some (.inr (.inr (.inr (1, 0, 1)))), some (.inl ((iZ (4)) + (iZ (1))))], [], (setI (setI (setI (setI (setI (setI (setI (setI (setI (setI (setI (setI (setI (setI (setI h 1 8 ((iZ (0)))) 1 9 ((iZ (0)))) 1 10 ((iZ (-1)))) 1 11 ((iZ (0)))) 62 5 ((iZ (0)))) 32 4 ((iZ (0)))) 32 5 ((iZ (0)))) 37 4 ((iZ (0)))) 37 5 ((iZ (0)))) 42 4 ((iZ (0)))) 42 5 ((iZ (0)))) 47 4 ((iZ (0)))) 47 5 ((iZ (0)))) 52 4 ((iZ (0)))) 52 5 ((iZ (0)))))) (c2 := (51, [some (.inr (.inr (.inr (1, 0, 1)))), some (.inl (iZ (5)))], [], (setI (setI (setI (setI (setI (setI (setI (setI (setI (setI (setI (setI (setI (setI (setI h 1 8 ((iZ (0)))) 1 9 ((iZ (0)))) 1 10 ((iZ (-1)))) 1 11 ((iZ (0)))) 62 5 ((iZ (0)))) 32 4 ((iZ (0)))) 32 5 ((iZ (0)))) 37 4 ((iZ (0)))) 37 5 ((iZ (0)))) 42 4 ((iZ (0)))) 42 5 ((iZ (0)))) 47 4 ((iZ (0)))) 47 5 ((iZ (0)))) 52 4 ((iZ (0)))) 52 5 ((iZ (0)))))) rfl (by rw [iZ_add]; rfl) ?_
  refine Ev.sts 3 (c' := (32, [some (.inr (.inr (.inr (1, 0, 1)))), some (.inl (iZ (5)))], [.inr (.inr (.inr (1, 0, 1))), .inl (iZ (5))], (setI (setI (setI (setI (setI (setI (setI (setI (setI (setI (setI (setI (setI (setI (setI h 1 8 ((iZ (0)))) 1 9 ((iZ (0)))) 1 10 ((iZ (-1)))) 1 11 ((iZ (0)))) 62 5 ((iZ (0)))) 32 4 ((iZ (0)))) 32 5 ((iZ (0)))) 37 4 ((iZ (0)))) 37 5 ((iZ (0)))) 42 4 ((iZ (0)))) 42 5 ((iZ (0)))) 47 4 ((iZ (0)))) 47 5 ((iZ (0)))) 52 4 ((iZ (0)))) 52 5 ((iZ (0)))))) rfl ?_
  refine Ev.gfr (r := (25, 6, 31)) rfl (sh_1_5 (h := h) sh) ?_
  refine Ev.sts 1 (c' := (36, [some (.inr (.inr (.inr (1, 0, 1)))), some (.inl (iZ (5)))], [.inl (iZ (6)), .inl (iZ (5))], (setI (setI (setI (setI (setI (setI (setI (setI (setI (setI (setI (setI (setI (setI (setI h 1 8 ((iZ (0)))) 1 9 ((iZ (0)))) 1 10 ((iZ (-1)))) 1 11 ((iZ (0)))) 62 5 ((iZ (0)))) 32 4 ((iZ (0)))) 32 5 ((iZ (0)))) 37 4 ((iZ (0)))) 37 5 ((iZ (0)))) 42 4 ((iZ (0)))) 42 5 ((iZ (0)))) 47 4 ((iZ (0)))) 47 5 ((iZ (0)))) 52 4 ((iZ (0)))) 52 5 ((iZ (0)))))) rfl ?_
  refine Ev.brF (p := (iZ (6)) ≤ (iZ (5))) (c1 := (54, [some (.inr (.inr (.inr (1, 0, 1)))), some (.inl (iZ (5)))], [], (setI (setI (setI (setI (setI (setI (setI (setI (setI (setI (setI (setI (setI (setI (setI h 1 8 ((iZ (0)))) 1 9 ((iZ (0)))) 1 10 ((iZ (-1)))) 1 11 ((iZ (0)))) 62 5 ((iZ (0)))) 32 4 ((iZ (0)))) 32 5 ((iZ (0)))) 37 4 ((iZ (0)))) 37 5 ((iZ (0)))) 42 4 ((iZ (0)))) 42 5 ((iZ (0)))) 47 4 ((iZ (0)))) 47 5 ((iZ (0)))) 52 4 ((iZ (0)))) 52 5 ((iZ (0)))))) (c2 := (39, [some (.inr (.inr (.inr (1, 0, 1)))), some (.inl (iZ (5)))], [], (setI (setI (setI (setI (setI (setI (setI (setI (setI (setI (setI (setI (setI (setI (setI h 1 8 ((iZ (0)))) 1 9 ((iZ (0)))) 1 10 ((iZ (-1)))) 1 11 ((iZ (0)))) 62 5 ((iZ (0)))) 32 4 ((iZ (0)))) 32 5 ((iZ (0)))) 37 4 ((iZ (0)))) 37 5 ((iZ (0)))) 42 4 ((iZ (0)))) 42 5 ((iZ (0)))) 47 4 ((iZ (0)))) 47 5 ((iZ (0)))) 52 4 ((iZ (0)))) 52 5 ((iZ (0)))))) (by decide) rfl ?_
  refine Ev.sts 1 (c' := (40, [some (.inr (.inr (.inr (1, 0, 1)))), some (.inl (iZ (5)))], [.inr (.inr (.inr (1, 0, 1)))], (setI (setI (setI (setI (setI (setI (setI (setI (setI (setI (setI (setI (setI (setI (setI h 1 8 ((iZ (0)))) 1 9 ((iZ (0)))) 1 10 ((iZ (-1)))) 1 11 ((iZ (0)))) 62 5 ((iZ (0)))) 32 4 ((iZ (0)))) 32 5 ((iZ (0)))) 37 4 ((iZ (0)))) 37 5 ((iZ (0)))) 42 4 ((iZ (0)))) 42 5 ((iZ (0)))) 47 4 ((iZ (0)))) 47 5 ((iZ (0)))) 52 4 ((iZ (0)))) 52 5 ((iZ (0)))))) rfl ?_
  refine Ev.gfr (r := (25, 6, 31)) rfl (sh_1_5 (h := h) sh) ?_
  refine Ev.sts 1 (c' := (44, [some (.inr (.inr (.inr (1, 0, 1)))), some (.inl (iZ (5)))], [.inl (iZ (5)), .inr (.inr (.inr (25, 6, 31)))], (setI (setI (setI (setI (setI (setI (setI (setI (setI (setI (setI (setI (setI (setI (setI h 1 8 ((iZ (0)))) 1 9 ((iZ (0)))) 1 10 ((iZ (-1)))) 1 11 ((iZ (0)))) 62 5 ((iZ (0)))) 32 4 ((iZ (0)))) 32 5 ((iZ (0)))) 37 4 ((iZ (0)))) 37 5 ((iZ (0)))) 42 4 ((iZ (0)))) 42 5 ((iZ (0)))) 47 4 ((iZ (0)))) 47 5 ((iZ (0)))) 52 4 ((iZ (0)))) 52 5 ((iZ (0)))))) rfl ?_
  refine Ev.ldv (j := (iZ (5))) (n := 6) (w := .inr (.inr (.inr (10, 0, 57)))) (by decide) rfl (congrArg vR (sh_31_5 (h := h) sh)) ?_
  refine Ev.callv (a := [.inr (.inr (.inr (10, 0, 57)))]) rfl (tc_wclr (a := 57)) ?_
  refine Ev.stc (c1 := (51, [some (.inr (.inr (.inr (1, 0, 1)))), some (.inl ((iZ (5)) + (iZ (1))))], [], (setI (setI (setI (setI (setI (setI (setI (setI (setI (setI (setI (setI (setI (setI (setI (setI (setI h 1 8 ((iZ (0)))) 1 9 ((iZ (0)))) 1 10 ((iZ (-1)))) 1 11 ((iZ (0)))) 62 5 ((iZ (0)))) 32 4 ((iZ (0)))) 32 5 ((iZ (0)))) 37 4 ((iZ (0)))) 37 5 ((iZ (0)))) 42 4 ((iZ (0)))) 42 5 ((iZ (0)))) 47 4 ((iZ (0)))) 47 5 ((iZ (0)))) 52 4 ((iZ (0)))) 52 5 ((iZ (0)))) 57 4 ((iZ (0)))) 57 5 ((iZ (0)))))) (c2 := (51, [some (.inr (.inr (.inr (1, 0, 1)))), some (.inl (iZ (6)))], [], (setI (setI (setI (setI (setI (setI (setI (setI (setI (setI (setI (setI (setI (setI (setI (setI (setI h 1 8 ((iZ (0)))) 1 9 ((iZ (0)))) 1 10 ((iZ (-1)))) 1 11 ((iZ (0)))) 62 5 ((iZ (0)))) 32 4 ((iZ (0)))) 32 5 ((iZ (0)))) 37 4 ((iZ (0)))) 37 5 ((iZ (0)))) 42 4 ((iZ (0)))) 42 5 ((iZ (0)))) 47 4 ((iZ (0)))) 47 5 ((iZ (0)))) 52 4 ((iZ (0)))) 52 5 ((iZ (0)))) 57 4 ((iZ (0)))) 57 5 ((iZ (0)))))) rfl (by rw [iZ_add]; rfl) ?_
  refine Ev.sts 3 (c' := (32, [some (.inr (.inr (.inr (1, 0, 1)))), some (.inl (iZ (6)))], [.inr (.inr (.inr (1, 0, 1))), .inl (iZ (6))], (setI (setI (setI (setI (setI (setI (setI (setI (setI (setI (setI (setI (setI (setI (setI (setI (setI h 1 8 ((iZ (0)))) 1 9 ((iZ (0)))) 1 10 ((iZ (-1)))) 1 11 ((iZ (0)))) 62 5 ((iZ (0)))) 32 4 ((iZ (0)))) 32 5 ((iZ (0)))) 37 4 ((iZ (0)))) 37 5 ((iZ (0)))) 42 4 ((iZ (0)))) 42 5 ((iZ (0)))) 47 4 ((iZ (0)))) 47 5 ((iZ (0)))) 52 4 ((iZ (0)))) 52 5 ((iZ (0)))) 57 4 ((iZ (0)))) 57 5 ((iZ (0)))))) rfl ?_
  refine Ev.gfr (r := (25, 6, 31)) rfl (sh_1_5 (h := h) sh) ?_
  refine Ev.sts 1 (c' := (36, [some (.inr (.inr (.inr (1, 0, 1)))), some (.inl (iZ (6)))], [.inl (iZ (6)), .inl (iZ (6))], (setI (setI (setI (setI (setI (setI (setI (setI (setI (setI (setI (setI (setI (setI (setI (setI (setI h 1 8 ((iZ (0)))) 1 9 ((iZ (0)))) 1 10 ((iZ (-1)))) 1 11 ((iZ (0)))) 62 5 ((iZ (0)))) 32 4 ((iZ (0)))) 32 5 ((iZ (0)))) 37 4 ((iZ (0)))) 37 5 ((iZ (0)))) 42 4 ((iZ (0)))) 42 5 ((iZ (0)))) 47 4 ((iZ (0)))) 47 5 ((iZ (0)))) 52 4 ((iZ (0)))) 52 5 ((iZ (0)))) 57 4 ((iZ (0)))) 57 5 ((iZ (0)))))) rfl ?_
  refine Ev.brT (p := (iZ (6)) ≤ (iZ (6))) (c1 := (54, [some (.inr (.inr (.inr (1, 0, 1)))), some (.inl (iZ (6)))], [], (setI (setI (setI (setI (setI (setI (setI (setI (setI (setI (setI (setI (setI (setI (setI (setI (setI h 1 8 ((iZ (0)))) 1 9 ((iZ (0)))) 1 10 ((iZ (-1)))) 1 11 ((iZ (0)))) 62 5 ((iZ (0)))) 32 4 ((iZ (0)))) 32 5 ((iZ (0)))) 37 4 ((iZ (0)))) 37 5 ((iZ (0)))) 42 4 ((iZ (0)))) 42 5 ((iZ (0)))) 47 4 ((iZ (0)))) 47 5 ((iZ (0)))) 52 4 ((iZ (0)))) 52 5 ((iZ (0)))) 57 4 ((iZ (0)))) 57 5 ((iZ (0)))))) (c2 := (39, [some (.inr (.inr (.inr (1, 0, 1)))), some (.inl (iZ (6)))], [], (setI (setI (setI (setI (setI (setI (setI (setI (setI (setI (setI (setI (setI (setI (setI (setI (setI h 1 8 ((iZ (0)))) 1 9 ((iZ (0)))) 1 10 ((iZ (-1)))) 1 11 ((iZ (0)))) 62 5 ((iZ (0)))) 32 4 ((iZ (0)))) 32 5 ((iZ (0)))) 37 4 ((iZ (0)))) 37 5 ((iZ (0)))) 42 4 ((iZ (0)))) 42 5 ((iZ (0)))) 47 4 ((iZ (0)))) 47 5 ((iZ (0)))) 52 4 ((iZ (0)))) 52 5 ((iZ (0)))) 57 4 ((iZ (0)))) 57 5 ((iZ (0)))))) (by decide) rfl ?_
  exact Ev.ret rfl (q)

theorem an_1_8 (h : PH) : (anH h).1 1 8 = iZ (0) := (setI_ne (by decide)).trans ((setI_ne (by decide)).trans ((setI_ne (by decide)).trans ((setI_ne (by decide)).trans ((setI_ne (by decide)).trans ((setI_ne (by decide)).trans ((setI_ne (by decide)).trans ((setI_ne (by decide)).trans ((setI_ne (by decide)).trans ((setI_ne (by decide)).trans ((setI_ne (by decide)).trans ((setI_ne (by decide)).trans ((setI_ne (by decide)).trans ((setI_ne (by decide)).trans ((setI_ne (by decide)).trans ((setI_ne (by decide)).trans (setI_self _ _ _ _))))))))))))))))
theorem an_1_9 (h : PH) : (anH h).1 1 9 = iZ (0) := (setI_ne (by decide)).trans ((setI_ne (by decide)).trans ((setI_ne (by decide)).trans ((setI_ne (by decide)).trans ((setI_ne (by decide)).trans ((setI_ne (by decide)).trans ((setI_ne (by decide)).trans ((setI_ne (by decide)).trans ((setI_ne (by decide)).trans ((setI_ne (by decide)).trans ((setI_ne (by decide)).trans ((setI_ne (by decide)).trans ((setI_ne (by decide)).trans ((setI_ne (by decide)).trans ((setI_ne (by decide)).trans (setI_self _ _ _ _)))))))))))))))
theorem an_1_10 (h : PH) : (anH h).1 1 10 = iZ (-1) := (setI_ne (by decide)).trans ((setI_ne (by decide)).trans ((setI_ne (by decide)).trans ((setI_ne (by decide)).trans ((setI_ne (by decide)).trans ((setI_ne (by decide)).trans ((setI_ne (by decide)).trans ((setI_ne (by decide)).trans ((setI_ne (by decide)).trans ((setI_ne (by decide)).trans ((setI_ne (by decide)).trans ((setI_ne (by decide)).trans ((setI_ne (by decide)).trans ((setI_ne (by decide)).trans (setI_self _ _ _ _))))))))))))))
theorem an_1_11 (h : PH) : (anH h).1 1 11 = iZ (0) := (setI_ne (by decide)).trans ((setI_ne (by decide)).trans ((setI_ne (by decide)).trans ((setI_ne (by decide)).trans ((setI_ne (by decide)).trans ((setI_ne (by decide)).trans ((setI_ne (by decide)).trans ((setI_ne (by decide)).trans ((setI_ne (by decide)).trans ((setI_ne (by decide)).trans ((setI_ne (by decide)).trans ((setI_ne (by decide)).trans ((setI_ne (by decide)).trans (setI_self _ _ _ _)))))))))))))
theorem an_62_5 (h : PH) : (anH h).1 62 5 = iZ (0) := (setI_ne (by decide)).trans ((setI_ne (by decide)).trans ((setI_ne (by decide)).trans ((setI_ne (by decide)).trans ((setI_ne (by decide)).trans ((setI_ne (by decide)).trans ((setI_ne (by decide)).trans ((setI_ne (by decide)).trans ((setI_ne (by decide)).trans ((setI_ne (by decide)).trans ((setI_ne (by decide)).trans ((setI_ne (by decide)).trans (setI_self _ _ _ _))))))))))))
theorem an_32_4 (h : PH) : (anH h).1 32 4 = iZ (0) := (setI_ne (by decide)).trans ((setI_ne (by decide)).trans ((setI_ne (by decide)).trans ((setI_ne (by decide)).trans ((setI_ne (by decide)).trans ((setI_ne (by decide)).trans ((setI_ne (by decide)).trans ((setI_ne (by decide)).trans ((setI_ne (by decide)).trans ((setI_ne (by decide)).trans ((setI_ne (by decide)).trans (setI_self _ _ _ _)))))))))))
theorem an_32_5 (h : PH) : (anH h).1 32 5 = iZ (0) := (setI_ne (by decide)).trans ((setI_ne (by decide)).trans ((setI_ne (by decide)).trans ((setI_ne (by decide)).trans ((setI_ne (by decide)).trans ((setI_ne (by decide)).trans ((setI_ne (by decide)).trans ((setI_ne (by decide)).trans ((setI_ne (by decide)).trans ((setI_ne (by decide)).trans (setI_self _ _ _ _))))))))))
theorem an_37_4 (h : PH) : (anH h).1 37 4 = iZ (0) := (setI_ne (by decide)).trans ((setI_ne (by decide)).trans ((setI_ne (by decide)).trans ((setI_ne (by decide)).trans ((setI_ne (by decide)).trans ((setI_ne (by decide)).trans ((setI_ne (by decide)).trans ((setI_ne (by decide)).trans ((setI_ne (by decide)).trans (setI_self _ _ _ _)))))))))
theorem an_37_5 (h : PH) : (anH h).1 37 5 = iZ (0) := (setI_ne (by decide)).trans ((setI_ne (by decide)).trans ((setI_ne (by decide)).trans ((setI_ne (by decide)).trans ((setI_ne (by decide)).trans ((setI_ne (by decide)).trans ((setI_ne (by decide)).trans ((setI_ne (by decide)).trans (setI_self _ _ _ _))))))))
theorem an_42_4 (h : PH) : (anH h).1 42 4 = iZ (0) := (setI_ne (by decide)).trans ((setI_ne (by decide)).trans ((setI_ne (by decide)).trans ((setI_ne (by decide)).trans ((setI_ne (by decide)).trans ((setI_ne (by decide)).trans ((setI_ne (by decide)).trans (setI_self _ _ _ _)))))))
theorem an_42_5 (h : PH) : (anH h).1 42 5 = iZ (0) := (setI_ne (by decide)).trans ((setI_ne (by decide)).trans ((setI_ne (by decide)).trans ((setI_ne (by decide)).trans ((setI_ne (by decide)).trans ((setI_ne (by decide)).trans (setI_self _ _ _ _))))))
theorem an_47_4 (h : PH) : (anH h).1 47 4 = iZ (0) := (setI_ne (by decide)).trans ((setI_ne (by decide)).trans ((setI_ne (by decide)).trans ((setI_ne (by decide)).trans ((setI_ne (by decide)).trans (setI_self _ _ _ _)))))
theorem an_47_5 (h : PH) : (anH h).1 47 5 = iZ (0) := (setI_ne (by decide)).trans ((setI_ne (by decide)).trans ((setI_ne (by decide)).trans ((setI_ne (by decide)).trans (setI_self _ _ _ _))))
theorem an_52_4 (h : PH) : (anH h).1 52 4 = iZ (0) := (setI_ne (by decide)).trans ((setI_ne (by decide)).trans ((setI_ne (by decide)).trans (setI_self _ _ _ _)))
theorem an_52_5 (h : PH) : (anH h).1 52 5 = iZ (0) := (setI_ne (by decide)).trans ((setI_ne (by decide)).trans (setI_self _ _ _ _))
theorem an_57_4 (h : PH) : (anH h).1 57 4 = iZ (0) := (setI_ne (by decide)).trans (setI_self _ _ _ _)
theorem an_57_5 (h : PH) : (anH h).1 57 5 = iZ (0) := setI_self _ _ _ _
theorem an_o {h : PH} {a k : Nat} (ha : a ≠ 1 ∧ a ≠ 62 ∧ a ≠ 32 ∧ a ≠ 37 ∧ a ≠ 42 ∧ a ≠ 47 ∧ a ≠ 52 ∧ a ≠ 57) : (anH h).1 a k = h.1 a k := (setI_ne (by omega)).trans ((setI_ne (by omega)).trans ((setI_ne (by omega)).trans ((setI_ne (by omega)).trans ((setI_ne (by omega)).trans ((setI_ne (by omega)).trans ((setI_ne (by omega)).trans ((setI_ne (by omega)).trans ((setI_ne (by omega)).trans ((setI_ne (by omega)).trans ((setI_ne (by omega)).trans ((setI_ne (by omega)).trans ((setI_ne (by omega)).trans ((setI_ne (by omega)).trans ((setI_ne (by omega)).trans ((setI_ne (by omega)).trans (setI_ne (by omega)))))))))))))))))
theorem an_2 (h : PH) : (anH h).2 = h.2 := rfl
theorem CI_ter {h h1 : PH} {S : Sta} {b n : Nat} {u : Q5} (I : CI h S b n u) (W : WN S) (x7 : h1.1 2 7 = iZ (rdE (lex (tpS S))).2) (f : fTt (81 - b) h h1) : CI (setI h1 4 1 (iZ 0)) (terS S) b n u := by
  obtain ⟨i1, i2, i3, i4, i5, i6, i7, i8, i9, i10, i11, i12, i13, i14⟩ := I
  have hc : 81 - b = 13 ∨ 81 - b = 68 := by omega
  have sh1 := Sh_fT hc i1 f
  have e : ∀ a, a ≠ 2 → a ≠ 3 → a ≠ 4 → a ≠ 7 → a ≠ 8 → a ≠ 12 → ¬ (81 - b ≤ a ∧ a ≤ 81 - b + 14) → (setI h1 4 1 (iZ 0)).1 a = h.1 a := fun a a1 a2 a3 a4 a5 a6 a7 => (setI_oth a3).trans (f.2.1 a a1 a2 a4 a5 a6 a7)
  have e1 := e 1 (by omega) (by omega) (by omega) (by omega) (by omega) (by omega) (by omega)
  refine ⟨Sh_eq sh1 rfl, i2, (f.2.2.2 1 7 (by omega)).trans i3, (f.2.2.2 2 4 (by omega)).trans i4, ⟨setI_self _ _ _ _, fun j hj => absurd hj (Nat.not_lt_zero _)⟩, (setI_ne (by decide)).trans x7, bkC_T W.1.2.2.2.2.1 (fun a a1 a2 => e a (by omega) (by omega) (by omega) (by omega) (by omega) (by omega) (by omega)) (fun a a1 a2 => funext fun k => f.2.2.2 a k (by omega)) i7, ?_, by rw [e1]; exact i9, by rw [e1]; exact i10, by rw [e1]; exact i11, fun g hg => ?_, tlC_T i13 (congrArg (fun z => z.1) f.1) (congrFun (e 62 (by omega) (by omega) (by omega) (by omega) (by omega) (by omega) (by omega)) 5) (funext fun k => f.2.2.2 62 k (by omega)) (fun a ha => by unfold qO at ha; exact e a (by omega) (by omega) (by omega) (by omega) (by omega) (by omega) (by omega)), by show 83 ≤ h1.2.2.2.1; rw [f.1]; exact i14⟩
  · rw [e1, e 29 (by omega) (by omega) (by omega) (by omega) (by omega) (by omega) (by omega), e 30 (by omega) (by omega) (by omega) (by omega) (by omega) (by omega) (by omega)]; exact i8
  · obtain ⟨w1, w2⟩ := i12 g hg
    exact ⟨winC_eq (fun a a1 a2 => e a (by omega) (by omega) (by omega) (by omega) (by omega) (by omega) (by omega)) w1, by rw [e (32 + 5 * g) (by omega) (by omega) (by omega) (by omega) (by omega) (by omega) (by omega)]; exact w2⟩
