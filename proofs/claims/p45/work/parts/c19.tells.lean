/-! A line with a goose: what it tells, its end. -/
theorem lx_goose {tp : List Int} {ks : List Sg} {al : Nat} {w0 : Int} (ha : al < 8) (hw : 0 ≤ w0 ∧ w0 < 8) (l : LXs tp ks) (e : enN tp = false) : LXs (tp ++ (txC 56 ++ ([97 + (al : Int)] ++ (txC 57 ++ [97 + w0])))) (ks ++ [(15, 0, 0), (2, 0, 225 + (al : Int)), (16, 0, 0), (2, 0, 193 + w0)]) := by
  obtain ⟨l1, e1⟩ := lx_kw (w := [103, 111, 111, 115, 101]) (k := 15) l e (tk1_wd (by decide +kernel))
  have l2 := lx_nm 103 (.inr rfl) ha l1 e1
  obtain ⟨l3, e3⟩ := enN_sp l2
  obtain ⟨l4, e4⟩ := lx_kw (w := [111, 110]) (k := 16) l3 e3 (tk1_wd (by decide +kernel))
  have l5 := lx_nm 102 (.inl rfl) (i := w0.toNat) (by omega) l4 e4
  have t56 : txC 56 = [103, 111, 111, 115, 101] ++ ([32] ++ [103]) := by decide +kernel
  have t57 : txC 57 = [32] ++ ([111, 110] ++ ([32] ++ [102])) := by decide +kernel
  rw [show ((w0.toNat : Nat) : Int) = w0 by omega, show ((102 : Nat) : Int) - 96 = 6 by decide, show ((103 : Nat) : Int) - 96 = 7 by decide, show (6 * 32 + 1 + w0) = 193 + w0 by omega, show (7 * 32 + 1 + (al : Int)) = 225 + (al : Int) by omega] at l5
  have eq : tp ++ ([103, 111, 111, 115, 101] ++ [32]) ++ [((103 : Nat) : Int), 97 + (al : Int)] ++ [32] ++ ([111, 110] ++ [32]) ++ [((102 : Nat) : Int), 97 + w0] = tp ++ (txC 56 ++ ([97 + (al : Int)] ++ (txC 57 ++ [97 + w0]))) := by
    rw [t56, t57]
    simp only [List.append_assoc, List.cons_append, List.nil_append]
    rfl
  rw [eq] at l5
  simpa only [List.append_assoc, List.cons_append, List.nil_append] using l5
theorem lx_tel {tp : List Int} {ks : List Sg} {t : Nat} (ht : t < 4) (l : LXs tp ks) : LXs (tp ++ (txC 61 ++ txC (fid 1 t))) (ks ++ ((20, 0, 0) :: teK [] t)) ∧ (t ≠ 0 → enN (tp ++ (txC 61 ++ txC (fid 1 t))) = false) := by
  obtain ⟨l1, e1⟩ := lx_61 l
  rcases (show t = 0 ∨ t = 1 ∨ t = 2 ∨ t = 3 by omega) with rfl | rfl | rfl | rfl
  · have c : txC (fid 1 0) = [99, 111, 117, 110, 116] := by decide +kernel
    rw [show teK [] 0 = [(21, 0, 0)] from rfl, c, ← List.append_assoc]
    have l2 := (LXs_tk l1 (tk1_wd (w := [99, 111, 117, 110, 116]) (k := 21) (by decide +kernel)) (fun z => by rw [e1] at z; cases z)).1
    exact ⟨by simpa only [List.append_assoc, List.cons_append, List.nil_append] using l2, fun z => absurd rfl z⟩
  · have c : txC (fid 1 1) = ([115, 117, 109] ++ [32]) ++ ([111, 102] ++ [32]) := by decide +kernel
    rw [show teK [] 1 = [(22, 0, 0), (25, 0, 0)] from rfl, c, ← List.append_assoc, ← List.append_assoc]
    obtain ⟨l2, e2⟩ := lx_kw (w := [115, 117, 109]) (k := 22) l1 e1 (tk1_wd (by decide +kernel))
    obtain ⟨l3, e3⟩ := lx_kw (w := [111, 102]) (k := 25) l2 e2 (tk1_wd (by decide +kernel))
    exact ⟨by simpa only [List.append_assoc, List.cons_append, List.nil_append] using l3, fun _ => e3⟩
  · have c : txC (fid 1 2) = ([109, 111, 115, 116] ++ [32]) ++ ([111, 102] ++ [32]) := by decide +kernel
    rw [show teK [] 2 = [(23, 0, 0), (25, 0, 0)] from rfl, c, ← List.append_assoc, ← List.append_assoc]
    obtain ⟨l2, e2⟩ := lx_kw (w := [109, 111, 115, 116]) (k := 23) l1 e1 (tk1_wd (by decide +kernel))
    obtain ⟨l3, e3⟩ := lx_kw (w := [111, 102]) (k := 25) l2 e2 (tk1_wd (by decide +kernel))
    exact ⟨by simpa only [List.append_assoc, List.cons_append, List.nil_append] using l3, fun _ => e3⟩
  · have c : txC (fid 1 3) = ([108, 101, 97, 115, 116] ++ [32]) ++ ([111, 102] ++ [32]) := by decide +kernel
    rw [show teK [] 3 = [(24, 0, 0), (25, 0, 0)] from rfl, c, ← List.append_assoc, ← List.append_assoc]
    obtain ⟨l2, e2⟩ := lx_kw (w := [108, 101, 97, 115, 116]) (k := 24) l1 e1 (tk1_wd (by decide +kernel))
    obtain ⟨l3, e3⟩ := lx_kw (w := [111, 102]) (k := 25) l2 e2 (tk1_wd (by decide +kernel))
    exact ⟨by simpa only [List.append_assoc, List.cons_append, List.nil_append] using l3, fun _ => e3⟩
theorem teK_app (kk : List Sg) : ∀ t : Nat, t ≠ 0 → teK kk t = teK [] t ++ kk := by
  intro t h
  cases t with
  | zero => exact absurd rfl h
  | succ t => rfl
theorem gt_627 {d ga al : Nat} {x1 x2 : Option VV} {h : PH} {Q : Rs → PH → Prop} (ha : h.1 83 10 = iZ (al : Int)) (ha6 : al < 6) (h8 : h.2.2.1 83 8 = (28, 6, 86)) (k : Ev d 161 (647, [some (.inr (.inr (.inr (11, 0, 83)))), x1, x2, some (.inr (.inr (.inr (20, 4, ga))))], [], (go7H h al ga)) Q) : Ev d 161 (627, [some (.inr (.inr (.inr (11, 0, 83)))), x1, x2, some (.inr (.inr (.inr (20, 4, ga))))], [], h) Q := by
  refine Ev.sts 1 (c' := (628, [some (.inr (.inr (.inr (11, 0, 83)))), x1, x2, some (.inr (.inr (.inr (20, 4, ga))))], [.inr (.inr (.inr (11, 0, 83)))], h)) rfl ?_
  refine Ev.gfr (r := (28, 6, 86)) rfl h8 ?_
  refine Ev.sts 1 (c' := (632, [some (.inr (.inr (.inr (11, 0, 83)))), x1, x2, some (.inr (.inr (.inr (20, 4, ga))))], [.inr (.inr (.inr (11, 0, 83))), .inr (.inr (.inr (28, 6, 86)))], h)) rfl ?_
  refine Ev.gv (w := (iZ ((al : Int)))) rfl ha ?_
  refine Ev.sts 1 (c' := (636, [some (.inr (.inr (.inr (11, 0, 83)))), x1, x2, some (.inr (.inr (.inr (20, 4, ga))))], [.inr (.inr (.inr (20, 4, ga))), .inl (iZ ((al : Int))), .inr (.inr (.inr (28, 6, 86)))], h)) rfl ?_
  refine Ev.sto (j := (iZ ((al : Int)))) (n := 6) (h2 := (setR h 86 al (20, 4, ga))) (iZ_in (by omega) (by omega) (by omega)) rfl (by rw [iZ_ix (n := al) (by omega) (by omega)]) ?_
  refine Ev.sts 2 (c' := (639, [some (.inr (.inr (.inr (11, 0, 83)))), x1, x2, some (.inr (.inr (.inr (20, 4, ga))))], [.inr (.inr (.inr (11, 0, 83))), .inr (.inr (.inr (11, 0, 83)))], (setR h 86 al (20, 4, ga)))) rfl ?_
  refine Ev.gv (w := (iZ ((al : Int)))) rfl ha ?_
  refine Ev.sts 1 (c' := (643, [some (.inr (.inr (.inr (11, 0, 83)))), x1, x2, some (.inr (.inr (.inr (20, 4, ga))))], [.inl (iZ (1)), .inl (iZ ((al : Int))), .inr (.inr (.inr (11, 0, 83)))], (setR h 86 al (20, 4, ga)))) rfl ?_
  refine Ev.gv (w := (iZ (((al : Int)) + 1))) rfl (iZ_add _ _) ?_
  refine Ev.sts 1 (c' := (647, [some (.inr (.inr (.inr (11, 0, 83)))), x1, x2, some (.inr (.inr (.inr (20, 4, ga))))], [], (setI (setR h 86 al (20, 4, ga)) 83 10 ((iZ (((al : Int)) + 1)))))) rfl ?_
  exact k

theorem gt_607z {d ga : Nat} {w3 : Int} {x1 x2 : Option VV} {h : PH} {Q : Rs → PH → Prop} (hr3 : h.1 ga 3 = iZ w3) (hw : w3 = 0) (k : Ev d 161 (627, [some (.inr (.inr (.inr (11, 0, 83)))), x1, x2, some (.inr (.inr (.inr (20, 4, ga))))], [], h) Q) : Ev d 161 (607, [some (.inr (.inr (.inr (11, 0, 83)))), x1, x2, some (.inr (.inr (.inr (20, 4, ga))))], [], h) Q := by
  refine Ev.sts 2 (c' := (609, [some (.inr (.inr (.inr (11, 0, 83)))), x1, x2, some (.inr (.inr (.inr (20, 4, ga))))], [.inl (iZ (3)), .inr (.inr (.inr (20, 4, ga)))], h)) rfl ?_
  refine Ev.ldv (j := (iZ (3))) (n := 4) (w := .inl (iZ (w3))) (by decide) rfl (congrArg vI hr3) ?_
  refine Ev.brT (p := (iZ (w3)) ≤ (iZ (0))) (c1 := (627, [some (.inr (.inr (.inr (11, 0, 83)))), x1, x2, some (.inr (.inr (.inr (20, 4, ga))))], [], h)) (c2 := (613, [some (.inr (.inr (.inr (11, 0, 83)))), x1, x2, some (.inr (.inr (.inr (20, 4, ga))))], [], h)) ((iZ_le ⟨by omega, by omega⟩ ⟨by omega, by omega⟩).mpr (by omega)) rfl ?_
  exact k

theorem gt_607 {d L dr tk ln ga al : Nat} {w3 : Int} {tp : List Int} {ks : List Sg} {x1 x2 : Option VV} {h : PH} {Q : Rs → PH → Prop} (hE : eV 0 ≤ d) (hr3 : h.1 ga 3 = iZ w3) (hw : 0 < w3 ∧ w3 < 4) (ha : h.1 83 10 = iZ (al : Int)) (ha6 : al < 6) (h9 : h.2.2.1 83 9 = (27, 6, 87)) (b : BKh h L dr tk ln tp) (lx : LXs tp ks) (en : enN tp = false) (ht : tk ≤ 276) (ht2 : ln ≤ 236) (hd : dr ≤ 12 * tk + 1900) (k : ∀ h1 ra, Pst (cV 0) tZ 9 8 4 7 h L dr tk ln ks h1 ra → Ev (d + 1) 161 (627, [some (.inr (.inr (.inr (11, 0, 83)))), x1, x2, some (.inr (.inr (.inr (20, 4, ga))))], [], (setR h1 87 al (13, 0, ra))) Q) : Ev (d + 1) 161 (607, [some (.inr (.inr (.inr (11, 0, 83)))), x1, x2, some (.inr (.inr (.inr (20, 4, ga))))], [], h) Q := by
  refine Ev.sts 2 (c' := (609, [some (.inr (.inr (.inr (11, 0, 83)))), x1, x2, some (.inr (.inr (.inr (20, 4, ga))))], [.inl (iZ (3)), .inr (.inr (.inr (20, 4, ga)))], h)) rfl ?_
  refine Ev.ldv (j := (iZ (3))) (n := 4) (w := .inl (iZ (w3))) (by decide) rfl (congrArg vI hr3) ?_
  refine Ev.brF (p := (iZ (w3)) ≤ (iZ (0))) (c1 := (627, [some (.inr (.inr (.inr (11, 0, 83)))), x1, x2, some (.inr (.inr (.inr (20, 4, ga))))], [], h)) (c2 := (613, [some (.inr (.inr (.inr (11, 0, 83)))), x1, x2, some (.inr (.inr (.inr (20, 4, ga))))], [], h)) (fun c_ => absurd ((iZ_le ⟨by omega, by omega⟩ ⟨by omega, by omega⟩).mp c_) (by omega)) rfl ?_
  refine Ev.sts 1 (c' := (614, [some (.inr (.inr (.inr (11, 0, 83)))), x1, x2, some (.inr (.inr (.inr (20, 4, ga))))], [.inr (.inr (.inr (11, 0, 83)))], h)) rfl ?_
  refine Ev.gfr (r := (27, 6, 87)) rfl h9 ?_
  refine Ev.sts 1 (c' := (618, [some (.inr (.inr (.inr (11, 0, 83)))), x1, x2, some (.inr (.inr (.inr (20, 4, ga))))], [.inr (.inr (.inr (11, 0, 83))), .inr (.inr (.inr (27, 6, 87)))], h)) rfl ?_
  refine Ev.gv (w := (iZ ((al : Int)))) rfl ha ?_
  refine Ev.sts 2 (c' := (623, [some (.inr (.inr (.inr (11, 0, 83)))), x1, x2, some (.inr (.inr (.inr (20, 4, ga))))], [.inl (iZ (0)), .inr (.inr (.inr (11, 0, 83))), .inl (iZ ((al : Int))), .inr (.inr (.inr (27, 6, 87)))], h)) rfl ?_
  refine Ev.callw (a := [.inr (.inr (.inr (11, 0, 83))), .inl (iZ (0))]) rfl (val_0 _ hE _ _ _ _ _ _ _ _ trivial b lx en (by omega) (by omega) (by omega) (fun h1 ra P => ?_))
  refine Ev.sto (j := (iZ ((al : Int)))) (n := 6) (h2 := (setR h1 87 al (13, 0, ra))) (iZ_in (by omega) (by omega) (by omega)) rfl (by rw [iZ_ix (n := al) (by omega) (by omega)]) ?_
  exact k _ _ P

