/-! The law's cases: what both sides count. -/
theorem inv_83 {L : Nat} {xs : Nat → Int32} {t b n : Nat} {u : Q5} {y : Y4} {S : Sta} {h : PH} {v : Int32} (V : InvS xs t h S b n u y) : InvL L xs (t + 1) (setI h 83 0 v) := by
  obtain ⟨c, m, w, a1, a2, r, x⟩ := V
  refine ⟨S, b, n, u, y, CI_keep c w.1.2.2.2.2.1 (fun a b1 b2 => setI_oth (by omega)) (fun a q1 _ => setI_oth (by unfold qO at q1; omega)) (fun _ _ _ => rfl) (Sh_eq (ci_sh c) rfl) (Nat.le_refl _), MI_th m, WSr_up w (by omega), a1, a2, rmH_up r, fun j => (setI_ne (by omega)).trans (x j)⟩
theorem lw_errorAt {d L t b n : Nat} {xs : Nat → Int32} {i : Int32} {va vb vc ve : Option VV} {u : Q5} {y : Y4} {S : Sta} {h : PH} {Q : Rs → PH → Prop} (V : InvS xs t h S b n u y) (ht : t ≤ 600) (k : ∀ h2, InvL L xs (t + 1) h2 → Ev (d + 2) 25 (2080, [some (.inr (.inr (.inr (45, L, 0)))), some (.inr (.inr (.inr (1, 0, 1)))), some (.inr (.inr (.inr (11, 0, 83)))), some (.inr (.inr (.inr (21, 1, 102)))), some (.inl (i)), va, vb, vc, ve], [], h2) Q) : Ev (d + 2) 25 (397, [some (.inr (.inr (.inr (45, L, 0)))), some (.inr (.inr (.inr (1, 0, 1)))), some (.inr (.inr (.inr (11, 0, 83)))), some (.inr (.inr (.inr (21, 1, 102)))), some (.inl (i)), va, vb, vc, ve], [], h) Q := by
  obtain ⟨cI, mI, w, -⟩ := id V
  have wN := WS_N w (by omega)
  refine Ev.sts 1 (c' := (398, [some (.inr (.inr (.inr (45, L, 0)))), some (.inr (.inr (.inr (1, 0, 1)))), some (.inr (.inr (.inr (11, 0, 83)))), some (.inr (.inr (.inr (21, 1, 102)))), some (.inl (i)), va, vb, vc, ve], [.inr (.inr (.inr (1, 0, 1)))], h)) rfl ?_
  refine Ev.callv (a := [.inr (.inr (.inr (1, 0, 1)))]) rfl (cx_errorAt cI) ?_
  refine Ev.sts 1 (c' := (402, [some (.inr (.inr (.inr (45, L, 0)))), some (.inr (.inr (.inr (1, 0, 1)))), some (.inr (.inr (.inr (11, 0, 83)))), some (.inr (.inr (.inr (21, 1, 102)))), some (.inl (i)), va, vb, vc, ve], [.inr (.inr (.inr (11, 0, 83))), .inl (iZ (eaS S))], h)) rfl ?_
  refine Ev.callv (a := [.inr (.inr (.inr (11, 0, 83)))]) rfl (mx_errorAt mI wN) ?_
  refine Ev.brT (p := (iZ (eaS S)) = (iZ (eaS S))) (c1 := (2080, [some (.inr (.inr (.inr (45, L, 0)))), some (.inr (.inr (.inr (1, 0, 1)))), some (.inr (.inr (.inr (11, 0, 83)))), some (.inr (.inr (.inr (21, 1, 102)))), some (.inl (i)), va, vb, vc, ve], [], (setI h 83 0 (iZ 0)))) (c2 := (408, [some (.inr (.inr (.inr (45, L, 0)))), some (.inr (.inr (.inr (1, 0, 1)))), some (.inr (.inr (.inr (11, 0, 83)))), some (.inr (.inr (.inr (21, 1, 102)))), some (.inl (i)), va, vb, vc, ve], [], (setI h 83 0 (iZ 0)))) rfl rfl ?_
  exact k _ (inv_83 V)

theorem lw_flocks {d L t b n : Nat} {xs : Nat → Int32} {i : Int32} {va vb vc ve : Option VV} {u : Q5} {y : Y4} {S : Sta} {h : PH} {Q : Rs → PH → Prop} (V : InvS xs t h S b n u y) (ht : t ≤ 600) (k : ∀ h2, InvL L xs (t + 1) h2 → Ev (d + 2) 25 (2080, [some (.inr (.inr (.inr (45, L, 0)))), some (.inr (.inr (.inr (1, 0, 1)))), some (.inr (.inr (.inr (11, 0, 83)))), some (.inr (.inr (.inr (21, 1, 102)))), some (.inl (i)), va, vb, vc, ve], [], h2) Q) : Ev (d + 2) 25 (571, [some (.inr (.inr (.inr (45, L, 0)))), some (.inr (.inr (.inr (1, 0, 1)))), some (.inr (.inr (.inr (11, 0, 83)))), some (.inr (.inr (.inr (21, 1, 102)))), some (.inl (i)), va, vb, vc, ve], [], h) Q := by
  obtain ⟨cI, mI, w, -⟩ := id V
  have wN := WS_N w (by omega)
  refine Ev.sts 1 (c' := (572, [some (.inr (.inr (.inr (45, L, 0)))), some (.inr (.inr (.inr (1, 0, 1)))), some (.inr (.inr (.inr (11, 0, 83)))), some (.inr (.inr (.inr (21, 1, 102)))), some (.inl (i)), va, vb, vc, ve], [.inr (.inr (.inr (1, 0, 1)))], h)) rfl ?_
  refine Ev.callv (a := [.inr (.inr (.inr (1, 0, 1)))]) rfl (cx_flocks cI) ?_
  refine Ev.sts 1 (c' := (576, [some (.inr (.inr (.inr (45, L, 0)))), some (.inr (.inr (.inr (1, 0, 1)))), some (.inr (.inr (.inr (11, 0, 83)))), some (.inr (.inr (.inr (21, 1, 102)))), some (.inl (i)), va, vb, vc, ve], [.inr (.inr (.inr (11, 0, 83))), .inl (iZ ((bkS S).2.1.length))], h)) rfl ?_
  refine Ev.callv (a := [.inr (.inr (.inr (11, 0, 83)))]) rfl (mx_flocks mI wN) ?_
  refine Ev.brT (p := (iZ ((bkS S).2.1.length)) = (iZ ((bkS S).2.1.length))) (c1 := (2080, [some (.inr (.inr (.inr (45, L, 0)))), some (.inr (.inr (.inr (1, 0, 1)))), some (.inr (.inr (.inr (11, 0, 83)))), some (.inr (.inr (.inr (21, 1, 102)))), some (.inl (i)), va, vb, vc, ve], [], (setI h 83 0 (iZ 0)))) (c2 := (582, [some (.inr (.inr (.inr (45, L, 0)))), some (.inr (.inr (.inr (1, 0, 1)))), some (.inr (.inr (.inr (11, 0, 83)))), some (.inr (.inr (.inr (21, 1, 102)))), some (.inl (i)), va, vb, vc, ve], [], (setI h 83 0 (iZ 0)))) rfl rfl ?_
  exact k _ (inv_83 V)

theorem lw_geese {d L t b n : Nat} {xs : Nat → Int32} {i : Int32} {va vb vc ve : Option VV} {u : Q5} {y : Y4} {S : Sta} {h : PH} {Q : Rs → PH → Prop} (V : InvS xs t h S b n u y) (ht : t ≤ 600) (k : ∀ h2, InvL L xs (t + 1) h2 → Ev (d + 2) 25 (2080, [some (.inr (.inr (.inr (45, L, 0)))), some (.inr (.inr (.inr (1, 0, 1)))), some (.inr (.inr (.inr (11, 0, 83)))), some (.inr (.inr (.inr (21, 1, 102)))), some (.inl (i)), va, vb, vc, ve], [], h2) Q) : Ev (d + 2) 25 (584, [some (.inr (.inr (.inr (45, L, 0)))), some (.inr (.inr (.inr (1, 0, 1)))), some (.inr (.inr (.inr (11, 0, 83)))), some (.inr (.inr (.inr (21, 1, 102)))), some (.inl (i)), va, vb, vc, ve], [], h) Q := by
  obtain ⟨cI, mI, w, -⟩ := id V
  have wN := WS_N w (by omega)
  refine Ev.sts 1 (c' := (585, [some (.inr (.inr (.inr (45, L, 0)))), some (.inr (.inr (.inr (1, 0, 1)))), some (.inr (.inr (.inr (11, 0, 83)))), some (.inr (.inr (.inr (21, 1, 102)))), some (.inl (i)), va, vb, vc, ve], [.inr (.inr (.inr (1, 0, 1)))], h)) rfl ?_
  refine Ev.callv (a := [.inr (.inr (.inr (1, 0, 1)))]) rfl (cx_geese cI) ?_
  refine Ev.sts 1 (c' := (589, [some (.inr (.inr (.inr (45, L, 0)))), some (.inr (.inr (.inr (1, 0, 1)))), some (.inr (.inr (.inr (11, 0, 83)))), some (.inr (.inr (.inr (21, 1, 102)))), some (.inl (i)), va, vb, vc, ve], [.inr (.inr (.inr (11, 0, 83))), .inl (iZ ((bkS S).2.2.length))], h)) rfl ?_
  refine Ev.callv (a := [.inr (.inr (.inr (11, 0, 83)))]) rfl (mx_geese mI wN) ?_
  refine Ev.brT (p := (iZ ((bkS S).2.2.length)) = (iZ ((bkS S).2.2.length))) (c1 := (2080, [some (.inr (.inr (.inr (45, L, 0)))), some (.inr (.inr (.inr (1, 0, 1)))), some (.inr (.inr (.inr (11, 0, 83)))), some (.inr (.inr (.inr (21, 1, 102)))), some (.inl (i)), va, vb, vc, ve], [], (setI h 83 0 (iZ 0)))) (c2 := (595, [some (.inr (.inr (.inr (45, L, 0)))), some (.inr (.inr (.inr (1, 0, 1)))), some (.inr (.inr (.inr (11, 0, 83)))), some (.inr (.inr (.inr (21, 1, 102)))), some (.inl (i)), va, vb, vc, ve], [], (setI h 83 0 (iZ 0)))) rfl rfl ?_
  exact k _ (inv_83 V)

theorem lw_commas {d L t b n : Nat} {xs : Nat → Int32} {i : Int32} {va vb vc ve : Option VV} {u : Q5} {y : Y4} {S : Sta} {h : PH} {Q : Rs → PH → Prop} (V : InvS xs t h S b n u y) (ht : t ≤ 600) (k : ∀ h2, InvL L xs (t + 1) h2 → Ev (d + 2) 25 (2080, [some (.inr (.inr (.inr (45, L, 0)))), some (.inr (.inr (.inr (1, 0, 1)))), some (.inr (.inr (.inr (11, 0, 83)))), some (.inr (.inr (.inr (21, 1, 102)))), some (.inl (i)), va, vb, vc, ve], [], h2) Q) : Ev (d + 2) 25 (597, [some (.inr (.inr (.inr (45, L, 0)))), some (.inr (.inr (.inr (1, 0, 1)))), some (.inr (.inr (.inr (11, 0, 83)))), some (.inr (.inr (.inr (21, 1, 102)))), some (.inl (i)), va, vb, vc, ve], [], h) Q := by
  obtain ⟨cI, mI, w, -⟩ := id V
  have wN := WS_N w (by omega)
  refine Ev.sts 1 (c' := (598, [some (.inr (.inr (.inr (45, L, 0)))), some (.inr (.inr (.inr (1, 0, 1)))), some (.inr (.inr (.inr (11, 0, 83)))), some (.inr (.inr (.inr (21, 1, 102)))), some (.inl (i)), va, vb, vc, ve], [.inr (.inr (.inr (1, 0, 1)))], h)) rfl ?_
  refine Ev.callv (a := [.inr (.inr (.inr (1, 0, 1)))]) rfl (cx_commas cI) ?_
  refine Ev.sts 1 (c' := (602, [some (.inr (.inr (.inr (45, L, 0)))), some (.inr (.inr (.inr (1, 0, 1)))), some (.inr (.inr (.inr (11, 0, 83)))), some (.inr (.inr (.inr (21, 1, 102)))), some (.inl (i)), va, vb, vc, ve], [.inr (.inr (.inr (11, 0, 83))), .inl (iZ ((csS S).length))], h)) rfl ?_
  refine Ev.callv (a := [.inr (.inr (.inr (11, 0, 83)))]) rfl (mx_commas mI wN) ?_
  refine Ev.brT (p := (iZ ((csS S).length)) = (iZ ((csS S).length))) (c1 := (2080, [some (.inr (.inr (.inr (45, L, 0)))), some (.inr (.inr (.inr (1, 0, 1)))), some (.inr (.inr (.inr (11, 0, 83)))), some (.inr (.inr (.inr (21, 1, 102)))), some (.inl (i)), va, vb, vc, ve], [], (setI h 83 0 (iZ 0)))) (c2 := (608, [some (.inr (.inr (.inr (45, L, 0)))), some (.inr (.inr (.inr (1, 0, 1)))), some (.inr (.inr (.inr (11, 0, 83)))), some (.inr (.inr (.inr (21, 1, 102)))), some (.inl (i)), va, vb, vc, ve], [], (setI h 83 0 (iZ 0)))) rfl rfl ?_
  exact k _ (inv_83 V)

theorem lw_nights {d L t b n : Nat} {xs : Nat → Int32} {i : Int32} {va vb vc ve : Option VV} {u : Q5} {y : Y4} {S : Sta} {h : PH} {Q : Rs → PH → Prop} (V : InvS xs t h S b n u y) (ht : t ≤ 600) (k : ∀ h2, InvL L xs (t + 1) h2 → Ev (d + 2) 25 (2080, [some (.inr (.inr (.inr (45, L, 0)))), some (.inr (.inr (.inr (1, 0, 1)))), some (.inr (.inr (.inr (11, 0, 83)))), some (.inr (.inr (.inr (21, 1, 102)))), some (.inl (i)), va, vb, vc, ve], [], h2) Q) : Ev (d + 2) 25 (610, [some (.inr (.inr (.inr (45, L, 0)))), some (.inr (.inr (.inr (1, 0, 1)))), some (.inr (.inr (.inr (11, 0, 83)))), some (.inr (.inr (.inr (21, 1, 102)))), some (.inl (i)), va, vb, vc, ve], [], h) Q := by
  obtain ⟨cI, mI, w, -⟩ := id V
  have wN := WS_N w (by omega)
  refine Ev.sts 1 (c' := (611, [some (.inr (.inr (.inr (45, L, 0)))), some (.inr (.inr (.inr (1, 0, 1)))), some (.inr (.inr (.inr (11, 0, 83)))), some (.inr (.inr (.inr (21, 1, 102)))), some (.inl (i)), va, vb, vc, ve], [.inr (.inr (.inr (1, 0, 1)))], h)) rfl ?_
  refine Ev.callv (a := [.inr (.inr (.inr (1, 0, 1)))]) rfl (cx_nights cI) ?_
  refine Ev.sts 1 (c' := (615, [some (.inr (.inr (.inr (45, L, 0)))), some (.inr (.inr (.inr (1, 0, 1)))), some (.inr (.inr (.inr (11, 0, 83)))), some (.inr (.inr (.inr (21, 1, 102)))), some (.inl (i)), va, vb, vc, ve], [.inr (.inr (.inr (11, 0, 83))), .inl (iZ (ntS S))], h)) rfl ?_
  refine Ev.callv (a := [.inr (.inr (.inr (11, 0, 83)))]) rfl (mx_nights mI wN) ?_
  refine Ev.brT (p := (iZ (ntS S)) = (iZ (ntS S))) (c1 := (2080, [some (.inr (.inr (.inr (45, L, 0)))), some (.inr (.inr (.inr (1, 0, 1)))), some (.inr (.inr (.inr (11, 0, 83)))), some (.inr (.inr (.inr (21, 1, 102)))), some (.inl (i)), va, vb, vc, ve], [], (setI h 83 0 (iZ 0)))) (c2 := (621, [some (.inr (.inr (.inr (45, L, 0)))), some (.inr (.inr (.inr (1, 0, 1)))), some (.inr (.inr (.inr (11, 0, 83)))), some (.inr (.inr (.inr (21, 1, 102)))), some (.inl (i)), va, vb, vc, ve], [], (setI h 83 0 (iZ 0)))) rfl rfl ?_
  exact k _ (inv_83 V)

theorem lw_phase {d L t b n : Nat} {xs : Nat → Int32} {i : Int32} {va vb vc ve : Option VV} {u : Q5} {y : Y4} {S : Sta} {h : PH} {Q : Rs → PH → Prop} (V : InvS xs t h S b n u y) (ht : t ≤ 600) (k : ∀ h2, InvL L xs (t + 1) h2 → Ev (d + 2) 25 (2080, [some (.inr (.inr (.inr (45, L, 0)))), some (.inr (.inr (.inr (1, 0, 1)))), some (.inr (.inr (.inr (11, 0, 83)))), some (.inr (.inr (.inr (21, 1, 102)))), some (.inl (i)), va, vb, vc, ve], [], h2) Q) : Ev (d + 2) 25 (623, [some (.inr (.inr (.inr (45, L, 0)))), some (.inr (.inr (.inr (1, 0, 1)))), some (.inr (.inr (.inr (11, 0, 83)))), some (.inr (.inr (.inr (21, 1, 102)))), some (.inl (i)), va, vb, vc, ve], [], h) Q := by
  obtain ⟨cI, mI, w, -⟩ := id V
  have wN := WS_N w (by omega)
  refine Ev.sts 1 (c' := (624, [some (.inr (.inr (.inr (45, L, 0)))), some (.inr (.inr (.inr (1, 0, 1)))), some (.inr (.inr (.inr (11, 0, 83)))), some (.inr (.inr (.inr (21, 1, 102)))), some (.inl (i)), va, vb, vc, ve], [.inr (.inr (.inr (1, 0, 1)))], h)) rfl ?_
  refine Ev.callv (a := [.inr (.inr (.inr (1, 0, 1)))]) rfl (cx_phase cI wN) ?_
  refine Ev.sts 1 (c' := (628, [some (.inr (.inr (.inr (45, L, 0)))), some (.inr (.inr (.inr (1, 0, 1)))), some (.inr (.inr (.inr (11, 0, 83)))), some (.inr (.inr (.inr (21, 1, 102)))), some (.inl (i)), va, vb, vc, ve], [.inr (.inr (.inr (11, 0, 83))), .inl (iZ (phB (bkS S) (ntS S)))], h)) rfl ?_
  refine Ev.callv (a := [.inr (.inr (.inr (11, 0, 83)))]) rfl (mx_phase mI wN) ?_
  refine Ev.brT (p := (iZ (phB (bkS S) (ntS S))) = (iZ (phB (bkS S) (ntS S)))) (c1 := (2080, [some (.inr (.inr (.inr (45, L, 0)))), some (.inr (.inr (.inr (1, 0, 1)))), some (.inr (.inr (.inr (11, 0, 83)))), some (.inr (.inr (.inr (21, 1, 102)))), some (.inl (i)), va, vb, vc, ve], [], (setI h 83 0 (iZ 0)))) (c2 := (634, [some (.inr (.inr (.inr (45, L, 0)))), some (.inr (.inr (.inr (1, 0, 1)))), some (.inr (.inr (.inr (11, 0, 83)))), some (.inr (.inr (.inr (21, 1, 102)))), some (.inl (i)), va, vb, vc, ve], [], (setI h 83 0 (iZ 0)))) rfl rfl ?_
  exact k _ (inv_83 V)

theorem lw_allowance {d L t b n : Nat} {xs : Nat → Int32} {i : Int32} {va vb vc ve : Option VV} {u : Q5} {y : Y4} {S : Sta} {h : PH} {Q : Rs → PH → Prop} (V : InvS xs t h S b n u y) (ht : t ≤ 600) (k : ∀ h2, InvL L xs (t + 1) h2 → Ev (d + 3) 25 (2080, [some (.inr (.inr (.inr (45, L, 0)))), some (.inr (.inr (.inr (1, 0, 1)))), some (.inr (.inr (.inr (11, 0, 83)))), some (.inr (.inr (.inr (21, 1, 102)))), some (.inl (i)), va, vb, vc, ve], [], h2) Q) : Ev (d + 3) 25 (636, [some (.inr (.inr (.inr (45, L, 0)))), some (.inr (.inr (.inr (1, 0, 1)))), some (.inr (.inr (.inr (11, 0, 83)))), some (.inr (.inr (.inr (21, 1, 102)))), some (.inl (i)), va, vb, vc, ve], [], h) Q := by
  obtain ⟨cI, mI, w, -⟩ := id V
  have wN := WS_N w (by omega)
  refine Ev.sts 1 (c' := (637, [some (.inr (.inr (.inr (45, L, 0)))), some (.inr (.inr (.inr (1, 0, 1)))), some (.inr (.inr (.inr (11, 0, 83)))), some (.inr (.inr (.inr (21, 1, 102)))), some (.inl (i)), va, vb, vc, ve], [.inr (.inr (.inr (1, 0, 1)))], h)) rfl ?_
  refine Ev.callv (a := [.inr (.inr (.inr (1, 0, 1)))]) rfl (cx_allowance cI wN) ?_
  refine Ev.sts 1 (c' := (641, [some (.inr (.inr (.inr (45, L, 0)))), some (.inr (.inr (.inr (1, 0, 1)))), some (.inr (.inr (.inr (11, 0, 83)))), some (.inr (.inr (.inr (21, 1, 102)))), some (.inl (i)), va, vb, vc, ve], [.inr (.inr (.inr (11, 0, 83))), .inl (iZ (alB (bkS S) (ntS S)))], h)) rfl ?_
  refine Ev.callv (a := [.inr (.inr (.inr (11, 0, 83)))]) rfl (mx_allowance mI wN) ?_
  refine Ev.brT (p := (iZ (alB (bkS S) (ntS S))) = (iZ (alB (bkS S) (ntS S)))) (c1 := (2080, [some (.inr (.inr (.inr (45, L, 0)))), some (.inr (.inr (.inr (1, 0, 1)))), some (.inr (.inr (.inr (11, 0, 83)))), some (.inr (.inr (.inr (21, 1, 102)))), some (.inl (i)), va, vb, vc, ve], [], (setI h 83 0 (iZ 0)))) (c2 := (647, [some (.inr (.inr (.inr (45, L, 0)))), some (.inr (.inr (.inr (1, 0, 1)))), some (.inr (.inr (.inr (11, 0, 83)))), some (.inr (.inr (.inr (21, 1, 102)))), some (.inl (i)), va, vb, vc, ve], [], (setI h 83 0 (iZ 0)))) rfl rfl ?_
  exact k _ (inv_83 V)

theorem lw_greatestHour {d L t b n : Nat} {xs : Nat → Int32} {i : Int32} {va vb vc ve : Option VV} {u : Q5} {y : Y4} {S : Sta} {h : PH} {Q : Rs → PH → Prop} (V : InvS xs t h S b n u y) (ht : t ≤ 600) (k : ∀ h2, InvL L xs (t + 1) h2 → Ev (d + 2) 25 (2080, [some (.inr (.inr (.inr (45, L, 0)))), some (.inr (.inr (.inr (1, 0, 1)))), some (.inr (.inr (.inr (11, 0, 83)))), some (.inr (.inr (.inr (21, 1, 102)))), some (.inl (i)), va, vb, vc, ve], [], h2) Q) : Ev (d + 2) 25 (649, [some (.inr (.inr (.inr (45, L, 0)))), some (.inr (.inr (.inr (1, 0, 1)))), some (.inr (.inr (.inr (11, 0, 83)))), some (.inr (.inr (.inr (21, 1, 102)))), some (.inl (i)), va, vb, vc, ve], [], h) Q := by
  obtain ⟨cI, mI, w, -⟩ := id V
  have wN := WS_N w (by omega)
  refine Ev.sts 1 (c' := (650, [some (.inr (.inr (.inr (45, L, 0)))), some (.inr (.inr (.inr (1, 0, 1)))), some (.inr (.inr (.inr (11, 0, 83)))), some (.inr (.inr (.inr (21, 1, 102)))), some (.inl (i)), va, vb, vc, ve], [.inr (.inr (.inr (1, 0, 1)))], h)) rfl ?_
  refine Ev.callv (a := [.inr (.inr (.inr (1, 0, 1)))]) rfl (cx_greatestHour cI) ?_
  refine Ev.sts 1 (c' := (654, [some (.inr (.inr (.inr (45, L, 0)))), some (.inr (.inr (.inr (1, 0, 1)))), some (.inr (.inr (.inr (11, 0, 83)))), some (.inr (.inr (.inr (21, 1, 102)))), some (.inl (i)), va, vb, vc, ve], [.inr (.inr (.inr (11, 0, 83))), .inl (iZ (grS S))], h)) rfl ?_
  refine Ev.callv (a := [.inr (.inr (.inr (11, 0, 83)))]) rfl (mx_greatestHour mI wN) ?_
  refine Ev.brT (p := (iZ (grS S)) = (iZ (grS S))) (c1 := (2080, [some (.inr (.inr (.inr (45, L, 0)))), some (.inr (.inr (.inr (1, 0, 1)))), some (.inr (.inr (.inr (11, 0, 83)))), some (.inr (.inr (.inr (21, 1, 102)))), some (.inl (i)), va, vb, vc, ve], [], (setI h 83 0 (iZ 0)))) (c2 := (660, [some (.inr (.inr (.inr (45, L, 0)))), some (.inr (.inr (.inr (1, 0, 1)))), some (.inr (.inr (.inr (11, 0, 83)))), some (.inr (.inr (.inr (21, 1, 102)))), some (.inl (i)), va, vb, vc, ve], [], (setI h 83 0 (iZ 0)))) rfl rfl ?_
  exact k _ (inv_83 V)

theorem lw_watermark {d L t b n : Nat} {xs : Nat → Int32} {i : Int32} {va vb vc ve : Option VV} {u : Q5} {y : Y4} {S : Sta} {h : PH} {Q : Rs → PH → Prop} (V : InvS xs t h S b n u y) (ht : t ≤ 600) (k : ∀ h2, InvL L xs (t + 1) h2 → Ev (d + 2) 25 (2080, [some (.inr (.inr (.inr (45, L, 0)))), some (.inr (.inr (.inr (1, 0, 1)))), some (.inr (.inr (.inr (11, 0, 83)))), some (.inr (.inr (.inr (21, 1, 102)))), some (.inl (i)), va, vb, vc, ve], [], h2) Q) : Ev (d + 2) 25 (662, [some (.inr (.inr (.inr (45, L, 0)))), some (.inr (.inr (.inr (1, 0, 1)))), some (.inr (.inr (.inr (11, 0, 83)))), some (.inr (.inr (.inr (21, 1, 102)))), some (.inl (i)), va, vb, vc, ve], [], h) Q := by
  obtain ⟨cI, mI, w, -⟩ := id V
  have wN := WS_N w (by omega)
  refine Ev.sts 1 (c' := (663, [some (.inr (.inr (.inr (45, L, 0)))), some (.inr (.inr (.inr (1, 0, 1)))), some (.inr (.inr (.inr (11, 0, 83)))), some (.inr (.inr (.inr (21, 1, 102)))), some (.inl (i)), va, vb, vc, ve], [.inr (.inr (.inr (1, 0, 1)))], h)) rfl ?_
  refine Ev.callv (a := [.inr (.inr (.inr (1, 0, 1)))]) rfl (cx_watermark cI) ?_
  refine Ev.sts 1 (c' := (667, [some (.inr (.inr (.inr (45, L, 0)))), some (.inr (.inr (.inr (1, 0, 1)))), some (.inr (.inr (.inr (11, 0, 83)))), some (.inr (.inr (.inr (21, 1, 102)))), some (.inl (i)), va, vb, vc, ve], [.inr (.inr (.inr (11, 0, 83))), .inl (iZ (wmS S))], h)) rfl ?_
  refine Ev.callv (a := [.inr (.inr (.inr (11, 0, 83)))]) rfl (mx_watermark mI wN) ?_
  refine Ev.brT (p := (iZ (wmS S)) = (iZ (wmS S))) (c1 := (2080, [some (.inr (.inr (.inr (45, L, 0)))), some (.inr (.inr (.inr (1, 0, 1)))), some (.inr (.inr (.inr (11, 0, 83)))), some (.inr (.inr (.inr (21, 1, 102)))), some (.inl (i)), va, vb, vc, ve], [], (setI h 83 0 (iZ 0)))) (c2 := (673, [some (.inr (.inr (.inr (45, L, 0)))), some (.inr (.inr (.inr (1, 0, 1)))), some (.inr (.inr (.inr (11, 0, 83)))), some (.inr (.inr (.inr (21, 1, 102)))), some (.inl (i)), va, vb, vc, ve], [], (setI h 83 0 (iZ 0)))) rfl rfl ?_
  exact k _ (inv_83 V)

theorem lw_lateInAll {d L t b n : Nat} {xs : Nat → Int32} {i : Int32} {va vb vc ve : Option VV} {u : Q5} {y : Y4} {S : Sta} {h : PH} {Q : Rs → PH → Prop} (V : InvS xs t h S b n u y) (ht : t ≤ 600) (k : ∀ h2, InvL L xs (t + 1) h2 → Ev (d + 2) 25 (2080, [some (.inr (.inr (.inr (45, L, 0)))), some (.inr (.inr (.inr (1, 0, 1)))), some (.inr (.inr (.inr (11, 0, 83)))), some (.inr (.inr (.inr (21, 1, 102)))), some (.inl (i)), va, vb, vc, ve], [], h2) Q) : Ev (d + 2) 25 (675, [some (.inr (.inr (.inr (45, L, 0)))), some (.inr (.inr (.inr (1, 0, 1)))), some (.inr (.inr (.inr (11, 0, 83)))), some (.inr (.inr (.inr (21, 1, 102)))), some (.inl (i)), va, vb, vc, ve], [], h) Q := by
  obtain ⟨cI, mI, w, -⟩ := id V
  have wN := WS_N w (by omega)
  refine Ev.sts 1 (c' := (676, [some (.inr (.inr (.inr (45, L, 0)))), some (.inr (.inr (.inr (1, 0, 1)))), some (.inr (.inr (.inr (11, 0, 83)))), some (.inr (.inr (.inr (21, 1, 102)))), some (.inl (i)), va, vb, vc, ve], [.inr (.inr (.inr (1, 0, 1)))], h)) rfl ?_
  refine Ev.callv (a := [.inr (.inr (.inr (1, 0, 1)))]) rfl (cx_lateInAll cI wN) ?_
  refine Ev.sts 1 (c' := (680, [some (.inr (.inr (.inr (45, L, 0)))), some (.inr (.inr (.inr (1, 0, 1)))), some (.inr (.inr (.inr (11, 0, 83)))), some (.inr (.inr (.inr (21, 1, 102)))), some (.inl (i)), va, vb, vc, ve], [.inr (.inr (.inr (11, 0, 83))), .inl (iZ (lateA (ltS S)))], h)) rfl ?_
  refine Ev.callv (a := [.inr (.inr (.inr (11, 0, 83)))]) rfl (mx_lateInAll mI wN) ?_
  refine Ev.brT (p := (iZ (lateA (ltS S))) = (iZ (lateA (ltS S)))) (c1 := (2080, [some (.inr (.inr (.inr (45, L, 0)))), some (.inr (.inr (.inr (1, 0, 1)))), some (.inr (.inr (.inr (11, 0, 83)))), some (.inr (.inr (.inr (21, 1, 102)))), some (.inl (i)), va, vb, vc, ve], [], (setI h 83 0 (iZ 0)))) (c2 := (686, [some (.inr (.inr (.inr (45, L, 0)))), some (.inr (.inr (.inr (1, 0, 1)))), some (.inr (.inr (.inr (11, 0, 83)))), some (.inr (.inr (.inr (21, 1, 102)))), some (.inl (i)), va, vb, vc, ve], [], (setI h 83 0 (iZ 0)))) rfl rfl ?_
  exact k _ (inv_83 V)

theorem lw_tellings {d L t b n : Nat} {xs : Nat → Int32} {i : Int32} {va vb vc ve : Option VV} {u : Q5} {y : Y4} {S : Sta} {h : PH} {Q : Rs → PH → Prop} (V : InvS xs t h S b n u y) (ht : t ≤ 600) (k : ∀ h2, InvL L xs (t + 1) h2 → Ev (d + 2) 25 (2080, [some (.inr (.inr (.inr (45, L, 0)))), some (.inr (.inr (.inr (1, 0, 1)))), some (.inr (.inr (.inr (11, 0, 83)))), some (.inr (.inr (.inr (21, 1, 102)))), some (.inl (i)), va, vb, vc, ve], [], h2) Q) : Ev (d + 2) 25 (688, [some (.inr (.inr (.inr (45, L, 0)))), some (.inr (.inr (.inr (1, 0, 1)))), some (.inr (.inr (.inr (11, 0, 83)))), some (.inr (.inr (.inr (21, 1, 102)))), some (.inl (i)), va, vb, vc, ve], [], h) Q := by
  obtain ⟨cI, mI, w, -⟩ := id V
  have wN := WS_N w (by omega)
  refine Ev.sts 1 (c' := (689, [some (.inr (.inr (.inr (45, L, 0)))), some (.inr (.inr (.inr (1, 0, 1)))), some (.inr (.inr (.inr (11, 0, 83)))), some (.inr (.inr (.inr (21, 1, 102)))), some (.inl (i)), va, vb, vc, ve], [.inr (.inr (.inr (1, 0, 1)))], h)) rfl ?_
  refine Ev.callv (a := [.inr (.inr (.inr (1, 0, 1)))]) rfl (cx_tellings cI) ?_
  refine Ev.sts 1 (c' := (693, [some (.inr (.inr (.inr (45, L, 0)))), some (.inr (.inr (.inr (1, 0, 1)))), some (.inr (.inr (.inr (11, 0, 83)))), some (.inr (.inr (.inr (21, 1, 102)))), some (.inl (i)), va, vb, vc, ve], [.inr (.inr (.inr (11, 0, 83))), .inl (iZ ((tlS S).length))], h)) rfl ?_
  refine Ev.callv (a := [.inr (.inr (.inr (11, 0, 83)))]) rfl (mx_tellings mI wN) ?_
  refine Ev.brT (p := (iZ ((tlS S).length)) = (iZ ((tlS S).length))) (c1 := (2080, [some (.inr (.inr (.inr (45, L, 0)))), some (.inr (.inr (.inr (1, 0, 1)))), some (.inr (.inr (.inr (11, 0, 83)))), some (.inr (.inr (.inr (21, 1, 102)))), some (.inl (i)), va, vb, vc, ve], [], (setI h 83 0 (iZ 0)))) (c2 := (699, [some (.inr (.inr (.inr (45, L, 0)))), some (.inr (.inr (.inr (1, 0, 1)))), some (.inr (.inr (.inr (11, 0, 83)))), some (.inr (.inr (.inr (21, 1, 102)))), some (.inl (i)), va, vb, vc, ve], [], (setI h 83 0 (iZ 0)))) rfl rfl ?_
  exact k _ (inv_83 V)

