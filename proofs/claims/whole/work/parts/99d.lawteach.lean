/-! The law's case: teach. -/
theorem WSr_up {S : Sta} {N M : Nat} {wm : Int} (w : WSr S N wm) (h : N ≤ M) : WSr S M wm := by
  obtain ⟨w1, w2, w3, w4, w5, w6, w7, w8⟩ := w
  exact ⟨w1, w2, w3, Nat.le_trans w4 h, w5, w6, w7, w8⟩
theorem inv_te {xs : Nat → Int32} {t b b2 n : Nat} {u : Q5} {y : Y4} {S S1 : Sta} {h h1 h2 : PH} (V : InvS xs t h S b n u y) (c : CI h1 S1 b2 n u) (f : fW h h1) (m : MI h2 S1 y) (f2 : fV h1 h2) (w : WSr S1 (30 * t) (wmS S1)) : ∃ S b n u y, InvS xs (t + 1) h2 S b n u y := by
  obtain ⟨_, _, _, a1, a2, ⟨r1, r2⟩, x⟩ := V
  have hn1 := ci_hN c
  have e1 : hN h1 = hN h := by unfold hN; rw [f.1]
  have e2 : hS h1 = hS h := by unfold hS; rw [f.1]
  obtain ⟨_, _, g3, g4, g5, g6⟩ := id f2
  refine ⟨S1, b2, n, u, y, CI_fV c w.1.2.2.2.2.1 f2 (mi_sh m), m, WSr_up w (by omega), a1, a2, ⟨by omega, by omega⟩, fun j => ?_⟩
  rw [g3 0 (by unfold pMo; omega) (by omega), (f.2 0 (by unfold pCl; omega)).1]
  exact x j

theorem lw_teach {d L t b n : Nat} {xs : Nat → Int32} {i : Int32} {a va vb vc : Option VV} {u : Q5} {y : Y4} {S : Sta} {h : PH} {Q : Rs → PH → Prop} (V : InvS xs t h S b n u y) (ht : t ≤ 600) (k : ∀ h2, InvL L xs (t + 1) h2 → Ev (d + 73) 25 (2080, [some (.inr (.inr (.inr (45, L, 0)))), some (.inr (.inr (.inr (1, 0, 1)))), some (.inr (.inr (.inr (11, 0, 83)))), some (.inr (.inr (.inr (21, 1, 102)))), some (.inl (i)), a, va, vb, vc], [], h2) Q) : Ev (d + 73) 25 (384, [some (.inr (.inr (.inr (45, L, 0)))), some (.inr (.inr (.inr (1, 0, 1)))), some (.inr (.inr (.inr (11, 0, 83)))), some (.inr (.inr (.inr (21, 1, 102)))), some (.inl (i)), a, va, vb, vc], [], h) Q := by
  obtain ⟨cI, mI, w, -⟩ := id V
  have wN := WS_N w (by omega)
  have hb8 := w.2.2.2.2.2.2.2.2
  refine Ev.sts 1 (c' := (385, [some (.inr (.inr (.inr (45, L, 0)))), some (.inr (.inr (.inr (1, 0, 1)))), some (.inr (.inr (.inr (11, 0, 83)))), some (.inr (.inr (.inr (21, 1, 102)))), some (.inl (i)), a, va, vb, vc], [.inr (.inr (.inr (1, 0, 1)))], h)) rfl ?_
  refine Ev.callw (a := [.inr (.inr (.inr (1, 0, 1)))]) rfl (cs_teach cI wN hb8 (fun z1 h1 c1 f1 => ?_) (fun z1 h1 c1 f1 => ?_))
  · have m1 := MI_fW mI f1 (ci_sh c1)
    refine Ev.sts 1 (c' := (389, [some (.inr (.inr (.inr (45, L, 0)))), some (.inr (.inr (.inr (1, 0, 1)))), some (.inr (.inr (.inr (11, 0, 83)))), some (.inr (.inr (.inr (21, 1, 102)))), some (.inl (i)), a, va, vb, vc], [.inr (.inr (.inr (11, 0, 83))), .inl (iZ (((0 : Nat) : Int)))], h1)) rfl ?_
    refine Ev.callw (a := [.inr (.inr (.inr (11, 0, 83)))]) rfl (ms_teach m1 wN hb8 (fun z2 h2 m2 f2 _ => ?_) (fun z2 h2 m2 f2 _ => ?_))
    · refine Ev.brT (p := (iZ (((0 : Nat) : Int))) = (iZ (((0 : Nat) : Int)))) (c1 := (2080, [some (.inr (.inr (.inr (45, L, 0)))), some (.inr (.inr (.inr (1, 0, 1)))), some (.inr (.inr (.inr (11, 0, 83)))), some (.inr (.inr (.inr (21, 1, 102)))), some (.inl (i)), a, va, vb, vc], [], h2)) (c2 := (395, [some (.inr (.inr (.inr (45, L, 0)))), some (.inr (.inr (.inr (1, 0, 1)))), some (.inr (.inr (.inr (11, 0, 83)))), some (.inr (.inr (.inr (21, 1, 102)))), some (.inl (i)), a, va, vb, vc], [], h2)) rfl rfl ?_
      first | exact absurd z1 z2 | exact absurd z2 z1 | exact k _ (inv_te V c1 f1 m2 f2 (WS_tau w z1)) | exact k _ (inv_te V c1 f1 m2 f2 (WS_ter w))
    · first | exact absurd z1 z2 | exact absurd z2 z1
  · have m1 := MI_fW mI f1 (ci_sh c1)
    refine Ev.sts 1 (c' := (389, [some (.inr (.inr (.inr (45, L, 0)))), some (.inr (.inr (.inr (1, 0, 1)))), some (.inr (.inr (.inr (11, 0, 83)))), some (.inr (.inr (.inr (21, 1, 102)))), some (.inl (i)), a, va, vb, vc], [.inr (.inr (.inr (11, 0, 83))), .inl (iZ ((rdE (lex (tpS S))).1))], h1)) rfl ?_
    refine Ev.callw (a := [.inr (.inr (.inr (11, 0, 83)))]) rfl (ms_teach m1 wN hb8 (fun z2 h2 m2 f2 _ => ?_) (fun z2 h2 m2 f2 _ => ?_))
    · first | exact absurd z1 z2 | exact absurd z2 z1
    · refine Ev.brT (p := (iZ ((rdE (lex (tpS S))).1)) = (iZ ((rdE (lex (tpS S))).1))) (c1 := (2080, [some (.inr (.inr (.inr (45, L, 0)))), some (.inr (.inr (.inr (1, 0, 1)))), some (.inr (.inr (.inr (11, 0, 83)))), some (.inr (.inr (.inr (21, 1, 102)))), some (.inl (i)), a, va, vb, vc], [], h2)) (c2 := (395, [some (.inr (.inr (.inr (45, L, 0)))), some (.inr (.inr (.inr (1, 0, 1)))), some (.inr (.inr (.inr (11, 0, 83)))), some (.inr (.inr (.inr (21, 1, 102)))), some (.inl (i)), a, va, vb, vc], [], h2)) rfl rfl ?_
      first | exact absurd z1 z2 | exact absurd z2 z1 | exact k _ (inv_te V c1 f1 m2 f2 (WS_tau w z1)) | exact k _ (inv_te V c1 f1 m2 f2 (WS_ter w))

