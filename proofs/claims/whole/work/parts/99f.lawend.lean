/-! The law's cases: calls that change the state; end. -/
theorem inv_st {L : Nat} {xs : Nat → Int32} {t b n n1 : Nat} {u u1 : Q5} {y y1 : Y4} {S S1 : Sta} {h h1 h2 : PH} (V : InvS xs t h S b n u y) (c1 : CI h1 S1 b n1 u1) (f1 : FX pCl h h1 u u1 n n1) (m1 : MI h1 S y) (m2 : MI h2 S1 y1) (f2 : FM pMo h1 h2 y y1) (w1 : WSr S1 (30 * t + 30) (wmS S1)) : InvL L xs (t + 1) h2 := by
  obtain ⟨c, m, w, a1, a2, ⟨r1, r2⟩, x⟩ := V
  have ho := (mi_op m).2.2.2.2.2.1
  have ht := (mi_tm m).2.2.2.2.2.1
  have ho1 := (mi_op m1).2.2.2.2.2.1
  have ht1 := (mi_tm m1).2.2.2.2.2.1
  have d := (ci_tl c).2.2.2.2.1
  have d1 := (ci_tl c1).2.2.2.2.1
  have hn := ci_hN c
  have hn1 := ci_hN c1
  have b1 := qn_1 a1 f1.2.2.2.2.2.2.2 ho.2
  have b2 := qn_1 a2 f1.2.2.2.2.2.2.2 ht.2
  obtain ⟨_, _, g3, g4, g5, g6, g7, g8⟩ := f1
  have F2 := f2
  obtain ⟨_, _, k3, k4, k5, k6, k7, k8, k9, k10⟩ := f2
  refine ⟨S1, b, n1, u1, y1, CI_FM c1 w1.1.2.2.2.2.1 F2 (mi_sh m2) ho1 ht1 b1 b2, m2, WSr_up w1 (by omega), qn_2 d1 b1 k9, qn_2 d1 b2 k10, ⟨by omega, by omega⟩, fun j => ?_⟩
  unfold aO at ho ht
  have q0 : qN u 0 := by unfold qD qO at d; unfold qN; omega
  rw [k3 0 (by unfold pMo; omega) (by omega) (by omega) (by omega), g3 0 (by unfold pCl; omega) (by decide) q0 (by omega)]
  exact x j
theorem lw_end {d L t b n : Nat} {xs : Nat → Int32} {i : Int32} {va vb vc ve : Option VV} {u : Q5} {y : Y4} {S : Sta} {h : PH} {Q : Rs → PH → Prop} (V : InvS xs t h S b n u y) (ht : t ≤ 600) (k : ∀ h2, InvL L xs (t + 1) h2 → Ev (d + 6) 25 (2080, [some (.inr (.inr (.inr (45, L, 0)))), some (.inr (.inr (.inr (1, 0, 1)))), some (.inr (.inr (.inr (11, 0, 83)))), some (.inr (.inr (.inr (21, 1, 102)))), some (.inl (i)), va, vb, vc, ve], [], h2) Q) : Ev (d + 6) 25 (558, [some (.inr (.inr (.inr (45, L, 0)))), some (.inr (.inr (.inr (1, 0, 1)))), some (.inr (.inr (.inr (11, 0, 83)))), some (.inr (.inr (.inr (21, 1, 102)))), some (.inl (i)), va, vb, vc, ve], [], h) Q := by
  obtain ⟨cI, mI, w, a1, a2, -⟩ := id V
  have wN := WS_N w (by omega)
  have cp := WSr_cap w
  refine Ev.sts 1 (c' := (559, [some (.inr (.inr (.inr (45, L, 0)))), some (.inr (.inr (.inr (1, 0, 1)))), some (.inr (.inr (.inr (11, 0, 83)))), some (.inr (.inr (.inr (21, 1, 102)))), some (.inl (i)), va, vb, vc, ve], [.inr (.inr (.inr (1, 0, 1)))], h)) rfl ?_
  refine Ev.callw (a := [.inr (.inr (.inr (1, 0, 1)))]) rfl (cs_end cI wN cp (fun h1 n1 u1 c1 f1 => ?_))
  have m1 := MI_FX mI f1 (qn_u cI) a1 a2
  refine Ev.sts 1 (c' := (563, [some (.inr (.inr (.inr (45, L, 0)))), some (.inr (.inr (.inr (1, 0, 1)))), some (.inr (.inr (.inr (11, 0, 83)))), some (.inr (.inr (.inr (21, 1, 102)))), some (.inl (i)), va, vb, vc, ve], [.inr (.inr (.inr (11, 0, 83))), .inl (iZ (((tlS (endS S)).length : Int) - (tlS S).length))], h1)) rfl ?_
  refine Ev.callw (a := [.inr (.inr (.inr (11, 0, 83)))]) rfl (ms_end m1 wN cp (fun h2 y1 m2 f2 _ => ?_))
  refine Ev.brT (p := (iZ (((tlS (endS S)).length : Int) - (tlS S).length)) = (iZ (((tlS (endS S)).length : Int) - (tlS S).length))) (c1 := (2080, [some (.inr (.inr (.inr (45, L, 0)))), some (.inr (.inr (.inr (1, 0, 1)))), some (.inr (.inr (.inr (11, 0, 83)))), some (.inr (.inr (.inr (21, 1, 102)))), some (.inl (i)), va, vb, vc, ve], [], h2)) (c2 := (569, [some (.inr (.inr (.inr (45, L, 0)))), some (.inr (.inr (.inr (1, 0, 1)))), some (.inr (.inr (.inr (11, 0, 83)))), some (.inr (.inr (.inr (21, 1, 102)))), some (.inl (i)), va, vb, vc, ve], [], h2)) rfl rfl ?_
  exact k _ (inv_st V c1 f1 m1 m2 f2 (WSr_up (WS_end w) (by omega)))

