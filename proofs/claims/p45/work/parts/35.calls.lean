/-! The class's calls that change it. -/
def mkS (tp : List Int) (ea : Int) (bk : Bk) (cs : List (Int × Int32)) (nt : Nat) (gr wm : Int) (wd : Nat → List Win) (lt : Nat → Nat) (tl : List Tel) : Sta := (tp, ea, bk, cs, nt, gr, wm, wd, lt, tl)
theorem CI_one {h h' : PH} {S : Sta} {b n nt : Nat} {gr wm : Int} {u : Q5} (I : CI h S b n u) (w5 : (bkS S).2.2.length ≤ 6) (e2 : h'.2 = h.2) (e : ∀ a, a ≠ 1 → h'.1 a = h.1 a) (e8 : h'.1 1 8 = h.1 1 8) (e9 : h'.1 1 9 = iZ nt) (e10 : h'.1 1 10 = iZ gr) (e11 : h'.1 1 11 = iZ wm) : CI h' (mkS (tpS S) (eaS S) (bkS S) (csS S) nt gr wm (wdS S) (ltS S) (tlS S)) b n u := by
  obtain ⟨i1, i2, i3, i4, i5, i6, i7, i8, i9, i10, i11, i12, i13, i14⟩ := I
  have d := i13.2.2.2.2.1
  obtain ⟨d1, d2, d3, d4, d5, -⟩ := d
  unfold qO at d1 d2 d3 d4 d5
  refine ⟨Sh_eq i1 e2, i2, by rw [e2]; exact i3, by rw [e2]; exact i4, ?_, by rw [e 2 (by omega)]; exact i6, bkC_eq e2 (fun a a1 a2 _ _ => e a (by omega)) w5 i7, ?_, e9, e10, e11, fun g hg => ?_, tlC_eq i13 e2 (fun a ha => e a (by omega)), by unfold hN; rw [e2]; exact i14⟩
  · rw [e 4 (by omega), e 5 (by omega)]; exact i5
  · rw [e8, e 29 (by omega), e 30 (by omega)]; exact i8
  · exact ⟨winC_eq (fun a a1 a2 => e a (by omega)) (i12 g hg).1, by rw [e (32 + 5 * g) (by omega)]; exact (i12 g hg).2⟩
theorem CI_fj {h h' : PH} {S : Sta} {b n : Nat} {u : Q5} (I : CI h S b n u) (w5 : (bkS S).2.2.length ≤ 6) (f : fj b h h') : CI h' S b n u := by
  obtain ⟨i1, i2, i3, i4, i5, i6, i7, i8, i9, i10, i11, i12, i13, i14⟩ := I
  have d := i13.2.2.2.2.1
  obtain ⟨d1, d2, d3, d4, d5, -⟩ := d
  unfold qO at d1 d2 d3 d4 d5
  obtain ⟨e2, e, -, -⟩ := f
  have e1 := e 1 (by omega) (by omega) (by omega)
  refine ⟨Sh_eq i1 e2, i2, by rw [e2]; exact i3, by rw [e2]; exact i4, ?_, by rw [e 2 (by omega) (by omega) (by omega)]; exact i6, bkC_eq e2 (fun a a1 a2 a3 a4 => e a a3 a4 (by omega)) w5 i7, ?_, by rw [e1]; exact i9, by rw [e1]; exact i10, by rw [e1]; exact i11, fun g hg => ?_, tlC_eq i13 e2 (fun a ha => e a (by omega) (by omega) (by omega)), by unfold hN; rw [e2]; exact i14⟩
  · rw [e 4 (by omega) (by omega) (by omega), e 5 (by omega) (by omega) (by omega)]; exact i5
  · rw [e1, e 29 (by omega) (by omega) (by omega), e 30 (by omega) (by omega) (by omega)]; exact i8
  · exact ⟨winC_eq (fun a a1 a2 => e a (by omega) (by omega) (by omega)) (i12 g hg).1, by rw [e (32 + 5 * g) (by omega) (by omega) (by omega)]; exact (i12 g hg).2⟩
theorem CI_fc {h h' : PH} {S : Sta} {b n : Nat} {u : Q5} {ws : Nat → List Win} {lt : Nat → Nat} (I : CI h S b n u) (w5 : (bkS S).2.2.length ≤ 6) (f : fc b h h') (wc : wsC h' ws lt) : CI h' (mkS (tpS S) (eaS S) (bkS S) (csS S) (ntS S) (grS S) (wmS S) ws lt (tlS S)) b n u := by
  obtain ⟨i1, i2, i3, i4, i5, i6, i7, i8, i9, i10, i11, i12, i13, i14⟩ := I
  have d := i13.2.2.2.2.1
  obtain ⟨d1, d2, d3, d4, d5, -⟩ := d
  unfold qO at d1 d2 d3 d4 d5
  obtain ⟨e2, e⟩ := f
  have e1 := e 1 (by omega) (by omega) (by omega)
  refine ⟨Sh_eq i1 e2, i2, by rw [e2]; exact i3, by rw [e2]; exact i4, ?_, by rw [e 2 (by omega) (by omega) (by omega)]; exact i6, bkC_eq e2 (fun a a1 a2 a3 a4 => e a a3 a4 (by omega)) w5 i7, ?_, by rw [e1]; exact i9, by rw [e1]; exact i10, by rw [e1]; exact i11, wc, tlC_eq i13 e2 (fun a ha => e a (by omega) (by omega) (by omega)), by unfold hN; rw [e2]; exact i14⟩
  · rw [e 4 (by omega) (by omega) (by omega), e 5 (by omega) (by omega) (by omega)]; exact i5
  · rw [e1, e 29 (by omega) (by omega) (by omega), e 30 (by omega) (by omega) (by omega)]; exact i8
theorem bkC_FX {P : Nat → Prop} {h h' : PH} {b n n' : Nat} {q q' : Q5} {B : Bk} (hb : b = 13 ∨ b = 68) (f : FX P h h' q q' n n') (hq : qD q (hN h)) (hh : 83 ≤ hN h) (hp : ∀ a, b ≤ a → a ≤ b + 14 → ¬ P a) (w5 : B.2.2.length ≤ 6) (k : bkC h b B) : bkC h' b B := by
  have e : ∀ a, b ≤ a → a ≤ b + 14 → h'.1 a = h.1 a := fun a a1 a2 => FX_1 f hq hh (hp a a1 a2) (by omega)
  obtain ⟨k1, k2, k3, k4, k5⟩ := k
  have pg : ∀ k l, pgC h b k l → pgC h' b k l := by
    intro k l p j hj
    obtain ⟨p1, p2⟩ := p j hj
    exact ⟨by rw [f.2.1 (b + 6) _ (by omega)]; exact p1, by rw [e (b + 7) (by omega) (by omega)]; exact p2⟩
  refine ⟨moC_eq (e b (by omega) (by omega)) (e (b + 1) (by omega) (by omega)) k1, ?_, ?_, fun f hf => ?_, fun g hg => ?_⟩
  · rw [e b (by omega) (by omega)]; exact k2
  · rw [e b (by omega) (by omega)]; exact k3
  · obtain ⟨k, t1, t2, t3, t4⟩ := k4 f hf
    exact ⟨k, t1, by rw [e (b + 2) (by omega) (by omega)]; exact t2, by rw [e (b + 3) (by omega) (by omega)]; exact t3, pg _ _ t4⟩
  · obtain ⟨g1, g2, g3, g4, g5, k, t1, t2, t3, t4⟩ := k5 g hg
    have eg := e (b + 9 + g) (by omega) (by omega)
    unfold gsC
    rw [eg]
    exact ⟨g1, g2, g3, g4, by rw [f.2.1 (b + 9 + g) _ (by omega)]; exact g5, k, t1, t2, t3, pg _ _ t4⟩
/-- what is over at the watermark is told -/
def tolS (S : Sta) : Sta := mkS (tpS S) (eaS S) (bkS S) (csS S) (ntS S) (grS S) (wmS S) (fun g => keepE (wdS S g) (wmS S)) (ltS S) (tlS S ++ gnL (wdS S) (wmS S) 6 0)
def capS (S : Sta) : Prop := (tlS S).length + lnL (wdS S) 6 0 ≤ 5040
theorem CI_tol {h h' : PH} {S : Sta} {b n n1 : Nat} {u u1 : Q5} (I : CI h S b n u) (w5 : (bkS S).2.2.length ≤ 6) (f : FX pWs h h' u u1 n n1) (wc : wsC h' (fun g => keepE (wdS S g) (wmS S)) (ltS S)) (ht : tlC h' (tlS S ++ gnL (wdS S) (wmS S) 6 0) n1 u1) : CI h' (tolS S) b n1 u1 := by
  obtain ⟨i1, i2, i3, i4, i5, i6, i7, i8, i9, i10, i11, i12, i13, i14⟩ := I
  have d := i13.2.2.2.2.1
  have e : ∀ a, a < 32 → h'.1 a = h.1 a := fun a ha => FX_1 f d i14 (fun z => by unfold pWs at z; omega) (by omega)
  have f4 := f.2.2.2.1
  refine ⟨Sh_FX i1 f, i2, by rw [f.2.1 1 7 (by omega)]; exact i3, by rw [f.2.1 2 4 (by omega)]; exact i4, ?_, by rw [e 2 (by omega)]; exact i6, bkC_FX i2 f d i14 (fun a a1 a2 z => by unfold pWs at z; omega) w5 i7, ?_, by rw [e 1 (by omega)]; exact i9, by rw [e 1 (by omega)]; exact i10, by rw [e 1 (by omega)]; exact i11, wc, ht, by omega⟩
  · rw [e 4 (by omega), e 5 (by omega)]; exact i5
  · rw [e 1 (by omega), e 29 (by omega), e 30 (by omega)]; exact i8
theorem cs_tell {d b n : Nat} {u : Q5} {S : Sta} {h : PH} {Q : Rs → PH → Prop} (I : CI h S b n u) (w5 : (bkS S).2.2.length ≤ 6) (wl : ∀ g, wsB 1000 (wdS S g)) (hm : 0 ≤ wmS S ∧ wmS S ≤ 2000) (cp : capS S) (q : ∀ h1 n1 u1, CI h1 (tolS S) b n1 u1 → FX pWs h h1 u u1 n n1 → Q (.inl none) h1) : Rn (d + 4) 72 [.inr (.inr (.inr (1, 0, 1)))] h Q :=
  sp_tellAll (ci_sh I) (ci_wm I) (ci_ws I) (ci_tl I) (ci_hN I) wl (by omega) (by omega) cp (fun h1 n1 u1 w1 t1 f1 => q h1 n1 u1 (CI_tol I w5 f1 w1 t1) f1)
def pCl (a : Nat) : Prop := 1 ≤ a ∧ a ≤ 82
theorem FX_of {P : Nat → Prop} {h h' : PH} {u : Q5} {n : Nat} (e2 : h'.2 = h.2) (e : ∀ a, ¬ P a → h'.1 a = h.1 a) : FX P h h' u u n n := by
  refine ⟨⟨by rw [e2], fun a p _ _ => e a p⟩, fun _ _ _ => by rw [e2], fun a p _ _ _ => e a p, ?_, Nat.le_refl _, ?_, ?_, qU_refl _ _⟩
  · unfold hN; rw [e2]; exact Nat.le_refl _
  · unfold hN; rw [e2]; exact Nat.le_refl _
  · unfold hS; rw [e2]; exact Nat.le_refl _
theorem pWs_Cl (a : Nat) (h : pWs a) : pCl a := by unfold pWs at h; unfold pCl; omega
def wmN (S : Sta) (m : Int) : Sta := mkS (tpS S) (eaS S) (bkS S) (csS S) (ntS S) (grS S) m (wdS S) (ltS S) (tlS S)
def endS (S : Sta) : Sta := tolS (wmN S 2000)
theorem CI_wm {h : PH} {S : Sta} {b n : Nat} {m : Int} {u : Q5} (I : CI h S b n u) (w5 : (bkS S).2.2.length ≤ 6) : CI (setI h 1 11 (iZ m)) (wmN S m) b n u :=
  CI_one I w5 rfl (fun a ha => setI_oth ha) (setI_ne (by omega)) ((setI_ne (by omega)).trans (ci_nt I)) ((setI_ne (by omega)).trans (ci_gr I)) (setI_self _ _ _ _)
theorem FX_1s {h : PH} {u : Q5} {n k : Nat} {v : Int32} : FX pCl h (setI h 1 k v) u u n n := FX_of rfl (fun a ha => setI_oth (fun z => ha (by unfold pCl; omega)))

def nigS (S : Sta) : Sta := tolS (mkS (tpS S) (eaS S) (bkS S) (csS S) (ntS S + 1) (grS S) (max (wmS S) (grS S - alB (bkS S) ((ntS S : Int) + 1))) (wdS S) (ltS S) (tlS S))
def nigN (S : Sta) : Nat → Sta
  | 0 => S
  | k + 1 => nigS (nigN S k)
def ntN (S : Sta) : Sta := mkS (tpS S) (eaS S) (bkS S) (csS S) (ntS S + 1) (grS S) (wmS S) (wdS S) (ltS S) (tlS S)
theorem CI_nt {h : PH} {S : Sta} {b n : Nat} {u : Q5} (I : CI h S b n u) (w5 : (bkS S).2.2.length ≤ 6) : CI (setI h 1 9 (iZ (ntS S + 1))) (ntN S) b n u :=
  CI_one I w5 rfl (fun a ha => setI_oth ha) (setI_ne (by omega)) (setI_self _ _ _ _) ((setI_ne (by omega)).trans (ci_gr I)) ((setI_ne (by omega)).trans (ci_wm I))
theorem wmb_any {d b n : Nat} {u : Q5} {S : Sta} {h : PH} {y x : Int} (I : CI h S b n u) (w : bkN (bkS S)) (hw : 0 ≤ wmS S ∧ wmS S ≤ 2000) (hx : 0 ≤ x ∧ x < 100000) (hy : -1 ≤ y ∧ y ≤ 2000) : Rv (d + 2) 71 [.inr (.inr (.inr (1, 0, 1))), .inl (iZ (y)), .inl (iZ (x))] h (some (.inl (iZ (max (wmS S) (y - alB (bkS S) x))))) h := Rv.of fun Q q => by
  have sh := ci_sh I
  have hb := ci_b I
  obtain ⟨w1, w2, w3, w4, w5, w6⟩ := w
  refine Ev.sts 1 (c' := (1, [some (.inr (.inr (.inr (1, 0, 1)))), some (.inl (iZ (y))), some (.inl (iZ (x)))], [.inr (.inr (.inr (1, 0, 1)))], h)) rfl ?_
  refine Ev.gv (w := (iZ (wmS S))) rfl (ci_wm I) ?_
  refine Ev.sts 2 (c' := (6, [some (.inr (.inr (.inr (1, 0, 1)))), some (.inl (iZ (y))), some (.inl (iZ (x)))], [.inr (.inr (.inr (1, 0, 1))), .inl (iZ (y)), .inl (iZ (wmS S))], h)) rfl ?_
  refine Ev.gfr (r := (2, 0, b)) rfl (ci_17 I) ?_
  refine Ev.sts 1 (c' := (10, [some (.inr (.inr (.inr (1, 0, 1)))), some (.inl (iZ (y))), some (.inl (iZ (x)))], [.inl (iZ (x)), .inr (.inr (.inr (2, 0, b))), .inl (iZ (y)), .inl (iZ (wmS S))], h)) rfl ?_
  refine Ev.callv (a := [.inr (.inr (.inr (2, 0, b))), .inl (iZ (x))]) rfl (sp_allowanceIn sh hb (ci_bk I).1 ⟨w1, w2⟩ ⟨by omega, by omega⟩) ?_
  have ab := alB_b (show bkN (bkS S) from ⟨w1, w2, w3, w4, w5, w6⟩) x
  refine Ev.gv (w := (iZ (y - (alB (bkS S) x)))) rfl (iZ_sub _ _) ?_
  refine Ev.gv (w := (iZ (max (wmS S) (y - (alB (bkS S) x))))) rfl (iZ_max ⟨by omega, by omega⟩ ⟨by omega, by omega⟩) ?_
  exact Ev.ret rfl (q)

theorem cs_night {d b n : Nat} {u : Q5} {S : Sta} {h : PH} {p t : Int} {k : Nat} {Q : Rs → PH → Prop} (I : CI h S b n u) (W : WN S) (hn : ntS S ≤ 19999) (cp : capS S) (q : ∀ h1 n1 u1, CI h1 (nigS S) b n1 u1 → FX pCl h h1 u u1 n n1 → Ev (d + 5) 70 (31, [some (.inr (.inr (.inr (1, 0, 1)))), some (.inl (iZ (p))), some (.inl (iZ (t))), some (.inl (iZ ((k : Int) + 1)))], [], h1) Q) : Ev (d + 5) 70 (36, [some (.inr (.inr (.inr (1, 0, 1)))), some (.inl (iZ (p))), some (.inl (iZ (t))), some (.inl (iZ (k)))], [], h) Q := by
  have sh := ci_sh I
  have hb := ci_b I
  have W0 := W
  obtain ⟨⟨w1, w2, w3, w4, w5, w6⟩, w7, w8, w9, w10, w11, w12, w13, w14, w15, w16, w17, w18⟩ := W0
  have ab := alB_b (show bkN (bkS S) from ⟨w1, w2, w3, w4, w5, w6⟩) ((ntS S : Int) + 1)
  refine Ev.sts 2 (c' := (38, [some (.inr (.inr (.inr (1, 0, 1)))), some (.inl (iZ (p))), some (.inl (iZ (t))), some (.inl (iZ (k)))], [.inr (.inr (.inr (1, 0, 1))), .inr (.inr (.inr (1, 0, 1)))], h)) rfl ?_
  refine Ev.gv (w := (iZ (ntS S))) rfl (ci_nt I) ?_
  refine Ev.sts 1 (c' := (42, [some (.inr (.inr (.inr (1, 0, 1)))), some (.inl (iZ (p))), some (.inl (iZ (t))), some (.inl (iZ (k)))], [.inl (iZ (1)), .inl (iZ (ntS S)), .inr (.inr (.inr (1, 0, 1)))], h)) rfl ?_
  refine Ev.gv (w := (iZ ((ntS S) + 1))) rfl (iZ_add _ _) ?_
  refine Ev.sts 4 (c' := (49, [some (.inr (.inr (.inr (1, 0, 1)))), some (.inl (iZ (p))), some (.inl (iZ (t))), some (.inl (iZ (k)))], [.inr (.inr (.inr (1, 0, 1))), .inr (.inr (.inr (1, 0, 1))), .inr (.inr (.inr (1, 0, 1)))], (setI h 1 9 ((iZ ((ntS S) + 1)))))) rfl ?_
  refine Ev.gv (w := (iZ (grS S))) rfl (ci_gr (S := ntN S) (CI_nt I w5)) ?_
  refine Ev.sts 1 (c' := (53, [some (.inr (.inr (.inr (1, 0, 1)))), some (.inl (iZ (p))), some (.inl (iZ (t))), some (.inl (iZ (k)))], [.inr (.inr (.inr (1, 0, 1))), .inl (iZ (grS S)), .inr (.inr (.inr (1, 0, 1))), .inr (.inr (.inr (1, 0, 1)))], (setI h 1 9 ((iZ ((ntS S) + 1)))))) rfl ?_
  refine Ev.gv (w := (iZ (ntS S + 1))) rfl (setI_self _ _ _ _) ?_
  refine Ev.callv (a := [.inr (.inr (.inr (1, 0, 1))), .inl (iZ (grS S)), .inl (iZ (ntS S + 1))]) rfl (wmb_any (CI_nt I w5) ⟨w1, w2, w3, w4, w5, w6⟩ ⟨w12, w13⟩ ⟨by omega, by omega⟩ ⟨by omega, by omega⟩) ?_
  refine Ev.sts 2 (c' := (63, [some (.inr (.inr (.inr (1, 0, 1)))), some (.inl (iZ (p))), some (.inl (iZ (t))), some (.inl (iZ (k)))], [.inr (.inr (.inr (1, 0, 1)))], (setI (setI h 1 9 ((iZ ((ntS S) + 1)))) 1 11 ((iZ (max (wmS S) (grS S - alB (bkS S) ((ntS S : Int) + 1)))))))) rfl ?_
  refine Ev.callw (a := [.inr (.inr (.inr (1, 0, 1)))]) rfl (cs_tell (CI_wm (m := (max (wmS S) (grS S - alB (bkS S) ((ntS S : Int) + 1)))) (CI_nt I w5) w5) w5 (fun g => (w14 g).1) ⟨by show 0 ≤ (max (wmS S) (grS S - alB (bkS S) ((ntS S : Int) + 1))); omega, by show (max (wmS S) (grS S - alB (bkS S) ((ntS S : Int) + 1))) ≤ 2000; omega⟩ cp (fun h1 n1 u1 i1 f1 => ?_))
  refine Ev.stc (c1 := (69, [some (.inr (.inr (.inr (1, 0, 1)))), some (.inl (iZ (p))), some (.inl (iZ (t))), some (.inl ((iZ (k)) + (iZ (1))))], [], h1)) (c2 := (69, [some (.inr (.inr (.inr (1, 0, 1)))), some (.inl (iZ (p))), some (.inl (iZ (t))), some (.inl (iZ (k + 1)))], [], h1)) rfl (by rw [iZ_add]) ?_
  refine Ev.sts 1 (c' := (31, [some (.inr (.inr (.inr (1, 0, 1)))), some (.inl (iZ (p))), some (.inl (iZ (t))), some (.inl (iZ (k + 1)))], [], h1)) rfl ?_
  exact q h1 n1 u1 i1 (FX_trans FX_1s (FX_trans FX_1s (FX_mono f1 pWs_Cl)))

theorem cs_nig_lp {d b : Nat} {p t : Int} {S : Sta} {Q : Rs → PH → Prop} (wa : ∀ k : Nat, k < p → WN (nigN S k) ∧ ntS (nigN S k) ≤ 19999 ∧ capS (nigN S k)) (hp : 0 ≤ p ∧ p ≤ 30) (m : Nat) : ∀ (k : Nat) (h : PH) (n : Nat) (u : Q5), (k : Int) + m = p → CI h (nigN S k) b n u → (∀ h1 n1 u1, CI h1 (nigN S p.toNat) b n1 u1 → FX pCl h h1 u u1 n n1 → Q (.inl (some (.inl (iZ ((tlS (nigN S p.toNat)).length - t))))) h1) → Ev (d + 5) 70 (31, [some (.inr (.inr (.inr (1, 0, 1)))), some (.inl (iZ (p))), some (.inl (iZ (t))), some (.inl (iZ (k)))], [], h) Q := by
  induction m with
  | zero =>
    intro k h n u hk I q
    have sh := ci_sh I
    refine Ev.sts 2 (c' := (33, [some (.inr (.inr (.inr (1, 0, 1)))), some (.inl (iZ (p))), some (.inl (iZ (t))), some (.inl (iZ (k)))], [.inl (iZ (p)), .inl (iZ (k))], h)) rfl ?_
    refine Ev.brT (p := (iZ (p)) ≤ (iZ (k))) (c1 := (72, [some (.inr (.inr (.inr (1, 0, 1)))), some (.inl (iZ (p))), some (.inl (iZ (t))), some (.inl (iZ (k)))], [], h)) (c2 := (36, [some (.inr (.inr (.inr (1, 0, 1)))), some (.inl (iZ (p))), some (.inl (iZ (t))), some (.inl (iZ (k)))], [], h)) ((iZ_le ⟨by omega, by omega⟩ ⟨by omega, by omega⟩).mpr (by omega)) rfl ?_
    refine Ev.sts 1 (c' := (73, [some (.inr (.inr (.inr (1, 0, 1)))), some (.inl (iZ (p))), some (.inl (iZ (t))), some (.inl (iZ (k)))], [.inr (.inr (.inr (1, 0, 1)))], h)) rfl ?_
    refine Ev.gfr (r := (8, 0, 62)) rfl (sh_1_6 sh) ?_
    refine Ev.gv (w := (iZ ((tlS (nigN S k)).length))) rfl (ci_tl I).1 ?_
    refine Ev.sts 1 (c' := (80, [some (.inr (.inr (.inr (1, 0, 1)))), some (.inl (iZ (p))), some (.inl (iZ (t))), some (.inl (iZ (k)))], [.inl (iZ (t)), .inl (iZ ((tlS (nigN S k)).length))], h)) rfl ?_
    refine Ev.gv (w := (iZ (((tlS (nigN S k)).length) - t))) rfl (iZ_sub _ _) ?_
    have e : p.toNat = k := by omega
    rw [e] at q
    exact Ev.ret rfl (q h n u I (FX_refl _ _ _ _))
  | succ m ih =>
    intro k h n u hk I q
    have sh := ci_sh I
    refine Ev.sts 2 (c' := (33, [some (.inr (.inr (.inr (1, 0, 1)))), some (.inl (iZ (p))), some (.inl (iZ (t))), some (.inl (iZ (k)))], [.inl (iZ (p)), .inl (iZ (k))], h)) rfl ?_
    refine Ev.brF (p := (iZ (p)) ≤ (iZ (k))) (c1 := (72, [some (.inr (.inr (.inr (1, 0, 1)))), some (.inl (iZ (p))), some (.inl (iZ (t))), some (.inl (iZ (k)))], [], h)) (c2 := (36, [some (.inr (.inr (.inr (1, 0, 1)))), some (.inl (iZ (p))), some (.inl (iZ (t))), some (.inl (iZ (k)))], [], h)) (fun c_ => absurd ((iZ_le ⟨by omega, by omega⟩ ⟨by omega, by omega⟩).mp c_) (by omega)) rfl ?_
    refine cs_night I (wa k (by omega)).1 (wa k (by omega)).2.1 (wa k (by omega)).2.2 (fun h1 n1 u1 i1 f1 => ?_)
    exact ih (k + 1) h1 n1 u1 (by omega) i1 (fun h2 n2 u2 i2 f2 => q h2 n2 u2 i2 (FX_trans f1 f2))

theorem cs_passNights {d b n : Nat} {u : Q5} {S : Sta} {h : PH} {p : Int} {Q : Rs → PH → Prop} (I : CI h S b n u) (hp : 1 ≤ p ∧ p ≤ 30) (wa : ∀ k : Nat, k < p → WN (nigN S k) ∧ ntS (nigN S k) ≤ 19999 ∧ capS (nigN S k)) (q : ∀ h1 n1 u1, CI h1 (nigN S p.toNat) b n1 u1 → FX pCl h h1 u u1 n n1 → Q (.inl (some (.inl (iZ ((tlS (nigN S p.toNat)).length - (tlS S).length))))) h1) : Rn (d + 5) 70 [.inr (.inr (.inr (1, 0, 1))), .inl (iZ (p))] h Q := by
  have sh := ci_sh I
  refine Ev.sts 2 (c' := (2, [some (.inr (.inr (.inr (1, 0, 1)))), some (.inl (iZ (p))), none, none], [.inl (iZ (1)), .inl (iZ (p))], h)) rfl ?_
  refine Ev.brF (p := (iZ (p)) < (iZ (1))) (c1 := (11, [some (.inr (.inr (.inr (1, 0, 1)))), some (.inl (iZ (p))), none, none], [], h)) (c2 := (5, [some (.inr (.inr (.inr (1, 0, 1)))), some (.inl (iZ (p))), none, none], [], h)) (fun c_ => absurd ((iZ_lt ⟨by omega, by omega⟩ ⟨by omega, by omega⟩).mp c_) (by omega)) rfl ?_
  refine Ev.sts 2 (c' := (8, [some (.inr (.inr (.inr (1, 0, 1)))), some (.inl (iZ (p))), none, none], [.inl (iZ (30)), .inl (iZ (p))], h)) rfl ?_
  refine Ev.brT (p := (iZ (p)) ≤ (iZ (30))) (c1 := (21, [some (.inr (.inr (.inr (1, 0, 1)))), some (.inl (iZ (p))), none, none], [], h)) (c2 := (11, [some (.inr (.inr (.inr (1, 0, 1)))), some (.inl (iZ (p))), none, none], [], h)) ((iZ_le ⟨by omega, by omega⟩ ⟨by omega, by omega⟩).mpr (by omega)) rfl ?_
  refine Ev.sts 1 (c' := (22, [some (.inr (.inr (.inr (1, 0, 1)))), some (.inl (iZ (p))), none, none], [.inr (.inr (.inr (1, 0, 1)))], h)) rfl ?_
  refine Ev.gfr (r := (8, 0, 62)) rfl (sh_1_6 sh) ?_
  refine Ev.gv (w := (iZ ((tlS S).length))) rfl (ci_tl I).1 ?_
  refine Ev.sts 3 (c' := (31, [some (.inr (.inr (.inr (1, 0, 1)))), some (.inl (iZ (p))), some (.inl (iZ ((tlS S).length))), some (.inl (iZ (0)))], [], h)) rfl ?_
  exact cs_nig_lp wa ⟨by omega, by omega⟩ p.toNat 0 h n u (by omega) I q

theorem cz_passNights {d : Nat} {p : Int} {h : PH} {Q : Rs → PH → Prop} (hpb : -2147483648 ≤ p ∧ p < 2147483648) (hc : ¬ (1 ≤ p ∧ p ≤ 30)) (q : Q (.inr 1) (grow h 6)) : Rn d 70 [.inr (.inr (.inr (1, 0, 1))), .inl (iZ (p))] h Q := by
  refine Ev.sts 2 (c' := (2, [some (.inr (.inr (.inr (1, 0, 1)))), some (.inl (iZ (p))), none, none], [.inl (iZ (1)), .inl (iZ (p))], h)) rfl ?_
  refine Ev.brc (p := (iZ (p)) < (iZ (1))) (q := ((p : Int)) < 1) (c1 := (11, [some (.inr (.inr (.inr (1, 0, 1)))), some (.inl (iZ (p))), none, none], [], h)) (c2 := (5, [some (.inr (.inr (.inr (1, 0, 1)))), some (.inl (iZ (p))), none, none], [], h)) rfl (iZ_lt ⟨by omega, by omega⟩ ⟨by omega, by omega⟩) (fun c0 => ?_) (fun c0 => ?_)
  · exact Ev.ret rfl (q)
  · refine Ev.sts 2 (c' := (8, [some (.inr (.inr (.inr (1, 0, 1)))), some (.inl (iZ (p))), none, none], [.inl (iZ (30)), .inl (iZ (p))], h)) rfl ?_
    refine Ev.brc (p := (iZ (p)) ≤ (iZ (30))) (q := ((p : Int)) ≤ 30) (c1 := (21, [some (.inr (.inr (.inr (1, 0, 1)))), some (.inl (iZ (p))), none, none], [], h)) (c2 := (11, [some (.inr (.inr (.inr (1, 0, 1)))), some (.inl (iZ (p))), none, none], [], h)) rfl (iZ_le ⟨by omega, by omega⟩ ⟨by omega, by omega⟩) (fun c1 => ?_) (fun c1 => ?_)
    · exact absurd (show 1 ≤ p ∧ p ≤ 30 by omega) hc
    · exact Ev.ret rfl (q)

def okX (x : Ctx) : Prop := 0 ≤ x.1 ∧ x.1 ≤ 999 ∧ 0 ≤ x.2.1 ∧ x.2.1 ≤ 9 ∧ 0 ≤ x.2.2.1 ∧ x.2.2.1 ≤ 99 ∧ 0 ≤ x.2.2.2 ∧ x.2.2.2 ≤ 9
def bX (x : Ctx) : Prop := (-2147483648 ≤ x.1 ∧ x.1 < 2147483648) ∧ (-2147483648 ≤ x.2.1 ∧ x.2.1 < 2147483648) ∧ (-2147483648 ≤ x.2.2.1 ∧ x.2.2.1 < 2147483648) ∧ (-2147483648 ≤ x.2.2.2 ∧ x.2.2.2 < 2147483648)
theorem sp_isComma {d : Nat} {x : Ctx} {h : PH} {Q : Rs → PH → Prop} (hx : bX x) (q1 : okX x → Q (.inl (some (.inl (iZ 1)))) h) (q0 : ¬ okX x → Q (.inl (some (.inl (iZ 0)))) h) : Rn (d + 1) 74 [.inl (iZ (x.1)), .inl (iZ (x.2.1)), .inl (iZ (x.2.2.1)), .inl (iZ (x.2.2.2))] h Q := by
  obtain ⟨x1, x2, x3, x4⟩ := hx
  refine Ev.sts 1 (c' := (1, [some (.inl (iZ (x.1))), some (.inl (iZ (x.2.1))), some (.inl (iZ (x.2.2.1))), some (.inl (iZ (x.2.2.2)))], [.inl (iZ (x.1))], h)) rfl ?_
  refine Ev.callw (a := [.inl (iZ (x.1))]) rfl (sp_isHour ⟨by omega, by omega⟩ (fun c0 => ?_) (fun c0 => ?_))
  · refine Ev.brF (p := (iZ (1)) = (iZ (0))) (c1 := (41, [some (.inl (iZ (x.1))), some (.inl (iZ (x.2.1))), some (.inl (iZ (x.2.2.1))), some (.inl (iZ (x.2.2.2)))], [], h)) (c2 := (7, [some (.inl (iZ (x.1))), some (.inl (iZ (x.2.1))), some (.inl (iZ (x.2.2.1))), some (.inl (iZ (x.2.2.2)))], [], h)) (by decide) rfl ?_
    refine Ev.sts 1 (c' := (8, [some (.inl (iZ (x.1))), some (.inl (iZ (x.2.1))), some (.inl (iZ (x.2.2.1))), some (.inl (iZ (x.2.2.2)))], [.inl (iZ (x.2.1))], h)) rfl ?_
    refine Ev.brc (p := (iZ (x.2.1)) < (iZ (0))) (q := ((x.2.1 : Int)) < 0) (c1 := (41, [some (.inl (iZ (x.1))), some (.inl (iZ (x.2.1))), some (.inl (iZ (x.2.2.1))), some (.inl (iZ (x.2.2.2)))], [], h)) (c2 := (11, [some (.inl (iZ (x.1))), some (.inl (iZ (x.2.1))), some (.inl (iZ (x.2.2.1))), some (.inl (iZ (x.2.2.2)))], [], h)) rfl (iZ_lt ⟨by omega, by omega⟩ ⟨by omega, by omega⟩) (fun c1 => ?_) (fun c1 => ?_)
    · refine Ev.sts 1 (c' := (42, [some (.inl (iZ (x.1))), some (.inl (iZ (x.2.1))), some (.inl (iZ (x.2.2.1))), some (.inl (iZ (x.2.2.2)))], [.inl (iZ (0))], h)) rfl ?_
      exact Ev.ret rfl (q0 (fun n => by unfold okX at n; omega))
    · refine Ev.sts 2 (c' := (14, [some (.inl (iZ (x.1))), some (.inl (iZ (x.2.1))), some (.inl (iZ (x.2.2.1))), some (.inl (iZ (x.2.2.2)))], [.inl (iZ (9)), .inl (iZ (x.2.1))], h)) rfl ?_
      refine Ev.brc (p := (iZ (9)) < (iZ (x.2.1))) (q := ((9 : Int)) < x.2.1) (c1 := (41, [some (.inl (iZ (x.1))), some (.inl (iZ (x.2.1))), some (.inl (iZ (x.2.2.1))), some (.inl (iZ (x.2.2.2)))], [], h)) (c2 := (17, [some (.inl (iZ (x.1))), some (.inl (iZ (x.2.1))), some (.inl (iZ (x.2.2.1))), some (.inl (iZ (x.2.2.2)))], [], h)) rfl (iZ_lt ⟨by omega, by omega⟩ ⟨by omega, by omega⟩) (fun c2 => ?_) (fun c2 => ?_)
      · refine Ev.sts 1 (c' := (42, [some (.inl (iZ (x.1))), some (.inl (iZ (x.2.1))), some (.inl (iZ (x.2.2.1))), some (.inl (iZ (x.2.2.2)))], [.inl (iZ (0))], h)) rfl ?_
        exact Ev.ret rfl (q0 (fun n => by unfold okX at n; omega))
      · refine Ev.sts 1 (c' := (18, [some (.inl (iZ (x.1))), some (.inl (iZ (x.2.1))), some (.inl (iZ (x.2.2.1))), some (.inl (iZ (x.2.2.2)))], [.inl (iZ (x.2.2.1))], h)) rfl ?_
        refine Ev.brc (p := (iZ (x.2.2.1)) < (iZ (0))) (q := ((x.2.2.1 : Int)) < 0) (c1 := (41, [some (.inl (iZ (x.1))), some (.inl (iZ (x.2.1))), some (.inl (iZ (x.2.2.1))), some (.inl (iZ (x.2.2.2)))], [], h)) (c2 := (21, [some (.inl (iZ (x.1))), some (.inl (iZ (x.2.1))), some (.inl (iZ (x.2.2.1))), some (.inl (iZ (x.2.2.2)))], [], h)) rfl (iZ_lt ⟨by omega, by omega⟩ ⟨by omega, by omega⟩) (fun c3 => ?_) (fun c3 => ?_)
        · refine Ev.sts 1 (c' := (42, [some (.inl (iZ (x.1))), some (.inl (iZ (x.2.1))), some (.inl (iZ (x.2.2.1))), some (.inl (iZ (x.2.2.2)))], [.inl (iZ (0))], h)) rfl ?_
          exact Ev.ret rfl (q0 (fun n => by unfold okX at n; omega))
        · refine Ev.sts 2 (c' := (24, [some (.inl (iZ (x.1))), some (.inl (iZ (x.2.1))), some (.inl (iZ (x.2.2.1))), some (.inl (iZ (x.2.2.2)))], [.inl (iZ (99)), .inl (iZ (x.2.2.1))], h)) rfl ?_
          refine Ev.brc (p := (iZ (99)) < (iZ (x.2.2.1))) (q := ((99 : Int)) < x.2.2.1) (c1 := (41, [some (.inl (iZ (x.1))), some (.inl (iZ (x.2.1))), some (.inl (iZ (x.2.2.1))), some (.inl (iZ (x.2.2.2)))], [], h)) (c2 := (27, [some (.inl (iZ (x.1))), some (.inl (iZ (x.2.1))), some (.inl (iZ (x.2.2.1))), some (.inl (iZ (x.2.2.2)))], [], h)) rfl (iZ_lt ⟨by omega, by omega⟩ ⟨by omega, by omega⟩) (fun c4 => ?_) (fun c4 => ?_)
          · refine Ev.sts 1 (c' := (42, [some (.inl (iZ (x.1))), some (.inl (iZ (x.2.1))), some (.inl (iZ (x.2.2.1))), some (.inl (iZ (x.2.2.2)))], [.inl (iZ (0))], h)) rfl ?_
            exact Ev.ret rfl (q0 (fun n => by unfold okX at n; omega))
          · refine Ev.sts 1 (c' := (28, [some (.inl (iZ (x.1))), some (.inl (iZ (x.2.1))), some (.inl (iZ (x.2.2.1))), some (.inl (iZ (x.2.2.2)))], [.inl (iZ (x.2.2.2))], h)) rfl ?_
            refine Ev.brc (p := (iZ (x.2.2.2)) < (iZ (0))) (q := ((x.2.2.2 : Int)) < 0) (c1 := (41, [some (.inl (iZ (x.1))), some (.inl (iZ (x.2.1))), some (.inl (iZ (x.2.2.1))), some (.inl (iZ (x.2.2.2)))], [], h)) (c2 := (31, [some (.inl (iZ (x.1))), some (.inl (iZ (x.2.1))), some (.inl (iZ (x.2.2.1))), some (.inl (iZ (x.2.2.2)))], [], h)) rfl (iZ_lt ⟨by omega, by omega⟩ ⟨by omega, by omega⟩) (fun c5 => ?_) (fun c5 => ?_)
            · refine Ev.sts 1 (c' := (42, [some (.inl (iZ (x.1))), some (.inl (iZ (x.2.1))), some (.inl (iZ (x.2.2.1))), some (.inl (iZ (x.2.2.2)))], [.inl (iZ (0))], h)) rfl ?_
              exact Ev.ret rfl (q0 (fun n => by unfold okX at n; omega))
            · refine Ev.sts 2 (c' := (34, [some (.inl (iZ (x.1))), some (.inl (iZ (x.2.1))), some (.inl (iZ (x.2.2.1))), some (.inl (iZ (x.2.2.2)))], [.inl (iZ (9)), .inl (iZ (x.2.2.2))], h)) rfl ?_
              refine Ev.brc (p := (iZ (9)) < (iZ (x.2.2.2))) (q := ((9 : Int)) < x.2.2.2) (c1 := (41, [some (.inl (iZ (x.1))), some (.inl (iZ (x.2.1))), some (.inl (iZ (x.2.2.1))), some (.inl (iZ (x.2.2.2)))], [], h)) (c2 := (37, [some (.inl (iZ (x.1))), some (.inl (iZ (x.2.1))), some (.inl (iZ (x.2.2.1))), some (.inl (iZ (x.2.2.2)))], [], h)) rfl (iZ_lt ⟨by omega, by omega⟩ ⟨by omega, by omega⟩) (fun c6 => ?_) (fun c6 => ?_)
              · refine Ev.sts 1 (c' := (42, [some (.inl (iZ (x.1))), some (.inl (iZ (x.2.1))), some (.inl (iZ (x.2.2.1))), some (.inl (iZ (x.2.2.2)))], [.inl (iZ (0))], h)) rfl ?_
                exact Ev.ret rfl (q0 (fun n => by unfold okX at n; omega))
              · refine Ev.sts 2 (c' := (42, [some (.inl (iZ (x.1))), some (.inl (iZ (x.2.1))), some (.inl (iZ (x.2.2.1))), some (.inl (iZ (x.2.2.2)))], [.inl (iZ (1))], h)) rfl ?_
                exact Ev.ret rfl (q1 ⟨by omega, by omega, by omega, by omega, by omega, by omega, by omega, by omega⟩)
  · refine Ev.brT (p := (iZ (0)) = (iZ (0))) (c1 := (41, [some (.inl (iZ (x.1))), some (.inl (iZ (x.2.1))), some (.inl (iZ (x.2.2.1))), some (.inl (iZ (x.2.2.2)))], [], h)) (c2 := (7, [some (.inl (iZ (x.1))), some (.inl (iZ (x.2.1))), some (.inl (iZ (x.2.2.1))), some (.inl (iZ (x.2.2.2)))], [], h)) (by decide) rfl ?_
    refine Ev.sts 1 (c' := (42, [some (.inl (iZ (x.1))), some (.inl (iZ (x.2.1))), some (.inl (iZ (x.2.2.1))), some (.inl (iZ (x.2.2.2)))], [.inl (iZ (0))], h)) rfl ?_
    exact Ev.ret rfl (q0 (fun n => by unfold okX at n; omega))

def becH (h : PH) (x : Ctx) : PH := setI (setI (setI (setI (setI h 28 0 (iZ x.1)) 28 1 (iZ x.2.1)) 28 2 (iZ x.2.2.1)) 28 3 (iZ x.2.2.2)) 28 4 (iZ 0)
theorem bec_p (h : PH) (x : Ctx) : proC (becH h x) x (iZ 0) := ⟨rfl, rfl, rfl, rfl, rfl⟩
theorem bec_f {h : PH} {x : Ctx} {b : Nat} (hb : b = 13 ∨ b = 68) : (becH h x).2 = h.2 ∧ ∀ a, a ≠ 28 → (becH h x).1 a = h.1 a := by
  refine ⟨rfl, fun a ha => ?_⟩
  unfold becH
  rw [setI_oth ha, setI_oth ha, setI_oth ha, setI_oth ha, setI_oth ha]
theorem sp_become {d : Nat} {x : Ctx} {h : PH} : Rv d 91 [.inr (.inr (.inr (3, 0, 28))), .inl (iZ (x.1)), .inl (iZ (x.2.1)), .inl (iZ (x.2.2.1)), .inl (iZ (x.2.2.2))] h (none) (becH h x) := Rv.of fun Q q => by
  refine Ev.sts 15 (c' := (26, [some (.inr (.inr (.inr (3, 0, 28)))), some (.inl (iZ (x.1))), some (.inl (iZ (x.2.1))), some (.inl (iZ (x.2.2.1))), some (.inl (iZ (x.2.2.2)))], [], (setI (setI (setI (setI (setI h 28 0 ((iZ (x.1)))) 28 1 ((iZ (x.2.1)))) 28 2 ((iZ (x.2.2.1)))) 28 3 ((iZ (x.2.2.2)))) 28 4 ((iZ (0)))))) rfl ?_
  exact Ev.ret rfl (q)

/-- probe and stack changed, all else as it was -/
theorem CI_pr {h h' : PH} {S : Sta} {b n : Nat} {u : Q5} (I : CI h S b n u) (w5 : (bkS S).2.2.length ≤ 6) (e2 : h'.2 = h.2) (e : ∀ a, a ≠ b + 5 → a ≠ b + 8 → a ≠ 28 → h'.1 a = h.1 a) : CI h' S b n u := by
  obtain ⟨i1, i2, i3, i4, i5, i6, i7, i8, i9, i10, i11, i12, i13, i14⟩ := I
  have d := i13.2.2.2.2.1
  obtain ⟨d1, d2, d3, d4, d5, -⟩ := d
  unfold qO at d1 d2 d3 d4 d5
  have e1 := e 1 (by omega) (by omega) (by omega)
  refine ⟨Sh_eq i1 e2, i2, by rw [e2]; exact i3, by rw [e2]; exact i4, ?_, by rw [e 2 (by omega) (by omega) (by omega)]; exact i6, bkC_eq e2 (fun a a1 a2 a3 a4 => e a a3 a4 (by omega)) w5 i7, ?_, by rw [e1]; exact i9, by rw [e1]; exact i10, by rw [e1]; exact i11, fun g hg => ?_, tlC_eq i13 e2 (fun a ha => e a (by omega) (by omega) (by omega)), by unfold hN; rw [e2]; exact i14⟩
  · rw [e 4 (by omega) (by omega) (by omega), e 5 (by omega) (by omega) (by omega)]; exact i5
  · rw [e1, e 29 (by omega) (by omega) (by omega), e 30 (by omega) (by omega) (by omega)]; exact i8
  · exact ⟨winC_eq (fun a a1 a2 => e a (by omega) (by omega) (by omega)) (i12 g hg).1, by rw [e (32 + 5 * g) (by omega) (by omega) (by omega)]; exact (i12 g hg).2⟩



def cadS (S : Sta) (x : Ctx) (tk : Int32) : Sta := mkS (tpS S) (eaS S) (bkS S) (csS S ++ [(x.1, tk)]) (ntS S) (grS S) (wmS S) (wdS S) (ltS S) (tlS S)
def cgeS (S : Sta) (x : Ctx) (tk : Int32) (vs : Nat → Int32) : Sta := mkS (tpS S) (eaS S) (bkS S) (csS S ++ [(x.1, tk)]) (ntS S) (grS S) (wmS S) (fun g => (gst (bkS S) x.1 (wmS S) tk vs g (wdS S g) (ltS S g)).1) (fun g => (gst (bkS S) x.1 (wmS S) tk vs g (wdS S g) (ltS S g)).2) (tlS S)
def cwmS (S : Sta) (x : Ctx) (tk : Int32) (vs : Nat → Int32) : Sta := mkS (tpS S) (eaS S) (bkS S) (csS S ++ [(x.1, tk)]) (ntS S) (max (grS S) x.1) (max (wmS S) (max (grS S) x.1 - alB (bkS S) (ntS S))) (fun g => (gst (bkS S) x.1 (wmS S) tk vs g (wdS S g) (ltS S g)).1) (fun g => (gst (bkS S) x.1 (wmS S) tk vs g (wdS S g) (ltS S g)).2) (tlS S)
def comS (S : Sta) (x : Ctx) (tk : Int32) (vs : Nat → Int32) : Sta := tolS (cwmS S x tk vs)
def addH (h : PH) (l : Nat) (hr : Int) (tk : Int32) : PH := setI (setI (setI h 29 l (iZ hr)) 30 l tk) 1 8 (iZ (l + 1))
theorem CI_cad {h : PH} {S : Sta} {b n : Nat} {u : Q5} {x : Ctx} {tk : Int32} (I : CI h S b n u) (w5 : (bkS S).2.2.length ≤ 6) : CI (addH h (csS S).length x.1 tk) (cadS S x tk) b n u := by
  obtain ⟨i1, i2, i3, i4, i5, i6, i7, i8, i9, i10, i11, i12, i13, i14⟩ := I
  have d := i13.2.2.2.2.1
  obtain ⟨d1, d2, d3, d4, d5, -⟩ := d
  unfold qO at d1 d2 d3 d4 d5
  have e : ∀ a, a ≠ 1 → a ≠ 29 → a ≠ 30 → (addH h (csS S).length x.1 tk).1 a = h.1 a := by
    intro a a1 a2 a3
    unfold addH
    rw [setI_oth a1, setI_oth a3, setI_oth a2]
  have e1 : ∀ k, k ≠ 8 → (addH h (csS S).length x.1 tk).1 1 k = h.1 1 k := by
    intro k hk
    unfold addH
    rw [setI_ne (by omega), setI_oth (b := 1) (by omega), setI_oth (b := 1) (by omega)]
  refine ⟨Sh_eq i1 rfl, i2, i3, i4, ?_, by rw [e 2 (by omega) (by omega) (by omega)]; exact i6, bkC_eq (h := h) rfl (fun a a1 a2 a3 a4 => e a (by omega) (by omega) (by omega)) w5 i7, ⟨?_, fun j hj => ?_⟩, (e1 9 (by omega)).trans i9, (e1 10 (by omega)).trans i10, (e1 11 (by omega)).trans i11, fun g hg => ?_, tlC_eq i13 rfl (fun a ha => e a (by omega) (by omega) (by omega)), i14⟩
  · rw [e 4 (by omega) (by omega) (by omega), e 5 (by omega) (by omega) (by omega)]; exact i5
  · show _ = iZ ((csS S ++ [(x.1, tk)]).length : Int)
    rw [app_len]
    exact setI_self _ _ _ _
  · replace hj : j < (csS S ++ [(x.1, tk)]).length := hj
    rw [app_len] at hj
    show _ = iZ ((csS S ++ [(x.1, tk)]).getD j cd0).1 ∧ _ = ((csS S ++ [(x.1, tk)]).getD j cd0).2
    rw [app_get _ _ _ _ hj]
    unfold addH
    rw [setI_oth (b := 29) (by omega), setI_oth (b := 29) (by omega), setI_oth (b := 30) (by omega)]
    by_cases z : j = (csS S).length
    · subst z
      rw [if_pos rfl, setI_self, setI_self]; exact ⟨rfl, rfl⟩
    · rw [if_neg z, setI_ne (by omega), setI_ne (by omega), setI_oth (by omega)]
      exact i8.2 j (by omega)
  · exact ⟨winC_eq (fun a a1 a2 => e a (by omega) (by omega) (by omega)) (i12 g hg).1, by rw [e (32 + 5 * g) (by omega) (by omega) (by omega)]; exact (i12 g hg).2⟩
theorem FX_add {h : PH} {u : Q5} {n l : Nat} {hr : Int} {tk : Int32} : FX pCl h (addH h l hr tk) u u n n := FX_of rfl (fun a ha => by
  unfold pCl at ha
  unfold addH
  rw [setI_oth (by omega), setI_oth (by omega), setI_oth (by omega)])
theorem CI_gr {h : PH} {S : Sta} {b n : Nat} {m : Int} {u : Q5} (I : CI h S b n u) (w5 : (bkS S).2.2.length ≤ 6) : CI (setI h 1 10 (iZ m)) (mkS (tpS S) (eaS S) (bkS S) (csS S) (ntS S) m (wmS S) (wdS S) (ltS S) (tlS S)) b n u :=
  CI_one I w5 rfl (fun a ha => setI_oth ha) (setI_ne (by omega)) ((setI_ne (by omega)).trans (ci_nt I)) (setI_self _ _ _ _) ((setI_ne (by omega)).trans (ci_wm I))
theorem cs_comma {d b n : Nat} {u : Q5} {S : Sta} {h : PH} {x : Ctx} {tk : Int32} {vs : Nat → Int32} {Q : Rs → PH → Prop} (I : CI h S b n u) (W : WN S) (hx : bX x) (ok : okX x) (hcs : (csS S).length < 120) (jr : jR (bkS S).2.1 x 0 (iZ 0) tk) (vr : vsR (bkS S) x tk vs) (wl : ∀ g, wsB 1000 (wdS S g) ∧ (wdS S g).length ≤ 121) (wl2 : ∀ g, wsB 1000 (wdS (cwmS S x tk vs) g)) (cp : capS (cwmS S x tk vs)) (q : ∀ h1 n1 u1, CI h1 (comS S x tk vs) b n1 u1 → FX pCl h h1 u u1 n n1 → Q (.inl (some (.inl (bcv tk)))) h1) : Rn (d + 6) 73 [.inr (.inr (.inr (1, 0, 1))), .inl (iZ (x.1)), .inl (iZ (x.2.1)), .inl (iZ (x.2.2.1)), .inl (iZ (x.2.2.2))] h Q := by
  have sh := ci_sh I
  have hb := ci_b I
  have W0 := W
  obtain ⟨⟨w1, w2, w3, w4, w5, w6⟩, w7, w8, w9, w10, w11, w12, w13, w14, w15, w16, w17, w18⟩ := W0
  have ib : CI (becH h x) S b n u := CI_pr I w5 (bec_f hb).1 (fun a _ _ a3 => (bec_f hb).2 a a3)
  obtain ⟨x1, x2, x3, x4⟩ := hx
  have hx : bX x := ⟨x1, x2, x3, x4⟩
  obtain ⟨y1, y2, y3, y4, y5, y6, y7, y8⟩ := ok
  have ok : okX x := ⟨y1, y2, y3, y4, y5, y6, y7, y8⟩
  have ab := alB_b (show bkN (bkS S) from ⟨w1, w2, w3, w4, w5, w6⟩) (ntS S)
  refine Ev.sts 4 (c' := (5, [some (.inr (.inr (.inr (1, 0, 1)))), some (.inl (iZ (x.1))), some (.inl (iZ (x.2.1))), some (.inl (iZ (x.2.2.1))), some (.inl (iZ (x.2.2.2)))], [.inl (iZ (x.2.2.2)), .inl (iZ (x.2.2.1)), .inl (iZ (x.2.1)), .inl (iZ (x.1))], h)) rfl ?_
  refine Ev.callw (a := [.inl (iZ (x.1)), .inl (iZ (x.2.1)), .inl (iZ (x.2.2.1)), .inl (iZ (x.2.2.2))]) rfl (sp_isComma hx (fun _ => ?_) (fun z => absurd ok z))
  refine Ev.brT (p := ¬ (iZ (1)) = (iZ (0))) (c1 := (21, [some (.inr (.inr (.inr (1, 0, 1)))), some (.inl (iZ (x.1))), some (.inl (iZ (x.2.1))), some (.inl (iZ (x.2.2.1))), some (.inl (iZ (x.2.2.2)))], [], h)) (c2 := (11, [some (.inr (.inr (.inr (1, 0, 1)))), some (.inl (iZ (x.1))), some (.inl (iZ (x.2.1))), some (.inl (iZ (x.2.2.1))), some (.inl (iZ (x.2.2.2)))], [], h)) (by decide) rfl ?_
  refine Ev.sts 1 (c' := (22, [some (.inr (.inr (.inr (1, 0, 1)))), some (.inl (iZ (x.1))), some (.inl (iZ (x.2.1))), some (.inl (iZ (x.2.2.1))), some (.inl (iZ (x.2.2.2)))], [.inr (.inr (.inr (1, 0, 1)))], h)) rfl ?_
  refine Ev.gv (w := (iZ ((csS S).length))) rfl (ci_cs I).1 ?_
  refine Ev.brF (p := (iZ ((csS S).length)) < (iZ (0))) (c1 := (52, [some (.inr (.inr (.inr (1, 0, 1)))), some (.inl (iZ (x.1))), some (.inl (iZ (x.2.1))), some (.inl (iZ (x.2.2.1))), some (.inl (iZ (x.2.2.2)))], [], h)) (c2 := (28, [some (.inr (.inr (.inr (1, 0, 1)))), some (.inl (iZ (x.1))), some (.inl (iZ (x.2.1))), some (.inl (iZ (x.2.2.1))), some (.inl (iZ (x.2.2.2)))], [], h)) (fun c_ => absurd ((iZ_lt ⟨by omega, by omega⟩ ⟨by omega, by omega⟩).mp c_) (by omega)) rfl ?_
  refine Ev.sts 1 (c' := (29, [some (.inr (.inr (.inr (1, 0, 1)))), some (.inl (iZ (x.1))), some (.inl (iZ (x.2.1))), some (.inl (iZ (x.2.2.1))), some (.inl (iZ (x.2.2.2)))], [.inr (.inr (.inr (1, 0, 1)))], h)) rfl ?_
  refine Ev.gv (w := (iZ ((csS S).length))) rfl (ci_cs I).1 ?_
  refine Ev.sts 1 (c' := (33, [some (.inr (.inr (.inr (1, 0, 1)))), some (.inl (iZ (x.1))), some (.inl (iZ (x.2.1))), some (.inl (iZ (x.2.2.1))), some (.inl (iZ (x.2.2.2)))], [.inr (.inr (.inr (1, 0, 1))), .inl (iZ ((csS S).length))], h)) rfl ?_
  refine Ev.gfr (r := (20, 120, 29)) rfl (sh_1_3 sh) ?_
  refine Ev.sts 1 (c' := (37, [some (.inr (.inr (.inr (1, 0, 1)))), some (.inl (iZ (x.1))), some (.inl (iZ (x.2.1))), some (.inl (iZ (x.2.2.1))), some (.inl (iZ (x.2.2.2)))], [.inl (iZ (120)), .inl (iZ ((csS S).length))], h)) rfl ?_
  refine Ev.brF (p := (iZ (120)) ≤ (iZ ((csS S).length))) (c1 := (52, [some (.inr (.inr (.inr (1, 0, 1)))), some (.inl (iZ (x.1))), some (.inl (iZ (x.2.1))), some (.inl (iZ (x.2.2.1))), some (.inl (iZ (x.2.2.2)))], [], h)) (c2 := (40, [some (.inr (.inr (.inr (1, 0, 1)))), some (.inl (iZ (x.1))), some (.inl (iZ (x.2.1))), some (.inl (iZ (x.2.2.1))), some (.inl (iZ (x.2.2.2)))], [], h)) (fun c_ => absurd ((iZ_le ⟨by omega, by omega⟩ ⟨by omega, by omega⟩).mp c_) (by omega)) rfl ?_
  refine Ev.sts 1 (c' := (41, [some (.inr (.inr (.inr (1, 0, 1)))), some (.inl (iZ (x.1))), some (.inl (iZ (x.2.1))), some (.inl (iZ (x.2.2.1))), some (.inl (iZ (x.2.2.2)))], [.inr (.inr (.inr (1, 0, 1)))], h)) rfl ?_
  refine Ev.gv (w := (iZ ((csS S).length))) rfl (ci_cs I).1 ?_
  refine Ev.sts 1 (c' := (45, [some (.inr (.inr (.inr (1, 0, 1)))), some (.inl (iZ (x.1))), some (.inl (iZ (x.2.1))), some (.inl (iZ (x.2.2.1))), some (.inl (iZ (x.2.2.2)))], [.inr (.inr (.inr (1, 0, 1))), .inl (iZ ((csS S).length))], h)) rfl ?_
  refine Ev.gfr (r := (20, 120, 30)) rfl (sh_1_4 sh) ?_
  refine Ev.sts 1 (c' := (49, [some (.inr (.inr (.inr (1, 0, 1)))), some (.inl (iZ (x.1))), some (.inl (iZ (x.2.1))), some (.inl (iZ (x.2.2.1))), some (.inl (iZ (x.2.2.2)))], [.inl (iZ (120)), .inl (iZ ((csS S).length))], h)) rfl ?_
  refine Ev.brT (p := (iZ ((csS S).length)) < (iZ (120))) (c1 := (62, [some (.inr (.inr (.inr (1, 0, 1)))), some (.inl (iZ (x.1))), some (.inl (iZ (x.2.1))), some (.inl (iZ (x.2.2.1))), some (.inl (iZ (x.2.2.2)))], [], h)) (c2 := (52, [some (.inr (.inr (.inr (1, 0, 1)))), some (.inl (iZ (x.1))), some (.inl (iZ (x.2.1))), some (.inl (iZ (x.2.2.1))), some (.inl (iZ (x.2.2.2)))], [], h)) ((iZ_lt ⟨by omega, by omega⟩ ⟨by omega, by omega⟩).mpr (by omega)) rfl ?_
  refine Ev.sts 1 (c' := (63, [some (.inr (.inr (.inr (1, 0, 1)))), some (.inl (iZ (x.1))), some (.inl (iZ (x.2.1))), some (.inl (iZ (x.2.2.1))), some (.inl (iZ (x.2.2.2)))], [.inr (.inr (.inr (1, 0, 1)))], h)) rfl ?_
  refine Ev.gfr (r := (3, 0, 28)) rfl (sh_1_2 sh) ?_
  refine Ev.sts 4 (c' := (71, [some (.inr (.inr (.inr (1, 0, 1)))), some (.inl (iZ (x.1))), some (.inl (iZ (x.2.1))), some (.inl (iZ (x.2.2.1))), some (.inl (iZ (x.2.2.2)))], [.inl (iZ (x.2.2.2)), .inl (iZ (x.2.2.1)), .inl (iZ (x.2.1)), .inl (iZ (x.1)), .inr (.inr (.inr (3, 0, 28)))], h)) rfl ?_
  refine Ev.callv (a := [.inr (.inr (.inr (3, 0, 28))), .inl (iZ (x.1)), .inl (iZ (x.2.1)), .inl (iZ (x.2.2.1)), .inl (iZ (x.2.2.2))]) rfl sp_become ?_
  refine Ev.sts 1 (c' := (75, [some (.inr (.inr (.inr (1, 0, 1)))), some (.inl (iZ (x.1))), some (.inl (iZ (x.2.1))), some (.inl (iZ (x.2.2.1))), some (.inl (iZ (x.2.2.2)))], [.inr (.inr (.inr (1, 0, 1)))], (becH h x))) rfl ?_
  refine Ev.gfr (r := (2, 0, b)) rfl (ci_17 ib) ?_
  refine Ev.sts 1 (c' := (79, [some (.inr (.inr (.inr (1, 0, 1)))), some (.inl (iZ (x.1))), some (.inl (iZ (x.2.1))), some (.inl (iZ (x.2.2.1))), some (.inl (iZ (x.2.2.2)))], [.inr (.inr (.inr (1, 0, 1))), .inr (.inr (.inr (2, 0, b)))], (becH h x))) rfl ?_
  refine Ev.gfr (r := (3, 0, 28)) rfl (sh_1_2 (Sh_eq sh rfl)) ?_
  refine Ev.callw (a := [.inr (.inr (.inr (2, 0, b))), .inr (.inr (.inr (3, 0, 28)))]) rfl (sp_judge (Sh_eq sh rfl) hb w4 (ci_bk ib).2.1 (ci_bk ib).2.2.2.1 (bec_p h x) jr (fun h1 p1 f1 => ?_))
  have i1 := CI_fj ib w5 f1
  refine Ev.sts 1 (c' := (86, [some (.inr (.inr (.inr (1, 0, 1)))), some (.inl (iZ (x.1))), some (.inl (iZ (x.2.1))), some (.inl (iZ (x.2.2.1))), some (.inl (iZ (x.2.2.2)))], [.inr (.inr (.inr (1, 0, 1)))], h1)) rfl ?_
  refine Ev.gfr (r := (20, 120, 29)) rfl (sh_1_3 (Sh_eq sh f1.1)) ?_
  refine Ev.sts 1 (c' := (90, [some (.inr (.inr (.inr (1, 0, 1)))), some (.inl (iZ (x.1))), some (.inl (iZ (x.2.1))), some (.inl (iZ (x.2.2.1))), some (.inl (iZ (x.2.2.2)))], [.inr (.inr (.inr (1, 0, 1))), .inr (.inr (.inr (20, 120, 29)))], h1)) rfl ?_
  refine Ev.gv (w := (iZ ((csS S).length))) rfl (ci_cs i1).1 ?_
  refine Ev.sts 1 (c' := (94, [some (.inr (.inr (.inr (1, 0, 1)))), some (.inl (iZ (x.1))), some (.inl (iZ (x.2.1))), some (.inl (iZ (x.2.2.1))), some (.inl (iZ (x.2.2.2)))], [.inl (iZ (x.1)), .inl (iZ ((csS S).length)), .inr (.inr (.inr (20, 120, 29)))], h1)) rfl ?_
  refine Ev.sto (j := (iZ ((csS S).length))) (n := 120) (h2 := (setI h1 29 ((csS S).length) ((iZ (x.1))))) (iZ_in (by omega) (by omega) (by omega)) rfl (by rw [iZ_ix (n := (csS S).length) (by omega) (by omega)]) ?_
  refine Ev.sts 1 (c' := (96, [some (.inr (.inr (.inr (1, 0, 1)))), some (.inl (iZ (x.1))), some (.inl (iZ (x.2.1))), some (.inl (iZ (x.2.2.1))), some (.inl (iZ (x.2.2.2)))], [.inr (.inr (.inr (1, 0, 1)))], (setI h1 29 ((csS S).length) ((iZ (x.1)))))) rfl ?_
  refine Ev.gfr (r := (20, 120, 30)) rfl (sh_1_4 (Sh_eq sh f1.1)) ?_
  refine Ev.sts 1 (c' := (100, [some (.inr (.inr (.inr (1, 0, 1)))), some (.inl (iZ (x.1))), some (.inl (iZ (x.2.1))), some (.inl (iZ (x.2.2.1))), some (.inl (iZ (x.2.2.2)))], [.inr (.inr (.inr (1, 0, 1))), .inr (.inr (.inr (20, 120, 30)))], (setI h1 29 ((csS S).length) ((iZ (x.1)))))) rfl ?_
  refine Ev.gv (w := (iZ ((csS S).length))) rfl (by rw [setI_oth (b := 1) (by omega)]; exact (ci_cs i1).1) ?_
  refine Ev.sts 1 (c' := (104, [some (.inr (.inr (.inr (1, 0, 1)))), some (.inl (iZ (x.1))), some (.inl (iZ (x.2.1))), some (.inl (iZ (x.2.2.1))), some (.inl (iZ (x.2.2.2)))], [.inr (.inr (.inr (1, 0, 1))), .inl (iZ ((csS S).length)), .inr (.inr (.inr (20, 120, 30)))], (setI h1 29 ((csS S).length) ((iZ (x.1)))))) rfl ?_
  refine Ev.gfr (r := (3, 0, 28)) rfl (sh_1_2 (Sh_eq sh f1.1)) ?_
  refine Ev.gv (w := tk) rfl ((congrFun (setI_oth (b := 28) (by omega)) 4).trans p1.2.2.2.2) ?_
  refine Ev.sto (j := (iZ ((csS S).length))) (n := 120) (h2 := (setI (setI h1 29 ((csS S).length) ((iZ (x.1)))) 30 ((csS S).length) (tk))) (iZ_in (by omega) (by omega) (by omega)) rfl (by rw [iZ_ix (n := (csS S).length) (by omega) (by omega)]) ?_
  refine Ev.sts 2 (c' := (113, [some (.inr (.inr (.inr (1, 0, 1)))), some (.inl (iZ (x.1))), some (.inl (iZ (x.2.1))), some (.inl (iZ (x.2.2.1))), some (.inl (iZ (x.2.2.2)))], [.inr (.inr (.inr (1, 0, 1))), .inr (.inr (.inr (1, 0, 1)))], (setI (setI h1 29 ((csS S).length) ((iZ (x.1)))) 30 ((csS S).length) (tk)))) rfl ?_
  refine Ev.gv (w := (iZ ((csS S).length))) rfl (by rw [setI_oth (b := 1) (by omega), setI_oth (b := 1) (by omega)]; exact (ci_cs i1).1) ?_
  refine Ev.sts 1 (c' := (117, [some (.inr (.inr (.inr (1, 0, 1)))), some (.inl (iZ (x.1))), some (.inl (iZ (x.2.1))), some (.inl (iZ (x.2.2.1))), some (.inl (iZ (x.2.2.2)))], [.inl (iZ (1)), .inl (iZ ((csS S).length)), .inr (.inr (.inr (1, 0, 1)))], (setI (setI h1 29 ((csS S).length) ((iZ (x.1)))) 30 ((csS S).length) (tk)))) rfl ?_
  refine Ev.gv (w := (iZ (((csS S).length) + 1))) rfl (iZ_add _ _) ?_
  refine Ev.sts 1 (c' := (121, [some (.inr (.inr (.inr (1, 0, 1)))), some (.inl (iZ (x.1))), some (.inl (iZ (x.2.1))), some (.inl (iZ (x.2.2.1))), some (.inl (iZ (x.2.2.2)))], [], (setI (setI (setI h1 29 ((csS S).length) ((iZ (x.1)))) 30 ((csS S).length) (tk)) 1 8 ((iZ (((csS S).length) + 1)))))) rfl ?_
  have i2 : CI (addH h1 (csS S).length x.1 tk) (cadS S x tk) b n u := CI_cad i1 w5
  have p2 : proC (addH h1 (csS S).length x.1 tk) x tk := by
    unfold proC addH
    rw [setI_oth (b := 28) (by omega), setI_oth (b := 28) (by omega), setI_oth (b := 28) (by omega)]
    exact p1
  refine Ev.sts 1 (c' := (122, [some (.inr (.inr (.inr (1, 0, 1)))), some (.inl (iZ (x.1))), some (.inl (iZ (x.2.1))), some (.inl (iZ (x.2.2.1))), some (.inl (iZ (x.2.2.2)))], [.inr (.inr (.inr (1, 0, 1)))], (addH h1 (csS S).length x.1 tk))) rfl ?_
  refine Ev.callw (a := [.inr (.inr (.inr (1, 0, 1)))]) rfl (sp_countGeese (ci_sh i2) hb (ci_17 i2) ⟨w1, w2, w3, w4, w5, w6⟩ (ci_bk (S := cadS S x tk) i2) p2 (ci_wm (S := cadS S x tk) i2) (ci_ws (S := cadS S x tk) i2) wl (by omega) (by omega) ⟨by omega, by omega⟩ ⟨w12, by show wmS S < 3000; omega⟩ vr (fun h2 f2 wc => ?_))
  have i3 : CI h2 (cgeS S x tk vs) b n u := CI_fc i2 w5 f2 wc
  have i4 := CI_gr (S := cgeS S x tk vs) (m := max (grS S) x.1) i3 w5
  refine Ev.sts 2 (c' := (127, [some (.inr (.inr (.inr (1, 0, 1)))), some (.inl (iZ (x.1))), some (.inl (iZ (x.2.1))), some (.inl (iZ (x.2.2.1))), some (.inl (iZ (x.2.2.2)))], [.inr (.inr (.inr (1, 0, 1))), .inr (.inr (.inr (1, 0, 1)))], h2)) rfl ?_
  refine Ev.gv (w := (iZ (grS S))) rfl (ci_gr (S := cgeS S x tk vs) i3) ?_
  refine Ev.sts 1 (c' := (131, [some (.inr (.inr (.inr (1, 0, 1)))), some (.inl (iZ (x.1))), some (.inl (iZ (x.2.1))), some (.inl (iZ (x.2.2.1))), some (.inl (iZ (x.2.2.2)))], [.inl (iZ (x.1)), .inl (iZ (grS S)), .inr (.inr (.inr (1, 0, 1)))], h2)) rfl ?_
  refine Ev.gv (w := (iZ (max (grS S) x.1))) rfl (iZ_max ⟨by omega, by omega⟩ ⟨by omega, by omega⟩) ?_
  refine Ev.sts 4 (c' := (140, [some (.inr (.inr (.inr (1, 0, 1)))), some (.inl (iZ (x.1))), some (.inl (iZ (x.2.1))), some (.inl (iZ (x.2.2.1))), some (.inl (iZ (x.2.2.2)))], [.inr (.inr (.inr (1, 0, 1))), .inr (.inr (.inr (1, 0, 1))), .inr (.inr (.inr (1, 0, 1)))], (setI h2 1 10 ((iZ (max (grS S) x.1)))))) rfl ?_
  refine Ev.gv (w := (iZ (max (grS S) x.1))) rfl (setI_self _ _ _ _) ?_
  refine Ev.sts 1 (c' := (144, [some (.inr (.inr (.inr (1, 0, 1)))), some (.inl (iZ (x.1))), some (.inl (iZ (x.2.1))), some (.inl (iZ (x.2.2.1))), some (.inl (iZ (x.2.2.2)))], [.inr (.inr (.inr (1, 0, 1))), .inl (iZ (max (grS S) x.1)), .inr (.inr (.inr (1, 0, 1))), .inr (.inr (.inr (1, 0, 1)))], (setI h2 1 10 ((iZ (max (grS S) x.1)))))) rfl ?_
  refine Ev.gv (w := (iZ (ntS S))) rfl (ci_nt (S := mkS (tpS S) (eaS S) (bkS S) (csS S ++ [(x.1, tk)]) (ntS S) (max (grS S) x.1) (wmS S) (fun g => (gst (bkS S) x.1 (wmS S) tk vs g (wdS S g) (ltS S g)).1) (fun g => (gst (bkS S) x.1 (wmS S) tk vs g (wdS S g) (ltS S g)).2) (tlS S)) (CI_gr (S := cgeS S x tk vs) (m := max (grS S) x.1) i3 w5)) ?_
  refine Ev.callv (a := [.inr (.inr (.inr (1, 0, 1))), .inl (iZ (max (grS S) x.1)), .inl (iZ (ntS S))]) rfl (wmb_any i4 ⟨w1, w2, w3, w4, w5, w6⟩ ⟨w12, w13⟩ ⟨by omega, by omega⟩ ⟨by omega, by omega⟩) ?_
  refine Ev.sts 2 (c' := (154, [some (.inr (.inr (.inr (1, 0, 1)))), some (.inl (iZ (x.1))), some (.inl (iZ (x.2.1))), some (.inl (iZ (x.2.2.1))), some (.inl (iZ (x.2.2.2)))], [.inr (.inr (.inr (1, 0, 1)))], (setI (setI h2 1 10 ((iZ (max (grS S) x.1)))) 1 11 ((iZ (max (wmS S) (max (grS S) x.1 - alB (bkS S) (ntS S)))))))) rfl ?_
  refine Ev.callw (a := [.inr (.inr (.inr (1, 0, 1)))]) rfl (cs_tell (S := cwmS S x tk vs) (CI_wm (m := max (wmS S) (max (grS S) x.1 - alB (bkS S) (ntS S))) i4 w5) w5 wl2 ⟨by show 0 ≤ max (wmS S) (max (grS S) x.1 - alB (bkS S) (ntS S)); omega, by show max (wmS S) (max (grS S) x.1 - alB (bkS S) (ntS S)) ≤ 2000; omega⟩ cp (fun h3 n3 u3 i5 f3 => ?_))
  have e28 : h3.1 28 = (addH h1 (csS S).length x.1 tk).1 28 := (FX_1 f3 (ci_tl (CI_wm (m := max (wmS S) (max (grS S) x.1 - alB (bkS S) (ntS S))) i4 w5)).2.2.2.2.1 (ci_hN (CI_wm (m := max (wmS S) (max (grS S) x.1 - alB (bkS S) (ntS S))) i4 w5)) (fun z => by unfold pWs at z; omega) (by omega)).trans (((setI_oth (by omega)).trans (setI_oth (by omega))).trans (f2.2 28 (by omega) (by omega) (by omega)))
  refine Ev.sts 1 (c' := (158, [some (.inr (.inr (.inr (1, 0, 1)))), some (.inl (iZ (x.1))), some (.inl (iZ (x.2.1))), some (.inl (iZ (x.2.2.1))), some (.inl (iZ (x.2.2.2)))], [.inr (.inr (.inr (1, 0, 1)))], h3)) rfl ?_
  refine Ev.gfr (r := (3, 0, 28)) rfl (sh_1_2 (ci_sh i5)) ?_
  refine Ev.gv (w := tk) rfl ((congrFun e28 4).trans p2.2.2.2.2) ?_
  refine Ev.callv (a := [.inl (tk)]) rfl sp_bitCount ?_
  exact Ev.ret rfl (q h3 n3 u3 i5 (FX_trans (FX_of (f1.1.trans (bec_f hb).1) (fun a ha => (f1.2.1 a (fun z => ha (by unfold pCl; omega)) (fun z => ha (by unfold pCl; omega)) (fun z => ha (by unfold pCl; omega))).trans ((bec_f hb).2 a (fun z => ha (by unfold pCl; omega))))) (FX_trans FX_add (FX_trans (FX_of f2.1 (fun a ha => by unfold pCl at ha; exact f2.2 a (by omega) (by omega) (by omega))) (FX_trans FX_1s (FX_trans FX_1s (FX_mono f3 pWs_Cl)))))))

theorem cz_comma {d : Nat} {x : Ctx} {h : PH} {Q : Rs → PH → Prop} (hx : bX x) (ok : ¬ okX x) (q : Q (.inr 1) (grow h 6)) : Rn (d + 2) 73 [.inr (.inr (.inr (1, 0, 1))), .inl (iZ (x.1)), .inl (iZ (x.2.1)), .inl (iZ (x.2.2.1)), .inl (iZ (x.2.2.2))] h Q := by
  refine Ev.sts 4 (c' := (5, [some (.inr (.inr (.inr (1, 0, 1)))), some (.inl (iZ (x.1))), some (.inl (iZ (x.2.1))), some (.inl (iZ (x.2.2.1))), some (.inl (iZ (x.2.2.2)))], [.inl (iZ (x.2.2.2)), .inl (iZ (x.2.2.1)), .inl (iZ (x.2.1)), .inl (iZ (x.1))], h)) rfl ?_
  refine Ev.callw (a := [.inl (iZ (x.1)), .inl (iZ (x.2.1)), .inl (iZ (x.2.2.1)), .inl (iZ (x.2.2.2))]) rfl (sp_isComma hx (fun z => absurd z ok) (fun _ => ?_))
  refine Ev.brF (p := ¬ (iZ (0)) = (iZ (0))) (c1 := (21, [some (.inr (.inr (.inr (1, 0, 1)))), some (.inl (iZ (x.1))), some (.inl (iZ (x.2.1))), some (.inl (iZ (x.2.2.1))), some (.inl (iZ (x.2.2.2)))], [], h)) (c2 := (11, [some (.inr (.inr (.inr (1, 0, 1)))), some (.inl (iZ (x.1))), some (.inl (iZ (x.2.1))), some (.inl (iZ (x.2.2.1))), some (.inl (iZ (x.2.2.2)))], [], h)) (by decide) rfl ?_
  exact Ev.ret rfl (q)

theorem cy_comma {d b n : Nat} {u : Q5} {S : Sta} {h : PH} {x : Ctx} {Q : Rs → PH → Prop} (I : CI h S b n u) (W : WN S) (hx : bX x) (ok : okX x) (hcs : ¬ (csS S).length < 120) (q : Q (.inr 0) (grow h 6)) : Rn (d + 2) 73 [.inr (.inr (.inr (1, 0, 1))), .inl (iZ (x.1)), .inl (iZ (x.2.1)), .inl (iZ (x.2.2.1)), .inl (iZ (x.2.2.2))] h Q := by
  have sh := ci_sh I
  have hb := ci_b I
  have W0 := W
  obtain ⟨⟨w1, w2, w3, w4, w5, w6⟩, w7, w8, w9, w10, w11, w12, w13, w14, w15, w16, w17, w18⟩ := W0
  refine Ev.sts 4 (c' := (5, [some (.inr (.inr (.inr (1, 0, 1)))), some (.inl (iZ (x.1))), some (.inl (iZ (x.2.1))), some (.inl (iZ (x.2.2.1))), some (.inl (iZ (x.2.2.2)))], [.inl (iZ (x.2.2.2)), .inl (iZ (x.2.2.1)), .inl (iZ (x.2.1)), .inl (iZ (x.1))], h)) rfl ?_
  refine Ev.callw (a := [.inl (iZ (x.1)), .inl (iZ (x.2.1)), .inl (iZ (x.2.2.1)), .inl (iZ (x.2.2.2))]) rfl (sp_isComma hx (fun _ => ?_) (fun z => absurd ok z))
  refine Ev.brT (p := ¬ (iZ (1)) = (iZ (0))) (c1 := (21, [some (.inr (.inr (.inr (1, 0, 1)))), some (.inl (iZ (x.1))), some (.inl (iZ (x.2.1))), some (.inl (iZ (x.2.2.1))), some (.inl (iZ (x.2.2.2)))], [], h)) (c2 := (11, [some (.inr (.inr (.inr (1, 0, 1)))), some (.inl (iZ (x.1))), some (.inl (iZ (x.2.1))), some (.inl (iZ (x.2.2.1))), some (.inl (iZ (x.2.2.2)))], [], h)) (by decide) rfl ?_
  refine Ev.sts 1 (c' := (22, [some (.inr (.inr (.inr (1, 0, 1)))), some (.inl (iZ (x.1))), some (.inl (iZ (x.2.1))), some (.inl (iZ (x.2.2.1))), some (.inl (iZ (x.2.2.2)))], [.inr (.inr (.inr (1, 0, 1)))], h)) rfl ?_
  refine Ev.gv (w := (iZ ((csS S).length))) rfl (ci_cs I).1 ?_
  refine Ev.brF (p := (iZ ((csS S).length)) < (iZ (0))) (c1 := (52, [some (.inr (.inr (.inr (1, 0, 1)))), some (.inl (iZ (x.1))), some (.inl (iZ (x.2.1))), some (.inl (iZ (x.2.2.1))), some (.inl (iZ (x.2.2.2)))], [], h)) (c2 := (28, [some (.inr (.inr (.inr (1, 0, 1)))), some (.inl (iZ (x.1))), some (.inl (iZ (x.2.1))), some (.inl (iZ (x.2.2.1))), some (.inl (iZ (x.2.2.2)))], [], h)) (fun c_ => absurd ((iZ_lt ⟨by omega, by omega⟩ ⟨by omega, by omega⟩).mp c_) (by omega)) rfl ?_
  refine Ev.sts 1 (c' := (29, [some (.inr (.inr (.inr (1, 0, 1)))), some (.inl (iZ (x.1))), some (.inl (iZ (x.2.1))), some (.inl (iZ (x.2.2.1))), some (.inl (iZ (x.2.2.2)))], [.inr (.inr (.inr (1, 0, 1)))], h)) rfl ?_
  refine Ev.gv (w := (iZ ((csS S).length))) rfl (ci_cs I).1 ?_
  refine Ev.sts 1 (c' := (33, [some (.inr (.inr (.inr (1, 0, 1)))), some (.inl (iZ (x.1))), some (.inl (iZ (x.2.1))), some (.inl (iZ (x.2.2.1))), some (.inl (iZ (x.2.2.2)))], [.inr (.inr (.inr (1, 0, 1))), .inl (iZ ((csS S).length))], h)) rfl ?_
  refine Ev.gfr (r := (20, 120, 29)) rfl (sh_1_3 sh) ?_
  refine Ev.sts 1 (c' := (37, [some (.inr (.inr (.inr (1, 0, 1)))), some (.inl (iZ (x.1))), some (.inl (iZ (x.2.1))), some (.inl (iZ (x.2.2.1))), some (.inl (iZ (x.2.2.2)))], [.inl (iZ (120)), .inl (iZ ((csS S).length))], h)) rfl ?_
  refine Ev.brT (p := (iZ (120)) ≤ (iZ ((csS S).length))) (c1 := (52, [some (.inr (.inr (.inr (1, 0, 1)))), some (.inl (iZ (x.1))), some (.inl (iZ (x.2.1))), some (.inl (iZ (x.2.2.1))), some (.inl (iZ (x.2.2.2)))], [], h)) (c2 := (40, [some (.inr (.inr (.inr (1, 0, 1)))), some (.inl (iZ (x.1))), some (.inl (iZ (x.2.1))), some (.inl (iZ (x.2.2.1))), some (.inl (iZ (x.2.2.2)))], [], h)) ((iZ_le ⟨by omega, by omega⟩ ⟨by omega, by omega⟩).mpr (by omega)) rfl ?_
  exact Ev.ret rfl (q)

