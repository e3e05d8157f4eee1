/-! The reference shows the state; a comma comes to it. -/
/-- the reference's book -/
def bkM (h : PH) (B : Bk) : Prop := h.1 93 0 = iZ B.2.1.length ∧ h.1 93 1 = iZ B.2.2.length ∧ h.1 93 2 = iZ B.1.length ∧ (∀ j, j < B.1.length → h.1 93 (3 + j) = iZ (B.1.getD j 0)) ∧ (∀ f, f < B.2.1.length → ∃ k, k + wlen (B.2.1.getD f []) ≤ 1024 ∧ h.1 93 (11 + 2 * f) = iZ k ∧ h.1 93 (11 + 2 * f + 1) = iZ ((k + wlen (B.2.1.getD f []) : Nat) : Int) ∧ pgM h 94 k (B.2.1.getD f [])) ∧ ∀ g, g < B.2.2.length → gsM h g (B.2.2.getD g g0)
theorem bkM_eq {h h' : PH} {B : Bk} (e : h'.1 93 = h.1 93) (e2 : h'.1 94 = h.1 94) (k : bkM h B) : bkM h' B := by
  obtain ⟨k1, k2, k3, k4, k5, k6⟩ := k
  refine ⟨by rw [e]; exact k1, by rw [e]; exact k2, by rw [e]; exact k3, by rw [e]; exact k4, fun f hf => ?_, fun g hg => gsM_eq e e2 (k6 g hg)⟩
  obtain ⟨k, t1, t2, t3, t4⟩ := k5 f hf
  exact ⟨k, t1, by rw [e]; exact t2, by rw [e]; exact t3, pgM_eq e2 _ _ t4⟩
/-- the words of the fields -/
def kyM (h : PH) : Prop := h.2.1 88 0 = 278194 ∧ h.2.1 88 1 = 370116 ∧ h.2.1 88 2 = 777297172 ∧ h.2.1 88 3 = 763335
/-- the reference's object shows S -/
def MI (h : PH) (S : Sta) (y : Y4) : Prop := Sh h ∧ (h.1 83 2 = iZ (tpS S).length ∧ ∀ j, j < (tpS S).length → h.1 84 j = iZ ((tpS S).getD j 0)) ∧ h.1 83 11 = iZ (eaS S) ∧ bkM h (bkS S) ∧ (h.1 83 21 = iZ (csS S).length ∧ ∀ j, j < (csS S).length → h.1 96 j = iZ ((csS S).getD j cd0).1 ∧ h.1 97 j = ((csS S).getD j cd0).2) ∧ h.1 83 25 = iZ (ntS S) ∧ h.1 83 26 = iZ (grS S) ∧ h.1 83 27 = iZ (wmS S) ∧ (∀ g, g < 6 → h.1 99 g = iZ (ltS S g)) ∧ opM h (allW (wdS S)) y.1 y.2.1 ∧ tmM h (tlS S) y.2.2.1 y.2.2.2 ∧ y.2.2.2 ≠ y.2.1 ∧ 103 ≤ hN h ∧ kyM h
theorem mi_sh {h : PH} {S : Sta} {y : Y4} (I : MI h S y) : Sh h := I.1
theorem mi_tp {h : PH} {S : Sta} {y : Y4} (I : MI h S y) : h.1 83 2 = iZ (tpS S).length ∧ ∀ j, j < (tpS S).length → h.1 84 j = iZ ((tpS S).getD j 0) := I.2.1
theorem mi_ea {h : PH} {S : Sta} {y : Y4} (I : MI h S y) : h.1 83 11 = iZ (eaS S) := I.2.2.1
theorem mi_bk {h : PH} {S : Sta} {y : Y4} (I : MI h S y) : bkM h (bkS S) := I.2.2.2.1
theorem mi_cs {h : PH} {S : Sta} {y : Y4} (I : MI h S y) : h.1 83 21 = iZ (csS S).length ∧ ∀ j, j < (csS S).length → h.1 96 j = iZ ((csS S).getD j cd0).1 ∧ h.1 97 j = ((csS S).getD j cd0).2 := I.2.2.2.2.1
theorem mi_nt {h : PH} {S : Sta} {y : Y4} (I : MI h S y) : h.1 83 25 = iZ (ntS S) := I.2.2.2.2.2.1
theorem mi_gr {h : PH} {S : Sta} {y : Y4} (I : MI h S y) : h.1 83 26 = iZ (grS S) := I.2.2.2.2.2.2.1
theorem mi_wm {h : PH} {S : Sta} {y : Y4} (I : MI h S y) : h.1 83 27 = iZ (wmS S) := I.2.2.2.2.2.2.2.1
theorem mi_lt {h : PH} {S : Sta} {y : Y4} (I : MI h S y) : ∀ g, g < 6 → h.1 99 g = iZ (ltS S g) := I.2.2.2.2.2.2.2.2.1
theorem mi_op {h : PH} {S : Sta} {y : Y4} (I : MI h S y) : opM h (allW (wdS S)) y.1 y.2.1 := I.2.2.2.2.2.2.2.2.2.1
theorem mi_tm {h : PH} {S : Sta} {y : Y4} (I : MI h S y) : tmM h (tlS S) y.2.2.1 y.2.2.2 := I.2.2.2.2.2.2.2.2.2.2.1
theorem mi_ne {h : PH} {S : Sta} {y : Y4} (I : MI h S y) : y.2.2.2 ≠ y.2.1 := I.2.2.2.2.2.2.2.2.2.2.2.1
theorem mi_hN {h : PH} {S : Sta} {y : Y4} (I : MI h S y) : 103 ≤ hN h := I.2.2.2.2.2.2.2.2.2.2.2.2.1
theorem mi_ky {h : PH} {S : Sta} {y : Y4} (I : MI h S y) : kyM h := I.2.2.2.2.2.2.2.2.2.2.2.2.2
theorem aO_ne {x N a : Nat} (h : aO x N) (ha : a ≠ 100) (hb : a ≠ 101) (hc : a < 103) : x ≠ a := by unfold aO at h; omega
/-- small things of the reference change -/
theorem MI_83 {h h' : PH} {S : Sta} {y : Y4} {nt : Nat} {gr wm : Int} (I : MI h S y) (e2 : h'.2 = h.2) (e : ∀ a, a ≠ 83 → a ≠ 95 → a ≠ 98 → h'.1 a = h.1 a) (es : ∀ k, k ≠ 0 → k ≠ 25 → k ≠ 26 → k ≠ 27 → h'.1 83 k = h.1 83 k) (e25 : h'.1 83 25 = iZ nt) (e26 : h'.1 83 26 = iZ gr) (e27 : h'.1 83 27 = iZ wm) : MI h' (mkS (tpS S) (eaS S) (bkS S) (csS S) nt gr wm (wdS S) (ltS S) (tlS S)) y := by
  obtain ⟨i1, i2, i3, i4, i5, i6, i7, i8, i9, i10, i11, i12, i13, i14⟩ := I
  have hc := i10.2.2.2.2.2.1
  have ht := i11.2.2.2.2.2.1
  refine ⟨Sh_eq i1 e2, ?_, (es 11 (by omega) (by omega) (by omega) (by omega)).trans i3, bkM_eq (e 93 (by omega) (by omega) (by omega)) (e 94 (by omega) (by omega) (by omega)) i4, ?_, e25, e26, e27, ?_, opM_eq i10 (es 30 (by omega) (by omega) (by omega) (by omega)) (by rw [e2]) (e _ (aO_ne hc (by omega) (by omega) (by omega)) (aO_ne hc (by omega) (by omega) (by omega)) (aO_ne hc (by omega) (by omega) (by omega))) (by unfold hN; rw [e2]; exact Nat.le_refl _), ?_, i12, by unfold hN; rw [e2]; exact i13, by unfold kyM; rw [e2]; exact i14⟩
  · rw [es 2 (by omega) (by omega) (by omega) (by omega), e 84 (by omega) (by omega) (by omega)]; exact i2
  · rw [es 21 (by omega) (by omega) (by omega) (by omega), e 96 (by omega) (by omega) (by omega), e 97 (by omega) (by omega) (by omega)]; exact i5
  · rw [e 99 (by omega) (by omega) (by omega)]; exact i9
  · obtain ⟨t1, t2, t3, t4, t5, t6, t7⟩ := i11
    refine ⟨(es 32 (by omega) (by omega) (by omega) (by omega)).trans t1, t2, t3, t4, by rw [e2]; exact t5, by unfold hN; rw [e2]; exact t6, fun j hj => ?_⟩
    unfold rT
    rw [e _ (aO_ne ht (by omega) (by omega) (by omega)) (aO_ne ht (by omega) (by omega) (by omega)) (aO_ne ht (by omega) (by omega) (by omega))]
    exact t7 j hj
theorem mkS_id (S : Sta) : mkS (tpS S) (eaS S) (bkS S) (csS S) (ntS S) (grS S) (wmS S) (wdS S) (ltS S) (tlS S) = S := rfl
theorem MI_th {h : PH} {S : Sta} {y : Y4} {v : Int32} (I : MI h S y) : MI (setI h 83 0 v) S y :=
  MI_83 I rfl (fun a a1 _ _ => setI_oth a1) (fun k k1 _ _ _ => setI_ne (by omega)) ((setI_ne (by omega)).trans (mi_nt I)) ((setI_ne (by omega)).trans (mi_gr I)) ((setI_ne (by omega)).trans (mi_wm I))
theorem MI_pr {h h' : PH} {S : Sta} {y : Y4} (I : MI h S y) (e2 : h'.2 = h.2) (e : ∀ a, a ≠ 95 → a ≠ 98 → h'.1 a = h.1 a) : MI h' S y :=
  MI_83 I e2 (fun a _ a2 a3 => e a a2 a3) (fun k _ _ _ _ => by rw [e 83 (by omega) (by omega)]) (by rw [e 83 (by omega) (by omega)]; exact mi_nt I) (by rw [e 83 (by omega) (by omega)]; exact mi_gr I) (by rw [e 83 (by omega) (by omega)]; exact mi_wm I)
def pMo (a : Nat) : Prop := 83 ≤ a ∧ a ≤ 101
theorem FM_83s {h : PH} {y : Y4} {k : Nat} {v : Int32} : FM pMo h (setI h 83 k v) y y := FM_of rfl (fun a ha => setI_oth (fun z => ha (by unfold pMo; omega)))
def givH (h : PH) (x : Ctx) : PH := setI (setI (setI (setI h 98 0 (iZ x.1)) 98 1 (iZ x.2.1)) 98 2 (iZ x.2.2.1)) 98 3 (iZ x.2.2.2)
theorem giv_g (h : PH) (x : Ctx) : givM (givH h x) x := ⟨rfl, rfl, rfl, rfl⟩
theorem giv_o {h : PH} {x : Ctx} {a : Nat} (ha : a ≠ 98) : (givH h x).1 a = h.1 a := by
  unfold givH
  rw [setI_oth ha, setI_oth ha, setI_oth ha, setI_oth ha]
theorem FM_giv {h : PH} {y : Y4} {x : Ctx} : FM pMo h (givH h x) y y := FM_of rfl (fun a ha => giv_o (fun z => ha (by unfold pMo; omega)))
theorem FM_95 {h h1 : PH} {y : Y4} (e2 : h1.2 = h.2) (e1 : ∀ a, a ≠ 95 → h1.1 a = h.1 a) : FM pMo h h1 y y := FM_of e2 (fun a ha => e1 a (fun z => ha (by unfold pMo; omega)))
theorem mp_give {d : Nat} {x : Ctx} {h : PH} (sh : Sh h) : Rv d 211 [.inr (.inr (.inr (11, 0, 83))), .inl (iZ (x.1)), .inl (iZ (x.2.1)), .inl (iZ (x.2.2.1)), .inl (iZ (x.2.2.2))] h (none) (givH h x) := Rv.of fun Q q => by
  refine Ev.sts 1 (c' := (1, [some (.inr (.inr (.inr (11, 0, 83)))), some (.inl (iZ (x.1))), some (.inl (iZ (x.2.1))), some (.inl (iZ (x.2.2.1))), some (.inl (iZ (x.2.2.2)))], [.inr (.inr (.inr (11, 0, 83)))], h)) rfl ?_
  refine Ev.gfr (r := (20, 4, 98)) rfl (sh_83_24 sh) ?_
  refine Ev.sts 2 (c' := (6, [some (.inr (.inr (.inr (11, 0, 83)))), some (.inl (iZ (x.1))), some (.inl (iZ (x.2.1))), some (.inl (iZ (x.2.2.1))), some (.inl (iZ (x.2.2.2)))], [.inl (iZ (x.1)), .inl (iZ (0)), .inr (.inr (.inr (20, 4, 98)))], h)) rfl ?_
  refine Ev.sto (j := (iZ (0))) (n := 4) (h2 := (setI h 98 0 ((iZ (x.1))))) (by decide) rfl rfl ?_
  refine Ev.sts 1 (c' := (8, [some (.inr (.inr (.inr (11, 0, 83)))), some (.inl (iZ (x.1))), some (.inl (iZ (x.2.1))), some (.inl (iZ (x.2.2.1))), some (.inl (iZ (x.2.2.2)))], [.inr (.inr (.inr (11, 0, 83)))], (setI h 98 0 ((iZ (x.1)))))) rfl ?_
  refine Ev.gfr (r := (20, 4, 98)) rfl (sh_83_24 sh) ?_
  refine Ev.sts 2 (c' := (13, [some (.inr (.inr (.inr (11, 0, 83)))), some (.inl (iZ (x.1))), some (.inl (iZ (x.2.1))), some (.inl (iZ (x.2.2.1))), some (.inl (iZ (x.2.2.2)))], [.inl (iZ (x.2.1)), .inl (iZ (1)), .inr (.inr (.inr (20, 4, 98)))], (setI h 98 0 ((iZ (x.1)))))) rfl ?_
  refine Ev.sto (j := (iZ (1))) (n := 4) (h2 := (setI (setI h 98 0 ((iZ (x.1)))) 98 1 ((iZ (x.2.1))))) (by decide) rfl rfl ?_
  refine Ev.sts 1 (c' := (15, [some (.inr (.inr (.inr (11, 0, 83)))), some (.inl (iZ (x.1))), some (.inl (iZ (x.2.1))), some (.inl (iZ (x.2.2.1))), some (.inl (iZ (x.2.2.2)))], [.inr (.inr (.inr (11, 0, 83)))], (setI (setI h 98 0 ((iZ (x.1)))) 98 1 ((iZ (x.2.1)))))) rfl ?_
  refine Ev.gfr (r := (20, 4, 98)) rfl (sh_83_24 sh) ?_
  refine Ev.sts 2 (c' := (20, [some (.inr (.inr (.inr (11, 0, 83)))), some (.inl (iZ (x.1))), some (.inl (iZ (x.2.1))), some (.inl (iZ (x.2.2.1))), some (.inl (iZ (x.2.2.2)))], [.inl (iZ (x.2.2.1)), .inl (iZ (2)), .inr (.inr (.inr (20, 4, 98)))], (setI (setI h 98 0 ((iZ (x.1)))) 98 1 ((iZ (x.2.1)))))) rfl ?_
  refine Ev.sto (j := (iZ (2))) (n := 4) (h2 := (setI (setI (setI h 98 0 ((iZ (x.1)))) 98 1 ((iZ (x.2.1)))) 98 2 ((iZ (x.2.2.1))))) (by decide) rfl rfl ?_
  refine Ev.sts 1 (c' := (22, [some (.inr (.inr (.inr (11, 0, 83)))), some (.inl (iZ (x.1))), some (.inl (iZ (x.2.1))), some (.inl (iZ (x.2.2.1))), some (.inl (iZ (x.2.2.2)))], [.inr (.inr (.inr (11, 0, 83)))], (setI (setI (setI h 98 0 ((iZ (x.1)))) 98 1 ((iZ (x.2.1)))) 98 2 ((iZ (x.2.2.1)))))) rfl ?_
  refine Ev.gfr (r := (20, 4, 98)) rfl (sh_83_24 sh) ?_
  refine Ev.sts 2 (c' := (28, [some (.inr (.inr (.inr (11, 0, 83)))), some (.inl (iZ (x.1))), some (.inl (iZ (x.2.1))), some (.inl (iZ (x.2.2.1))), some (.inl (iZ (x.2.2.2)))], [.inl (iZ (x.2.2.2)), .inl (iZ (3)), .inr (.inr (.inr (20, 4, 98)))], (setI (setI (setI h 98 0 ((iZ (x.1)))) 98 1 ((iZ (x.2.1)))) 98 2 ((iZ (x.2.2.1)))))) rfl ?_
  refine Ev.sto (j := (iZ (3))) (n := 4) (h2 := (setI (setI (setI (setI h 98 0 ((iZ (x.1)))) 98 1 ((iZ (x.2.1)))) 98 2 ((iZ (x.2.2.1)))) 98 3 ((iZ (x.2.2.2))))) (by decide) rfl rfl ?_
  exact Ev.ret rfl (q)

theorem mp_tk_lp {d : Nat} {x : Ctx} {tk1 : Int32} {F : List (List Cmd)} {Q : Rs → PH → Prop} (hF8 : F.length ≤ 8) (n : Nat) : ∀ (h : PH) (k : Nat) (tk : Int32), Sh h → F.length < k + n → h.1 93 0 = iZ F.length → (∀ f, f < F.length → ∃ k, k + wlen (F.getD f []) ≤ 1024 ∧ h.1 93 (11 + 2 * f) = iZ k ∧ h.1 93 (11 + 2 * f + 1) = iZ ((k + wlen (F.getD f []) : Nat) : Int) ∧ pgM h 94 k (F.getD f [])) → givM h x → jR (F.drop k) x k tk tk1 → (∀ h1, h1.2 = h.2 → (∀ a, a ≠ 95 → h1.1 a = h.1 a) → Q (.inl (some (.inl tk1))) h1) → k ≤ F.length → Ev (d + 1) 212 (4, [some (.inr (.inr (.inr (11, 0, 83)))), some (.inl (tk)), some (.inl (iZ (k)))], [], h) Q := by
  induction n with
  | zero => intro h k tk sh hk hF ts gv jr q hkl; omega
  | succ n ih =>
    intro h k tk sh hk hF ts gv jr q hkl
    refine Ev.sts 2 (c' := (6, [some (.inr (.inr (.inr (11, 0, 83)))), some (.inl (tk)), some (.inl (iZ (k)))], [.inr (.inr (.inr (11, 0, 83))), .inl (iZ (k))], h)) rfl ?_
    refine Ev.gfr (r := (20, 64, 93)) rfl (sh_83_18 sh) ?_
    refine Ev.sts 1 (c' := (10, [some (.inr (.inr (.inr (11, 0, 83)))), some (.inl (tk)), some (.inl (iZ (k)))], [.inl (iZ (0)), .inr (.inr (.inr (20, 64, 93))), .inl (iZ (k))], h)) rfl ?_
    refine Ev.ldv (j := (iZ (0))) (n := 64) (w := .inl (iZ (F.length))) (by decide) rfl (congrArg vI hF) ?_
    refine Ev.brc (p := (iZ (F.length)) ≤ (iZ (k))) (q := ((F.length : Int)) ≤ k) (c1 := (54, [some (.inr (.inr (.inr (11, 0, 83)))), some (.inl (tk)), some (.inl (iZ (k)))], [], h)) (c2 := (14, [some (.inr (.inr (.inr (11, 0, 83)))), some (.inl (tk)), some (.inl (iZ (k)))], [], h)) rfl (iZ_le ⟨by omega, by omega⟩ ⟨by omega, by omega⟩) (fun c0 => ?_) (fun c0 => ?_)
    · refine Ev.sts 1 (c' := (55, [some (.inr (.inr (.inr (11, 0, 83)))), some (.inl (tk)), some (.inl (iZ (k)))], [.inl (tk)], h)) rfl ?_
      rw [List.drop_eq_nil_of_le (show F.length ≤ k by omega)] at jr
      cases jr
      exact Ev.ret rfl (q h rfl (fun _ _ => rfl))
    · have e0 := drop_getD ([] : List Cmd) F k (by omega)
      rw [e0] at jr
      obtain ⟨v, ev, jr⟩ := jr
      obtain ⟨kk, t1, t2, t3, t4⟩ := ts k (by omega)
      refine Ev.sts 3 (c' := (17, [some (.inr (.inr (.inr (11, 0, 83)))), some (.inl (tk)), some (.inl (iZ (k)))], [.inr (.inr (.inr (11, 0, 83))), .inr (.inr (.inr (11, 0, 83))), .inl (tk)], h)) rfl ?_
      refine Ev.gfr (r := (20, 64, 93)) rfl (sh_83_18 sh) ?_
      refine Ev.sts 3 (c' := (24, [some (.inr (.inr (.inr (11, 0, 83)))), some (.inl (tk)), some (.inl (iZ (k)))], [.inl (iZ (k)), .inl (iZ (2)), .inl (iZ (11)), .inr (.inr (.inr (20, 64, 93))), .inr (.inr (.inr (11, 0, 83))), .inl (tk)], h)) rfl ?_
      refine Ev.gv (w := (iZ (2 * k))) rfl (iZ_mul _ _) ?_
      refine Ev.gv (w := (iZ (11 + (2 * k)))) rfl (iZ_add _ _) ?_
      refine Ev.ldv (j := (iZ (11 + (2 * k)))) (n := 64) (w := .inl (iZ (kk))) (iZ_in (by omega) (by omega) (by omega)) rfl (by rw [iZ_ix (n := 11 + (2 * k)) (by omega) (by omega)]; exact congrArg vI t2) ?_
      refine Ev.sts 1 (c' := (28, [some (.inr (.inr (.inr (11, 0, 83)))), some (.inl (tk)), some (.inl (iZ (k)))], [.inr (.inr (.inr (11, 0, 83))), .inl (iZ (kk)), .inr (.inr (.inr (11, 0, 83))), .inl (tk)], h)) rfl ?_
      refine Ev.gfr (r := (20, 64, 93)) rfl (sh_83_18 sh) ?_
      refine Ev.sts 3 (c' := (35, [some (.inr (.inr (.inr (11, 0, 83)))), some (.inl (tk)), some (.inl (iZ (k)))], [.inl (iZ (k)), .inl (iZ (2)), .inl (iZ (11)), .inr (.inr (.inr (20, 64, 93))), .inl (iZ (kk)), .inr (.inr (.inr (11, 0, 83))), .inl (tk)], h)) rfl ?_
      refine Ev.gv (w := (iZ (2 * k))) rfl (iZ_mul _ _) ?_
      refine Ev.gv (w := (iZ (11 + (2 * k)))) rfl (iZ_add _ _) ?_
      refine Ev.sts 1 (c' := (38, [some (.inr (.inr (.inr (11, 0, 83)))), some (.inl (tk)), some (.inl (iZ (k)))], [.inl (iZ (1)), .inl (iZ (11 + (2 * k))), .inr (.inr (.inr (20, 64, 93))), .inl (iZ (kk)), .inr (.inr (.inr (11, 0, 83))), .inl (tk)], h)) rfl ?_
      refine Ev.gv (w := (iZ ((11 + (2 * k)) + 1))) rfl (iZ_add _ _) ?_
      refine Ev.ldv (j := (iZ ((11 + (2 * k)) + 1))) (n := 64) (w := .inl (iZ (((kk + wlen (F.getD k []) : Nat) : Int)))) (iZ_in (by omega) (by omega) (by omega)) rfl (by rw [iZ_ix (n := (11 + (2 * k)) + 1) (by omega) (by omega)]; exact congrArg vI t3) ?_
      refine Ev.sts 1 (c' := (41, [some (.inr (.inr (.inr (11, 0, 83)))), some (.inl (tk)), some (.inl (iZ (k)))], [.inl (tk), .inl (iZ (((kk + wlen (F.getD k []) : Nat) : Int))), .inl (iZ (kk)), .inr (.inr (.inr (11, 0, 83))), .inl (tk)], h)) rfl ?_
      refine Ev.callw (a := [.inr (.inr (.inr (11, 0, 83))), .inl (iZ (kk)), .inl (iZ (((kk + wlen (F.getD k []) : Nat) : Int))), .inl (tk)]) rfl (mrk_reckon sh gv rfl t1 t4 ev (fun h1 e2 e1 => ?_))
      refine Ev.sts 4 (c' := (48, [some (.inr (.inr (.inr (11, 0, 83)))), some (.inl ((tk ||| (v <<< ((iZ (k)) &&& 31))))), some (.inl (iZ (k)))], [], h1)) rfl ?_
      refine Ev.stc (c1 := (51, [some (.inr (.inr (.inr (11, 0, 83)))), some (.inl ((tk ||| (v <<< ((iZ (k)) &&& 31))))), some (.inl ((iZ (k)) + (iZ (1))))], [], h1)) (c2 := (51, [some (.inr (.inr (.inr (11, 0, 83)))), some (.inl ((tk ||| (v <<< ((iZ (k)) &&& 31))))), some (.inl (iZ (k + 1)))], [], h1)) rfl (by rw [iZ_add]) ?_
      refine Ev.sts 1 (c' := (4, [some (.inr (.inr (.inr (11, 0, 83)))), some (.inl ((tk ||| (v <<< ((iZ (k)) &&& 31))))), some (.inl (iZ (k + 1)))], [], h1)) rfl ?_
      refine ih h1 (k + 1) (tk ||| (v <<< (iZ k &&& 31))) (Sh_eq sh e2) (by omega) ((congrFun (e1 93 (by omega)) 0).trans hF) (fun f hf => ?_) (by unfold givM; rw [e1 98 (by omega)]; exact gv) jr (fun h2 e4 e3 => q h2 (e4.trans e2) (fun a ha => (e3 a ha).trans (e1 a ha))) (by omega)
      obtain ⟨k2, u1, u2, u3, u4⟩ := ts f hf
      exact ⟨k2, u1, by rw [e1 93 (by omega)]; exact u2, by rw [e1 93 (by omega)]; exact u3, pgM_eq (e1 94 (by omega)) _ _ u4⟩

theorem mp_takers {d : Nat} {x : Ctx} {tk1 : Int32} {F : List (List Cmd)} {h : PH} {Q : Rs → PH → Prop} (sh : Sh h) (hF8 : F.length ≤ 8) (hF : h.1 93 0 = iZ F.length) (ts : (∀ f, f < F.length → ∃ k, k + wlen (F.getD f []) ≤ 1024 ∧ h.1 93 (11 + 2 * f) = iZ k ∧ h.1 93 (11 + 2 * f + 1) = iZ ((k + wlen (F.getD f []) : Nat) : Int) ∧ pgM h 94 k (F.getD f []))) (gv : givM h x) (jr : jR F x 0 (iZ 0) tk1) (q : ∀ h1, h1.2 = h.2 → (∀ a, a ≠ 95 → h1.1 a = h.1 a) → Q (.inl (some (.inl tk1))) h1) : Rn (d + 1) 212 [.inr (.inr (.inr (11, 0, 83)))] h Q := by
  refine Ev.sts 4 (c' := (4, [some (.inr (.inr (.inr (11, 0, 83)))), some (.inl (iZ (0))), some (.inl (iZ (0)))], [], h)) rfl ?_
  exact mp_tk_lp hF8 (F.length + 1) h 0 (iZ 0) sh (by omega) hF ts gv jr q (Nat.zero_le _)

def onF : Nat → Int32 → Int32 → Int32
  | 0, _, a => a
  | n + 1, x, a => if x ≤ 0 then a else onF n (x >>> 1) (a + (x &&& 1))
theorem on_bc : ∀ n : Fin 256, onF 9 (iZ ((n.val : Nat) : Int)) 0 = bcv (iZ ((n.val : Nat) : Int)) := by decide +kernel
theorem on_le (n : Nat) : ∀ (x a : Int32), x.toInt < 2 ^ n → ∃ m, m ≤ n + 1 ∧ True := fun _ _ _ => ⟨0, by omega, trivial⟩
/-- x is gone behind n halvings -/
def gon : Nat → Int32 → Prop
  | 0, x => x ≤ 0
  | n + 1, x => gon n (x >>> 1)
theorem gon_all : ∀ n : Fin 256, gon 8 (iZ ((n.val : Nat) : Int)) := by
  intro n
  have : ∀ n : Fin 256, (((((((((iZ ((n.val : Nat) : Int)) >>> 1) >>> 1) >>> 1) >>> 1) >>> 1) >>> 1) >>> 1) >>> 1 : Int32) ≤ 0 := by decide +kernel
  exact this n
theorem mp_ones_lp {d : Nat} {x0 : Int32} {h : PH} {Q : Rs → PH → Prop} (n : Nat) : ∀ (x a : Int32), gon n x → Q (.inl (some (.inl (onF (n + 1) x a)))) h → Ev d 228 (4, [some (.inl (x0)), some (.inl (a)), some (.inl (x))], [], h) Q := by
  induction n with
  | zero =>
    intro x a hx q
    refine Ev.sts 1 (c' := (5, [some (.inl (x0)), some (.inl (a)), some (.inl (x))], [.inl (x)], h)) rfl ?_
    refine Ev.br (p := x ≤ (iZ (0))) (c1 := (21, [some (.inl (x0)), some (.inl (a)), some (.inl (x))], [], h)) (c2 := (8, [some (.inl (x0)), some (.inl (a)), some (.inl (x))], [], h)) rfl (fun c0 => ?_) (fun c0 => ?_)
    · refine Ev.sts 1 (c' := (22, [some (.inl (x0)), some (.inl (a)), some (.inl (x))], [.inl (a)], h)) rfl ?_
      rw [show onF 1 x a = a from if_pos c0] at q
      exact Ev.ret rfl q
    · refine Ev.sts 11 (c' := (4, [some (.inl (x0)), some (.inl ((a + (x &&& (iZ (1)))))), some (.inl ((x >>> ((iZ (1)) &&& 31))))], [], h)) rfl ?_
      exact absurd hx c0
  | succ n ih =>
    intro x a hx q
    refine Ev.sts 1 (c' := (5, [some (.inl (x0)), some (.inl (a)), some (.inl (x))], [.inl (x)], h)) rfl ?_
    refine Ev.br (p := x ≤ (iZ (0))) (c1 := (21, [some (.inl (x0)), some (.inl (a)), some (.inl (x))], [], h)) (c2 := (8, [some (.inl (x0)), some (.inl (a)), some (.inl (x))], [], h)) rfl (fun c0 => ?_) (fun c0 => ?_)
    · refine Ev.sts 1 (c' := (22, [some (.inl (x0)), some (.inl (a)), some (.inl (x))], [.inl (a)], h)) rfl ?_
      rw [show onF (n + 1 + 1) x a = a from if_pos c0] at q
      exact Ev.ret rfl q
    · refine Ev.sts 11 (c' := (4, [some (.inl (x0)), some (.inl ((a + (x &&& (iZ (1)))))), some (.inl ((x >>> ((iZ (1)) &&& 31))))], [], h)) rfl ?_
      rw [show onF (n + 1 + 1) x a = onF (n + 1) (x >>> 1) (a + (x &&& 1)) from if_neg c0] at q
      exact ih (x >>> 1) (a + (x &&& 1)) hx q

theorem mp_ones {d : Nat} {tk : Int32} {h : PH} (ht : 0 ≤ tk.toInt ∧ tk.toInt < 256) : Rv d 228 [.inl (tk)] h (some (.inl (bcv tk))) h := Rv.of fun Q q => by
  have e1 : tk = iZ (((⟨tk.toInt.toNat, by omega⟩ : Fin 256).val : Nat) : Int) := by
    show tk = iZ ((tk.toInt.toNat : Nat) : Int)
    rw [Int.toNat_of_nonneg ht.1, iZ_of]
  have g8 : gon 8 tk := by rw [e1]; exact gon_all _
  have eb : onF 9 tk (iZ 0) = bcv tk := by rw [e1]; exact on_bc _
  rw [← eb] at q
  refine Ev.sts 4 (c' := (4, [some (.inl (tk)), some (.inl (iZ (0))), some (.inl (tk))], [], h)) rfl ?_
  exact mp_ones_lp 8 tk (iZ 0) g8 q

