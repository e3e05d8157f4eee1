/-! The reference: comma, nights, end, wouldTake. -/
theorem mp_isIn {d : Nat} {v lo hi : Int} {h : PH} {Q : Rs → PH → Prop} (hv : -2147483648 ≤ v ∧ v < 2147483648) (hl : -2147483648 ≤ lo ∧ lo < 2147483648) (hh : -2147483648 ≤ hi ∧ hi < 2147483648) (k1 : lo ≤ v ∧ v ≤ hi → Q (.inl (some (.inl (iZ 1)))) h) (k0 : ¬ (lo ≤ v ∧ v ≤ hi) → Q (.inl (some (.inl (iZ 0)))) h) : Rn d 175 [.inl (iZ (v)), .inl (iZ (lo)), .inl (iZ (hi))] h Q := by
  refine Ev.sts 2 (c' := (2, [some (.inl (iZ (v))), some (.inl (iZ (lo))), some (.inl (iZ (hi)))], [.inl (iZ (lo)), .inl (iZ (v))], h)) rfl ?_
  refine Ev.brc (p := (iZ (v)) < (iZ (lo))) (q := ((v : Int)) < lo) (c1 := (14, [some (.inl (iZ (v))), some (.inl (iZ (lo))), some (.inl (iZ (hi)))], [], h)) (c2 := (5, [some (.inl (iZ (v))), some (.inl (iZ (lo))), some (.inl (iZ (hi)))], [], h)) rfl (iZ_lt ⟨by omega, by omega⟩ ⟨by omega, by omega⟩) (fun c0 => ?_) (fun c0 => ?_)
  · refine Ev.sts 1 (c' := (15, [some (.inl (iZ (v))), some (.inl (iZ (lo))), some (.inl (iZ (hi)))], [.inl (iZ (0))], h)) rfl ?_
    exact Ev.ret rfl (k0 (fun z => by omega))
  · refine Ev.sts 2 (c' := (7, [some (.inl (iZ (v))), some (.inl (iZ (lo))), some (.inl (iZ (hi)))], [.inl (iZ (hi)), .inl (iZ (v))], h)) rfl ?_
    refine Ev.brc (p := (iZ (hi)) < (iZ (v))) (q := ((hi : Int)) < v) (c1 := (14, [some (.inl (iZ (v))), some (.inl (iZ (lo))), some (.inl (iZ (hi)))], [], h)) (c2 := (10, [some (.inl (iZ (v))), some (.inl (iZ (lo))), some (.inl (iZ (hi)))], [], h)) rfl (iZ_lt ⟨by omega, by omega⟩ ⟨by omega, by omega⟩) (fun c1 => ?_) (fun c1 => ?_)
    · refine Ev.sts 1 (c' := (15, [some (.inl (iZ (v))), some (.inl (iZ (lo))), some (.inl (iZ (hi)))], [.inl (iZ (0))], h)) rfl ?_
      exact Ev.ret rfl (k0 (fun z => by omega))
    · refine Ev.sts 2 (c' := (15, [some (.inl (iZ (v))), some (.inl (iZ (lo))), some (.inl (iZ (hi)))], [.inl (iZ (1))], h)) rfl ?_
      exact Ev.ret rfl (k1 ⟨by omega, by omega⟩)

theorem mp_fail {d : Nat} {v : Int} {h : PH} : Rv d 173 [.inr (.inr (.inr (11, 0, 83))), .inl (iZ (v))] h (some (.inl (iZ 0))) (setI h 83 0 (iZ v)) := Rv.of fun Q q => by
  refine Ev.sts 4 (c' := (6, [some (.inr (.inr (.inr (11, 0, 83)))), some (.inl (iZ (v)))], [.inl (iZ (0))], (setI h 83 0 ((iZ (v)))))) rfl ?_
  exact Ev.ret rfl (q)

theorem mp_told {d : Nat} {v : Int32} {h : PH} : Rv d 208 [.inr (.inr (.inr (11, 0, 83))), .inl (v)] h (some (.inl v)) (setI h 83 0 (iZ 0)) := Rv.of fun Q q => by
  refine Ev.sts 4 (c' := (6, [some (.inr (.inr (.inr (11, 0, 83)))), some (.inl (v))], [.inl (v)], (setI h 83 0 ((iZ (0)))))) rfl ?_
  exact Ev.ret rfl (q)

theorem mp_isComma {d : Nat} {x : Ctx} {h : PH} {Q : Rs → PH → Prop} (hx : bX x) (q1 : okX x → Q (.inl (some (.inl (iZ 1)))) h) (q0 : ¬ okX x → Q (.inl (some (.inl (iZ 0)))) h) : Rn (d + 1) 210 [.inl (iZ (x.1)), .inl (iZ (x.2.1)), .inl (iZ (x.2.2.1)), .inl (iZ (x.2.2.2))] h Q := by
  obtain ⟨x1, x2, x3, x4⟩ := hx
  refine Ev.sts 3 (c' := (5, [some (.inl (iZ (x.1))), some (.inl (iZ (x.2.1))), some (.inl (iZ (x.2.2.1))), some (.inl (iZ (x.2.2.2)))], [.inl (iZ (999)), .inl (iZ (0)), .inl (iZ (x.1))], h)) rfl ?_
  refine Ev.callw (a := [.inl (iZ (x.1)), .inl (iZ (0)), .inl (iZ (999))]) rfl (mp_isIn ⟨by omega, by omega⟩ ⟨by omega, by omega⟩ ⟨by omega, by omega⟩ (fun c0 => ?_) (fun c0 => ?_))
  · refine Ev.brF (p := (iZ (1)) = (iZ (0))) (c1 := (45, [some (.inl (iZ (x.1))), some (.inl (iZ (x.2.1))), some (.inl (iZ (x.2.2.1))), some (.inl (iZ (x.2.2.2)))], [], h)) (c2 := (11, [some (.inl (iZ (x.1))), some (.inl (iZ (x.2.1))), some (.inl (iZ (x.2.2.1))), some (.inl (iZ (x.2.2.2)))], [], h)) (by decide) rfl ?_
    refine Ev.sts 3 (c' := (15, [some (.inl (iZ (x.1))), some (.inl (iZ (x.2.1))), some (.inl (iZ (x.2.2.1))), some (.inl (iZ (x.2.2.2)))], [.inl (iZ (9)), .inl (iZ (0)), .inl (iZ (x.2.1))], h)) rfl ?_
    refine Ev.callw (a := [.inl (iZ (x.2.1)), .inl (iZ (0)), .inl (iZ (9))]) rfl (mp_isIn ⟨by omega, by omega⟩ ⟨by omega, by omega⟩ ⟨by omega, by omega⟩ (fun c1 => ?_) (fun c1 => ?_))
    · refine Ev.brF (p := (iZ (1)) = (iZ (0))) (c1 := (45, [some (.inl (iZ (x.1))), some (.inl (iZ (x.2.1))), some (.inl (iZ (x.2.2.1))), some (.inl (iZ (x.2.2.2)))], [], h)) (c2 := (21, [some (.inl (iZ (x.1))), some (.inl (iZ (x.2.1))), some (.inl (iZ (x.2.2.1))), some (.inl (iZ (x.2.2.2)))], [], h)) (by decide) rfl ?_
      refine Ev.sts 3 (c' := (25, [some (.inl (iZ (x.1))), some (.inl (iZ (x.2.1))), some (.inl (iZ (x.2.2.1))), some (.inl (iZ (x.2.2.2)))], [.inl (iZ (99)), .inl (iZ (0)), .inl (iZ (x.2.2.1))], h)) rfl ?_
      refine Ev.callw (a := [.inl (iZ (x.2.2.1)), .inl (iZ (0)), .inl (iZ (99))]) rfl (mp_isIn ⟨by omega, by omega⟩ ⟨by omega, by omega⟩ ⟨by omega, by omega⟩ (fun c2 => ?_) (fun c2 => ?_))
      · refine Ev.brF (p := (iZ (1)) = (iZ (0))) (c1 := (45, [some (.inl (iZ (x.1))), some (.inl (iZ (x.2.1))), some (.inl (iZ (x.2.2.1))), some (.inl (iZ (x.2.2.2)))], [], h)) (c2 := (31, [some (.inl (iZ (x.1))), some (.inl (iZ (x.2.1))), some (.inl (iZ (x.2.2.1))), some (.inl (iZ (x.2.2.2)))], [], h)) (by decide) rfl ?_
        refine Ev.sts 3 (c' := (35, [some (.inl (iZ (x.1))), some (.inl (iZ (x.2.1))), some (.inl (iZ (x.2.2.1))), some (.inl (iZ (x.2.2.2)))], [.inl (iZ (9)), .inl (iZ (0)), .inl (iZ (x.2.2.2))], h)) rfl ?_
        refine Ev.callw (a := [.inl (iZ (x.2.2.2)), .inl (iZ (0)), .inl (iZ (9))]) rfl (mp_isIn ⟨by omega, by omega⟩ ⟨by omega, by omega⟩ ⟨by omega, by omega⟩ (fun c3 => ?_) (fun c3 => ?_))
        · refine Ev.brF (p := (iZ (1)) = (iZ (0))) (c1 := (45, [some (.inl (iZ (x.1))), some (.inl (iZ (x.2.1))), some (.inl (iZ (x.2.2.1))), some (.inl (iZ (x.2.2.2)))], [], h)) (c2 := (41, [some (.inl (iZ (x.1))), some (.inl (iZ (x.2.1))), some (.inl (iZ (x.2.2.1))), some (.inl (iZ (x.2.2.2)))], [], h)) (by decide) rfl ?_
          refine Ev.sts 2 (c' := (46, [some (.inl (iZ (x.1))), some (.inl (iZ (x.2.1))), some (.inl (iZ (x.2.2.1))), some (.inl (iZ (x.2.2.2)))], [.inl (iZ (1))], h)) rfl ?_
          exact Ev.ret rfl (q1 ⟨by omega, by omega, by omega, by omega, by omega, by omega, by omega, by omega⟩)
        · refine Ev.brT (p := (iZ (0)) = (iZ (0))) (c1 := (45, [some (.inl (iZ (x.1))), some (.inl (iZ (x.2.1))), some (.inl (iZ (x.2.2.1))), some (.inl (iZ (x.2.2.2)))], [], h)) (c2 := (41, [some (.inl (iZ (x.1))), some (.inl (iZ (x.2.1))), some (.inl (iZ (x.2.2.1))), some (.inl (iZ (x.2.2.2)))], [], h)) (by decide) rfl ?_
          refine Ev.sts 1 (c' := (46, [some (.inl (iZ (x.1))), some (.inl (iZ (x.2.1))), some (.inl (iZ (x.2.2.1))), some (.inl (iZ (x.2.2.2)))], [.inl (iZ (0))], h)) rfl ?_
          exact Ev.ret rfl (q0 (fun n => by unfold okX at n; omega))
      · refine Ev.brT (p := (iZ (0)) = (iZ (0))) (c1 := (45, [some (.inl (iZ (x.1))), some (.inl (iZ (x.2.1))), some (.inl (iZ (x.2.2.1))), some (.inl (iZ (x.2.2.2)))], [], h)) (c2 := (31, [some (.inl (iZ (x.1))), some (.inl (iZ (x.2.1))), some (.inl (iZ (x.2.2.1))), some (.inl (iZ (x.2.2.2)))], [], h)) (by decide) rfl ?_
        refine Ev.sts 1 (c' := (46, [some (.inl (iZ (x.1))), some (.inl (iZ (x.2.1))), some (.inl (iZ (x.2.2.1))), some (.inl (iZ (x.2.2.2)))], [.inl (iZ (0))], h)) rfl ?_
        exact Ev.ret rfl (q0 (fun n => by unfold okX at n; omega))
    · refine Ev.brT (p := (iZ (0)) = (iZ (0))) (c1 := (45, [some (.inl (iZ (x.1))), some (.inl (iZ (x.2.1))), some (.inl (iZ (x.2.2.1))), some (.inl (iZ (x.2.2.2)))], [], h)) (c2 := (21, [some (.inl (iZ (x.1))), some (.inl (iZ (x.2.1))), some (.inl (iZ (x.2.2.1))), some (.inl (iZ (x.2.2.2)))], [], h)) (by decide) rfl ?_
      refine Ev.sts 1 (c' := (46, [some (.inl (iZ (x.1))), some (.inl (iZ (x.2.1))), some (.inl (iZ (x.2.2.1))), some (.inl (iZ (x.2.2.2)))], [.inl (iZ (0))], h)) rfl ?_
      exact Ev.ret rfl (q0 (fun n => by unfold okX at n; omega))
  · refine Ev.brT (p := (iZ (0)) = (iZ (0))) (c1 := (45, [some (.inl (iZ (x.1))), some (.inl (iZ (x.2.1))), some (.inl (iZ (x.2.2.1))), some (.inl (iZ (x.2.2.2)))], [], h)) (c2 := (11, [some (.inl (iZ (x.1))), some (.inl (iZ (x.2.1))), some (.inl (iZ (x.2.2.1))), some (.inl (iZ (x.2.2.2)))], [], h)) (by decide) rfl ?_
    refine Ev.sts 1 (c' := (46, [some (.inl (iZ (x.1))), some (.inl (iZ (x.2.1))), some (.inl (iZ (x.2.2.1))), some (.inl (iZ (x.2.2.2)))], [.inl (iZ (0))], h)) rfl ?_
    exact Ev.ret rfl (q0 (fun n => by unfold okX at n; omega))

theorem mo_ix {B : Bk} (w : bkN B) (x : Int) : 0 ≤ x % (B.1.length : Int) ∧ x % (B.1.length : Int) < 8 ∧ (x % (B.1.length : Int)).toNat < B.1.length := by
  obtain ⟨w1, w2, -⟩ := w
  have h1 := Int.emod_nonneg x (show (B.1.length : Int) ≠ 0 by omega)
  have h2 := Int.emod_lt_of_pos x (show 0 < (B.1.length : Int) by omega)
  omega
theorem mp_allowed {d : Nat} {x : Int} {B : Bk} {h : PH} (sh : Sh h) (bk : bkM h B) (w : bkN B) (hx : 0 ≤ x ∧ x < 100000) : Rv d 226 [.inr (.inr (.inr (11, 0, 83))), .inl (iZ (x))] h (some (.inl (iZ (alB B x)))) h := Rv.of fun Q q => by
  have mi := mo_ix w x
  have w1 := w.1
  have w2 := w.2.1
  refine Ev.sts 1 (c' := (1, [some (.inr (.inr (.inr (11, 0, 83)))), some (.inl (iZ (x)))], [.inr (.inr (.inr (11, 0, 83)))], h)) rfl ?_
  refine Ev.gfr (r := (20, 64, 93)) rfl (sh_83_18 sh) ?_
  refine Ev.sts 3 (c' := (7, [some (.inr (.inr (.inr (11, 0, 83)))), some (.inl (iZ (x)))], [.inr (.inr (.inr (11, 0, 83))), .inl (iZ (x)), .inl (iZ (3)), .inr (.inr (.inr (20, 64, 93)))], h)) rfl ?_
  refine Ev.gfr (r := (20, 64, 93)) rfl (sh_83_18 sh) ?_
  refine Ev.sts 1 (c' := (11, [some (.inr (.inr (.inr (11, 0, 83)))), some (.inl (iZ (x)))], [.inl (iZ (2)), .inr (.inr (.inr (20, 64, 93))), .inl (iZ (x)), .inl (iZ (3)), .inr (.inr (.inr (20, 64, 93)))], h)) rfl ?_
  refine Ev.ldv (j := (iZ (2))) (n := 64) (w := .inl (iZ (B.1.length))) (by decide) rfl (congrArg vI bk.2.2.1) ?_
  refine Ev.pv (p := (iZ (B.1.length)) = 0) (v := .inl ((iZ (x)) - (iZ (x)) / (iZ (B.1.length)) * (iZ (B.1.length)))) (w := .inl (iZ (x % B.1.length))) (iZ_n0 (by omega) (by omega)) rfl (congrArg vI (iZ_rem (by omega) (by omega) (by omega) (by omega))) ?_
  refine Ev.gv (w := (iZ (3 + (x % B.1.length)))) rfl (iZ_add _ _) ?_
  refine Ev.ldv (j := (iZ (3 + (x % B.1.length)))) (n := 64) (w := .inl (iZ (alB B x))) (iZ_in (by omega) (by omega) (by omega)) rfl (by rw [iZ_ix (n := 3 + (x % (B.1.length : Int)).toNat) (by omega) (by omega)]; exact congrArg vI (bk.2.2.2.1 _ mi.2.2)) ?_
  exact Ev.ret rfl (q)

theorem mp_allows {d nt : Nat} {B : Bk} {h : PH} (sh : Sh h) (bk : bkM h B) (wB : bkN B) (hn : h.1 83 25 = iZ nt) (hx : nt < 100000) : Rv (d + 1) 225 [.inr (.inr (.inr (11, 0, 83)))] h (some (.inl (iZ (alB B nt)))) h := Rv.of fun Q q => by
  refine Ev.sts 2 (c' := (2, [some (.inr (.inr (.inr (11, 0, 83))))], [.inr (.inr (.inr (11, 0, 83))), .inr (.inr (.inr (11, 0, 83)))], h)) rfl ?_
  refine Ev.gv (w := (iZ (nt))) rfl hn ?_
  refine Ev.callv (a := [.inr (.inr (.inr (11, 0, 83))), .inl (iZ (nt))]) rfl (mp_allowed sh bk wB ⟨by omega, by omega⟩) ?_
  exact Ev.ret rfl (q)

theorem lnL_le {ws : Nat → List Win} {K : Nat} (h : ∀ g, (ws g).length ≤ K) : ∀ n g, lnL ws n g ≤ n * K := by
  intro n
  induction n with
  | zero => intro g; exact Nat.zero_le _
  | succ n ih =>
    intro g
    show (ws g).length + lnL ws n (g + 1) ≤ (n + 1) * K
    have h1 := h g
    have h2 := ih (g + 1)
    rw [Nat.add_mul]
    omega
theorem MI_tol {h h1 : PH} {S : Sta} {y : Y4} {nt1 t1 : Nat} (I : MI h S y) (op : opM h1 (kpM (allW (wdS S)) (wmS S)) y.1 y.2.1) (tm : tmM h1 (tlS S ++ gnM (allW (wdS S)) (wmS S)) nt1 t1) (ne : t1 ≠ y.2.1) (f : FM p83 h h1 y (y.1, y.2.1, nt1, t1)) (g : F83 h h1) : MI h1 (tolS S) (y.1, y.2.1, nt1, t1) := by
  obtain ⟨i1, i2, i3, i4, i5, i6, i7, i8, i9, i10, i11, i12, i13, i14⟩ := I
  have hc := i10.2.2.2.2.2.1
  have ht := i11.2.2.2.2.2.1
  have e : ∀ a, a ≠ 83 → a ≠ 100 → a ≠ 101 → a < 103 → h1.1 a = h.1 a := fun a a1 a2 a3 a4 => f.2.2.1 a a1 (Ne.symm (aO_ne hc a2 a3 a4)) (Ne.symm (aO_ne ht a2 a3 a4)) (by omega)
  have fn := f.2.2.2.1
  refine ⟨Sh_FM i1 f, ?_, (g 11 (by omega) (by omega)).trans i3, bkM_eq (e 93 (by omega) (by omega) (by omega) (by omega)) (e 94 (by omega) (by omega) (by omega) (by omega)) i4, ?_, (g 25 (by omega) (by omega)).trans i6, (g 26 (by omega) (by omega)).trans i7, (g 27 (by omega) (by omega)).trans i8, ?_, ?_, ?_, ne, by omega, by unfold kyM; rw [f.1]; exact i14⟩
  · rw [g 2 (by omega) (by omega), e 84 (by omega) (by omega) (by omega) (by omega)]; exact i2
  · rw [g 21 (by omega) (by omega), e 96 (by omega) (by omega) (by omega) (by omega), e 97 (by omega) (by omega) (by omega) (by omega)]; exact i5
  · rw [e 99 (by omega) (by omega) (by omega) (by omega)]; exact i9
  · rw [show allW (wdS (tolS S)) = kpM (allW (wdS S)) (wmS S) from (alW_kp (wdS S) (wmS S) 6 0).symm]; exact op
  · rw [show tlS (tolS S) = tlS S ++ gnM (allW (wdS S)) (wmS S) by
      show tlS S ++ gnL (wdS S) (wmS S) 6 0 = _
      rw [← alW_gn]; rfl]
    exact tm
theorem all_end {ws : Nat → List Win} {N : Int} (hw : ∀ g, wsB N (ws g)) : ∀ t ∈ allW ws, 0 ≤ t.2.2.1 ∧ t.2.2.1 < 1300 := by
  intro t ht
  obtain ⟨k, hk, e⟩ := List.getElem_of_mem ht
  have := (alW_B (fun g _ => hw g)) k hk
  rw [List.getD_eq_getElem?_getD, List.getElem?_eq_getElem hk] at this
  rw [← e]
  exact ⟨this.2.2.2.1, this.2.2.2.2.1⟩
theorem ms_tell {d : Nat} {y : Y4} {S : Sta} {h : PH} {Q : Rs → PH → Prop} (I : MI h S y) (wl : ∀ g, wsB 1000 (wdS S g)) (hm : 0 ≤ wmS S ∧ wmS S ≤ 2000) (cp : capS S) (q : ∀ h1 y1, MI h1 (tolS S) y1 → FM pMo h h1 y y1 → F83 h h1 → Q (.inl (some (.inl (iZ ((tlS (tolS S)).length - (tlS S).length))))) h1) : Rn (d + 1) 227 [.inr (.inr (.inr (11, 0, 83)))] h Q := by
  refine mp_tellAll (mi_sh I) (mi_op I) (mi_tm I) (mi_ne I) (mi_wm I) (by omega) (mi_hN I) (all_end wl) (by rw [show (allW (wdS S)).length = lnL (wdS S) 6 0 from alW_len _ _ _]; exact cp) (fun h1 nt1 t1 op1 tm1 n1 f1 g1 => ?_)
  have e : (tlS S ++ gnM (allW (wdS S)) (wmS S)) = tlS (tolS S) := by
    show _ = tlS S ++ gnL (wdS S) (wmS S) 6 0
    rw [← alW_gn]; rfl
  rw [e]
  exact q h1 _ (MI_tol I op1 tm1 n1 f1 g1) (FM_mono f1 (fun a ha => by unfold p83 at ha; unfold pMo; omega)) g1
theorem MI_wm {h : PH} {S : Sta} {y : Y4} {m : Int} (I : MI h S y) : MI (setI h 83 27 (iZ m)) (wmN S m) y :=
  MI_83 I rfl (fun a a1 _ _ => setI_oth a1) (fun k _ _ _ k4 => setI_ne (by omega)) ((setI_ne (by omega)).trans (mi_nt I)) ((setI_ne (by omega)).trans (mi_gr I)) (setI_self _ _ _ _)
theorem MI_gr {h : PH} {S : Sta} {y : Y4} {m : Int} (I : MI h S y) : MI (setI h 83 26 (iZ m)) (mkS (tpS S) (eaS S) (bkS S) (csS S) (ntS S) m (wmS S) (wdS S) (ltS S) (tlS S)) y :=
  MI_83 I rfl (fun a a1 _ _ => setI_oth a1) (fun k _ _ k3 _ => setI_ne (by omega)) ((setI_ne (by omega)).trans (mi_nt I)) (setI_self _ _ _ _) ((setI_ne (by omega)).trans (mi_wm I))
theorem MI_nt {h : PH} {S : Sta} {y : Y4} (I : MI h S y) : MI (setI h 83 25 (iZ (ntS S + 1))) (ntN S) y :=
  MI_83 I rfl (fun a a1 _ _ => setI_oth a1) (fun k _ k2 _ _ => setI_ne (by omega)) (setI_self _ _ _ _) ((setI_ne (by omega)).trans (mi_gr I)) ((setI_ne (by omega)).trans (mi_wm I))
theorem ms_end {d : Nat} {y : Y4} {S : Sta} {h : PH} {Q : Rs → PH → Prop} (I : MI h S y) (W : WN S) (cp : capS S) (q : ∀ h1 y1, MI h1 (endS S) y1 → FM pMo h h1 y y1 → h1.1 83 0 = iZ 0 → Q (.inl (some (.inl (iZ ((tlS (endS S)).length - (tlS S).length))))) h1) : Rn (d + 2) 230 [.inr (.inr (.inr (11, 0, 83)))] h Q := by
  have W0 := W
  obtain ⟨⟨w1, w2, w3, w4, w5, w6⟩, w7, w8, w9, w10, w11, w12, w13, w14, w15, w16, w17, w18⟩ := W0
  have wB : bkN (bkS S) := ⟨w1, w2, w3, w4, w5, w6⟩
  refine Ev.sts 7 (c' := (13, [some (.inr (.inr (.inr (11, 0, 83))))], [.inr (.inr (.inr (11, 0, 83)))], (setI (setI h 83 0 ((iZ (0)))) 83 27 ((iZ (2000)))))) rfl ?_
  refine Ev.callw (a := [.inr (.inr (.inr (11, 0, 83)))]) rfl (ms_tell (MI_wm (m := 2000) (MI_th (v := iZ 0) I)) (fun g => (w14 g).1) ⟨by show (0 : Int) ≤ 2000; omega, by show (2000 : Int) ≤ 2000; omega⟩ cp (fun h1 y1 i1 f1 g1 => ?_))
  exact Ev.ret rfl (q h1 y1 i1 (FM_trans FM_83s (FM_trans FM_83s f1)) ((g1 0 (by omega) (by omega)).trans rfl))

theorem ms_night {d : Nat} {y : Y4} {S : Sta} {h : PH} {p t : Int} {k : Nat} {Q : Rs → PH → Prop} (I : MI h S y) (W : WN S) (hn : ntS S ≤ 19999) (cp : capS S) (h0 : h.1 83 0 = iZ 0) (q : ∀ h1 y1, MI h1 (nigS S) y1 → FM pMo h h1 y y1 → h1.1 83 0 = iZ 0 → Ev (d + 2) 229 (25, [some (.inr (.inr (.inr (11, 0, 83)))), some (.inl (iZ (p))), some (.inl (iZ (t + ((tlS (nigS S)).length - (tlS S).length)))), some (.inl (iZ ((k : Int) + 1)))], [], h1) Q) : Ev (d + 2) 229 (30, [some (.inr (.inr (.inr (11, 0, 83)))), some (.inl (iZ (p))), some (.inl (iZ (t))), some (.inl (iZ (k)))], [], h) Q := by
  have W0 := W
  obtain ⟨⟨w1, w2, w3, w4, w5, w6⟩, w7, w8, w9, w10, w11, w12, w13, w14, w15, w16, w17, w18⟩ := W0
  have wB : bkN (bkS S) := ⟨w1, w2, w3, w4, w5, w6⟩
  have ab := alB_b wB ((ntS S : Int) + 1)
  refine Ev.sts 2 (c' := (32, [some (.inr (.inr (.inr (11, 0, 83)))), some (.inl (iZ (p))), some (.inl (iZ (t))), some (.inl (iZ (k)))], [.inr (.inr (.inr (11, 0, 83))), .inr (.inr (.inr (11, 0, 83)))], h)) rfl ?_
  refine Ev.gv (w := (iZ (ntS S))) rfl (mi_nt I) ?_
  refine Ev.sts 1 (c' := (36, [some (.inr (.inr (.inr (11, 0, 83)))), some (.inl (iZ (p))), some (.inl (iZ (t))), some (.inl (iZ (k)))], [.inl (iZ (1)), .inl (iZ (ntS S)), .inr (.inr (.inr (11, 0, 83)))], h)) rfl ?_
  refine Ev.gv (w := (iZ ((ntS S) + 1))) rfl (iZ_add _ _) ?_
  refine Ev.sts 3 (c' := (42, [some (.inr (.inr (.inr (11, 0, 83)))), some (.inl (iZ (p))), some (.inl (iZ (t))), some (.inl (iZ (k)))], [.inr (.inr (.inr (11, 0, 83))), .inr (.inr (.inr (11, 0, 83)))], (setI h 83 25 ((iZ ((ntS S) + 1)))))) rfl ?_
  refine Ev.gv (w := (iZ (wmS S))) rfl (mi_wm (S := ntN S) (MI_nt I)) ?_
  refine Ev.sts 1 (c' := (46, [some (.inr (.inr (.inr (11, 0, 83)))), some (.inl (iZ (p))), some (.inl (iZ (t))), some (.inl (iZ (k)))], [.inr (.inr (.inr (11, 0, 83))), .inl (iZ (wmS S)), .inr (.inr (.inr (11, 0, 83)))], (setI h 83 25 ((iZ ((ntS S) + 1)))))) rfl ?_
  refine Ev.gv (w := (iZ (grS S))) rfl (mi_gr (S := ntN S) (MI_nt I)) ?_
  refine Ev.sts 1 (c' := (50, [some (.inr (.inr (.inr (11, 0, 83)))), some (.inl (iZ (p))), some (.inl (iZ (t))), some (.inl (iZ (k)))], [.inr (.inr (.inr (11, 0, 83))), .inl (iZ (grS S)), .inl (iZ (wmS S)), .inr (.inr (.inr (11, 0, 83)))], (setI h 83 25 ((iZ ((ntS S) + 1)))))) rfl ?_
  refine Ev.callv (a := [.inr (.inr (.inr (11, 0, 83)))]) rfl (mp_allows (nt := ntS S + 1) (B := bkS S) (mi_sh (MI_nt I)) (mi_bk (S := ntN S) (MI_nt I)) wB (setI_self _ _ _ _) (by omega)) ?_
  refine Ev.gv (w := (iZ ((grS S) - (alB (bkS S) ((ntS S : Int) + 1))))) rfl (iZ_sub _ _) ?_
  refine Ev.gv (w := (iZ (max (wmS S) ((grS S) - (alB (bkS S) ((ntS S : Int) + 1)))))) rfl (iZ_max ⟨by omega, by omega⟩ ⟨by omega, by omega⟩) ?_
  refine Ev.sts 3 (c' := (62, [some (.inr (.inr (.inr (11, 0, 83)))), some (.inl (iZ (p))), some (.inl (iZ (t))), some (.inl (iZ (k)))], [.inr (.inr (.inr (11, 0, 83))), .inl (iZ (t))], (setI (setI h 83 25 ((iZ ((ntS S) + 1)))) 83 27 ((iZ (max (wmS S) ((grS S) - (alB (bkS S) ((ntS S : Int) + 1))))))))) rfl ?_
  refine Ev.callw (a := [.inr (.inr (.inr (11, 0, 83)))]) rfl (ms_tell (MI_wm (m := (max (wmS S) (grS S - alB (bkS S) ((ntS S : Int) + 1)))) (MI_nt I)) (fun g => (w14 g).1) ⟨by show 0 ≤ (max (wmS S) (grS S - alB (bkS S) ((ntS S : Int) + 1))); omega, by show (max (wmS S) (grS S - alB (bkS S) ((ntS S : Int) + 1))) ≤ 2000; omega⟩ cp (fun h1 y1 i1 f1 g1 => ?_))
  refine Ev.gv (w := (iZ (t + ((tlS (nigS S)).length - (tlS S).length)))) rfl (iZ_add _ _) ?_
  refine Ev.sts 1 (c' := (67, [some (.inr (.inr (.inr (11, 0, 83)))), some (.inl (iZ (p))), some (.inl (iZ (t + ((tlS (nigS S)).length - (tlS S).length)))), some (.inl (iZ (k)))], [], h1)) rfl ?_
  refine Ev.stc (c1 := (70, [some (.inr (.inr (.inr (11, 0, 83)))), some (.inl (iZ (p))), some (.inl (iZ (t + ((tlS (nigS S)).length - (tlS S).length)))), some (.inl ((iZ (k)) + (iZ (1))))], [], h1)) (c2 := (70, [some (.inr (.inr (.inr (11, 0, 83)))), some (.inl (iZ (p))), some (.inl (iZ (t + ((tlS (nigS S)).length - (tlS S).length)))), some (.inl (iZ (k + 1)))], [], h1)) rfl (by rw [iZ_add]) ?_
  refine Ev.sts 1 (c' := (25, [some (.inr (.inr (.inr (11, 0, 83)))), some (.inl (iZ (p))), some (.inl (iZ (t + ((tlS (nigS S)).length - (tlS S).length)))), some (.inl (iZ (k + 1)))], [], h1)) rfl ?_
  exact q h1 y1 i1 (FM_trans FM_83s (FM_trans FM_83s f1)) ((g1 0 (by omega) (by omega)).trans (((setI_ne (by omega)).trans (setI_ne (by omega))).trans h0))

theorem ms_nig_lp {d : Nat} {p : Int} {S : Sta} {Q : Rs → PH → Prop} (wa : ∀ k : Nat, k < p → WN (nigN S k) ∧ ntS (nigN S k) ≤ 19999 ∧ capS (nigN S k)) (hp : 0 ≤ p ∧ p ≤ 30) (m : Nat) : ∀ (k : Nat) (h : PH) (y : Y4) (t : Int), h.1 83 0 = iZ 0 → (k : Int) + m = p → t = ((tlS (nigN S k)).length : Int) - (tlS S).length → MI h (nigN S k) y → (∀ h1 y1, MI h1 (nigN S p.toNat) y1 → FM pMo h h1 y y1 → h1.1 83 0 = iZ 0 → Q (.inl (some (.inl (iZ ((tlS (nigN S p.toNat)).length - (tlS S).length))))) h1) → Ev (d + 2) 229 (25, [some (.inr (.inr (.inr (11, 0, 83)))), some (.inl (iZ (p))), some (.inl (iZ (t))), some (.inl (iZ (k)))], [], h) Q := by
  induction m with
  | zero =>
    intro k h y t h0 hk ht I q
    refine Ev.sts 2 (c' := (27, [some (.inr (.inr (.inr (11, 0, 83)))), some (.inl (iZ (p))), some (.inl (iZ (t))), some (.inl (iZ (k)))], [.inl (iZ (p)), .inl (iZ (k))], h)) rfl ?_
    refine Ev.brT (p := (iZ (p)) ≤ (iZ (k))) (c1 := (73, [some (.inr (.inr (.inr (11, 0, 83)))), some (.inl (iZ (p))), some (.inl (iZ (t))), some (.inl (iZ (k)))], [], h)) (c2 := (30, [some (.inr (.inr (.inr (11, 0, 83)))), some (.inl (iZ (p))), some (.inl (iZ (t))), some (.inl (iZ (k)))], [], h)) ((iZ_le ⟨by omega, by omega⟩ ⟨by omega, by omega⟩).mpr (by omega)) rfl ?_
    refine Ev.sts 1 (c' := (74, [some (.inr (.inr (.inr (11, 0, 83)))), some (.inl (iZ (p))), some (.inl (iZ (t))), some (.inl (iZ (k)))], [.inl (iZ (t))], h)) rfl ?_
    have e : p.toNat = k := by omega
    rw [e] at q
    rw [ht]
    exact Ev.ret rfl (q h y I (FM_refl _ _ _) h0)
  | succ m ih =>
    intro k h y t h0 hk ht I q
    refine Ev.sts 2 (c' := (27, [some (.inr (.inr (.inr (11, 0, 83)))), some (.inl (iZ (p))), some (.inl (iZ (t))), some (.inl (iZ (k)))], [.inl (iZ (p)), .inl (iZ (k))], h)) rfl ?_
    refine Ev.brF (p := (iZ (p)) ≤ (iZ (k))) (c1 := (73, [some (.inr (.inr (.inr (11, 0, 83)))), some (.inl (iZ (p))), some (.inl (iZ (t))), some (.inl (iZ (k)))], [], h)) (c2 := (30, [some (.inr (.inr (.inr (11, 0, 83)))), some (.inl (iZ (p))), some (.inl (iZ (t))), some (.inl (iZ (k)))], [], h)) (fun c_ => absurd ((iZ_le ⟨by omega, by omega⟩ ⟨by omega, by omega⟩).mp c_) (by omega)) rfl ?_
    refine ms_night I (wa k (by omega)).1 (wa k (by omega)).2.1 (wa k (by omega)).2.2 h0 (fun h1 y1 i1 f1 g1 => ?_)
    exact ih (k + 1) h1 y1 _ g1 (by omega) (by show _ = ((tlS (nigS (nigN S k))).length : Int) - _; omega) i1 (fun h2 y2 i2 f2 g2 => q h2 y2 i2 (FM_trans f1 f2) g2)

theorem ms_passNights {d : Nat} {y : Y4} {S : Sta} {h : PH} {p : Int} {Q : Rs → PH → Prop} (I : MI h S y) (hp : 1 ≤ p ∧ p ≤ 30) (wa : ∀ k : Nat, k < p → WN (nigN S k) ∧ ntS (nigN S k) ≤ 19999 ∧ capS (nigN S k)) (q : ∀ h1 y1, MI h1 (nigN S p.toNat) y1 → FM pMo h h1 y y1 → h1.1 83 0 = iZ 0 → Q (.inl (some (.inl (iZ ((tlS (nigN S p.toNat)).length - (tlS S).length))))) h1) : Rn (d + 2) 229 [.inr (.inr (.inr (11, 0, 83))), .inl (iZ (p))] h Q := by
  refine Ev.sts 6 (c' := (9, [some (.inr (.inr (.inr (11, 0, 83)))), some (.inl (iZ (p))), none, none], [.inl (iZ (30)), .inl (iZ (1)), .inl (iZ (p))], (setI h 83 0 ((iZ (0)))))) rfl ?_
  refine Ev.callw (a := [.inl (iZ (p)), .inl (iZ (1)), .inl (iZ (30))]) rfl (mp_isIn ⟨by omega, by omega⟩ ⟨by omega, by omega⟩ ⟨by omega, by omega⟩ (fun _ => ?_) (fun z => absurd hp z))
  refine Ev.brT (p := ¬ (iZ (1)) = (iZ (0))) (c1 := (21, [some (.inr (.inr (.inr (11, 0, 83)))), some (.inl (iZ (p))), none, none], [], (setI h 83 0 ((iZ (0)))))) (c2 := (15, [some (.inr (.inr (.inr (11, 0, 83)))), some (.inl (iZ (p))), none, none], [], (setI h 83 0 ((iZ (0)))))) (by decide) rfl ?_
  refine Ev.sts 4 (c' := (25, [some (.inr (.inr (.inr (11, 0, 83)))), some (.inl (iZ (p))), some (.inl (iZ (0))), some (.inl (iZ (0)))], [], (setI h 83 0 ((iZ (0)))))) rfl ?_
  exact ms_nig_lp wa ⟨by omega, by omega⟩ p.toNat 0 _ y 0 (setI_self _ _ _ _) (by omega) (by show (0 : Int) = ((tlS S).length : Int) - _; omega) (MI_th I) (fun h1 y1 i1 f1 g1 => q h1 y1 i1 (FM_trans FM_83s f1) g1)

theorem mz_passNights {d : Nat} {p : Int} {h : PH} {Q : Rs → PH → Prop} (hpb : -2147483648 ≤ p ∧ p < 2147483648) (hp : ¬ (1 ≤ p ∧ p ≤ 30)) (q : Q (.inl (some (.inl (iZ 0)))) (setI (setI h 83 0 (iZ 0)) 83 0 (iZ 1))) : Rn (d + 1) 229 [.inr (.inr (.inr (11, 0, 83))), .inl (iZ (p))] h Q := by
  refine Ev.sts 6 (c' := (9, [some (.inr (.inr (.inr (11, 0, 83)))), some (.inl (iZ (p))), none, none], [.inl (iZ (30)), .inl (iZ (1)), .inl (iZ (p))], (setI h 83 0 ((iZ (0)))))) rfl ?_
  refine Ev.callw (a := [.inl (iZ (p)), .inl (iZ (1)), .inl (iZ (30))]) rfl (mp_isIn ⟨by omega, by omega⟩ ⟨by omega, by omega⟩ ⟨by omega, by omega⟩ (fun z => absurd z hp) (fun _ => ?_))
  refine Ev.brF (p := ¬ (iZ (0)) = (iZ (0))) (c1 := (21, [some (.inr (.inr (.inr (11, 0, 83)))), some (.inl (iZ (p))), none, none], [], (setI h 83 0 ((iZ (0)))))) (c2 := (15, [some (.inr (.inr (.inr (11, 0, 83)))), some (.inl (iZ (p))), none, none], [], (setI h 83 0 ((iZ (0)))))) (by decide) rfl ?_
  refine Ev.sts 2 (c' := (17, [some (.inr (.inr (.inr (11, 0, 83)))), some (.inl (iZ (p))), none, none], [.inl (iZ (1)), .inr (.inr (.inr (11, 0, 83)))], (setI h 83 0 ((iZ (0)))))) rfl ?_
  refine Ev.callv (a := [.inr (.inr (.inr (11, 0, 83))), .inl (iZ (1))]) rfl mp_fail ?_
  exact Ev.ret rfl (q)

theorem mp_isFlock {d : Nat} {y : Y4} {S : Sta} {h : PH} {p : Int} {Q : Rs → PH → Prop} (I : MI h S y) (W : WN S) (hpb : -2147483648 ≤ p ∧ p < 2147483648) (k1 : 0 ≤ p ∧ p < (bkS S).2.1.length → Q (.inl (some (.inl (iZ 1)))) h) (k0 : ¬ (0 ≤ p ∧ p < (bkS S).2.1.length) → Q (.inl (some (.inl (iZ 0)))) h) : Rn (d + 1) 246 [.inr (.inr (.inr (11, 0, 83))), .inl (iZ (p))] h Q := by
  have W0 := W
  obtain ⟨⟨w1, w2, w3, w4, w5, w6⟩, w7, w8, w9, w10, w11, w12, w13, w14, w15, w16, w17, w18⟩ := W0
  have wB : bkN (bkS S) := ⟨w1, w2, w3, w4, w5, w6⟩
  refine Ev.sts 3 (c' := (3, [some (.inr (.inr (.inr (11, 0, 83)))), some (.inl (iZ (p)))], [.inr (.inr (.inr (11, 0, 83))), .inl (iZ (0)), .inl (iZ (p))], h)) rfl ?_
  refine Ev.gfr (r := (20, 64, 93)) rfl (sh_83_18 (mi_sh I)) ?_
  refine Ev.sts 1 (c' := (7, [some (.inr (.inr (.inr (11, 0, 83)))), some (.inl (iZ (p)))], [.inl (iZ (0)), .inr (.inr (.inr (20, 64, 93))), .inl (iZ (0)), .inl (iZ (p))], h)) rfl ?_
  refine Ev.ldv (j := (iZ (0))) (n := 64) (w := .inl (iZ ((bkS S).2.1.length))) (by decide) rfl (congrArg vI (mi_bk I).1) ?_
  refine Ev.sts 1 (c' := (9, [some (.inr (.inr (.inr (11, 0, 83)))), some (.inl (iZ (p)))], [.inl (iZ (1)), .inl (iZ ((bkS S).2.1.length)), .inl (iZ (0)), .inl (iZ (p))], h)) rfl ?_
  refine Ev.gv (w := (iZ (((bkS S).2.1.length) - 1))) rfl (iZ_sub _ _) ?_
  refine Ev.callw (a := [.inl (iZ (p)), .inl (iZ (0)), .inl (iZ (((bkS S).2.1.length) - 1))]) rfl (mp_isIn ⟨by omega, by omega⟩ ⟨by omega, by omega⟩ ⟨by omega, by omega⟩ (fun c0 => ?_) (fun c0 => ?_))
  · exact Ev.ret rfl (k1 ⟨by omega, by omega⟩)
  · exact Ev.ret rfl (k0 (fun z => by omega))

theorem ms_wouldTake {d : Nat} {y : Y4} {S : Sta} {h : PH} {p : Int} {x : Ctx} {tk : Int32} {Q : Rs → PH → Prop} (I : MI h S y) (W : WN S) (hf : 0 ≤ p ∧ p < (bkS S).2.1.length) (hx : bX x) (ok : okX x) (jr : jR (bkS S).2.1 x 0 (iZ 0) tk) (q1 : ∀ h1, MI h1 S y → FM pMo h h1 y y → h1.1 83 0 = iZ 0 → bitP tk (iZ p) → Q (.inl (some (.inl (iZ 1)))) h1) (q0 : ∀ h1, MI h1 S y → FM pMo h h1 y y → h1.1 83 0 = iZ 0 → ¬ bitP tk (iZ p) → Q (.inl (some (.inl (iZ 0)))) h1) : Rn (d + 2) 269 [.inr (.inr (.inr (11, 0, 83))), .inl (iZ (p)), .inl (iZ (x.1)), .inl (iZ (x.2.1)), .inl (iZ (x.2.2.1)), .inl (iZ (x.2.2.2))] h Q := by
  have W0 := W
  obtain ⟨⟨w1, w2, w3, w4, w5, w6⟩, w7, w8, w9, w10, w11, w12, w13, w14, w15, w16, w17, w18⟩ := W0
  have wB : bkN (bkS S) := ⟨w1, w2, w3, w4, w5, w6⟩
  refine Ev.sts 3 (c' := (3, [some (.inr (.inr (.inr (11, 0, 83)))), some (.inl (iZ (p))), some (.inl (iZ (x.1))), some (.inl (iZ (x.2.1))), some (.inl (iZ (x.2.2.1))), some (.inl (iZ (x.2.2.2)))], [.inl (iZ (p)), .inr (.inr (.inr (11, 0, 83))), .inr (.inr (.inr (11, 0, 83)))], h)) rfl ?_
  refine Ev.callw (a := [.inr (.inr (.inr (11, 0, 83))), .inl (iZ (p))]) rfl (mp_isFlock I W ⟨by omega, by omega⟩ (fun _ => ?_) (fun z => absurd hf z))
  refine Ev.brT (p := ¬ (iZ (1)) = (iZ (0))) (c1 := (13, [some (.inr (.inr (.inr (11, 0, 83)))), some (.inl (iZ (p))), some (.inl (iZ (x.1))), some (.inl (iZ (x.2.1))), some (.inl (iZ (x.2.2.1))), some (.inl (iZ (x.2.2.2)))], [.inr (.inr (.inr (11, 0, 83)))], h)) (c2 := (9, [some (.inr (.inr (.inr (11, 0, 83)))), some (.inl (iZ (p))), some (.inl (iZ (x.1))), some (.inl (iZ (x.2.1))), some (.inl (iZ (x.2.2.1))), some (.inl (iZ (x.2.2.2)))], [.inr (.inr (.inr (11, 0, 83)))], h)) (by decide) rfl ?_
  refine Ev.sts 4 (c' := (19, [some (.inr (.inr (.inr (11, 0, 83)))), some (.inl (iZ (p))), some (.inl (iZ (x.1))), some (.inl (iZ (x.2.1))), some (.inl (iZ (x.2.2.1))), some (.inl (iZ (x.2.2.2)))], [.inl (iZ (x.2.2.2)), .inl (iZ (x.2.2.1)), .inl (iZ (x.2.1)), .inl (iZ (x.1)), .inr (.inr (.inr (11, 0, 83)))], h)) rfl ?_
  refine Ev.callw (a := [.inl (iZ (x.1)), .inl (iZ (x.2.1)), .inl (iZ (x.2.2.1)), .inl (iZ (x.2.2.2))]) rfl (mp_isComma hx (fun _ => ?_) (fun z => absurd ok z))
  refine Ev.brF (p := (iZ (1)) = (iZ (0))) (c1 := (29, [some (.inr (.inr (.inr (11, 0, 83)))), some (.inl (iZ (p))), some (.inl (iZ (x.1))), some (.inl (iZ (x.2.1))), some (.inl (iZ (x.2.2.1))), some (.inl (iZ (x.2.2.2)))], [.inr (.inr (.inr (11, 0, 83)))], h)) (c2 := (25, [some (.inr (.inr (.inr (11, 0, 83)))), some (.inl (iZ (p))), some (.inl (iZ (x.1))), some (.inl (iZ (x.2.1))), some (.inl (iZ (x.2.2.1))), some (.inl (iZ (x.2.2.2)))], [.inr (.inr (.inr (11, 0, 83)))], h)) (by decide) rfl ?_
  refine Ev.sts 5 (c' := (37, [some (.inr (.inr (.inr (11, 0, 83)))), some (.inl (iZ (p))), some (.inl (iZ (x.1))), some (.inl (iZ (x.2.1))), some (.inl (iZ (x.2.2.1))), some (.inl (iZ (x.2.2.2)))], [.inl (iZ (0))], (setI h 83 0 ((iZ (0)))))) rfl ?_
  refine Ev.brT (p := (iZ (0)) ≤ (iZ (0))) (c1 := (42, [some (.inr (.inr (.inr (11, 0, 83)))), some (.inl (iZ (p))), some (.inl (iZ (x.1))), some (.inl (iZ (x.2.1))), some (.inl (iZ (x.2.2.1))), some (.inl (iZ (x.2.2.2)))], [], (setI h 83 0 ((iZ (0)))))) (c2 := (40, [some (.inr (.inr (.inr (11, 0, 83)))), some (.inl (iZ (p))), some (.inl (iZ (x.1))), some (.inl (iZ (x.2.1))), some (.inl (iZ (x.2.2.1))), some (.inl (iZ (x.2.2.2)))], [], (setI h 83 0 ((iZ (0)))))) (by decide) rfl ?_
  refine Ev.sts 5 (c' := (49, [some (.inr (.inr (.inr (11, 0, 83)))), some (.inl (iZ (p))), some (.inl (iZ (x.1))), some (.inl (iZ (x.2.1))), some (.inl (iZ (x.2.2.1))), some (.inl (iZ (x.2.2.2)))], [.inl (iZ (x.2.2.2)), .inl (iZ (x.2.2.1)), .inl (iZ (x.2.1)), .inl (iZ (x.1)), .inr (.inr (.inr (11, 0, 83)))], (setI h 83 0 ((iZ (0)))))) rfl ?_
  refine Ev.callv (a := [.inr (.inr (.inr (11, 0, 83))), .inl (iZ (x.1)), .inl (iZ (x.2.1)), .inl (iZ (x.2.2.1)), .inl (iZ (x.2.2.2))]) rfl (mp_give (Sh_eq (mi_sh I) rfl)) ?_
  have ib : MI (givH (setI h 83 0 ((iZ (0)))) x) S y := MI_pr (MI_th I) rfl (fun a a1 a2 => giv_o a2)
  refine Ev.sts 1 (c' := (53, [some (.inr (.inr (.inr (11, 0, 83)))), some (.inl (iZ (p))), some (.inl (iZ (x.1))), some (.inl (iZ (x.2.1))), some (.inl (iZ (x.2.2.1))), some (.inl (iZ (x.2.2.2)))], [.inr (.inr (.inr (11, 0, 83)))], (givH (setI h 83 0 ((iZ (0)))) x))) rfl ?_
  refine Ev.callw (a := [.inr (.inr (.inr (11, 0, 83)))]) rfl (mp_takers (x := x) (mi_sh ib) w4 (mi_bk ib).1 (mi_bk ib).2.2.2.2.1 (giv_g _ x) jr (fun h1 e2 e1 => ?_))
  refine Ev.sts 5 (c' := (61, [some (.inr (.inr (.inr (11, 0, 83)))), some (.inl (iZ (p))), some (.inl (iZ (x.1))), some (.inl (iZ (x.2.1))), some (.inl (iZ (x.2.2.1))), some (.inl (iZ (x.2.2.2)))], [.inl (iZ (1)), .inl (((tk >>> ((iZ (p)) &&& 31)) &&& (iZ (1))))], h1)) rfl ?_
  refine Ev.br (p := ¬ ((tk >>> ((iZ (p)) &&& 31)) &&& (iZ (1))) = (iZ (1))) (c1 := (68, [some (.inr (.inr (.inr (11, 0, 83)))), some (.inl (iZ (p))), some (.inl (iZ (x.1))), some (.inl (iZ (x.2.1))), some (.inl (iZ (x.2.2.1))), some (.inl (iZ (x.2.2.2)))], [], h1)) (c2 := (64, [some (.inr (.inr (.inr (11, 0, 83)))), some (.inl (iZ (p))), some (.inl (iZ (x.1))), some (.inl (iZ (x.2.1))), some (.inl (iZ (x.2.2.1))), some (.inl (iZ (x.2.2.2)))], [], h1)) rfl (fun c0 => ?_) (fun c0 => ?_)
  · refine Ev.sts 1 (c' := (69, [some (.inr (.inr (.inr (11, 0, 83)))), some (.inl (iZ (p))), some (.inl (iZ (x.1))), some (.inl (iZ (x.2.1))), some (.inl (iZ (x.2.2.1))), some (.inl (iZ (x.2.2.2)))], [.inl (iZ (0))], h1)) rfl ?_
    exact Ev.ret rfl (q0 h1 (MI_pr ib e2 (fun a a1 _ => e1 a a1)) (FM_trans FM_83s (FM_trans FM_giv (FM_95 e2 e1))) ((e1 83 (by omega)) ▸ rfl) c0)
  · refine Ev.sts 2 (c' := (69, [some (.inr (.inr (.inr (11, 0, 83)))), some (.inl (iZ (p))), some (.inl (iZ (x.1))), some (.inl (iZ (x.2.1))), some (.inl (iZ (x.2.2.1))), some (.inl (iZ (x.2.2.2)))], [.inl (iZ (1))], h1)) rfl ?_
    exact Ev.ret rfl (q1 h1 (MI_pr ib e2 (fun a a1 _ => e1 a a1)) (FM_trans FM_83s (FM_trans FM_giv (FM_95 e2 e1))) ((e1 83 (by omega)) ▸ rfl) (Classical.not_not.mp c0))

