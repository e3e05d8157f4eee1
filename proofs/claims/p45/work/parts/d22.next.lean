/-! A step of the law: from one act to the next. -/
theorem tel_mem {S : Sta} {M : Ms} {B : Bk} {gv : Nat → Ctx → Int32 → Int32} (ms : MSy S M B gv) {k : Nat} (hk : k < (tlS S).length) : ∃ w ∈ yT M, (tlS S).getD k t0 = tO (tlY B) (fY B gv (yC M)) w := by
  have := getD_mem (d := t0) hk
  generalize (tlS S).getD k t0 = t at this ⊢
  rw [ms.2.2.2.2.2.2.2] at this
  obtain ⟨w, h1, h2⟩ := List.mem_map.mp this
  exact ⟨w, h1, h2.symm⟩
theorem tel_6 {S : Sta} {M : Ms} {B : Bk} {gv : Nat → Ctx → Int32 → Int32} (ms : MSy S M B gv) (mi : MIy M B) (b6 : B.2.2.length ≤ 6) (j : Nat) : ((tlS S).getD j t0).1 < 6 := by
  by_cases z : j < (tlS S).length
  · obtain ⟨w, w1, w2⟩ := tel_mem ms z
    rw [w2]
    have := (mi.2.2.1 w w1).2
    show w.1 < 6
    omega
  · rw [List.getD_eq_getElem?_getD, List.getElem?_eq_none (by omega)]; decide
theorem cntG_b {g K : Nat} : ∀ L : List Wn, (∀ w ∈ L, w.2.2.2.length ≤ K) → cntG g L ≤ pw K L.length := by
  intro L
  induction L with
  | nil => intro _; exact Nat.le_refl _
  | cons x L ih =>
    intro h
    have h1 := h x List.mem_cons_self
    have i := ih (fun w hw => h w (List.mem_cons_of_mem _ hw))
    show (if x.1 = g then x.2.2.2.length else 0) + cntG g L ≤ pw K L.length + K
    split <;> omega
theorem tot_b {S : Sta} {M : Ms} {B : Bk} {gv : Nat → Ctx → Int32 → Int32} (ms : MSy S M B gv) (mi : MIy M B) (li : LIy M B) (W : WN S) (bg : bkG B) (hn : (yC M).length ≤ 70) (g : Nat) : totY M g ≤ 10000000 ∧ yL M g ≤ 1000 := by
  obtain ⟨e1, e2, e3, e4, e5, e6, e7, e8⟩ := id ms
  have c42 := (ObB_le (B := B) bg.1).2
  have tot : (yO M).length + (yT M).length ≤ 42 * 70 := by
    have a := mi.2.2.2.1
    rw [pw_mul] at a
    have b : cyB B B.2.2.length 0 * (yC M).length ≤ 42 * 70 := Nat.mul_le_mul c42 hn
    omega
  have o1 : ∀ w ∈ yO M, w.2.2.2.length ≤ 1000 := fun w hw => by
    have m := mem_rw (tl := tlY B) (f := fY B gv (yC M)) hw rfl
    rw [← e6] at m
    obtain ⟨j, hj, ej⟩ := List.getElem_of_mem m
    have b := (W.2.2.2.2.2.2.2.2.1 w.1).1 j hj
    rw [List.getD_eq_getElem?_getD, List.getElem?_eq_getElem hj] at b
    have b : wB 1000 (wdS S w.1)[j] := b
    rw [ej] at b
    have := b.2.2.2.2.2
    have this : (w.2.2.2.length : Int) ≤ 1000 := this
    omega
  have o2 : ∀ w ∈ yT M, w.2.2.2.length ≤ 1000 := fun w hw => by
    have m : tO (tlY B) (fY B gv (yC M)) w ∈ tlS S := by rw [e8]; exact List.mem_map.mpr ⟨w, hw, rfl⟩
    obtain ⟨j, hj, ej⟩ := List.getElem_of_mem m
    have b := W.2.2.2.2.2.2.2.2.2.2.2.1 j hj
    rw [List.getD_eq_getElem?_getD, List.getElem?_eq_getElem hj] at b
    have b : wB 1000 (tlS S)[j].2 := b
    rw [ej] at b
    have := b.2.2.2.2.2
    have this : (w.2.2.2.length : Int) ≤ 1000 := this
    omega
  have b1 := cntG_b (g := g) _ o1
  have b2 := cntG_b (g := g) _ o2
  rw [pw_mul] at b1 b2
  refine ⟨by unfold totY; omega, ?_⟩
  by_cases c : g < B.2.2.length
  · have := li.2.2.2 g c
    have s := szF_le (f := iZ (B.2.2.getD g g0).1) (csM M)
    have l : (csM M).length = (yC M).length := List.length_map _
    omega
  · rw [mi.2.2.2.2 g (by omega)]; omega
theorem l714_lp {d sm L al t ct lt ca ka oa ta mn b n N : Nat} {cm la : Int} {xx : Int32} {u : Q5} {B : Bk} {gv : Nat → Ctx → Int32 → Int32} {hb h : PH} {S1 : Sta} {M1 : Ms} {Q : Rs → PH → Prop} (I : CI h S1 b n u) (W : WN S1) (wr : WSr S1 N (wmS S1)) (x : SMh h sm u ca ka oa ta M1) (bh : BH hb h sm B mn al) (ms : MSy S1 M1 B gv) (mi : MIy M1 B) (li : LIy M1 B) (q : ∀ x11 x12 x13 x14 x15 x16 x17 x18 : Option VV, Ev (d + 23) 25 (827, [some (.inr (.inr (.inr (45, L, 0)))), some (.inr (.inr (.inr (1, 0, 1)))), some (.inr (.inr (.inr (12, 0, sm)))), some (.inl (iZ (wmS S1))), some (.inl (iZ ((t : Int)))), some (.inl (xx)), some (.inl (iZ ((al : Int)))), some (.inr (.inr (.inr (20, al, ct)))), some (.inr (.inr (.inr (20, al, lt)))), some (.inl (iZ (cm))), some (.inl (iZ (la))), x11, x12, x13, x14, x15, x16, x17, x18], [], h) Q) (m : Nat) : ∀ (k : Nat) (x12 x13 x14 x15 x16 x17 x18 : Option VV), k + m = (tlS S1).length → Ev (d + 23) 25 (714, [some (.inr (.inr (.inr (45, L, 0)))), some (.inr (.inr (.inr (1, 0, 1)))), some (.inr (.inr (.inr (12, 0, sm)))), some (.inl (iZ (wmS S1))), some (.inl (iZ ((t : Int)))), some (.inl (xx)), some (.inl (iZ ((al : Int)))), some (.inr (.inr (.inr (20, al, ct)))), some (.inr (.inr (.inr (20, al, lt)))), some (.inl (iZ (cm))), some (.inl (iZ (la))), some (.inl (iZ ((k : Int)))), x12, x13, x14, x15, x16, x17, x18], [], h) Q := by
  have al6 := bf_al bh
  have e5 := ms.2.2.2.2.1
  have wg := wr.2.2.2.2.1
  induction m with
  | zero =>
    intro k x12 x13 x14 x15 x16 x17 x18 hk
    exact lw_714 (d := d + 21) (gt := 0) (ga := 0) (wd := 1) (st := 0) I W (by omega) ⟨by omega, by omega⟩ (fun c => by omega) (by decide) x.1 (bf_8 bh) (fun c => by omega) (fun c => by omega) (fun c => by omega) ⟨by omega, by omega⟩ ⟨by omega, by omega⟩ (fun c => by omega) (fun c => by omega) (fun _ => q _ _ _ _ _ _ _ _) (fun c => by omega)
  | succ m ih =>
    intro k x12 x13 x14 x15 x16 x17 x18 hk
    have hk1 : k < (tlS S1).length := by omega
    obtain ⟨w, w1, w2⟩ := tel_mem ms hk1
    obtain ⟨m1, m2⟩ := mi.2.2.1 w w1
    obtain ⟨l1, l2⟩ := li.2.1 w w1
    obtain ⟨ga, a1, ⟨a2, a3, a4, a5⟩, a6, ⟨gb1, gb2, gb3, gb4, gb5⟩, a7, a8⟩ := bf_go bh (show w.1 < al by omega)
    have tw : ((tlS S1).getD k t0).1 = w.1 := by rw [w2]; rfl
    have ts : ((tlS S1).getD k t0).2.1 = w.2.1 := by rw [w2]; rfl
    have te : ((tlS S1).getD k t0).2.2.1 = w.2.2.1 := by rw [w2]; rfl
    have tb := W.2.2.2.2.2.2.2.2.2.2.2.1 k hk1
    have pos : ∀ t ∈ tlS S1, 1 ≤ t.2.2.2.1 := fun t ht => by
      obtain ⟨j, hj, ej⟩ := List.getElem_of_mem ht
      have b := W.2.2.2.2.2.2.2.2.2.2.2.1 j hj
      rw [List.getD_eq_getElem?_getD, List.getElem?_eq_getElem hj] at b
      have b : wB 1000 (tlS S1)[j].2 := b
      rw [ej] at b
      exact b.2.2.2.2.1
    exact lw_714 (d := d + 21) (gt := w.1) (ga := ga) (wd := (B.2.2.getD w.1 g0).2.1) (st := (B.2.2.getD w.1 g0).2.2.1) I W (by omega) ⟨by omega, by omega⟩ (fun _ => tw) (by omega) x.1 (bf_8 bh) (fun _ => a1) (fun _ => a3) (fun _ => a4) ⟨gb1, gb2⟩ ⟨by omega, by omega⟩ (fun _ => ful_get pos hk1) (fun _ => ⟨by omega, tb.2.2.2.2.1, fun z => by have := l1.1 z; omega, fun z => by have := l1.2 z; omega⟩) (fun c => by omega) (fun _ y12 y13 => ih (k + 1) _ _ _ _ _ _ _ (by omega))
/-- from one act to the next -/
theorem law_step {d sm L al t tt mn s0 n0 : Nat} {mk : Int} {u : Q5} {B : Bk} {fv gv : Nat → Ctx → Int32 → Int32} {hb h : PH} {S : Sta} {M : Ms} {Q : Rs → PH → Prop} (vf : VF hb B fv gv) (ht : t < 40) (htt : tt ≤ 62) (hL : L ≤ 100000) (j : JS hb h sm mn al B fv gv s0 n0 tt u S M) (hmk : 0 ≤ mk ∧ mk ≤ yK M) (q : ∀ h1 u1 S1 M1, JS hb h1 sm mn al B fv gv (s0 + (al + al)) (n0 + 2) (tt + 1) u1 S1 M1 → 0 ≤ yK M1 → stY B (fun x => mkF fv x mn 0 (iZ 0)) M M1 → ∀ x5 x6 x7 x8 x9 x10 x11 x12 x13 x14 x15 x16 x17 x18 : Option VV, Ev (d + 23) 25 (25, [some (.inr (.inr (.inr (45, L, 0)))), some (.inr (.inr (.inr (1, 0, 1)))), some (.inr (.inr (.inr (12, 0, sm)))), some (.inl (iZ (wmS S1))), some (.inl (iZ (((t + 1 : Nat) : Int)))), x5, x6, x7, x8, x9, x10, x11, x12, x13, x14, x15, x16, x17, x18], [], h1) Q) (x5 x6 x7 x8 x9 x10 x11 x12 x13 x14 x15 x16 x17 x18 : Option VV) : Ev (d + 23) 25 (25, [some (.inr (.inr (.inr (45, L, 0)))), some (.inr (.inr (.inr (1, 0, 1)))), some (.inr (.inr (.inr (12, 0, sm)))), some (.inl (iZ (mk))), some (.inl (iZ ((t : Int)))), x5, x6, x7, x8, x9, x10, x11, x12, x13, x14, x15, x16, x17, x18], [], h) Q := by
  obtain ⟨nn, ca, ka, oa, ta, I, wr, y, bh, ms, mi, li, ub, hc, z, rs, rn⟩ := id j
  have bg := bh_G bh
  have al6 := bf_al bh
  have W := WS_N wr (by omega)
  have hs := y.2.2.2.2.2.2.2.2
  have w5 : (bkS S).2.2.length ≤ 6 := by rw [ms.1]; exact bg.1
  have ea : (bkS S).2.2.length = al := by rw [ms.1]; exact al6.2.2.1
  have X2 : nwK h (grow (grow h al) al) 2 (al + al) := ⟨rfl, fun _ _ => rfl, fun _ _ => rfl, rfl, by show hS h + al + al = _; omega⟩
  have hgt := tel_6 ms mi bg.1
  refine lo_25 (d := d + 22) ht hL al6.2.2.2 y.1 (bf_10 bh) (CI_SI I w5 (nwK_SI X2) ub hs.1 (Nat.le_refl _)) (fun xx => ?_)
  refine l88_lp (d := d) al6.2.2.2 ea I W hgt ub hs.1 rfl rfl (fun h2 N2 F2 y11 y12 y13 y14 y15 y16 y17 y18 => ?_) al 0 _ _ _ _ _ _ _ _ _ (by omega) X2 (fun j hj => absurd hj (Nat.not_lt_zero _))
  have J2 := JS_new j N2
  have dq := (ci_tl I).2.2.2.2.1
  have pc : pI sm u (hN h2) (hN h) ∧ pI sm u (hN h2) (hN h + 1) := by
    obtain ⟨⟨_, d1⟩, ⟨_, d2⟩, ⟨_, d3⟩, ⟨_, d4⟩, ⟨_, d5⟩, _⟩ := dq
    have := N2.2.2.2.1
    exact ⟨⟨by omega, by omega, ⟨by omega, by omega, by omega, by omega, by omega⟩⟩, ⟨by omega, by omega, ⟨by omega, by omega, by omega, by omega, by omega⟩⟩⟩
  refine lo_123 (d := d) (P := fun h3 => ∃ u1 S1 M1, JS hb h3 sm mn al B fv gv (s0 + (al + al)) (n0 + 2) (tt + 1) u1 S1 M1 ∧ stY B (fun x => mkF fv x mn 0 (iZ 0)) M M1 ∧ oth sm u u1 h2 h3) (fun Q1 q1 => ls_act (d := d) vf htt J2 (fun h3 u1 S1 M1 J3 st o3 => q1 h3 ⟨u1, S1, M1, J3, st, o3⟩)) (fun h3 P3 => ?_)
  obtain ⟨u1, S1, M1, J3, st, o3⟩ := P3
  obtain ⟨n1, ca1, ka1, oa1, ta1, I1, wr1, z1, bh1, ms1, mi1, li1, ub1, hc1, zr1, rs1, rn1⟩ := id J3
  have W1 := WS_N wr1 (by omega)
  obtain ⟨e1, e2, e3, e4, e5, e6, e7, e8⟩ := id ms1
  have len : (csS S1).length = (yC M1).length := by rw [e2]; exact List.length_map _
  have len0 : (csS S).length = (yC M).length := by rw [ms.2.1]; exact List.length_map _
  have hal := fun v : Int => alB_b (B := B) (by rw [← e1]; exact wr1.1) v
  have wg := wr.2.2.2.2.1
  have wg1 := wr1.2.2.2.2.1
  have g0_ := ms.2.2.2.1
  have k0_ := ms.2.2.2.2.1
  obtain ⟨s1, s2, s3⟩ := st_num hal (by omega) ⟨by omega, by omega⟩ st
  obtain ⟨ma, f5, f4, f6, fm⟩ := bf_mo2 bh1
  have x1 := Int.emod_nonneg (ntS S1 : Int) (show (B.1.length : Int) ≠ 0 by omega)
  have x2 := Int.emod_lt_of_pos (ntS S1 : Int) (show 0 < (B.1.length : Int) by omega)
  have eph : phB (bkS S1) (ntS S1 : Int) = (ntS S1 : Int) % (B.1.length : Int) := by unfold phB; rw [e1]
  have eal : alB (bkS S1) (ntS S1 : Int) = B.1.getD ((ntS S1 : Int) % (B.1.length : Int)).toNat 0 := by unfold alB; rw [e1]
  refine lo_135 (d := d + 20) (ml := B.1.length) (ma := ma) I1 W1 z1.1 f5 ⟨f4.1, by omega⟩ (by rw [eph]; exact ⟨x1, x2⟩) ?_ ⟨hmk.1, by omega⟩ ?_ ⟨by omega, by omega⟩ ?_
  · rw [eph, eal]
    exact (f6 _ (by omega)).1
  · rw [e4, e3, e5, e1]; exact s2
  refine l219_lp (d := d) I1 W1 al6.2.1 (by rw [e1]; exact al6.1) z1.1 (bf_7 bh1) (fun a12 a13 a14 a15 a16 a17 a18 => ?_) mn 0 _ _ _ _ _ _ _ _ (by omega)
  have tb0 := tot_b ms mi li W bg (by omega)
  have tb1 := tot_b ms1 mi1 li1 W1 bg (by omega)
  refine l322_lp (d := d) (M := M) (cm := ((csS S).length : Int)) I1 W1 wr1 z1 bh1 ms1 mi1 li1 (by omega) s3 (fun g hg => st_D ms1 mi li bg hal (by omega) ⟨by omega, by omega⟩ st g (by omega)) (fun g => ⟨(tb0 g).1, (tb0 g).2, (tb1 g).1⟩) (fun g hg => ?_) (tel_6 ms1 mi1 bg.1) (fun b12 b13 b14 b15 b16 b17 b18 => ?_) al 0 _ _ _ _ _ _ _ (by omega)
  · obtain ⟨r1, r2⟩ := F2 g hg
    rw [(o3 _ pc.1).1, (o3 _ pc.2).1, r1, r2, tot_eq ms g, ms.2.2.2.2.2.2.1]
    exact ⟨rfl, rfl⟩
  have sl := sumL_al (f := ltS S1) (al := al) (fun g hg => by rw [e7]; exact mi1.2.2.2.2 g (by omega)) (6 - al)
  rw [show al + (6 - al) = 6 by omega] at sl
  have sb := sumL_b (f := ltS S1) (K := 1000) (fun g => by rw [e7]; exact (tb1 g).2) al
  refine lw_700 (d := d + 22) I1 W1 (by rw [sumL_6, sl]) ⟨sb.1, by omega⟩ ?_
  refine l714_lp (d := d) I1 W1 wr1 z1 bh1 ms1 mi1 li1 (fun c11 c12 c13 c14 c15 c16 c17 c18 => ?_) (tlS S1).length 0 _ _ _ _ _ _ _ (by omega)
  refine lw_827 (d := d + 23) ?_
  exact q h3 u1 S1 M1 J3 (by omega) st _ _ _ _ _ _ _ _ _ _ _ _ _ _
