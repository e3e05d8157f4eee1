/-! The reference: comma. -/
/-- behind the first g geese -/
def stgW (B : Bk) (x : Ctx) (wm : Int) (tk : Int32) (vs : Nat → Int32) (ws : Nat → List Win) (lt : Nat → Nat) (g : Nat) : Nat → List Win := fun g2 => if g2 < g then (gst B x.1 wm tk vs g2 (ws g2) (lt g2)).1 else ws g2
def stgL (B : Bk) (x : Ctx) (wm : Int) (tk : Int32) (vs : Nat → Int32) (ws : Nat → List Win) (lt : Nat → Nat) (g : Nat) : Nat → Nat := fun g2 => if g2 < g then (gst B x.1 wm tk vs g2 (ws g2) (lt g2)).2 else lt g2
theorem stW_s {B : Bk} {x : Ctx} {wm : Int} {tk : Int32} {vs : Nat → Int32} {ws : Nat → List Win} {lt : Nat → Nat} (g : Nat) : (fun g2 => if g2 = g then (gst B x.1 wm tk vs g (stgW B x wm tk vs ws lt g g) (stgL B x wm tk vs ws lt g g)).1 else stgW B x wm tk vs ws lt g g2) = stgW B x wm tk vs ws lt (g + 1) := by
  funext g2
  unfold stgW stgL
  by_cases c : g2 = g
  · subst c
    rw [if_pos rfl, if_neg (Nat.lt_irrefl _), if_neg (Nat.lt_irrefl _), if_pos (Nat.lt_succ_self _)]
  · rw [if_neg c]
    by_cases d : g2 < g
    · rw [if_pos d, if_pos (by omega)]
    · rw [if_neg d, if_neg (by omega)]
theorem stL_s {B : Bk} {x : Ctx} {wm : Int} {tk : Int32} {vs : Nat → Int32} {ws : Nat → List Win} {lt : Nat → Nat} (g : Nat) : (fun g2 => if g2 = g then (gst B x.1 wm tk vs g (stgW B x wm tk vs ws lt g g) (stgL B x wm tk vs ws lt g g)).2 else stgL B x wm tk vs ws lt g g2) = stgL B x wm tk vs ws lt (g + 1) := by
  funext g2
  unfold stgW stgL
  by_cases c : g2 = g
  · subst c
    rw [if_pos rfl, if_neg (Nat.lt_irrefl _), if_neg (Nat.lt_irrefl _), if_pos (Nat.lt_succ_self _)]
  · rw [if_neg c]
    by_cases d : g2 < g
    · rw [if_pos d, if_pos (by omega)]
    · rw [if_neg d, if_neg (by omega)]
theorem stW_0 {B : Bk} {x : Ctx} {wm : Int} {tk : Int32} {vs : Nat → Int32} {ws : Nat → List Win} {lt : Nat → Nat} : stgW B x wm tk vs ws lt 0 = ws ∧ stgL B x wm tk vs ws lt 0 = lt := ⟨by funext g2; exact if_neg (Nat.not_lt_zero _), by funext g2; exact if_neg (Nat.not_lt_zero _)⟩
theorem stW_e {B : Bk} {x : Ctx} {wm : Int} {tk : Int32} {vs : Nat → Int32} {ws : Nat → List Win} {lt : Nat → Nat} : stgW B x wm tk vs ws lt B.2.2.length = (fun g => (gst B x.1 wm tk vs g (ws g) (lt g)).1) ∧ stgL B x wm tk vs ws lt B.2.2.length = (fun g => (gst B x.1 wm tk vs g (ws g) (lt g)).2) := by
  constructor
  · funext g2
    by_cases c : g2 < B.2.2.length
    · exact if_pos c
    · rw [gst_n (fun z => c z.1)]; exact if_neg c
  · funext g2
    by_cases c : g2 < B.2.2.length
    · exact if_pos c
    · rw [gst_n (fun z => c z.1)]; exact if_neg c
theorem mp_cg_lp {d : Nat} {wm N : Int} {x : Ctx} {tk : Int32} {vs : Nat → Int32} {B : Bk} {T : List Tel} {ws : Nat → List Win} {lt : Nat → Nat} {Q : Rs → PH → Prop} (wB : bkN B) (w7 : ∀ g, g < B.2.2.length → (B.2.2.getD g g0).2.2.1 = 0 ∨ (B.2.2.getD g g0).2.1 < 7 * (B.2.2.getD g g0).2.2.1) (wl : ∀ g2, wsB N (ws g2) ∧ (ws g2).length ≤ 200 ∧ unW (ws g2)) (wl2 : ∀ g2, wsB N (gst B x.1 wm tk vs g2 (ws g2) (lt g2)).1 ∧ (gst B x.1 wm tk vs g2 (ws g2) (lt g2)).1.length ≤ 200) (hN0 : 0 ≤ N) (hN2 : N ≤ 1600) (hh : 0 ≤ x.1 ∧ x.1 < 1000) (hm : 0 ≤ wm ∧ wm < 3000) (vr : vsR B x (iZ 0) vs) (m : Nat) : ∀ (g : Nat) (h : PH) (y : Y4), g + m = B.2.2.length → mgI h B x wm T (stgW B x wm tk vs ws lt g) (stgL B x wm tk vs ws lt g) y → (∀ h1 y1, mgI h1 B x wm T (stgW B x wm tk vs ws lt B.2.2.length) (stgL B x wm tk vs ws lt B.2.2.length) y1 → FM pg h h1 y y1 → E83 h h1 → Ev (d + 3) 209 (152, [some (.inr (.inr (.inr (11, 0, 83)))), some (.inl (iZ (x.1))), some (.inl (iZ (x.2.1))), some (.inl (iZ (x.2.2.1))), some (.inl (iZ (x.2.2.2))), some (.inl (tk)), some (.inl (iZ (B.2.2.length)))], [], h1) Q) → Ev (d + 3) 209 (86, [some (.inr (.inr (.inr (11, 0, 83)))), some (.inl (iZ (x.1))), some (.inl (iZ (x.2.1))), some (.inl (iZ (x.2.2.1))), some (.inl (iZ (x.2.2.2))), some (.inl (tk)), some (.inl (iZ (g)))], [], h) Q := by
  have w5 := wB.2.2.2.2.1
  induction m with
  | zero =>
    intro g h y hg I q
    have hg2 : g = B.2.2.length := by omega
    subst hg2
    refine Ev.sts 2 (c' := (89, [some (.inr (.inr (.inr (11, 0, 83)))), some (.inl (iZ (x.1))), some (.inl (iZ (x.2.1))), some (.inl (iZ (x.2.2.1))), some (.inl (iZ (x.2.2.2))), some (.inl (tk)), some (.inl (iZ (B.2.2.length)))], [.inr (.inr (.inr (11, 0, 83))), .inl (iZ (B.2.2.length))], h)) rfl ?_
    refine Ev.gfr (r := (20, 64, 93)) rfl (sh_83_18 I.1) ?_
    refine Ev.sts 1 (c' := (93, [some (.inr (.inr (.inr (11, 0, 83)))), some (.inl (iZ (x.1))), some (.inl (iZ (x.2.1))), some (.inl (iZ (x.2.2.1))), some (.inl (iZ (x.2.2.2))), some (.inl (tk)), some (.inl (iZ (B.2.2.length)))], [.inl (iZ (1)), .inr (.inr (.inr (20, 64, 93))), .inl (iZ (B.2.2.length))], h)) rfl ?_
    refine Ev.ldv (j := (iZ (1))) (n := 64) (w := .inl (iZ (B.2.2.length))) (by decide) rfl (congrArg vI I.2.1.2.1) ?_
    refine Ev.brT (p := (iZ (B.2.2.length)) ≤ (iZ (B.2.2.length))) (c1 := (152, [some (.inr (.inr (.inr (11, 0, 83)))), some (.inl (iZ (x.1))), some (.inl (iZ (x.2.1))), some (.inl (iZ (x.2.2.1))), some (.inl (iZ (x.2.2.2))), some (.inl (tk)), some (.inl (iZ (B.2.2.length)))], [], h)) (c2 := (97, [some (.inr (.inr (.inr (11, 0, 83)))), some (.inl (iZ (x.1))), some (.inl (iZ (x.2.1))), some (.inl (iZ (x.2.2.1))), some (.inl (iZ (x.2.2.2))), some (.inl (tk)), some (.inl (iZ (B.2.2.length)))], [], h)) ((iZ_le ⟨by omega, by omega⟩ ⟨by omega, by omega⟩).mpr (by omega)) rfl ?_
    exact q h y I (FM_refl _ _ _) (fun _ _ => rfl)
  | succ m ih =>
    intro g h y hg I q
    refine mp_cg_one I wB w7 (by omega) (fun g2 => ?_) hN0 hN2 ?_ ?_ hh hm vr (fun h1 y1 i1 f1 e1 => ?_)
    · unfold stgW
      split
      · exact (wl2 g2).1
      · exact (wl g2).1
    · rw [show (allW (stgW B x wm tk vs ws lt g)).length = lnL (stgW B x wm tk vs ws lt g) 6 0 from alW_len _ _ _]
      have := lnL_le (ws := stgW B x wm tk vs ws lt g) (K := 200) (fun g2 => by
        unfold stgW
        split
        · exact (wl2 g2).2
        · exact (wl g2).2.1) 6 0
      omega
    · rw [show stgW B x wm tk vs ws lt g g = ws g from if_neg (Nat.lt_irrefl _)]; exact (wl g).2.2
    · rw [stW_s, stL_s] at i1
      exact ih (g + 1) h1 y1 (by omega) i1 (fun h2 y2 i2 f2 e2 => q h2 y2 i2 (FM_trans f1 f2) (fun k hk => (e2 k hk).trans (e1 k hk)))

def adMH (h : PH) (l : Nat) (hr : Int) (tk : Int32) : PH := setI (setI (setI h 96 l (iZ hr)) 97 l tk) 83 21 (iZ (l + 1))
theorem MI_cad {h : PH} {S : Sta} {y : Y4} {x : Ctx} {tk : Int32} (I : MI h S y) : MI (adMH h (csS S).length x.1 tk) (cadS S x tk) y := by
  obtain ⟨i1, i2, i3, i4, i5, i6, i7, i8, i9, i10, i11, i12, i13, i14⟩ := I
  have hc := i10.2.2.2.2.2.1
  have ht := i11.2.2.2.2.2.1
  have e : ∀ a, a ≠ 83 → a ≠ 96 → a ≠ 97 → (adMH h (csS S).length x.1 tk).1 a = h.1 a := by
    intro a a1 a2 a3
    unfold adMH
    rw [setI_oth a1, setI_oth a3, setI_oth a2]
  have es : ∀ k, k ≠ 21 → (adMH h (csS S).length x.1 tk).1 83 k = h.1 83 k := by
    intro k hk
    unfold adMH
    rw [setI_ne (by omega), setI_oth (b := 83) (by omega), setI_oth (b := 83) (by omega)]
  refine ⟨Sh_eq i1 rfl, ?_, (es 11 (by omega)).trans i3, bkM_eq (e 93 (by omega) (by omega) (by omega)) (e 94 (by omega) (by omega) (by omega)) i4, ⟨?_, fun j hj => ?_⟩, (es 25 (by omega)).trans i6, (es 26 (by omega)).trans i7, (es 27 (by omega)).trans i8, ?_, opM_eq i10 (es 30 (by omega)) rfl (e _ (aO_ne hc (by omega) (by omega) (by omega)) (aO_ne hc (by omega) (by omega) (by omega)) (aO_ne hc (by omega) (by omega) (by omega))) (Nat.le_refl _), tmM_eq i11 (es 32 (by omega)) rfl (e _ (aO_ne ht (by omega) (by omega) (by omega)) (aO_ne ht (by omega) (by omega) (by omega)) (aO_ne ht (by omega) (by omega) (by omega))) (Nat.le_refl _), i12, i13, i14⟩
  · rw [es 2 (by omega), e 84 (by omega) (by omega) (by omega)]; exact i2
  · show _ = iZ ((csS S ++ [(x.1, tk)]).length : Int)
    rw [app_len]
    exact setI_self _ _ _ _
  · replace hj : j < (csS S ++ [(x.1, tk)]).length := hj
    rw [app_len] at hj
    show _ = iZ ((csS S ++ [(x.1, tk)]).getD j cd0).1 ∧ _ = ((csS S ++ [(x.1, tk)]).getD j cd0).2
    rw [app_get _ _ _ _ hj]
    unfold adMH
    rw [setI_oth (b := 96) (by omega), setI_oth (b := 96) (by omega), setI_oth (b := 97) (by omega)]
    by_cases z : j = (csS S).length
    · subst z
      rw [if_pos rfl, setI_self, setI_self]; exact ⟨rfl, rfl⟩
    · rw [if_neg z, setI_ne (by omega), setI_ne (by omega), setI_oth (by omega)]
      exact i5.2 j (by omega)
  · rw [e 99 (by omega) (by omega) (by omega)]; exact i9
theorem MI_mg {h : PH} {S : Sta} {y : Y4} {x : Ctx} (I : MI h S y) (gv : givM h x) : mgI h (bkS S) x (wmS S) (tlS S) (wdS S) (ltS S) y := ⟨mi_sh I, mi_bk I, gv, mi_wm I, mi_lt I, mi_op I, mi_tm I, mi_ne I, mi_hN I⟩
theorem MI_cg {h h1 : PH} {S : Sta} {y y1 : Y4} {x : Ctx} {ws : Nat → List Win} {lt : Nat → Nat} (I : MI h S y) (G : mgI h1 (bkS S) x (wmS S) (tlS S) ws lt y1) (f : FM pg h h1 y y1) (g : E83 h h1) : MI h1 (mkS (tpS S) (eaS S) (bkS S) (csS S) (ntS S) (grS S) (wmS S) ws lt (tlS S)) y1 := by
  obtain ⟨i1, i2, i3, i4, i5, i6, i7, i8, i9, i10, i11, i12, i13, i14⟩ := I
  have hc := i10.2.2.2.2.2.1
  have ht := i11.2.2.2.2.2.1
  have e : ∀ a, a ≠ 83 → a ≠ 95 → a ≠ 99 → a ≠ 100 → a ≠ 101 → a < 103 → h1.1 a = h.1 a := fun a a1 a2 a3 a4 a5 a6 => f.2.2.1 a (fun z => by unfold pg at z; omega) (Ne.symm (aO_ne hc a4 a5 a6)) (Ne.symm (aO_ne ht a4 a5 a6)) (by omega)
  refine ⟨G.1, ?_, (g 11 (by omega)).trans i3, G.2.1, ?_, (g 25 (by omega)).trans i6, (g 26 (by omega)).trans i7, G.2.2.2.1, G.2.2.2.2.1, G.2.2.2.2.2.1, G.2.2.2.2.2.2.1, G.2.2.2.2.2.2.2.1, G.2.2.2.2.2.2.2.2, by unfold kyM; rw [f.1]; exact i14⟩
  · rw [g 2 (by omega), e 84 (by omega) (by omega) (by omega) (by omega) (by omega) (by omega)]; exact i2
  · rw [g 21 (by omega), e 96 (by omega) (by omega) (by omega) (by omega) (by omega) (by omega), e 97 (by omega) (by omega) (by omega) (by omega) (by omega) (by omega)]; exact i5
theorem FM_adM {h : PH} {y : Y4} {l : Nat} {hr : Int} {tk : Int32} : FM pMo h (adMH h l hr tk) y y := FM_of rfl (fun a ha => by
  unfold pMo at ha
  unfold adMH
  rw [setI_oth (by omega), setI_oth (by omega), setI_oth (by omega)])
theorem ms_comma {d : Nat} {y : Y4} {S : Sta} {h : PH} {x : Ctx} {tk : Int32} {vs : Nat → Int32} {Q : Rs → PH → Prop} (I : MI h S y) (W : WN S) (ws7 : ∀ g, g < (bkS S).2.2.length → ((bkS S).2.2.getD g g0).2.2.1 = 0 ∨ ((bkS S).2.2.getD g g0).2.1 < 7 * ((bkS S).2.2.getD g g0).2.2.1) (hx : bX x) (ok : okX x) (hcs : (csS S).length < 120) (jr : jR (bkS S).2.1 x 0 (iZ 0) tk) (htk : 0 ≤ tk.toInt ∧ tk.toInt < 256) (vr : vsR (bkS S) x (iZ 0) vs) (wl : ∀ g2, wsB 1000 (wdS S g2) ∧ (wdS S g2).length ≤ 200 ∧ unW (wdS S g2)) (wl2 : ∀ g2, wsB 1000 (gst (bkS S) x.1 (wmS S) tk vs g2 (wdS S g2) (ltS S g2)).1 ∧ (gst (bkS S) x.1 (wmS S) tk vs g2 (wdS S g2) (ltS S g2)).1.length ≤ 200) (cp : capS (cwmS S x tk vs)) (q : ∀ h1 y1, MI h1 (comS S x tk vs) y1 → FM pMo h h1 y y1 → h1.1 83 0 = iZ 0 → Q (.inl (some (.inl (bcv tk)))) h1) : Rn (d + 3) 209 [.inr (.inr (.inr (11, 0, 83))), .inl (iZ (x.1)), .inl (iZ (x.2.1)), .inl (iZ (x.2.2.1)), .inl (iZ (x.2.2.2))] h Q := by
  have W0 := W
  obtain ⟨⟨w1, w2, w3, w4, w5, w6⟩, w7, w8, w9, w10, w11, w12, w13, w14, w15, w16, w17, w18⟩ := W0
  have wB : bkN (bkS S) := ⟨w1, w2, w3, w4, w5, w6⟩
  have wl3 : ∀ g, wsB 1000 (wdS (cwmS S x tk vs) g) := fun g => (wl2 g).1
  obtain ⟨x1, x2, x3, x4⟩ := hx
  have hx : bX x := ⟨x1, x2, x3, x4⟩
  obtain ⟨y1, y2, y3, y4, y5, y6, y7, y8⟩ := ok
  have ok : okX x := ⟨y1, y2, y3, y4, y5, y6, y7, y8⟩
  have ab := alB_b wB (ntS S)
  refine Ev.sts 7 (c' := (10, [some (.inr (.inr (.inr (11, 0, 83)))), some (.inl (iZ (x.1))), some (.inl (iZ (x.2.1))), some (.inl (iZ (x.2.2.1))), some (.inl (iZ (x.2.2.2))), none, none], [.inl (iZ (x.2.2.2)), .inl (iZ (x.2.2.1)), .inl (iZ (x.2.1)), .inl (iZ (x.1))], (setI h 83 0 ((iZ (0)))))) rfl ?_
  refine Ev.callw (a := [.inl (iZ (x.1)), .inl (iZ (x.2.1)), .inl (iZ (x.2.2.1)), .inl (iZ (x.2.2.2))]) rfl (mp_isComma hx (fun _ => ?_) (fun z => absurd ok z))
  refine Ev.brT (p := ¬ (iZ (1)) = (iZ (0))) (c1 := (22, [some (.inr (.inr (.inr (11, 0, 83)))), some (.inl (iZ (x.1))), some (.inl (iZ (x.2.1))), some (.inl (iZ (x.2.2.1))), some (.inl (iZ (x.2.2.2))), none, none], [], (setI h 83 0 ((iZ (0)))))) (c2 := (16, [some (.inr (.inr (.inr (11, 0, 83)))), some (.inl (iZ (x.1))), some (.inl (iZ (x.2.1))), some (.inl (iZ (x.2.2.1))), some (.inl (iZ (x.2.2.2))), none, none], [], (setI h 83 0 ((iZ (0)))))) (by decide) rfl ?_
  refine Ev.sts 1 (c' := (23, [some (.inr (.inr (.inr (11, 0, 83)))), some (.inl (iZ (x.1))), some (.inl (iZ (x.2.1))), some (.inl (iZ (x.2.2.1))), some (.inl (iZ (x.2.2.2))), none, none], [.inr (.inr (.inr (11, 0, 83)))], (setI h 83 0 ((iZ (0)))))) rfl ?_
  refine Ev.gv (w := (iZ ((csS S).length))) rfl (mi_cs (MI_th (v := iZ 0) I)).1 ?_
  refine Ev.sts 1 (c' := (28, [some (.inr (.inr (.inr (11, 0, 83)))), some (.inl (iZ (x.1))), some (.inl (iZ (x.2.1))), some (.inl (iZ (x.2.2.1))), some (.inl (iZ (x.2.2.2))), none, none], [.inl (iZ (120)), .inl (iZ ((csS S).length))], (setI h 83 0 ((iZ (0)))))) rfl ?_
  refine Ev.brT (p := ¬ (iZ ((csS S).length)) = (iZ (120))) (c1 := (37, [some (.inr (.inr (.inr (11, 0, 83)))), some (.inl (iZ (x.1))), some (.inl (iZ (x.2.1))), some (.inl (iZ (x.2.2.1))), some (.inl (iZ (x.2.2.2))), none, none], [], (setI h 83 0 ((iZ (0)))))) (c2 := (31, [some (.inr (.inr (.inr (11, 0, 83)))), some (.inl (iZ (x.1))), some (.inl (iZ (x.2.1))), some (.inl (iZ (x.2.2.1))), some (.inl (iZ (x.2.2.2))), none, none], [], (setI h 83 0 ((iZ (0)))))) ((not_congr (iZ_eq ⟨by omega, by omega⟩ ⟨by omega, by omega⟩)).mpr (by omega)) rfl ?_
  refine Ev.sts 5 (c' := (43, [some (.inr (.inr (.inr (11, 0, 83)))), some (.inl (iZ (x.1))), some (.inl (iZ (x.2.1))), some (.inl (iZ (x.2.2.1))), some (.inl (iZ (x.2.2.2))), none, none], [.inl (iZ (x.2.2.2)), .inl (iZ (x.2.2.1)), .inl (iZ (x.2.1)), .inl (iZ (x.1)), .inr (.inr (.inr (11, 0, 83)))], (setI h 83 0 ((iZ (0)))))) rfl ?_
  refine Ev.callv (a := [.inr (.inr (.inr (11, 0, 83))), .inl (iZ (x.1)), .inl (iZ (x.2.1)), .inl (iZ (x.2.2.1)), .inl (iZ (x.2.2.2))]) rfl (mp_give (Sh_eq (mi_sh I) rfl)) ?_
  have ib : MI (givH (setI h 83 0 ((iZ (0)))) x) S y := MI_pr (MI_th I) rfl (fun a a1 a2 => giv_o a2)
  refine Ev.sts 1 (c' := (47, [some (.inr (.inr (.inr (11, 0, 83)))), some (.inl (iZ (x.1))), some (.inl (iZ (x.2.1))), some (.inl (iZ (x.2.2.1))), some (.inl (iZ (x.2.2.2))), none, none], [.inr (.inr (.inr (11, 0, 83)))], (givH (setI h 83 0 ((iZ (0)))) x))) rfl ?_
  refine Ev.callw (a := [.inr (.inr (.inr (11, 0, 83)))]) rfl (mp_takers (x := x) (mi_sh ib) w4 (mi_bk ib).1 (mi_bk ib).2.2.2.2.1 (giv_g _ x) jr (fun h1 e2 e1 => ?_))
  have i1 : MI h1 S y := MI_pr ib e2 (fun a a1 _ => e1 a a1)
  refine Ev.sts 2 (c' := (53, [some (.inr (.inr (.inr (11, 0, 83)))), some (.inl (iZ (x.1))), some (.inl (iZ (x.2.1))), some (.inl (iZ (x.2.2.1))), some (.inl (iZ (x.2.2.2))), some (.inl (tk)), none], [.inr (.inr (.inr (11, 0, 83)))], h1)) rfl ?_
  refine Ev.gfr (r := (20, 120, 96)) rfl (sh_83_22 (Sh_eq (mi_sh ib) e2)) ?_
  refine Ev.sts 1 (c' := (57, [some (.inr (.inr (.inr (11, 0, 83)))), some (.inl (iZ (x.1))), some (.inl (iZ (x.2.1))), some (.inl (iZ (x.2.2.1))), some (.inl (iZ (x.2.2.2))), some (.inl (tk)), none], [.inr (.inr (.inr (11, 0, 83))), .inr (.inr (.inr (20, 120, 96)))], h1)) rfl ?_
  refine Ev.gv (w := (iZ ((csS S).length))) rfl (mi_cs i1).1 ?_
  refine Ev.sts 1 (c' := (61, [some (.inr (.inr (.inr (11, 0, 83)))), some (.inl (iZ (x.1))), some (.inl (iZ (x.2.1))), some (.inl (iZ (x.2.2.1))), some (.inl (iZ (x.2.2.2))), some (.inl (tk)), none], [.inl (iZ (x.1)), .inl (iZ ((csS S).length)), .inr (.inr (.inr (20, 120, 96)))], h1)) rfl ?_
  refine Ev.sto (j := (iZ ((csS S).length))) (n := 120) (h2 := (setI h1 96 ((csS S).length) ((iZ (x.1))))) (iZ_in (by omega) (by omega) (by omega)) rfl (by rw [iZ_ix (n := (csS S).length) (by omega) (by omega)]) ?_
  refine Ev.sts 1 (c' := (63, [some (.inr (.inr (.inr (11, 0, 83)))), some (.inl (iZ (x.1))), some (.inl (iZ (x.2.1))), some (.inl (iZ (x.2.2.1))), some (.inl (iZ (x.2.2.2))), some (.inl (tk)), none], [.inr (.inr (.inr (11, 0, 83)))], (setI h1 96 ((csS S).length) ((iZ (x.1)))))) rfl ?_
  refine Ev.gfr (r := (20, 120, 97)) rfl (sh_83_23 (Sh_eq (mi_sh ib) e2)) ?_
  refine Ev.sts 1 (c' := (67, [some (.inr (.inr (.inr (11, 0, 83)))), some (.inl (iZ (x.1))), some (.inl (iZ (x.2.1))), some (.inl (iZ (x.2.2.1))), some (.inl (iZ (x.2.2.2))), some (.inl (tk)), none], [.inr (.inr (.inr (11, 0, 83))), .inr (.inr (.inr (20, 120, 97)))], (setI h1 96 ((csS S).length) ((iZ (x.1)))))) rfl ?_
  refine Ev.gv (w := (iZ ((csS S).length))) rfl (by rw [setI_oth (b := 83) (by omega)]; exact (mi_cs i1).1) ?_
  refine Ev.sts 1 (c' := (72, [some (.inr (.inr (.inr (11, 0, 83)))), some (.inl (iZ (x.1))), some (.inl (iZ (x.2.1))), some (.inl (iZ (x.2.2.1))), some (.inl (iZ (x.2.2.2))), some (.inl (tk)), none], [.inl (tk), .inl (iZ ((csS S).length)), .inr (.inr (.inr (20, 120, 97)))], (setI h1 96 ((csS S).length) ((iZ (x.1)))))) rfl ?_
  refine Ev.sto (j := (iZ ((csS S).length))) (n := 120) (h2 := (setI (setI h1 96 ((csS S).length) ((iZ (x.1)))) 97 ((csS S).length) (tk))) (iZ_in (by omega) (by omega) (by omega)) rfl (by rw [iZ_ix (n := (csS S).length) (by omega) (by omega)]) ?_
  refine Ev.sts 2 (c' := (75, [some (.inr (.inr (.inr (11, 0, 83)))), some (.inl (iZ (x.1))), some (.inl (iZ (x.2.1))), some (.inl (iZ (x.2.2.1))), some (.inl (iZ (x.2.2.2))), some (.inl (tk)), none], [.inr (.inr (.inr (11, 0, 83))), .inr (.inr (.inr (11, 0, 83)))], (setI (setI h1 96 ((csS S).length) ((iZ (x.1)))) 97 ((csS S).length) (tk)))) rfl ?_
  refine Ev.gv (w := (iZ ((csS S).length))) rfl (by rw [setI_oth (b := 83) (by omega), setI_oth (b := 83) (by omega)]; exact (mi_cs i1).1) ?_
  refine Ev.sts 1 (c' := (79, [some (.inr (.inr (.inr (11, 0, 83)))), some (.inl (iZ (x.1))), some (.inl (iZ (x.2.1))), some (.inl (iZ (x.2.2.1))), some (.inl (iZ (x.2.2.2))), some (.inl (tk)), none], [.inl (iZ (1)), .inl (iZ ((csS S).length)), .inr (.inr (.inr (11, 0, 83)))], (setI (setI h1 96 ((csS S).length) ((iZ (x.1)))) 97 ((csS S).length) (tk)))) rfl ?_
  refine Ev.gv (w := (iZ (((csS S).length) + 1))) rfl (iZ_add _ _) ?_
  refine Ev.sts 2 (c' := (84, [some (.inr (.inr (.inr (11, 0, 83)))), some (.inl (iZ (x.1))), some (.inl (iZ (x.2.1))), some (.inl (iZ (x.2.2.1))), some (.inl (iZ (x.2.2.2))), some (.inl (tk)), none], [.inl (iZ (0))], (setI (setI (setI h1 96 ((csS S).length) ((iZ (x.1)))) 97 ((csS S).length) (tk)) 83 21 ((iZ (((csS S).length) + 1)))))) rfl ?_
  have th0 : (adMH h1 (csS S).length x.1 tk).1 83 0 = iZ 0 := by
    unfold adMH
    rw [setI_ne (by omega), setI_oth (b := 83) (by omega), setI_oth (b := 83) (by omega), e1 83 (by omega), giv_o (by omega)]
    exact setI_self _ _ _ _
  refine Ev.sts 1 (c' := (86, [some (.inr (.inr (.inr (11, 0, 83)))), some (.inl (iZ (x.1))), some (.inl (iZ (x.2.1))), some (.inl (iZ (x.2.2.1))), some (.inl (iZ (x.2.2.2))), some (.inl (tk)), some (.inl (iZ (0)))], [], (setI (setI (setI h1 96 ((csS S).length) ((iZ (x.1)))) 97 ((csS S).length) (tk)) 83 21 ((iZ (((csS S).length) + 1)))))) rfl ?_
  have i2 : MI (adMH h1 (csS S).length x.1 tk) (cadS S x tk) y := MI_cad i1
  have gv2 : givM (adMH h1 (csS S).length x.1 tk) x := by
    unfold givM adMH
    rw [setI_oth (b := 98) (by omega), setI_oth (b := 98) (by omega), setI_oth (b := 98) (by omega), e1 98 (by omega)]
    exact giv_g _ x
  refine mp_cg_lp (B := bkS S) (T := tlS S) (ws := wdS S) (lt := ltS S) wB ws7 wl wl2 (by omega) (show (1000 : Int) ≤ 1600 by omega) ⟨by omega, by omega⟩ ⟨w12, by omega⟩ vr (bkS S).2.2.length 0 (adMH h1 (csS S).length x.1 tk) y (by omega) (by rw [stW_0.1, stW_0.2]; exact MI_mg (S := cadS S x tk) i2 gv2) (fun h2 y2 g2 f2 x2 => ?_)
  rw [stW_e.1, stW_e.2] at g2
  have i3 : MI h2 (cgeS S x tk vs) y2 := MI_cg (S := cadS S x tk) i2 g2 f2 x2
  have i4 := MI_gr (S := cgeS S x tk vs) (m := max (grS S) x.1) i3
  refine Ev.sts 2 (c' := (154, [some (.inr (.inr (.inr (11, 0, 83)))), some (.inl (iZ (x.1))), some (.inl (iZ (x.2.1))), some (.inl (iZ (x.2.2.1))), some (.inl (iZ (x.2.2.2))), some (.inl (tk)), some (.inl (iZ ((bkS S).2.2.length)))], [.inr (.inr (.inr (11, 0, 83))), .inr (.inr (.inr (11, 0, 83)))], h2)) rfl ?_
  refine Ev.gv (w := (iZ (grS S))) rfl (mi_gr (S := cgeS S x tk vs) i3) ?_
  refine Ev.sts 1 (c' := (158, [some (.inr (.inr (.inr (11, 0, 83)))), some (.inl (iZ (x.1))), some (.inl (iZ (x.2.1))), some (.inl (iZ (x.2.2.1))), some (.inl (iZ (x.2.2.2))), some (.inl (tk)), some (.inl (iZ ((bkS S).2.2.length)))], [.inl (iZ (x.1)), .inl (iZ (grS S)), .inr (.inr (.inr (11, 0, 83)))], h2)) rfl ?_
  refine Ev.gv (w := (iZ (max (grS S) x.1))) rfl (iZ_max ⟨by omega, by omega⟩ ⟨by omega, by omega⟩) ?_
  refine Ev.sts 3 (c' := (166, [some (.inr (.inr (.inr (11, 0, 83)))), some (.inl (iZ (x.1))), some (.inl (iZ (x.2.1))), some (.inl (iZ (x.2.2.1))), some (.inl (iZ (x.2.2.2))), some (.inl (tk)), some (.inl (iZ ((bkS S).2.2.length)))], [.inr (.inr (.inr (11, 0, 83))), .inr (.inr (.inr (11, 0, 83)))], (setI h2 83 26 ((iZ (max (grS S) x.1)))))) rfl ?_
  refine Ev.gv (w := (iZ (wmS S))) rfl (mi_wm (S := (mkS (tpS S) (eaS S) (bkS S) (csS S ++ [(x.1, tk)]) (ntS S) (max (grS S) x.1) (wmS S) (fun g => (gst (bkS S) x.1 (wmS S) tk vs g (wdS S g) (ltS S g)).1) (fun g => (gst (bkS S) x.1 (wmS S) tk vs g (wdS S g) (ltS S g)).2) (tlS S))) i4) ?_
  refine Ev.sts 1 (c' := (170, [some (.inr (.inr (.inr (11, 0, 83)))), some (.inl (iZ (x.1))), some (.inl (iZ (x.2.1))), some (.inl (iZ (x.2.2.1))), some (.inl (iZ (x.2.2.2))), some (.inl (tk)), some (.inl (iZ ((bkS S).2.2.length)))], [.inr (.inr (.inr (11, 0, 83))), .inl (iZ (wmS S)), .inr (.inr (.inr (11, 0, 83)))], (setI h2 83 26 ((iZ (max (grS S) x.1)))))) rfl ?_
  refine Ev.gv (w := (iZ (max (grS S) x.1))) rfl (setI_self _ _ _ _) ?_
  refine Ev.sts 1 (c' := (174, [some (.inr (.inr (.inr (11, 0, 83)))), some (.inl (iZ (x.1))), some (.inl (iZ (x.2.1))), some (.inl (iZ (x.2.2.1))), some (.inl (iZ (x.2.2.2))), some (.inl (tk)), some (.inl (iZ ((bkS S).2.2.length)))], [.inr (.inr (.inr (11, 0, 83))), .inl (iZ (max (grS S) x.1)), .inl (iZ (wmS S)), .inr (.inr (.inr (11, 0, 83)))], (setI h2 83 26 ((iZ (max (grS S) x.1)))))) rfl ?_
  refine Ev.callv (a := [.inr (.inr (.inr (11, 0, 83)))]) rfl (mp_allows (nt := ntS S) (B := bkS S) (mi_sh i4) (mi_bk (S := (mkS (tpS S) (eaS S) (bkS S) (csS S ++ [(x.1, tk)]) (ntS S) (max (grS S) x.1) (wmS S) (fun g => (gst (bkS S) x.1 (wmS S) tk vs g (wdS S g) (ltS S g)).1) (fun g => (gst (bkS S) x.1 (wmS S) tk vs g (wdS S g) (ltS S g)).2) (tlS S))) i4) wB (mi_nt (S := (mkS (tpS S) (eaS S) (bkS S) (csS S ++ [(x.1, tk)]) (ntS S) (max (grS S) x.1) (wmS S) (fun g => (gst (bkS S) x.1 (wmS S) tk vs g (wdS S g) (ltS S g)).1) (fun g => (gst (bkS S) x.1 (wmS S) tk vs g (wdS S g) (ltS S g)).2) (tlS S))) i4) (by omega)) ?_
  refine Ev.gv (w := (iZ ((max (grS S) x.1) - (alB (bkS S) (ntS S))))) rfl (iZ_sub _ _) ?_
  refine Ev.gv (w := (iZ (max (wmS S) ((max (grS S) x.1) - (alB (bkS S) (ntS S)))))) rfl (iZ_max ⟨by omega, by omega⟩ ⟨by omega, by omega⟩) ?_
  refine Ev.sts 2 (c' := (185, [some (.inr (.inr (.inr (11, 0, 83)))), some (.inl (iZ (x.1))), some (.inl (iZ (x.2.1))), some (.inl (iZ (x.2.2.1))), some (.inl (iZ (x.2.2.2))), some (.inl (tk)), some (.inl (iZ ((bkS S).2.2.length)))], [.inr (.inr (.inr (11, 0, 83)))], (setI (setI h2 83 26 ((iZ (max (grS S) x.1)))) 83 27 ((iZ (max (wmS S) ((max (grS S) x.1) - (alB (bkS S) (ntS S))))))))) rfl ?_
  refine Ev.callw (a := [.inr (.inr (.inr (11, 0, 83)))]) rfl (ms_tell (S := cwmS S x tk vs) (MI_wm (m := (max (wmS S) (max (grS S) x.1 - alB (bkS S) (ntS S)))) i4) wl3 ⟨by show 0 ≤ (max (wmS S) (max (grS S) x.1 - alB (bkS S) (ntS S))); omega, by show (max (wmS S) (max (grS S) x.1 - alB (bkS S) (ntS S))) ≤ 2000; omega⟩ cp (fun h3 y3 i5 f3 g3 => ?_))
  refine Ev.sts 2 (c' := (191, [some (.inr (.inr (.inr (11, 0, 83)))), some (.inl (iZ (x.1))), some (.inl (iZ (x.2.1))), some (.inl (iZ (x.2.2.1))), some (.inl (iZ (x.2.2.2))), some (.inl (tk)), some (.inl (iZ ((bkS S).2.2.length)))], [.inl (tk)], h3)) rfl ?_
  refine Ev.callv (a := [.inl (tk)]) rfl (mp_ones htk) ?_
  exact Ev.ret rfl (q h3 y3 i5 (FM_trans FM_83s (FM_trans FM_giv (FM_trans (FM_95 e2 e1) (FM_trans FM_adM (FM_trans (FM_mono f2 (fun a ha => by unfold pg at ha; unfold pMo; omega)) (FM_trans FM_83s (FM_trans FM_83s f3))))))) ((g3 0 (by omega) (by omega)).trans (((setI_ne (by omega)).trans (setI_ne (by omega))).trans ((x2 0 (by omega)).trans th0))))

theorem mz_comma {d : Nat} {x : Ctx} {h : PH} {Q : Rs → PH → Prop} (hx : bX x) (ok : ¬ okX x) (q : Q (.inl (some (.inl (iZ 0)))) (setI (setI h 83 0 (iZ 0)) 83 0 (iZ 1))) : Rn (d + 2) 209 [.inr (.inr (.inr (11, 0, 83))), .inl (iZ (x.1)), .inl (iZ (x.2.1)), .inl (iZ (x.2.2.1)), .inl (iZ (x.2.2.2))] h Q := by
  refine Ev.sts 7 (c' := (10, [some (.inr (.inr (.inr (11, 0, 83)))), some (.inl (iZ (x.1))), some (.inl (iZ (x.2.1))), some (.inl (iZ (x.2.2.1))), some (.inl (iZ (x.2.2.2))), none, none], [.inl (iZ (x.2.2.2)), .inl (iZ (x.2.2.1)), .inl (iZ (x.2.1)), .inl (iZ (x.1))], (setI h 83 0 ((iZ (0)))))) rfl ?_
  refine Ev.callw (a := [.inl (iZ (x.1)), .inl (iZ (x.2.1)), .inl (iZ (x.2.2.1)), .inl (iZ (x.2.2.2))]) rfl (mp_isComma hx (fun z => absurd z ok) (fun _ => ?_))
  refine Ev.brF (p := ¬ (iZ (0)) = (iZ (0))) (c1 := (22, [some (.inr (.inr (.inr (11, 0, 83)))), some (.inl (iZ (x.1))), some (.inl (iZ (x.2.1))), some (.inl (iZ (x.2.2.1))), some (.inl (iZ (x.2.2.2))), none, none], [], (setI h 83 0 ((iZ (0)))))) (c2 := (16, [some (.inr (.inr (.inr (11, 0, 83)))), some (.inl (iZ (x.1))), some (.inl (iZ (x.2.1))), some (.inl (iZ (x.2.2.1))), some (.inl (iZ (x.2.2.2))), none, none], [], (setI h 83 0 ((iZ (0)))))) (by decide) rfl ?_
  refine Ev.sts 2 (c' := (18, [some (.inr (.inr (.inr (11, 0, 83)))), some (.inl (iZ (x.1))), some (.inl (iZ (x.2.1))), some (.inl (iZ (x.2.2.1))), some (.inl (iZ (x.2.2.2))), none, none], [.inl (iZ (1)), .inr (.inr (.inr (11, 0, 83)))], (setI h 83 0 ((iZ (0)))))) rfl ?_
  refine Ev.callv (a := [.inr (.inr (.inr (11, 0, 83))), .inl (iZ (1))]) rfl mp_fail ?_
  exact Ev.ret rfl (q)

theorem my_comma {d : Nat} {y : Y4} {S : Sta} {h : PH} {x : Ctx} {Q : Rs → PH → Prop} (I : MI h S y) (W : WN S) (hx : bX x) (ok : okX x) (hcs : ¬ (csS S).length < 120) (q : Q (.inl (some (.inl (iZ 0)))) (setI (setI h 83 0 (iZ 0)) 83 0 (iZ 2))) : Rn (d + 2) 209 [.inr (.inr (.inr (11, 0, 83))), .inl (iZ (x.1)), .inl (iZ (x.2.1)), .inl (iZ (x.2.2.1)), .inl (iZ (x.2.2.2))] h Q := by
  have W0 := W
  obtain ⟨⟨w1, w2, w3, w4, w5, w6⟩, w7, w8, w9, w10, w11, w12, w13, w14, w15, w16, w17, w18⟩ := W0
  have wB : bkN (bkS S) := ⟨w1, w2, w3, w4, w5, w6⟩
  refine Ev.sts 7 (c' := (10, [some (.inr (.inr (.inr (11, 0, 83)))), some (.inl (iZ (x.1))), some (.inl (iZ (x.2.1))), some (.inl (iZ (x.2.2.1))), some (.inl (iZ (x.2.2.2))), none, none], [.inl (iZ (x.2.2.2)), .inl (iZ (x.2.2.1)), .inl (iZ (x.2.1)), .inl (iZ (x.1))], (setI h 83 0 ((iZ (0)))))) rfl ?_
  refine Ev.callw (a := [.inl (iZ (x.1)), .inl (iZ (x.2.1)), .inl (iZ (x.2.2.1)), .inl (iZ (x.2.2.2))]) rfl (mp_isComma hx (fun _ => ?_) (fun z => absurd ok z))
  refine Ev.brT (p := ¬ (iZ (1)) = (iZ (0))) (c1 := (22, [some (.inr (.inr (.inr (11, 0, 83)))), some (.inl (iZ (x.1))), some (.inl (iZ (x.2.1))), some (.inl (iZ (x.2.2.1))), some (.inl (iZ (x.2.2.2))), none, none], [], (setI h 83 0 ((iZ (0)))))) (c2 := (16, [some (.inr (.inr (.inr (11, 0, 83)))), some (.inl (iZ (x.1))), some (.inl (iZ (x.2.1))), some (.inl (iZ (x.2.2.1))), some (.inl (iZ (x.2.2.2))), none, none], [], (setI h 83 0 ((iZ (0)))))) (by decide) rfl ?_
  refine Ev.sts 1 (c' := (23, [some (.inr (.inr (.inr (11, 0, 83)))), some (.inl (iZ (x.1))), some (.inl (iZ (x.2.1))), some (.inl (iZ (x.2.2.1))), some (.inl (iZ (x.2.2.2))), none, none], [.inr (.inr (.inr (11, 0, 83)))], (setI h 83 0 ((iZ (0)))))) rfl ?_
  refine Ev.gv (w := (iZ ((csS S).length))) rfl (mi_cs (MI_th (v := iZ 0) I)).1 ?_
  refine Ev.sts 1 (c' := (28, [some (.inr (.inr (.inr (11, 0, 83)))), some (.inl (iZ (x.1))), some (.inl (iZ (x.2.1))), some (.inl (iZ (x.2.2.1))), some (.inl (iZ (x.2.2.2))), none, none], [.inl (iZ (120)), .inl (iZ ((csS S).length))], (setI h 83 0 ((iZ (0)))))) rfl ?_
  refine Ev.brF (p := ¬ (iZ ((csS S).length)) = (iZ (120))) (c1 := (37, [some (.inr (.inr (.inr (11, 0, 83)))), some (.inl (iZ (x.1))), some (.inl (iZ (x.2.1))), some (.inl (iZ (x.2.2.1))), some (.inl (iZ (x.2.2.2))), none, none], [], (setI h 83 0 ((iZ (0)))))) (c2 := (31, [some (.inr (.inr (.inr (11, 0, 83)))), some (.inl (iZ (x.1))), some (.inl (iZ (x.2.1))), some (.inl (iZ (x.2.2.1))), some (.inl (iZ (x.2.2.2))), none, none], [], (setI h 83 0 ((iZ (0)))))) (fun c_ => absurd ((not_congr (iZ_eq ⟨by omega, by omega⟩ ⟨by omega, by omega⟩)).mp c_) (by omega)) rfl ?_
  refine Ev.sts 2 (c' := (33, [some (.inr (.inr (.inr (11, 0, 83)))), some (.inl (iZ (x.1))), some (.inl (iZ (x.2.1))), some (.inl (iZ (x.2.2.1))), some (.inl (iZ (x.2.2.2))), none, none], [.inl (iZ (2)), .inr (.inr (.inr (11, 0, 83)))], (setI h 83 0 ((iZ (0)))))) rfl ?_
  refine Ev.callv (a := [.inr (.inr (.inr (11, 0, 83))), .inl (iZ (2))]) rfl mp_fail ?_
  exact Ev.ret rfl (q)

