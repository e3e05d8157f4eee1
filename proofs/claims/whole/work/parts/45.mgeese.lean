/-! The reference: a comma in all geese. -/
def mgI (h : PH) (B : Bk) (x : Ctx) (wm : Int) (T : List Tel) (ws : Nat → List Win) (lt : Nat → Nat) (y : Y4) : Prop := Sh h ∧ bkM h B ∧ givM h x ∧ h.1 83 27 = iZ wm ∧ (∀ g, g < 6 → h.1 99 g = iZ (lt g)) ∧ opM h (allW ws) y.1 y.2.1 ∧ tmM h T y.2.2.1 y.2.2.2 ∧ y.2.2.2 ≠ y.2.1 ∧ 103 ≤ hN h
def pg (a : Nat) : Prop := a = 83 ∨ a = 95 ∨ a = 99
def E83 (h h' : PH) : Prop := ∀ k, k ≠ 30 → h'.1 83 k = h.1 83 k
theorem alW_B {ws : Nat → List Win} {N : Int} (hw : ∀ g, g < 6 → wsB N (ws g)) : tsB N (allW ws) := by
  intro j hj
  have hm : (allW ws).getD j t0 ∈ allW ws := by
    rw [List.getD_eq_getElem?_getD, List.getElem?_eq_getElem hj]
    exact List.getElem_mem hj
  obtain ⟨a, b, c⟩ := alW_mem 6 0 _ hm
  obtain ⟨k, hk, e⟩ := List.getElem_of_mem c
  refine ⟨by omega, ?_⟩
  have := hw _ (by omega) k hk
  rw [List.getD_eq_getElem?_getD, List.getElem?_eq_getElem hk] at this
  rw [← e]; exact this
theorem tmM_eq {h h1 : PH} {T : List Tel} {nt t : Nat} (tm : tmM h T nt t) (e32 : h1.1 83 32 = h.1 83 32) (e31 : h1.2.2.1 83 31 = h.2.2.1 83 31) (et : h1.1 t = h.1 t) (en : hN h ≤ hN h1) : tmM h1 T nt t := by
  obtain ⟨p1, p2, p3, p4, p5, p6, p7⟩ := tm
  refine ⟨e32.trans p1, p2, p3, p4, e31.trans p5, ⟨p6.1, by have := p6.2; omega⟩, fun j hj => ?_⟩
  unfold rT
  rw [et]
  exact p7 j hj
theorem mg_cnt {h h0 h1 : PH} {B : Bk} {x : Ctx} {wm : Int} {T : List Tel} {ws ws' : Nat → List Win} {lt : Nat → Nat} {y : Y4} {n1 c1 : Nat} (I : mgI h B x wm T ws lt y) (e2 : h0.2 = h.2) (e1 : ∀ a, a ≠ 95 → h0.1 a = h.1 a) (op1 : opM h1 (allW ws') n1 c1) (f : fm h0 h1 y.2.1 c1 y.1 n1) : mgI h1 B x wm T ws' lt (n1, c1, y.2.2.1, y.2.2.2) ∧ FM pg h h1 y (n1, c1, y.2.2.1, y.2.2.2) ∧ E83 h h1 := by
  obtain ⟨i1, i2, i3, i4, i5, i6, i7, i8, i9⟩ := I
  have hc := i6.2.2.2.2.2.1
  have ht := i7.2.2.2.2.2.1
  have en : hN h0 = hN h := by unfold hN; rw [e2]
  have s0 := Sh_eq i1 e2
  have fe : ∀ a, a ≠ 83 → a ≠ 95 → a ≠ y.2.1 → a < hN h → h1.1 a = h.1 a := fun a a1 a2 a3 a4 => (f.2.2.1 a a1 a3 (by omega)).trans (e1 a a2)
  have fc : ∀ a, a ≠ 83 → a ≠ 95 → a ≠ 100 → a ≠ 101 → a < 103 → h1.1 a = h.1 a := fun a a1 a2 a3 a4 a5 => fe a a1 a2 (Ne.symm (aO_ne hc a3 a4 a5)) (by omega)
  have f83 : E83 h h1 := fun k hk => (f.2.2.2.1 k hk).trans (by rw [e1 83 (by omega)])
  have fn := f.2.2.2.2.1
  have f9 := f.2.2.2.2.2.2.2.2
  refine ⟨⟨Sh_fm s0 f, bkM_eq (fc 93 (by omega) (by omega) (by omega) (by omega) (by omega)) (fc 94 (by omega) (by omega) (by omega) (by omega) (by omega)) i2, ?_, (f83 27 (by omega)).trans i4, ?_, op1, tmM_eq i7 (f83 32 (by omega)) ((f.2.1 83 31 (by omega)).trans (by rw [e2])) (fe _ (aO_ne ht (by omega) (by omega) (by omega)) (aO_ne ht (by omega) (by omega) (by omega)) i8 ht.2) (by omega), ?_, by omega⟩, FM_trans (FM_of e2 (fun a ha => e1 a (fun z => ha (Or.inr (Or.inl z))))) (FM_mono (FM_fm f) (fun a ha => Or.inl ha)), f83⟩
  · unfold givM; rw [fc 98 (by omega) (by omega) (by omega) (by omega) (by omega)]; exact i3
  · rw [fc 99 (by omega) (by omega) (by omega) (by omega) (by omega)]; exact i5
  · show y.2.2.2 ≠ c1
    have := ht.2
    rcases f9 with f9 | f9
    · rw [f9]; exact i8
    · omega
theorem mg_late {h : PH} {B : Bk} {x : Ctx} {wm : Int} {T : List Tel} {ws : Nat → List Win} {lt lt' : Nat → Nat} {y : Y4} {g : Nat} {v : Int32} (I : mgI h B x wm T ws lt y) (hl : ∀ g2, g2 < 6 → (if g2 = g then v else iZ (lt g2)) = iZ (lt' g2)) : mgI (setI h 99 g v) B x wm T ws lt' y ∧ FM pg h (setI h 99 g v) y y ∧ E83 h (setI h 99 g v) := by
  obtain ⟨i1, i2, i3, i4, i5, i6, i7, i8, i9⟩ := I
  have hc := i6.2.2.2.2.2.1
  have ht := i7.2.2.2.2.2.1
  refine ⟨⟨Sh_eq i1 rfl, bkM_eq (setI_oth (by omega)) (setI_oth (by omega)) i2, ?_, (setI_ne (by omega)).trans i4, fun g2 hg2 => ?_, opM_eq i6 (setI_ne (by omega)) rfl (setI_oth (aO_ne hc (by omega) (by omega) (by omega))) (Nat.le_refl _), tmM_eq i7 (setI_ne (by omega)) rfl (setI_oth (aO_ne ht (by omega) (by omega) (by omega))) (Nat.le_refl _), i8, i9⟩, FM_of rfl (fun a ha => setI_oth (fun z => ha (Or.inr (Or.inr z)))), fun k _ => setI_ne (by omega)⟩
  · unfold givM; rw [setI_oth (b := 98) (by omega)]; exact i3
  · rw [← hl g2 hg2]
    by_cases c : g2 = g
    · rw [if_pos c, c, setI_self]
    · rw [if_neg c, setI_ne (fun z => c z.2)]; exact i5 g2 hg2
theorem mp_cg_one {d g : Nat} {wm N : Int} {x : Ctx} {tk : Int32} {vs : Nat → Int32} {B : Bk} {T : List Tel} {ws : Nat → List Win} {lt : Nat → Nat} {y : Y4} {h : PH} {Q : Rs → PH → Prop} (I : mgI h B x wm T ws lt y) (wB : bkN B) (w7 : ∀ g, g < B.2.2.length → (B.2.2.getD g g0).2.2.1 = 0 ∨ (B.2.2.getD g g0).2.1 < 7 * (B.2.2.getD g g0).2.2.1) (hgl : g < B.2.2.length) (wl : ∀ g2, wsB N (ws g2)) (hN0 : 0 ≤ N) (hN2 : N ≤ 1600) (hML : (allW ws).length ≤ 8000) (u : unW (ws g)) (hh : 0 ≤ x.1 ∧ x.1 < 1000) (hm : 0 ≤ wm ∧ wm < 3000) (vr : vsR B x (iZ 0) vs) (q : ∀ h1 y1, mgI h1 B x wm T (fun g2 => if g2 = g then (gst B x.1 wm tk vs g (ws g) (lt g)).1 else ws g2) (fun g2 => if g2 = g then (gst B x.1 wm tk vs g (ws g) (lt g)).2 else lt g2) y1 → FM pg h h1 y y1 → E83 h h1 → Ev (d + 3) 209 (86, [some (.inr (.inr (.inr (11, 0, 83)))), some (.inl (iZ (x.1))), some (.inl (iZ (x.2.1))), some (.inl (iZ (x.2.2.1))), some (.inl (iZ (x.2.2.2))), some (.inl (tk)), some (.inl (iZ ((g + 1 : Nat))))], [], h1) Q) : Ev (d + 3) 209 (86, [some (.inr (.inr (.inr (11, 0, 83)))), some (.inl (iZ (x.1))), some (.inl (iZ (x.2.1))), some (.inl (iZ (x.2.2.1))), some (.inl (iZ (x.2.2.2))), some (.inl (tk)), some (.inl (iZ (g)))], [], h) Q := by
  have w5 := wB.2.2.2.2.1
  have hg : g < 6 := by omega
  have v0 := wB.2.2.2.2.2 g hgl
  have h70 := w7 g hgl
  have gm0 := I.2.1.2.2.2.2.2 g hgl
  obtain ⟨G, hG⟩ : ∃ G, G = B.2.2.getD g g0 := ⟨_, rfl⟩
  have vrg := vr g hgl
  rw [← hG] at v0 h70 gm0 vrg
  obtain ⟨v1, v2, v3, v4, v5, htl⟩ := v0
  have gm := gm0
  obtain ⟨gm1, gm2, gm3, gm4, -⟩ := gm0
  have g4 : 1 ≤ G.2.1 ∧ G.2.1 ≤ 200 := ⟨v2, v3⟩
  have g5 : 0 ≤ G.2.2.1 ∧ G.2.2.1 ≤ G.2.1 := ⟨v4, v5⟩
  have ca := cnt_all (wm := wm) (v := vs g) hg u hh g4 g5 h70
  refine Ev.sts 2 (c' := (89, [some (.inr (.inr (.inr (11, 0, 83)))), some (.inl (iZ (x.1))), some (.inl (iZ (x.2.1))), some (.inl (iZ (x.2.2.1))), some (.inl (iZ (x.2.2.2))), some (.inl (tk)), some (.inl (iZ (g)))], [.inr (.inr (.inr (11, 0, 83))), .inl (iZ (g))], h)) rfl ?_
  refine Ev.gfr (r := (20, 64, 93)) rfl (sh_83_18 I.1) ?_
  refine Ev.sts 1 (c' := (93, [some (.inr (.inr (.inr (11, 0, 83)))), some (.inl (iZ (x.1))), some (.inl (iZ (x.2.1))), some (.inl (iZ (x.2.2.1))), some (.inl (iZ (x.2.2.2))), some (.inl (tk)), some (.inl (iZ (g)))], [.inl (iZ (1)), .inr (.inr (.inr (20, 64, 93))), .inl (iZ (g))], h)) rfl ?_
  refine Ev.ldv (j := (iZ (1))) (n := 64) (w := .inl (iZ (B.2.2.length))) (by decide) rfl (congrArg vI I.2.1.2.1) ?_
  refine Ev.brF (p := (iZ (B.2.2.length)) ≤ (iZ (g))) (c1 := (152, [some (.inr (.inr (.inr (11, 0, 83)))), some (.inl (iZ (x.1))), some (.inl (iZ (x.2.1))), some (.inl (iZ (x.2.2.1))), some (.inl (iZ (x.2.2.2))), some (.inl (tk)), some (.inl (iZ (g)))], [], h)) (c2 := (97, [some (.inr (.inr (.inr (11, 0, 83)))), some (.inl (iZ (x.1))), some (.inl (iZ (x.2.1))), some (.inl (iZ (x.2.2.1))), some (.inl (iZ (x.2.2.2))), some (.inl (tk)), some (.inl (iZ (g)))], [], h)) (fun c_ => absurd ((iZ_le ⟨by omega, by omega⟩ ⟨by omega, by omega⟩).mp c_) (by omega)) rfl ?_
  refine Ev.sts 4 (c' := (103, [some (.inr (.inr (.inr (11, 0, 83)))), some (.inl (iZ (x.1))), some (.inl (iZ (x.2.1))), some (.inl (iZ (x.2.2.1))), some (.inl (iZ (x.2.2.2))), some (.inl (tk)), some (.inl (iZ (g)))], [.inl (iZ (0)), .inl (iZ (g)), .inr (.inr (.inr (11, 0, 83))), .inl (tk)], h)) rfl ?_
  refine Ev.callv (a := [.inr (.inr (.inr (11, 0, 83))), .inl (iZ (g)), .inl (iZ (0))]) rfl (mp_of0 (g := g) (y := G.1) I.1 (by omega) rfl gm1) ?_
  refine Ev.sts 3 (c' := (109, [some (.inr (.inr (.inr (11, 0, 83)))), some (.inl (iZ (x.1))), some (.inl (iZ (x.2.1))), some (.inl (iZ (x.2.2.1))), some (.inl (iZ (x.2.2.2))), some (.inl (tk)), some (.inl (iZ (g)))], [.inl (((tk >>> ((iZ (G.1)) &&& 31)) &&& (iZ (1))))], h)) rfl ?_
  refine Ev.br (p := ¬ ((tk >>> ((iZ (G.1)) &&& 31)) &&& (iZ (1))) = (iZ (0))) (c1 := (115, [some (.inr (.inr (.inr (11, 0, 83)))), some (.inl (iZ (x.1))), some (.inl (iZ (x.2.1))), some (.inl (iZ (x.2.2.1))), some (.inl (iZ (x.2.2.2))), some (.inl (tk)), some (.inl (iZ (g)))], [], h)) (c2 := (112, [some (.inr (.inr (.inr (11, 0, 83)))), some (.inl (iZ (x.1))), some (.inl (iZ (x.2.1))), some (.inl (iZ (x.2.2.1))), some (.inl (iZ (x.2.2.2))), some (.inl (tk)), some (.inl (iZ (g)))], [], h)) rfl (fun c0 => ?_) (fun c0 => ?_)
  · refine Ev.sts 3 (c' := (119, [some (.inr (.inr (.inr (11, 0, 83)))), some (.inl (iZ (x.1))), some (.inl (iZ (x.2.1))), some (.inl (iZ (x.2.2.1))), some (.inl (iZ (x.2.2.2))), some (.inl (tk)), some (.inl (iZ (g)))], [.inl (iZ (x.1)), .inl (iZ (g)), .inr (.inr (.inr (11, 0, 83)))], h)) rfl ?_
    refine Ev.callw (a := [.inr (.inr (.inr (11, 0, 83))), .inl (iZ (g)), .inl (iZ (x.1))]) rfl (mp_isLate I.1 hg gm hh g4 ⟨g5.1, by omega⟩ I.2.2.2.1 hm (fun c1 => ?_) (fun c1 => ?_))
    · refine Ev.brF (p := (iZ (1)) = (iZ (0))) (c1 := (139, [some (.inr (.inr (.inr (11, 0, 83)))), some (.inl (iZ (x.1))), some (.inl (iZ (x.2.1))), some (.inl (iZ (x.2.2.1))), some (.inl (iZ (x.2.2.2))), some (.inl (tk)), some (.inl (iZ (g)))], [], h)) (c2 := (125, [some (.inr (.inr (.inr (11, 0, 83)))), some (.inl (iZ (x.1))), some (.inl (iZ (x.2.1))), some (.inl (iZ (x.2.2.1))), some (.inl (iZ (x.2.2.2))), some (.inl (tk)), some (.inl (iZ (g)))], [], h)) (by decide) rfl ?_
      refine Ev.sts 1 (c' := (126, [some (.inr (.inr (.inr (11, 0, 83)))), some (.inl (iZ (x.1))), some (.inl (iZ (x.2.1))), some (.inl (iZ (x.2.2.1))), some (.inl (iZ (x.2.2.2))), some (.inl (tk)), some (.inl (iZ (g)))], [.inr (.inr (.inr (11, 0, 83)))], h)) rfl ?_
      refine Ev.gfr (r := (20, 6, 99)) rfl (sh_83_28 I.1) ?_
      refine Ev.sts 2 (c' := (132, [some (.inr (.inr (.inr (11, 0, 83)))), some (.inl (iZ (x.1))), some (.inl (iZ (x.2.1))), some (.inl (iZ (x.2.2.1))), some (.inl (iZ (x.2.2.2))), some (.inl (tk)), some (.inl (iZ (g)))], [.inl (iZ (g)), .inr (.inr (.inr (20, 6, 99))), .inl (iZ (g)), .inr (.inr (.inr (20, 6, 99)))], h)) rfl ?_
      refine Ev.ldv (j := (iZ (g))) (n := 6) (w := .inl (iZ (lt g))) (iZ_in (by omega) (by omega) (by omega)) rfl (by rw [iZ_ix (n := g) (by omega) (by omega)]; exact congrArg vI (I.2.2.2.2.1 g hg)) ?_
      refine Ev.sts 1 (c' := (134, [some (.inr (.inr (.inr (11, 0, 83)))), some (.inl (iZ (x.1))), some (.inl (iZ (x.2.1))), some (.inl (iZ (x.2.2.1))), some (.inl (iZ (x.2.2.2))), some (.inl (tk)), some (.inl (iZ (g)))], [.inl (iZ (1)), .inl (iZ (lt g)), .inl (iZ (g)), .inr (.inr (.inr (20, 6, 99)))], h)) rfl ?_
      refine Ev.gv (w := (iZ ((lt g) + 1))) rfl (iZ_add _ _) ?_
      refine Ev.sto (j := (iZ (g))) (n := 6) (h2 := (setI h 99 g ((iZ ((lt g) + 1))))) (iZ_in (by omega) (by omega) (by omega)) rfl (by rw [iZ_ix (n := g) (by omega) (by omega)]) ?_
      refine Ev.sts 1 (c' := (146, [some (.inr (.inr (.inr (11, 0, 83)))), some (.inl (iZ (x.1))), some (.inl (iZ (x.2.1))), some (.inl (iZ (x.2.2.1))), some (.inl (iZ (x.2.2.2))), some (.inl (tk)), some (.inl (iZ (g)))], [], (setI h 99 g ((iZ ((lt g) + 1)))))) rfl ?_
      refine Ev.stc (c1 := (149, [some (.inr (.inr (.inr (11, 0, 83)))), some (.inl (iZ (x.1))), some (.inl (iZ (x.2.1))), some (.inl (iZ (x.2.2.1))), some (.inl (iZ (x.2.2.2))), some (.inl (tk)), some (.inl ((iZ (g)) + (iZ (1))))], [], (setI h 99 g ((iZ ((lt g) + 1)))))) (c2 := (149, [some (.inr (.inr (.inr (11, 0, 83)))), some (.inl (iZ (x.1))), some (.inl (iZ (x.2.1))), some (.inl (iZ (x.2.2.1))), some (.inl (iZ (x.2.2.2))), some (.inl (tk)), some (.inl (iZ (g + 1)))], [], (setI h 99 g ((iZ ((lt g) + 1)))))) rfl (by rw [iZ_add]) ?_
      refine Ev.sts 1 (c' := (86, [some (.inr (.inr (.inr (11, 0, 83)))), some (.inl (iZ (x.1))), some (.inl (iZ (x.2.1))), some (.inl (iZ (x.2.2.1))), some (.inl (iZ (x.2.2.2))), some (.inl (tk)), some (.inl (iZ (g + 1)))], [], (setI h 99 g ((iZ ((lt g) + 1)))))) rfl ?_
      have hb1 : bitv tk (iZ (G.1 : Int)) = iZ 1 := (and1 (tk >>> (iZ (G.1 : Int) &&& 31))).elim (fun e => absurd e c0) (fun e => e)
      have eg : gst B x.1 wm tk vs g (ws g) (lt g) = (ws g, lt g + 1) := gst_l ⟨hgl, hG ▸ hb1⟩ (hG ▸ c1)
      rw [eg] at q
      have ml := mg_late (g := g) (v := iZ ((lt g : Int) + 1)) (lt' := fun g2 => if g2 = g then lt g + 1 else lt g2) I (fun g2 _ => by
        by_cases e : g2 = g
        · rw [if_pos e, if_pos e]; rfl
        · rw [if_neg e, if_neg e])
      refine q _ y ?_ ml.2.1 ml.2.2
      rw [show (fun g2 => if g2 = g then (ws g, lt g + 1).1 else ws g2) = ws from upW_id ws g]
      exact ml.1
    · refine Ev.brT (p := (iZ (0)) = (iZ (0))) (c1 := (139, [some (.inr (.inr (.inr (11, 0, 83)))), some (.inl (iZ (x.1))), some (.inl (iZ (x.2.1))), some (.inl (iZ (x.2.2.1))), some (.inl (iZ (x.2.2.2))), some (.inl (tk)), some (.inl (iZ (g)))], [], h)) (c2 := (125, [some (.inr (.inr (.inr (11, 0, 83)))), some (.inl (iZ (x.1))), some (.inl (iZ (x.2.1))), some (.inl (iZ (x.2.2.1))), some (.inl (iZ (x.2.2.2))), some (.inl (tk)), some (.inl (iZ (g)))], [], h)) (by decide) rfl ?_
      refine Ev.sts 3 (c' := (143, [some (.inr (.inr (.inr (11, 0, 83)))), some (.inl (iZ (x.1))), some (.inl (iZ (x.2.1))), some (.inl (iZ (x.2.2.1))), some (.inl (iZ (x.2.2.2))), some (.inl (tk)), some (.inl (iZ (g)))], [.inl (iZ (x.1)), .inl (iZ (g)), .inr (.inr (.inr (11, 0, 83)))], h)) rfl ?_
      refine Ev.callw (a := [.inr (.inr (.inr (11, 0, 83))), .inl (iZ (g)), .inl (iZ (x.1))]) rfl (mp_count (G := G) (v := vs g) I.1 I.2.2.2.2.2.1 gm I.2.2.1 hg (alW_B (fun g2 _ => wl g2)) hN0 (by omega) hML I.2.2.2.1 hm I.2.2.2.2.2.2.2.2 hh g4 ⟨g5.1, by omega⟩ htl vrg ca.2 (fun h0 h1 n1 k9 e2 e1 op1 f1 => ?_))
      refine Ev.stc (c1 := (149, [some (.inr (.inr (.inr (11, 0, 83)))), some (.inl (iZ (x.1))), some (.inl (iZ (x.2.1))), some (.inl (iZ (x.2.2.1))), some (.inl (iZ (x.2.2.2))), some (.inl (tk)), some (.inl ((iZ (g)) + (iZ (1))))], [], h1)) (c2 := (149, [some (.inr (.inr (.inr (11, 0, 83)))), some (.inl (iZ (x.1))), some (.inl (iZ (x.2.1))), some (.inl (iZ (x.2.2.1))), some (.inl (iZ (x.2.2.2))), some (.inl (tk)), some (.inl (iZ (g + 1)))], [], h1)) rfl (by rw [iZ_add]) ?_
      refine Ev.sts 1 (c' := (86, [some (.inr (.inr (.inr (11, 0, 83)))), some (.inl (iZ (x.1))), some (.inl (iZ (x.2.1))), some (.inl (iZ (x.2.2.1))), some (.inl (iZ (x.2.2.2))), some (.inl (tk)), some (.inl (iZ (g + 1)))], [], h1)) rfl ?_
      have hb1 : bitv tk (iZ (G.1 : Int)) = iZ 1 := (and1 (tk >>> (iZ (G.1 : Int) &&& 31))).elim (fun e => absurd e c0) (fun e => e)
      have eg : gst B x.1 wm tk vs g (ws g) (lt g) = ((if G.2.2.1 = 0 then cgap x.1 G.2.1 G.2.2.2.1 (vs g) (ws g) else cev G.2.1 G.2.2.1 x.1 wm G.2.2.2.1 (vs g) 7 (ws g) (x.1 - x.1 % G.2.2.1)), lt g) := by
        by_cases c2 : G.2.2.1 = 0
        · rw [if_pos c2]; rw [hG] at hb1 c1 c2 ⊢; exact gst_g ⟨hgl, hb1⟩ c1 c2
        · rw [if_neg c2]; rw [hG] at hb1 c1 c2 ⊢; exact gst_e ⟨hgl, hb1⟩ c1 c2
      rw [eg] at q
      rw [ca.1] at op1
      have mc := mg_cnt I e2 e1 op1 f1
      refine q h1 _ ?_ mc.2.1 mc.2.2
      rw [show (fun g2 => if g2 = g then ((if G.2.2.1 = 0 then cgap x.1 G.2.1 G.2.2.2.1 (vs g) (ws g) else cev G.2.1 G.2.2.1 x.1 wm G.2.2.2.1 (vs g) 7 (ws g) (x.1 - x.1 % G.2.2.1)), lt g).2 else lt g2) = lt by
        funext g2
        by_cases e : g2 = g
        · rw [if_pos e, e]
        · rw [if_neg e]]
      exact mc.1
  · refine Ev.sts 1 (c' := (146, [some (.inr (.inr (.inr (11, 0, 83)))), some (.inl (iZ (x.1))), some (.inl (iZ (x.2.1))), some (.inl (iZ (x.2.2.1))), some (.inl (iZ (x.2.2.2))), some (.inl (tk)), some (.inl (iZ (g)))], [], h)) rfl ?_
    refine Ev.stc (c1 := (149, [some (.inr (.inr (.inr (11, 0, 83)))), some (.inl (iZ (x.1))), some (.inl (iZ (x.2.1))), some (.inl (iZ (x.2.2.1))), some (.inl (iZ (x.2.2.2))), some (.inl (tk)), some (.inl ((iZ (g)) + (iZ (1))))], [], h)) (c2 := (149, [some (.inr (.inr (.inr (11, 0, 83)))), some (.inl (iZ (x.1))), some (.inl (iZ (x.2.1))), some (.inl (iZ (x.2.2.1))), some (.inl (iZ (x.2.2.2))), some (.inl (tk)), some (.inl (iZ (g + 1)))], [], h)) rfl (by rw [iZ_add]) ?_
    refine Ev.sts 1 (c' := (86, [some (.inr (.inr (.inr (11, 0, 83)))), some (.inl (iZ (x.1))), some (.inl (iZ (x.2.1))), some (.inl (iZ (x.2.2.1))), some (.inl (iZ (x.2.2.2))), some (.inl (tk)), some (.inl (iZ (g + 1)))], [], h)) rfl ?_
    have eg : gst B x.1 wm tk vs g (ws g) (lt g) = (ws g, lt g) := gst_n (fun z => by
      rw [← hG] at z
      have z2 : (tk >>> (iZ (G.1 : Int) &&& 31)) &&& iZ 1 = iZ 1 := z.2
      have c1 : (tk >>> (iZ (G.1 : Int) &&& 31)) &&& iZ 1 = iZ 0 := Classical.not_not.mp c0
      rw [z2] at c1
      exact absurd c1 (by decide))
    rw [eg] at q
    refine q h y ?_ (FM_refl _ _ _) (fun _ _ => rfl)
    rw [show (fun g2 => if g2 = g then (ws g, lt g).1 else ws g2) = ws from upW_id ws g]
    rw [show (fun g2 => if g2 = g then (ws g, lt g).2 else lt g2) = lt by
      funext g2
      by_cases e : g2 = g
      · rw [if_pos e, e]
      · rw [if_neg e]]
    exact I

