/-! The class: a comma in the geese; what is over. -/
/-- what one comma makes of a goose's windows and of how often it was late -/
def gst (B : Bk) (hr wm : Int) (tk : Int32) (vs : Nat → Int32) (g : Nat) (W : List Win) (l : Nat) : List Win × Nat :=
  if g < B.2.2.length ∧ bitv tk (iZ (B.2.2.getD g g0).1) = iZ 1 then
    (if hr - hr % (if (B.2.2.getD g g0).2.2.1 = 0 then 1 else (B.2.2.getD g g0).2.2.1) + (B.2.2.getD g g0).2.1 ≤ wm then (W, l + 1)
     else if (B.2.2.getD g g0).2.2.1 = 0 then (cgap hr (B.2.2.getD g g0).2.1 (B.2.2.getD g g0).2.2.2.1 (vs g) W, l)
     else (cev (B.2.2.getD g g0).2.1 (B.2.2.getD g g0).2.2.1 hr wm (B.2.2.getD g g0).2.2.2.1 (vs g) 7 W (hr - hr % (B.2.2.getD g g0).2.2.1), l)) else (W, l)
theorem gst_n {B : Bk} {hr wm : Int} {tk : Int32} {vs : Nat → Int32} {g : Nat} {W : List Win} {l : Nat} (c : ¬ (g < B.2.2.length ∧ bitv tk (iZ (B.2.2.getD g g0).1) = iZ 1)) : gst B hr wm tk vs g W l = (W, l) := if_neg c
theorem gst_l {B : Bk} {hr wm : Int} {tk : Int32} {vs : Nat → Int32} {g : Nat} {W : List Win} {l : Nat} (c : g < B.2.2.length ∧ bitv tk (iZ (B.2.2.getD g g0).1) = iZ 1) (c2 : hr - hr % (if (B.2.2.getD g g0).2.2.1 = 0 then 1 else (B.2.2.getD g g0).2.2.1) + (B.2.2.getD g g0).2.1 ≤ wm) : gst B hr wm tk vs g W l = (W, l + 1) := (if_pos c).trans (if_pos c2)
theorem gst_g {B : Bk} {hr wm : Int} {tk : Int32} {vs : Nat → Int32} {g : Nat} {W : List Win} {l : Nat} (c : g < B.2.2.length ∧ bitv tk (iZ (B.2.2.getD g g0).1) = iZ 1) (c2 : ¬ hr - hr % (if (B.2.2.getD g g0).2.2.1 = 0 then 1 else (B.2.2.getD g g0).2.2.1) + (B.2.2.getD g g0).2.1 ≤ wm) (c3 : (B.2.2.getD g g0).2.2.1 = 0) : gst B hr wm tk vs g W l = (cgap hr (B.2.2.getD g g0).2.1 (B.2.2.getD g g0).2.2.2.1 (vs g) W, l) := (if_pos c).trans ((if_neg c2).trans (if_pos c3))
theorem gst_e {B : Bk} {hr wm : Int} {tk : Int32} {vs : Nat → Int32} {g : Nat} {W : List Win} {l : Nat} (c : g < B.2.2.length ∧ bitv tk (iZ (B.2.2.getD g g0).1) = iZ 1) (c2 : ¬ hr - hr % (if (B.2.2.getD g g0).2.2.1 = 0 then 1 else (B.2.2.getD g g0).2.2.1) + (B.2.2.getD g g0).2.1 ≤ wm) (c3 : ¬ (B.2.2.getD g g0).2.2.1 = 0) : gst B hr wm tk vs g W l = (cev (B.2.2.getD g g0).2.1 (B.2.2.getD g g0).2.2.1 hr wm (B.2.2.getD g g0).2.2.2.1 (vs g) 7 W (hr - hr % (B.2.2.getD g g0).2.2.1), l) := (if_pos c).trans ((if_neg c2).trans (if_neg c3))
/-- values of a comma for the geese -/
def vsR (B : Bk) (x : Ctx) (tk : Int32) (vs : Nat → Int32) : Prop := ∀ g, g < B.2.2.length → ((B.2.2.getD g g0).2.2.2.1 = 0 ∧ vs g = iZ 1) ∨ ((B.2.2.getD g g0).2.2.2.1 ≠ 0 ∧ evs (B.2.2.getD g g0).2.2.2.2 x tk [] [vs g])
/-- windows and lates of all geese -/
def wsC (h : PH) (ws : Nat → List Win) (lt : Nat → Nat) : Prop := ∀ g, g < 6 → winC h g (ws g) ∧ h.1 (32 + 5 * g) 5 = iZ (lt g)
/-- what counting changes -/
def fc (b : Nat) (h h' : PH) : Prop := h'.2 = h.2 ∧ ∀ a, a ≠ b + 5 → a ≠ b + 8 → (a < 32 ∨ 61 < a) → h'.1 a = h.1 a
theorem fc_refl (b : Nat) (h : PH) : fc b h h := ⟨rfl, fun _ _ _ _ => rfl⟩
theorem fc_trans {b : Nat} {h h1 h2 : PH} (a : fc b h h1) (c : fc b h1 h2) : fc b h h2 := ⟨c.1.trans a.1, fun x p1 p2 p3 => (c.2 x p1 p2 p3).trans (a.2 x p1 p2 p3)⟩
theorem fc_fp {b : Nat} {h h1 : PH} (f : fp b h h1) : fc b h h1 := ⟨f.1, fun a p1 p2 _ => f.2.1 a p1 p2⟩
theorem fc_fw {b g : Nat} {h h1 : PH} (hg : g < 6) (f : fw g h h1) : fc b h h1 := ⟨f.1, fun a _ _ p => f.2.1 a (by omega)⟩
theorem fc_lt {b g : Nat} {h : PH} {v : Int32} (hg : g < 6) : fc b h (setI h (32 + 5 * g) 5 v) := ⟨rfl, fun a _ _ p => setI_oth (by omega)⟩
theorem wsC_fp {h h' : PH} {b : Nat} {ws : Nat → List Win} {lt : Nat → Nat} (hb : b = 13 ∨ b = 68) (f : fp b h h') (w : wsC h ws lt) : wsC h' ws lt := by
  intro g hg
  exact ⟨winC_eq (fun a h1 h2 => f.2.1 a (by omega) (by omega)) (w g hg).1, by rw [f.2.1 (32 + 5 * g) (by omega) (by omega)]; exact (w g hg).2⟩
theorem moC_eq {h h' : PH} {b : Nat} {M : List Int} (e1 : h'.1 b = h.1 b) (e2 : h'.1 (b + 1) = h.1 (b + 1)) (m : moC h b M) : moC h' b M := by
  unfold moC
  rw [e1, e2]
  exact m
theorem bkC_eq {h h' : PH} {b : Nat} {B : Bk} (e2 : h'.2 = h.2) (e : ∀ a, b ≤ a → a ≤ b + 14 → a ≠ b + 5 → a ≠ b + 8 → h'.1 a = h.1 a) (w5 : B.2.2.length ≤ 6) (k : bkC h b B) : bkC h' b B := by
  obtain ⟨k1, k2, k3, k4, k5⟩ := k
  have pg : ∀ k l, pgC h b k l → pgC h' b k l := by
    intro k l p j hj
    obtain ⟨p1, p2⟩ := p j hj
    exact ⟨by rw [e2]; exact p1, by rw [e (b + 7) (by omega) (by omega) (by omega) (by omega)]; exact p2⟩
  refine ⟨moC_eq (e b (by omega) (by omega) (by omega) (by omega)) (e (b + 1) (by omega) (by omega) (by omega) (by omega)) k1, ?_, ?_, fun f hf => ?_, fun g hg => ?_⟩
  · rw [e b (by omega) (by omega) (by omega) (by omega)]; exact k2
  · rw [e b (by omega) (by omega) (by omega) (by omega)]; exact k3
  · obtain ⟨k, t1, t2, t3, t4⟩ := k4 f hf
    exact ⟨k, t1, by rw [e (b + 2) (by omega) (by omega) (by omega) (by omega)]; exact t2, by rw [e (b + 3) (by omega) (by omega) (by omega) (by omega)]; exact t3, pg _ _ t4⟩
  · obtain ⟨g1, g2, g3, g4, g5, k, t1, t2, t3, t4⟩ := k5 g hg
    have eg := e (b + 9 + g) (by omega) (by omega) (by omega) (by omega)
    unfold gsC
    rw [eg]
    exact ⟨g1, g2, g3, g4, by rw [e2]; exact g5, k, t1, t2, t3, pg _ _ t4⟩
theorem bkC_fc {h h' : PH} {b : Nat} {B : Bk} (hb : b = 13 ∨ b = 68) (f : fc b h h') (w5 : B.2.2.length ≤ 6) (k : bkC h b B) : bkC h' b B :=
  bkC_eq f.1 (fun a h1 h2 h3 h4 => f.2 a h3 h4 (by omega)) w5 k
theorem sp_counted {d b : Nat} {B : Bk} {h : PH} (sh : Sh h) (hb : b = 13 ∨ b = 68) (h17 : h.2.2.1 1 7 = (2, 0, b)) (hgl : h.1 b 7 = iZ B.2.2.length) (w5 : B.2.2.length ≤ 6) : Rv d 49 [.inr (.inr (.inr (1, 0, 1)))] h (some (.inl (iZ B.2.2.length))) h := Rv.of fun Q q => by
  refine Ev.sts 1 (c' := (1, [some (.inr (.inr (.inr (1, 0, 1))))], [.inr (.inr (.inr (1, 0, 1)))], h)) rfl ?_
  refine Ev.gfr (r := (2, 0, b)) rfl h17 ?_
  refine Ev.gv (w := (iZ (B.2.2.length))) rfl hgl ?_
  refine Ev.sts 1 (c' := (8, [some (.inr (.inr (.inr (1, 0, 1))))], [.inr (.inr (.inr (1, 0, 1))), .inl (iZ (B.2.2.length))], h)) rfl ?_
  refine Ev.gfr (r := (2, 0, b)) rfl h17 ?_
  refine Ev.gfr (r := (24, 6, (b + 4))) rfl (sh_b3 sh hb) ?_
  refine Ev.sts 2 (c' := (16, [some (.inr (.inr (.inr (1, 0, 1))))], [.inr (.inr (.inr (1, 0, 1))), .inl (iZ (6)), .inl (iZ (B.2.2.length))], h)) rfl ?_
  refine Ev.gfr (r := (25, 6, 31)) rfl (sh_1_5 sh) ?_
  refine Ev.sts 2 (c' := (23, [some (.inr (.inr (.inr (1, 0, 1))))], [.inl (iZ (6)), .inl (iZ (B.2.2.length))], h)) rfl ?_
  refine Ev.gv (w := (iZ (min B.2.2.length 6))) rfl (iZ_min ⟨by omega, by omega⟩ ⟨by omega, by omega⟩) ?_
  rw [show min (B.2.2.length : Int) 6 = (B.2.2.length : Int) by omega]
  exact Ev.ret rfl q

theorem sp_cg_one {d b g : Nat} {wm N : Int} {x : Ctx} {tk : Int32} {vs : Nat → Int32} {B : Bk} {ws : Nat → List Win} {lt : Nat → Nat} {a2 a3 : Option VV} {h : PH} {Q : Rs → PH → Prop} (sh : Sh h) (hb : b = 13 ∨ b = 68) (h17 : h.2.2.1 1 7 = (2, 0, b)) (wB : bkN B) (bk : bkC h b B) (px : proC h x tk) (hwm : h.1 1 11 = iZ wm) (wc : wsC h ws lt) (hgl : g < B.2.2.length) (wb : wsB N (ws g)) (hN0 : 0 ≤ N) (hN2 : N ≤ 1800) (hl : (ws g).length ≤ 121) (hh : 0 ≤ x.1 ∧ x.1 < 1000) (hm : 0 ≤ wm ∧ wm < 3000) (vr : vsR B x tk vs) (q : ∀ h1 a2 a3, fc b h h1 → wsC h1 (fun g2 => if g2 = g then (gst B x.1 wm tk vs g (ws g) (lt g)).1 else ws g2) (fun g2 => if g2 = g then (gst B x.1 wm tk vs g (ws g) (lt g)).2 else lt g2) → Ev (d + 5) 76 (2, [some (.inr (.inr (.inr (1, 0, 1)))), some (.inl (iZ ((g + 1 : Nat)))), a2, a3], [], h1) Q) : Ev (d + 5) 76 (2, [some (.inr (.inr (.inr (1, 0, 1)))), some (.inl (iZ (g))), a2, a3], [], h) Q := by
  have w5 := wB.2.2.2.2.1
  have hg : g < 6 := by omega
  obtain ⟨v1, v2, v3, v4, v5, v6⟩ := wB.2.2.2.2.2 g hgl
  obtain ⟨gc1, gc2, gc3, gc4, gc5, kk, t1, t2, t3, t4⟩ := bk.2.2.2.2 g hgl
  have go := gs_goo wB bk hgl
  have ev := vr g hgl
  refine Ev.sts 2 (c' := (4, [some (.inr (.inr (.inr (1, 0, 1)))), some (.inl (iZ (g))), a2, a3], [.inr (.inr (.inr (1, 0, 1))), .inl (iZ (g))], h)) rfl ?_
  refine Ev.callv (a := [.inr (.inr (.inr (1, 0, 1)))]) rfl (sp_counted sh hb h17 bk.2.2.1 w5) ?_
  refine Ev.brF (p := (iZ (B.2.2.length)) ≤ (iZ (g))) (c1 := (145, [some (.inr (.inr (.inr (1, 0, 1)))), some (.inl (iZ (g))), a2, a3], [], h)) (c2 := (10, [some (.inr (.inr (.inr (1, 0, 1)))), some (.inl (iZ (g))), a2, a3], [], h)) (fun c_ => absurd ((iZ_le ⟨by omega, by omega⟩ ⟨by omega, by omega⟩).mp c_) (by omega)) rfl ?_
  refine Ev.sts 1 (c' := (11, [some (.inr (.inr (.inr (1, 0, 1)))), some (.inl (iZ (g))), a2, a3], [.inr (.inr (.inr (1, 0, 1)))], h)) rfl ?_
  refine Ev.gfr (r := (2, 0, b)) rfl h17 ?_
  refine Ev.gfr (r := (24, 6, (b + 4))) rfl (sh_b3 sh hb) ?_
  refine Ev.sts 1 (c' := (18, [some (.inr (.inr (.inr (1, 0, 1)))), some (.inl (iZ (g))), a2, a3], [.inl (iZ (g)), .inr (.inr (.inr (24, 6, (b + 4))))], h)) rfl ?_
  refine Ev.ldv (j := (iZ (g))) (n := 6) (w := .inr (.inr (.inr (4, 0, (b + 9 + g))))) (iZ_in (by omega) (by omega) (by omega)) rfl (by rw [iZ_ix (n := g) (by omega) (by omega)]; exact congrArg vR (sh_bg sh hb hg)) ?_
  refine Ev.sts 2 (c' := (21, [some (.inr (.inr (.inr (1, 0, 1)))), some (.inl (iZ (g))), some (.inr (.inr (.inr (4, 0, (b + 9 + g))))), a3], [.inr (.inr (.inr (4, 0, (b + 9 + g))))], h)) rfl ?_
  refine Ev.gv (w := (iZ ((B.2.2.getD g g0).1))) rfl gc1 ?_
  refine Ev.sts 1 (c' := (25, [some (.inr (.inr (.inr (1, 0, 1)))), some (.inl (iZ (g))), some (.inr (.inr (.inr (4, 0, (b + 9 + g))))), a3], [.inr (.inr (.inr (1, 0, 1))), .inl (iZ ((B.2.2.getD g g0).1))], h)) rfl ?_
  refine Ev.gfr (r := (3, 0, 28)) rfl (sh_1_2 sh) ?_
  refine Ev.gv (w := tk) rfl px.2.2.2.2 ?_
  refine Ev.callw (a := [.inl (iZ ((B.2.2.getD g g0).1)), .inl (tk)]) rfl (sp_takes (fun c0 => ?_) (fun c0 => ?_))
  · refine Ev.brT (p := ¬ (iZ (1)) = (iZ (0))) (c1 := (40, [some (.inr (.inr (.inr (1, 0, 1)))), some (.inl (iZ (g))), some (.inr (.inr (.inr (4, 0, (b + 9 + g))))), a3], [], h)) (c2 := (37, [some (.inr (.inr (.inr (1, 0, 1)))), some (.inl (iZ (g))), some (.inr (.inr (.inr (4, 0, (b + 9 + g))))), a3], [], h)) (by decide) rfl ?_
    refine Ev.sts 1 (c' := (41, [some (.inr (.inr (.inr (1, 0, 1)))), some (.inl (iZ (g))), some (.inr (.inr (.inr (4, 0, (b + 9 + g))))), a3], [.inr (.inr (.inr (1, 0, 1)))], h)) rfl ?_
    refine Ev.gfr (r := (2, 0, b)) rfl h17 ?_
    refine Ev.sts 2 (c' := (46, [some (.inr (.inr (.inr (1, 0, 1)))), some (.inl (iZ (g))), some (.inr (.inr (.inr (4, 0, (b + 9 + g))))), a3], [.inr (.inr (.inr (1, 0, 1))), .inr (.inr (.inr (4, 0, (b + 9 + g)))), .inr (.inr (.inr (2, 0, b)))], h)) rfl ?_
    refine Ev.gfr (r := (3, 0, 28)) rfl (sh_1_2 sh) ?_
    refine Ev.callw (a := [.inr (.inr (.inr (2, 0, b))), .inr (.inr (.inr (4, 0, (b + 9 + g)))), .inr (.inr (.inr (3, 0, 28)))]) rfl (sp_valueFor sh hb gc5 t1 t2 t3 t4 px ev (fun h1 f1 => ?_))
    have w1 := wsC_fp hb f1 wc
    have g1 := gooC_eq go (f1.2.1 (b + 9 + g) (by omega) (by omega)) f1.1
    refine Ev.sts 3 (c' := (55, [some (.inr (.inr (.inr (1, 0, 1)))), some (.inl (iZ (g))), some (.inr (.inr (.inr (4, 0, (b + 9 + g))))), some (.inl ((vs g)))], [.inr (.inr (.inr (1, 0, 1))), .inr (.inr (.inr (4, 0, (b + 9 + g))))], h1)) rfl ?_
    refine Ev.gfr (r := (3, 0, 28)) rfl (sh_1_2 (Sh_eq sh f1.1)) ?_
    refine Ev.gv (w := (iZ (x.1))) rfl (proC_fp hb f1 px).1 ?_
    refine Ev.sts 1 (c' := (62, [some (.inr (.inr (.inr (1, 0, 1)))), some (.inl (iZ (g))), some (.inr (.inr (.inr (4, 0, (b + 9 + g))))), some (.inl ((vs g)))], [.inr (.inr (.inr (1, 0, 1))), .inl (iZ (x.1)), .inr (.inr (.inr (4, 0, (b + 9 + g))))], h1)) rfl ?_
    refine Ev.gv (w := (iZ (wm))) rfl ((congrFun (f1.2.1 1 (by omega) (by omega)) 11).trans hwm) ?_
    refine Ev.callw (a := [.inr (.inr (.inr (4, 0, (b + 9 + g)))), .inl (iZ (x.1)), .inl (iZ (wm))]) rfl (sp_isLate g1 hh ⟨by omega, by omega⟩ (fun c1 => ?_) (fun c1 => ?_))
    · refine Ev.brF (p := (iZ (1)) = (iZ (0))) (c1 := (89, [some (.inr (.inr (.inr (1, 0, 1)))), some (.inl (iZ (g))), some (.inr (.inr (.inr (4, 0, (b + 9 + g))))), some (.inl ((vs g)))], [], h1)) (c2 := (71, [some (.inr (.inr (.inr (1, 0, 1)))), some (.inl (iZ (g))), some (.inr (.inr (.inr (4, 0, (b + 9 + g))))), some (.inl ((vs g)))], [], h1)) (by decide) rfl ?_
      refine Ev.sts 1 (c' := (72, [some (.inr (.inr (.inr (1, 0, 1)))), some (.inl (iZ (g))), some (.inr (.inr (.inr (4, 0, (b + 9 + g))))), some (.inl ((vs g)))], [.inr (.inr (.inr (1, 0, 1)))], h1)) rfl ?_
      refine Ev.gfr (r := (25, 6, 31)) rfl (sh_1_5 (Sh_eq sh f1.1)) ?_
      refine Ev.sts 1 (c' := (76, [some (.inr (.inr (.inr (1, 0, 1)))), some (.inl (iZ (g))), some (.inr (.inr (.inr (4, 0, (b + 9 + g))))), some (.inl ((vs g)))], [.inl (iZ (g)), .inr (.inr (.inr (25, 6, 31)))], h1)) rfl ?_
      refine Ev.ldv (j := (iZ (g))) (n := 6) (w := .inr (.inr (.inr (10, 0, (32 + 5 * g))))) (iZ_in (by omega) (by omega) (by omega)) rfl (by rw [iZ_ix (n := g) (by omega) (by omega)]; exact congrArg vR (sh_31 (Sh_eq sh f1.1) hg)) ?_
      refine Ev.sts 1 (c' := (78, [some (.inr (.inr (.inr (1, 0, 1)))), some (.inl (iZ (g))), some (.inr (.inr (.inr (4, 0, (b + 9 + g))))), some (.inl ((vs g)))], [.inr (.inr (.inr (10, 0, (32 + 5 * g)))), .inr (.inr (.inr (10, 0, (32 + 5 * g))))], h1)) rfl ?_
      refine Ev.gv (w := (iZ (lt g))) rfl (w1 g hg).2 ?_
      refine Ev.sts 1 (c' := (82, [some (.inr (.inr (.inr (1, 0, 1)))), some (.inl (iZ (g))), some (.inr (.inr (.inr (4, 0, (b + 9 + g))))), some (.inl ((vs g)))], [.inl (iZ (1)), .inl (iZ (lt g)), .inr (.inr (.inr (10, 0, (32 + 5 * g))))], h1)) rfl ?_
      refine Ev.gv (w := (iZ ((lt g) + 1))) rfl (iZ_add _ _) ?_
      refine Ev.sts 2 (c' := (139, [some (.inr (.inr (.inr (1, 0, 1)))), some (.inl (iZ (g))), some (.inr (.inr (.inr (4, 0, (b + 9 + g))))), some (.inl ((vs g)))], [], (setI h1 (32 + 5 * g) 5 ((iZ ((lt g) + 1)))))) rfl ?_
      refine Ev.stc (c1 := (142, [some (.inr (.inr (.inr (1, 0, 1)))), some (.inl ((iZ (g)) + (iZ (1)))), some (.inr (.inr (.inr (4, 0, (b + 9 + g))))), some (.inl ((vs g)))], [], (setI h1 (32 + 5 * g) 5 ((iZ ((lt g) + 1)))))) (c2 := (142, [some (.inr (.inr (.inr (1, 0, 1)))), some (.inl (iZ (g + 1))), some (.inr (.inr (.inr (4, 0, (b + 9 + g))))), some (.inl ((vs g)))], [], (setI h1 (32 + 5 * g) 5 ((iZ ((lt g) + 1)))))) rfl (by rw [iZ_add]) ?_
      refine Ev.sts 1 (c' := (2, [some (.inr (.inr (.inr (1, 0, 1)))), some (.inl (iZ (g + 1))), some (.inr (.inr (.inr (4, 0, (b + 9 + g))))), some (.inl ((vs g)))], [], (setI h1 (32 + 5 * g) 5 ((iZ ((lt g) + 1)))))) rfl ?_
      refine q _ _ _ (fc_trans (fc_fp f1) (fc_lt hg)) (fun g2 hg2 => ?_)
      dsimp only
      by_cases e : g2 = g
      · subst e
        rw [if_pos rfl, if_pos rfl, gst_l ⟨hgl, c0⟩ c1]
        exact ⟨⟨(setI_ne (by omega)).trans (w1 g2 hg).1.1, (w1 g2 hg).1.2.1, fun j hj => (by
          have e3 := (w1 g2 hg).1.2.2 j hj
          unfold wr at e3 ⊢
          rw [setI_oth (b := 33 + 5 * g2) (by omega), setI_oth (b := 34 + 5 * g2) (by omega), setI_oth (b := 35 + 5 * g2) (by omega), setI_oth (b := 36 + 5 * g2) (by omega)]
          exact e3)⟩, setI_self _ _ _ _⟩
      · rw [if_neg e, if_neg e]
        exact ⟨winC_eq (fun a a1 a2 => setI_oth (by omega)) (w1 g2 hg2).1, (setI_ne (by omega)).trans (w1 g2 hg2).2⟩
    · refine Ev.brT (p := (iZ (0)) = (iZ (0))) (c1 := (89, [some (.inr (.inr (.inr (1, 0, 1)))), some (.inl (iZ (g))), some (.inr (.inr (.inr (4, 0, (b + 9 + g))))), some (.inl ((vs g)))], [], h1)) (c2 := (71, [some (.inr (.inr (.inr (1, 0, 1)))), some (.inl (iZ (g))), some (.inr (.inr (.inr (4, 0, (b + 9 + g))))), some (.inl ((vs g)))], [], h1)) (by decide) rfl ?_
      refine Ev.sts 1 (c' := (90, [some (.inr (.inr (.inr (1, 0, 1)))), some (.inl (iZ (g))), some (.inr (.inr (.inr (4, 0, (b + 9 + g))))), some (.inl ((vs g)))], [.inr (.inr (.inr (4, 0, (b + 9 + g))))], h1)) rfl ?_
      refine Ev.gv (w := (iZ ((if (B.2.2.getD g g0).2.2.1 = 0 then 1 else 0)))) rfl ((congrFun (f1.2.1 (b + 9 + g) (by omega) (by omega)) 1).trans gc2) ?_
      refine Ev.brc (p := (iZ ((if (B.2.2.getD g g0).2.2.1 = 0 then 1 else 0))) = (iZ (0))) (q := (((if (B.2.2.getD g g0).2.2.1 = 0 then 1 else 0) : Int)) = 0) (c1 := (117, [some (.inr (.inr (.inr (1, 0, 1)))), some (.inl (iZ (g))), some (.inr (.inr (.inr (4, 0, (b + 9 + g))))), some (.inl ((vs g)))], [], h1)) (c2 := (96, [some (.inr (.inr (.inr (1, 0, 1)))), some (.inl (iZ (g))), some (.inr (.inr (.inr (4, 0, (b + 9 + g))))), some (.inl ((vs g)))], [], h1)) rfl (iZ_eq ⟨by omega, by omega⟩ ⟨by omega, by omega⟩) (fun c2 => ?_) (fun c2 => ?_)
      · refine Ev.sts 1 (c' := (118, [some (.inr (.inr (.inr (1, 0, 1)))), some (.inl (iZ (g))), some (.inr (.inr (.inr (4, 0, (b + 9 + g))))), some (.inl ((vs g)))], [.inr (.inr (.inr (1, 0, 1)))], h1)) rfl ?_
        refine Ev.gfr (r := (25, 6, 31)) rfl (sh_1_5 (Sh_eq sh f1.1)) ?_
        refine Ev.sts 1 (c' := (122, [some (.inr (.inr (.inr (1, 0, 1)))), some (.inl (iZ (g))), some (.inr (.inr (.inr (4, 0, (b + 9 + g))))), some (.inl ((vs g)))], [.inl (iZ (g)), .inr (.inr (.inr (25, 6, 31)))], h1)) rfl ?_
        refine Ev.ldv (j := (iZ (g))) (n := 6) (w := .inr (.inr (.inr (10, 0, (32 + 5 * g))))) (iZ_in (by omega) (by omega) (by omega)) rfl (by rw [iZ_ix (n := g) (by omega) (by omega)]; exact congrArg vR (sh_31 (Sh_eq sh f1.1) hg)) ?_
        refine Ev.sts 2 (c' := (125, [some (.inr (.inr (.inr (1, 0, 1)))), some (.inl (iZ (g))), some (.inr (.inr (.inr (4, 0, (b + 9 + g))))), some (.inl ((vs g)))], [.inr (.inr (.inr (1, 0, 1))), .inr (.inr (.inr (4, 0, (b + 9 + g)))), .inr (.inr (.inr (10, 0, (32 + 5 * g))))], h1)) rfl ?_
        refine Ev.gfr (r := (3, 0, 28)) rfl (sh_1_2 (Sh_eq sh f1.1)) ?_
        refine Ev.gv (w := (iZ (x.1))) rfl (proC_fp hb f1 px).1 ?_
        refine Ev.sts 2 (c' := (133, [some (.inr (.inr (.inr (1, 0, 1)))), some (.inl (iZ (g))), some (.inr (.inr (.inr (4, 0, (b + 9 + g))))), some (.inl ((vs g)))], [.inr (.inr (.inr (1, 0, 1))), .inl ((vs g)), .inl (iZ (x.1)), .inr (.inr (.inr (4, 0, (b + 9 + g)))), .inr (.inr (.inr (10, 0, (32 + 5 * g))))], h1)) rfl ?_
        refine Ev.gv (w := (iZ (wm))) rfl ((congrFun (f1.2.1 1 (by omega) (by omega)) 11).trans hwm) ?_
        refine Ev.callw (a := [.inr (.inr (.inr (10, 0, (32 + 5 * g)))), .inr (.inr (.inr (4, 0, (b + 9 + g)))), .inl (iZ (x.1)), .inl ((vs g)), .inl (iZ (wm))]) rfl (sp_countEvery (Sh_eq sh f1.1) hg (w1 g hg).1 wb hN0 (by omega) hl g1 (by omega) hh hm (fun h2 f2 w2 => ?_))
        refine Ev.stc (c1 := (142, [some (.inr (.inr (.inr (1, 0, 1)))), some (.inl ((iZ (g)) + (iZ (1)))), some (.inr (.inr (.inr (4, 0, (b + 9 + g))))), some (.inl ((vs g)))], [], h2)) (c2 := (142, [some (.inr (.inr (.inr (1, 0, 1)))), some (.inl (iZ (g + 1))), some (.inr (.inr (.inr (4, 0, (b + 9 + g))))), some (.inl ((vs g)))], [], h2)) rfl (by rw [iZ_add]) ?_
        refine Ev.sts 1 (c' := (2, [some (.inr (.inr (.inr (1, 0, 1)))), some (.inl (iZ (g + 1))), some (.inr (.inr (.inr (4, 0, (b + 9 + g))))), some (.inl ((vs g)))], [], h2)) rfl ?_
        have hz : (B.2.2.getD g g0).2.2.1 = 0 ∨ ¬ (B.2.2.getD g g0).2.2.1 = 0 := Classical.em _
        refine q h2 _ _ (fc_trans (fc_fp f1) (fc_fw hg f2)) (fun g2 hg2 => ?_)
        dsimp only
        by_cases e : g2 = g
        · subst e
          rw [if_pos rfl, if_pos rfl]
          rcases hz with hz | hz
          · first
            | (rw [gst_g ⟨hgl, c0⟩ c1 hz]; exact ⟨w2, f2.2.2.trans (w1 g2 hg).2⟩)
            | (exfalso; rw [if_pos hz] at c2; omega)
          · first
            | (rw [gst_e ⟨hgl, c0⟩ c1 hz]; rw [if_neg hz] at w2; exact ⟨w2, f2.2.2.trans (w1 g2 hg).2⟩)
            | (exfalso; rw [if_neg hz] at c2; omega)
        · rw [if_neg e, if_neg e]
          exact ⟨winC_fw e f2 (w1 g2 hg2).1, by rw [f2.2.1 (32 + 5 * g2) (by omega)]; exact (w1 g2 hg2).2⟩
      · refine Ev.sts 1 (c' := (97, [some (.inr (.inr (.inr (1, 0, 1)))), some (.inl (iZ (g))), some (.inr (.inr (.inr (4, 0, (b + 9 + g))))), some (.inl ((vs g)))], [.inr (.inr (.inr (1, 0, 1)))], h1)) rfl ?_
        refine Ev.gfr (r := (25, 6, 31)) rfl (sh_1_5 (Sh_eq sh f1.1)) ?_
        refine Ev.sts 1 (c' := (101, [some (.inr (.inr (.inr (1, 0, 1)))), some (.inl (iZ (g))), some (.inr (.inr (.inr (4, 0, (b + 9 + g))))), some (.inl ((vs g)))], [.inl (iZ (g)), .inr (.inr (.inr (25, 6, 31)))], h1)) rfl ?_
        refine Ev.ldv (j := (iZ (g))) (n := 6) (w := .inr (.inr (.inr (10, 0, (32 + 5 * g))))) (iZ_in (by omega) (by omega) (by omega)) rfl (by rw [iZ_ix (n := g) (by omega) (by omega)]; exact congrArg vR (sh_31 (Sh_eq sh f1.1) hg)) ?_
        refine Ev.sts 2 (c' := (104, [some (.inr (.inr (.inr (1, 0, 1)))), some (.inl (iZ (g))), some (.inr (.inr (.inr (4, 0, (b + 9 + g))))), some (.inl ((vs g)))], [.inr (.inr (.inr (1, 0, 1))), .inr (.inr (.inr (4, 0, (b + 9 + g)))), .inr (.inr (.inr (10, 0, (32 + 5 * g))))], h1)) rfl ?_
        refine Ev.gfr (r := (3, 0, 28)) rfl (sh_1_2 (Sh_eq sh f1.1)) ?_
        refine Ev.gv (w := (iZ (x.1))) rfl (proC_fp hb f1 px).1 ?_
        refine Ev.sts 1 (c' := (111, [some (.inr (.inr (.inr (1, 0, 1)))), some (.inl (iZ (g))), some (.inr (.inr (.inr (4, 0, (b + 9 + g))))), some (.inl ((vs g)))], [.inl ((vs g)), .inl (iZ (x.1)), .inr (.inr (.inr (4, 0, (b + 9 + g)))), .inr (.inr (.inr (10, 0, (32 + 5 * g))))], h1)) rfl ?_
        refine Ev.callw (a := [.inr (.inr (.inr (10, 0, (32 + 5 * g)))), .inr (.inr (.inr (4, 0, (b + 9 + g)))), .inl (iZ (x.1)), .inl ((vs g))]) rfl (sp_countGap (Sh_eq sh f1.1) hg (w1 g hg).1 wb (by omega) (by omega) g1 (by omega) hh (fun h2 f2 w2 => ?_))
        refine Ev.sts 1 (c' := (139, [some (.inr (.inr (.inr (1, 0, 1)))), some (.inl (iZ (g))), some (.inr (.inr (.inr (4, 0, (b + 9 + g))))), some (.inl ((vs g)))], [], h2)) rfl ?_
        refine Ev.stc (c1 := (142, [some (.inr (.inr (.inr (1, 0, 1)))), some (.inl ((iZ (g)) + (iZ (1)))), some (.inr (.inr (.inr (4, 0, (b + 9 + g))))), some (.inl ((vs g)))], [], h2)) (c2 := (142, [some (.inr (.inr (.inr (1, 0, 1)))), some (.inl (iZ (g + 1))), some (.inr (.inr (.inr (4, 0, (b + 9 + g))))), some (.inl ((vs g)))], [], h2)) rfl (by rw [iZ_add]) ?_
        refine Ev.sts 1 (c' := (2, [some (.inr (.inr (.inr (1, 0, 1)))), some (.inl (iZ (g + 1))), some (.inr (.inr (.inr (4, 0, (b + 9 + g))))), some (.inl ((vs g)))], [], h2)) rfl ?_
        have hz : (B.2.2.getD g g0).2.2.1 = 0 ∨ ¬ (B.2.2.getD g g0).2.2.1 = 0 := Classical.em _
        refine q h2 _ _ (fc_trans (fc_fp f1) (fc_fw hg f2)) (fun g2 hg2 => ?_)
        dsimp only
        by_cases e : g2 = g
        · subst e
          rw [if_pos rfl, if_pos rfl]
          rcases hz with hz | hz
          · first
            | (rw [gst_g ⟨hgl, c0⟩ c1 hz]; exact ⟨w2, f2.2.2.trans (w1 g2 hg).2⟩)
            | (exfalso; rw [if_pos hz] at c2; omega)
          · first
            | (rw [gst_e ⟨hgl, c0⟩ c1 hz]; rw [if_neg hz] at w2; exact ⟨w2, f2.2.2.trans (w1 g2 hg).2⟩)
            | (exfalso; rw [if_neg hz] at c2; omega)
        · rw [if_neg e, if_neg e]
          exact ⟨winC_fw e f2 (w1 g2 hg2).1, by rw [f2.2.1 (32 + 5 * g2) (by omega)]; exact (w1 g2 hg2).2⟩
  · refine Ev.brF (p := ¬ (iZ (0)) = (iZ (0))) (c1 := (40, [some (.inr (.inr (.inr (1, 0, 1)))), some (.inl (iZ (g))), some (.inr (.inr (.inr (4, 0, (b + 9 + g))))), a3], [], h)) (c2 := (37, [some (.inr (.inr (.inr (1, 0, 1)))), some (.inl (iZ (g))), some (.inr (.inr (.inr (4, 0, (b + 9 + g))))), a3], [], h)) (by decide) rfl ?_
    refine Ev.sts 1 (c' := (139, [some (.inr (.inr (.inr (1, 0, 1)))), some (.inl (iZ (g))), some (.inr (.inr (.inr (4, 0, (b + 9 + g))))), a3], [], h)) rfl ?_
    refine Ev.stc (c1 := (142, [some (.inr (.inr (.inr (1, 0, 1)))), some (.inl ((iZ (g)) + (iZ (1)))), some (.inr (.inr (.inr (4, 0, (b + 9 + g))))), a3], [], h)) (c2 := (142, [some (.inr (.inr (.inr (1, 0, 1)))), some (.inl (iZ (g + 1))), some (.inr (.inr (.inr (4, 0, (b + 9 + g))))), a3], [], h)) rfl (by rw [iZ_add]) ?_
    refine Ev.sts 1 (c' := (2, [some (.inr (.inr (.inr (1, 0, 1)))), some (.inl (iZ (g + 1))), some (.inr (.inr (.inr (4, 0, (b + 9 + g))))), a3], [], h)) rfl ?_
    refine q h _ _ (fc_refl b h) (fun g2 hg2 => ?_)
    dsimp only
    by_cases e : g2 = g
    · subst e
      rw [if_pos rfl, if_pos rfl, gst_n (fun z => c0 z.2)]
      exact wc g2 hg2
    · rw [if_neg e, if_neg e]; exact wc g2 hg2

theorem sp_cg_lp {d b : Nat} {wm N : Int} {x : Ctx} {tk : Int32} {vs : Nat → Int32} {B : Bk} {Q : Rs → PH → Prop} (hb : b = 13 ∨ b = 68) (wB : bkN B) (hN0 : 0 ≤ N) (hN2 : N ≤ 1800) (hh : 0 ≤ x.1 ∧ x.1 < 1000) (hm : 0 ≤ wm ∧ wm < 3000) (vr : vsR B x tk vs) (m : Nat) : ∀ (g : Nat) (h : PH) (ws : Nat → List Win) (lt : Nat → Nat) (a2 a3 : Option VV), g + m = B.2.2.length → Sh h → h.2.2.1 1 7 = (2, 0, b) → bkC h b B → proC h x tk → h.1 1 11 = iZ wm → wsC h ws lt → (∀ g2, g ≤ g2 → wsB N (ws g2) ∧ (ws g2).length ≤ 121) → (∀ h1, fc b h h1 → wsC h1 (fun g2 => if g ≤ g2 then (gst B x.1 wm tk vs g2 (ws g2) (lt g2)).1 else ws g2) (fun g2 => if g ≤ g2 then (gst B x.1 wm tk vs g2 (ws g2) (lt g2)).2 else lt g2) → Q (.inl none) h1) → Ev (d + 5) 76 (2, [some (.inr (.inr (.inr (1, 0, 1)))), some (.inl (iZ (g))), a2, a3], [], h) Q := by
  have w5 := wB.2.2.2.2.1
  induction m with
  | zero =>
    intro g h ws lt a2 a3 hgm sh h17 bk px hwm wc wl q
    refine Ev.sts 2 (c' := (4, [some (.inr (.inr (.inr (1, 0, 1)))), some (.inl (iZ (g))), a2, a3], [.inr (.inr (.inr (1, 0, 1))), .inl (iZ (g))], h)) rfl ?_
    refine Ev.callv (a := [.inr (.inr (.inr (1, 0, 1)))]) rfl (sp_counted sh hb h17 bk.2.2.1 w5) ?_
    refine Ev.brT (p := (iZ (B.2.2.length)) ≤ (iZ (g))) (c1 := (145, [some (.inr (.inr (.inr (1, 0, 1)))), some (.inl (iZ (g))), a2, a3], [], h)) (c2 := (10, [some (.inr (.inr (.inr (1, 0, 1)))), some (.inl (iZ (g))), a2, a3], [], h)) ((iZ_le ⟨by omega, by omega⟩ ⟨by omega, by omega⟩).mpr (by omega)) rfl ?_
    refine Ev.ret rfl (q h (fc_refl b h) (fun g2 hg2 => ?_))
    dsimp only
    by_cases e : g ≤ g2
    · rw [if_pos e, if_pos e, gst_n (fun z => by omega)]; exact wc g2 hg2
    · rw [if_neg e, if_neg e]; exact wc g2 hg2
  | succ m ih =>
    intro g h ws lt a2 a3 hgm sh h17 bk px hwm wc wl q
    refine sp_cg_one sh hb h17 wB bk px hwm wc (by omega) (wl g (Nat.le_refl _)).1 hN0 hN2 (wl g (Nat.le_refl _)).2 hh hm vr (fun h1 a2 a3 f1 w1 => ?_)
    have e28 := f1.2 28 (by omega) (by omega) (by omega)
    refine ih (g + 1) h1 _ _ a2 a3 (by omega) (Sh_eq sh f1.1) (by rw [f1.1]; exact h17) (bkC_fc hb f1 w5 bk) (by unfold proC; rw [e28]; exact px) (by rw [f1.2 1 (by omega) (by omega) (by omega)]; exact hwm) w1 (fun g2 hg2 => by
      rw [if_neg (show ¬ g2 = g by omega)]; exact wl g2 (by omega)) (fun h2 f2 w2 => q h2 (fc_trans f1 f2) (fun g2 hg2 => ?_))
    have w3 := w2 g2 hg2
    dsimp only at w3 ⊢
    by_cases e : g2 = g
    · subst e
      have n1 : ¬ g2 + 1 ≤ g2 := by omega
      simp only [if_neg n1, if_pos (rfl : g2 = g2)] at w3
      simp only [if_pos (Nat.le_refl g2)]; exact w3
    · by_cases e2 : g ≤ g2
      · have n1 : g + 1 ≤ g2 := by omega
        simp only [if_pos n1, if_neg e] at w3
        simp only [if_pos e2]; exact w3
      · have n1 : ¬ g + 1 ≤ g2 := by omega
        simp only [if_neg n1, if_neg e] at w3
        simp only [if_neg e2]; exact w3

theorem sp_countGeese {d b : Nat} {wm N : Int} {x : Ctx} {tk : Int32} {vs : Nat → Int32} {B : Bk} {ws : Nat → List Win} {lt : Nat → Nat} {h : PH} {Q : Rs → PH → Prop} (sh : Sh h) (hb : b = 13 ∨ b = 68) (h17 : h.2.2.1 1 7 = (2, 0, b)) (wB : bkN B) (bk : bkC h b B) (px : proC h x tk) (hwm : h.1 1 11 = iZ wm) (wc : wsC h ws lt) (wl : ∀ g, wsB N (ws g) ∧ (ws g).length ≤ 121) (hN0 : 0 ≤ N) (hN2 : N ≤ 1800) (hh : 0 ≤ x.1 ∧ x.1 < 1000) (hm : 0 ≤ wm ∧ wm < 3000) (vr : vsR B x tk vs) (q : ∀ h1, fc b h h1 → wsC h1 (fun g2 => (gst B x.1 wm tk vs g2 (ws g2) (lt g2)).1) (fun g2 => (gst B x.1 wm tk vs g2 (ws g2) (lt g2)).2) → Q (.inl none) h1) : Rn (d + 5) 76 [.inr (.inr (.inr (1, 0, 1)))] h Q := by
  refine Ev.sts 2 (c' := (2, [some (.inr (.inr (.inr (1, 0, 1)))), some (.inl (iZ (0))), none, none], [], h)) rfl ?_
  exact sp_cg_lp hb wB hN0 hN2 hh hm vr B.2.2.length 0 h ws lt none none (by omega) sh h17 bk px hwm wc (fun g2 _ => wl g2) (fun h1 f1 w1 => q h1 f1 (fun g2 hg2 => w1 g2 hg2))

def gnL (ws : Nat → List Win) (m : Int) : Nat → Nat → List Tel
  | 0, _ => []
  | n + 1, g => (goneE (ws g) m).map (Prod.mk g) ++ gnL ws m n (g + 1)
def lnL (ws : Nat → List Win) : Nat → Nat → Nat
  | 0, _ => 0
  | n + 1, g => (ws g).length + lnL ws n (g + 1)
theorem goneE_len (W : List Win) (m : Int) : (goneE W m).length ≤ W.length := List.length_filter_le _ _
def pWs (a : Nat) : Prop := 32 ≤ a ∧ a ≤ 61
theorem sp_tw_lp {d : Nat} {m N : Int} {Q : Rs → PH → Prop} (hb : N ≤ 1900) (hm : 0 ≤ m ∧ m < 3000) (k : Nat) : ∀ (g : Nat) (h : PH) {lt : Nat → Nat} (ws : Nat → List Win) (TL : List Tel) (nn : Nat) (u : Q5), g + k = 6 → Sh h → h.1 1 11 = iZ m → wsC h ws lt → tlC h TL nn u → 83 ≤ hN h → (∀ g2, g ≤ g2 → wsB N (ws g2)) → TL.length + lnL ws k g ≤ 5040 → (∀ h1 n1 q1, wsC h1 (fun g2 => if g ≤ g2 then keepE (ws g2) m else ws g2) lt → tlC h1 (TL ++ gnL ws m k g) n1 q1 → FX pWs h h1 u q1 nn n1 → Q (.inl none) h1) → Ev (d + 4) 72 (2, [some (.inr (.inr (.inr (1, 0, 1)))), some (.inl (iZ (g)))], [], h) Q := by
  induction k with
  | zero =>
    intro g h lt ws TL nn u hgk sh hwm wc ht hh wl hl q
    refine Ev.sts 2 (c' := (4, [some (.inr (.inr (.inr (1, 0, 1)))), some (.inl (iZ (g)))], [.inr (.inr (.inr (1, 0, 1))), .inl (iZ (g))], h)) rfl ?_
    refine Ev.gfr (r := (25, 6, 31)) rfl (sh_1_5 sh) ?_
    refine Ev.sts 1 (c' := (8, [some (.inr (.inr (.inr (1, 0, 1)))), some (.inl (iZ (g)))], [.inl (iZ (6)), .inl (iZ (g))], h)) rfl ?_
    refine Ev.brT (p := (iZ (6)) ≤ (iZ (g))) (c1 := (35, [some (.inr (.inr (.inr (1, 0, 1)))), some (.inl (iZ (g)))], [], h)) (c2 := (11, [some (.inr (.inr (.inr (1, 0, 1)))), some (.inl (iZ (g)))], [], h)) ((iZ_le ⟨by omega, by omega⟩ ⟨by omega, by omega⟩).mpr (by omega)) rfl ?_
    refine Ev.ret rfl (q h nn u (fun g2 hg2 => ?_) ?_ (FX_refl _ _ _ _))
    · dsimp only
      rw [if_neg (by omega)]; exact wc g2 hg2
    · show tlC h (TL ++ []) nn u
      rw [List.append_nil]; exact ht
  | succ k ih =>
    intro g h lt ws TL nn u hgk sh hwm wc ht hh wl hl q
    have hg : g < 6 := by omega
    have wb := wl g (Nat.le_refl _)
    replace hl : TL.length + ((ws g).length + lnL ws k (g + 1)) ≤ 5040 := hl
    refine Ev.sts 2 (c' := (4, [some (.inr (.inr (.inr (1, 0, 1)))), some (.inl (iZ (g)))], [.inr (.inr (.inr (1, 0, 1))), .inl (iZ (g))], h)) rfl ?_
    refine Ev.gfr (r := (25, 6, 31)) rfl (sh_1_5 sh) ?_
    refine Ev.sts 1 (c' := (8, [some (.inr (.inr (.inr (1, 0, 1)))), some (.inl (iZ (g)))], [.inl (iZ (6)), .inl (iZ (g))], h)) rfl ?_
    refine Ev.brF (p := (iZ (6)) ≤ (iZ (g))) (c1 := (35, [some (.inr (.inr (.inr (1, 0, 1)))), some (.inl (iZ (g)))], [], h)) (c2 := (11, [some (.inr (.inr (.inr (1, 0, 1)))), some (.inl (iZ (g)))], [], h)) (fun c_ => absurd ((iZ_le ⟨by omega, by omega⟩ ⟨by omega, by omega⟩).mp c_) (by omega)) rfl ?_
    refine Ev.sts 1 (c' := (12, [some (.inr (.inr (.inr (1, 0, 1)))), some (.inl (iZ (g)))], [.inr (.inr (.inr (1, 0, 1)))], h)) rfl ?_
    refine Ev.gfr (r := (25, 6, 31)) rfl (sh_1_5 sh) ?_
    refine Ev.sts 1 (c' := (16, [some (.inr (.inr (.inr (1, 0, 1)))), some (.inl (iZ (g)))], [.inl (iZ (g)), .inr (.inr (.inr (25, 6, 31)))], h)) rfl ?_
    refine Ev.ldv (j := (iZ (g))) (n := 6) (w := .inr (.inr (.inr (10, 0, (32 + 5 * g))))) (iZ_in (by omega) (by omega) (by omega)) rfl (by rw [iZ_ix (n := g) (by omega) (by omega)]; exact congrArg vR (sh_31 sh hg)) ?_
    refine Ev.sts 2 (c' := (19, [some (.inr (.inr (.inr (1, 0, 1)))), some (.inl (iZ (g)))], [.inr (.inr (.inr (1, 0, 1))), .inl (iZ (g)), .inr (.inr (.inr (10, 0, (32 + 5 * g))))], h)) rfl ?_
    refine Ev.gv (w := (iZ (m))) rfl hwm ?_
    refine Ev.sts 1 (c' := (23, [some (.inr (.inr (.inr (1, 0, 1)))), some (.inl (iZ (g)))], [.inr (.inr (.inr (1, 0, 1))), .inl (iZ (m)), .inl (iZ (g)), .inr (.inr (.inr (10, 0, (32 + 5 * g))))], h)) rfl ?_
    refine Ev.gfr (r := (8, 0, 62)) rfl (sh_1_6 sh) ?_
    refine Ev.callw (a := [.inr (.inr (.inr (10, 0, (32 + 5 * g)))), .inl (iZ (g)), .inl (iZ (m)), .inr (.inr (.inr (8, 0, 62)))]) rfl (sp_tell sh hg (wc g hg).1 wb (by omega) ⟨by omega, by omega⟩ ht hh (by omega) (fun h1 n1 q1 w1 t1 f1 l1 => ?_))
    refine Ev.stc (c1 := (32, [some (.inr (.inr (.inr (1, 0, 1)))), some (.inl ((iZ (g)) + (iZ (1))))], [], h1)) (c2 := (32, [some (.inr (.inr (.inr (1, 0, 1)))), some (.inl (iZ (g + 1)))], [], h1)) rfl (by rw [iZ_add]) ?_
    refine Ev.sts 1 (c' := (2, [some (.inr (.inr (.inr (1, 0, 1)))), some (.inl (iZ (g + 1)))], [], h1)) rfl ?_
    have gl := goneE_len (ws g) m
    have f3 := f1.2.2.2.1
    have fr : ∀ a, a < 62 → ¬ (32 + 5 * g ≤ a ∧ a ≤ 36 + 5 * g) → h1.1 a = h.1 a := fun a a1 a2 => FX_1 f1 ht.2.2.2.2.1 hh a2 (by omega)
    refine ih (g + 1) h1 (lt := lt) (fun g2 => if g2 = g then keepE (ws g) m else ws g2) _ n1 q1 (by omega) (Sh_FX sh f1) ((congrFun (fr 1 (by omega) (by omega)) 11).trans hwm) (fun g2 hg2 => ?_) t1 (by omega) (fun g2 hg2 => ?_) ?_ (fun h2 n2 q2 w2 t2 f2 => q h2 n2 q2 (fun g2 hg2 => ?_) ?_ (FX_trans (FX_mono f1 (fun a ha => by unfold pW at ha; unfold pWs; omega)) f2))
    · try dsimp only
      by_cases e : g2 = g
      · subst e
        rw [if_pos rfl]; exact ⟨w1, l1.trans (wc g2 hg2).2⟩
      · rw [if_neg e]
        exact ⟨winC_eq (fun a a1 a2 => fr a (by omega) (by omega)) (wc g2 hg2).1, by rw [fr (32 + 5 * g2) (by omega) (by omega)]; exact (wc g2 hg2).2⟩
    · try dsimp only
      rw [if_neg (by omega)]; exact wl g2 (by omega)
    · rw [List.length_append, List.length_map]
      have e : ∀ (k g3 : Nat), g < g3 → lnL (fun g2 => if g2 = g then keepE (ws g) m else ws g2) k g3 = lnL ws k g3 := by
        intro k
        induction k with
        | zero => intro g3 _; rfl
        | succ k ih2 =>
          intro g3 hg3
          show (if g3 = g then keepE (ws g) m else ws g3).length + _ = _
          rw [if_neg (by omega), ih2 (g3 + 1) (by omega)]; rfl
      rw [e _ _ (by omega)]
      omega
    · have w3 := w2 g2 hg2
      dsimp only at w3 ⊢
      by_cases e : g2 = g
      · subst e
        have n1 : ¬ g2 + 1 ≤ g2 := by omega
        simp only [if_neg n1, if_pos (rfl : g2 = g2)] at w3
        simp only [if_pos (Nat.le_refl g2)]; exact w3
      · by_cases e2 : g ≤ g2
        · have n1 : g + 1 ≤ g2 := by omega
          simp only [if_pos n1, if_neg e] at w3
          simp only [if_pos e2]; exact w3
        · have n1 : ¬ g + 1 ≤ g2 := by omega
          simp only [if_neg n1, if_neg e] at w3
          simp only [if_neg e2]; exact w3
    · rw [List.append_assoc] at t2
      have e : ∀ (k g3 : Nat), g < g3 → gnL (fun g2 => if g2 = g then keepE (ws g) m else ws g2) m k g3 = gnL ws m k g3 := by
        intro k
        induction k with
        | zero => intro g3 _; rfl
        | succ k ih2 =>
          intro g3 hg3
          show (goneE (if g3 = g then keepE (ws g) m else ws g3) m).map (Prod.mk g3) ++ _ = _
          rw [if_neg (by omega), ih2 (g3 + 1) (by omega)]; rfl
      rw [e _ _ (by omega)] at t2
      exact t2

theorem sp_tellAll {d nn : Nat} {m N : Int} {ws : Nat → List Win} {lt : Nat → Nat} {TL : List Tel} {u : Q5} {h : PH} {Q : Rs → PH → Prop} (sh : Sh h) (hwm : h.1 1 11 = iZ m) (wc : wsC h ws lt) (ht : tlC h TL nn u) (hh : 83 ≤ hN h) (wl : ∀ g, wsB N (ws g)) (hb : N ≤ 1900) (hm : 0 ≤ m ∧ m < 3000) (hl : TL.length + lnL ws 6 0 ≤ 5040) (q : ∀ h1 n1 q1, wsC h1 (fun g => keepE (ws g) m) lt → tlC h1 (TL ++ gnL ws m 6 0) n1 q1 → FX pWs h h1 u q1 nn n1 → Q (.inl none) h1) : Rn (d + 4) 72 [.inr (.inr (.inr (1, 0, 1)))] h Q := by
  refine Ev.sts 2 (c' := (2, [some (.inr (.inr (.inr (1, 0, 1)))), some (.inl (iZ (0)))], [], h)) rfl ?_
  exact sp_tw_lp hb hm 6 0 h ws TL nn u (by omega) sh hwm wc ht hh (fun g2 _ => wl g2) hl (fun h1 n1 q1 w1 t1 f1 => q h1 n1 q1 (fun g2 hg2 => w1 g2 hg2) t1 f1)

