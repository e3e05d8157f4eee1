/-! The book writes: atoms, products, values. -/
/-- what has come about when a part of the book is written: its tokens, commands, worth, tree -/
def Pst (C : List Sg → List Cmd → Prop) (Z : (Ctx → Int32 → Int32) → Prop) (K D bd cc : Nat) (h : PH) (L dr tk ln : Nat) (ks : List Sg) (h1 : PH) (ra : Nat) : Prop := ∃ (dr1 tk1 : Nat) (tp1 : List Int) (kk : List Sg) (c : List Cmd) (f : Ctx → Int32 → Int32), BKh h1 L dr1 tk1 ln tp1 ∧ FB h h1 ∧ LXs tp1 (ks ++ kk) ∧ C kk c ∧ Z f ∧ EVk c f K ∧ TRr h1 (hN h - 1) (hN h1) D (13, 0, ra) f ∧ (tk1 = tk + kk.length ∧ 1 ≤ kk.length ∧ tk1 ≤ max tk (ln + 40) + bd ∧ dr1 + cc ≤ dr + 12 * kk.length ∧ hN h1 ≤ hN h + 14 * kk.length) ∧ hS h1 + gP tk ≤ hS h + gP tk1 ∧ txR h1 (hN h - 1) (hN h1) (h1.2.2.1 83 4) tp1
/-- the method y writes such a part at depth dd -/
def PVs (y : Nat) (G : PH → Prop) (C : List Sg → List Cmd → Prop) (Z : (Ctx → Int32 → Int32) → Prop) (dd K D bd cc S E : Nat) : Prop := ∀ e, E ≤ e → ∀ (h : PH) (L dr tk ln : Nat) (tp : List Int) (ks : List Sg) (Q : Rs → PH → Prop), G h → BKh h L dr tk ln tp → LXs tp ks → enN tp = false → tk + bd ≤ 290 → ln + 40 + bd ≤ 290 → dr ≤ 12 * tk + S → (∀ h1 ra, Pst C Z K D bd cc h L dr tk ln ks h1 ra → Q (.inl (some (.inr (.inr (.inr (13, 0, ra)))))) h1) → Rn e y [.inr (.inr (.inr (11, 0, 83))), .inl (iZ ((dd : Nat) : Int))] h Q
/-- the same from a little earlier: draws -/
theorem Pst_base {C : List Sg → List Cmd → Prop} {Z : (Ctx → Int32 → Int32) → Prop} {K D bd cc c2 : Nat} {h h0 : PH} {L dr d0 tk ln : Nat} {ks : List Sg} {h1 : PH} {ra : Nat} (p : Pst C Z K D bd cc h L dr tk ln ks h1 ra) (f : FB h0 h) (e1 : hN h = hN h0) (e2 : hS h = hS h0) (ed : dr + c2 ≤ d0 + cc) : Pst C Z K D bd c2 h0 L d0 tk ln ks h1 ra := by
  obtain ⟨dr1, tk1, tp1, kk, c, g, p1, p2, p3, p4, p5, p6, p7, p8, p9, p10⟩ := p
  exact ⟨dr1, tk1, tp1, kk, c, g, p1, FB_t f p2, p3, p4, p5, p6, by rw [← e1]; exact p7, by omega, by omega, by rw [← e1]; exact p10⟩
theorem Pst_up {C C2 : List Sg → List Cmd → Prop} {Z Z2 : (Ctx → Int32 → Int32) → Prop} {K K2 D D2 bd b2 cc c2 : Nat} {h : PH} {L dr tk ln : Nat} {ks : List Sg} {h1 : PH} {ra : Nat} (p : Pst C Z K D bd cc h L dr tk ln ks h1 ra) (hC : ∀ kk c, C kk c → C2 kk c) (hZ : ∀ f, Z f → Z2 f) (hK : K ≤ K2) (hD : D ≤ D2) (hb : bd ≤ b2) (hc : c2 ≤ cc) : Pst C2 Z2 K2 D2 b2 c2 h L dr tk ln ks h1 ra := by
  obtain ⟨dr1, tk1, tp1, kk, c, g, p1, p2, p3, p4, p5, p6, p7, p8, p9, p10⟩ := p
  exact ⟨dr1, tk1, tp1, kk, c, g, p1, p2, p3, hC _ _ p4, hZ _ p5, EV_up p6 hK, TR_le p7 hD, by omega, p9, p10⟩
def tZ (_ : Ctx → Int32 → Int32) : Prop := True
def tG (_ : PH) : Prop := True
def cA (d : Nat) (kk : List Sg) (c : List Cmd) : Prop := ∀ m, 3 ≤ m + d → APk m kk c
def cP (d : Nat) (kk : List Sg) (c : List Cmd) : Prop := ∀ m, 3 ≤ m + d → PPk m kk c
def cV (d : Nat) (kk : List Sg) (c : List Cmd) : Prop := ∀ m, 3 ≤ m + d → VPk m kk c
theorem cA_1 {d k : Nat} {n w : Int} (h : opd k = true) : cA d [(k, n, w)] [(k, n)] := fun _ _ => AP_opd (g := (k, n, w)) h
theorem at_45 {d L dr tk ln dd K D bd : Nat} {x1 x3 : Option VV} {w : Int} {tp : List Int} {ks : List Sg} {h : PH} {Q : Rs → PH → Prop} (b : BKh h L dr tk ln tp) (l : LXs tp ks) (e : enN tp = false) (ht : tk ≤ 290) (hd : dr ≤ 12 * tk + 2000) (hw : 0 ≤ w ∧ w < 8) (hK : 1 ≤ K) (hb : 1 ≤ bd) (q : ∀ h1 ra, Pst (cA dd) tZ K D bd 10 h L dr tk ln ks h1 ra → Q (.inl (some (.inr (.inr (.inr (13, 0, ra)))))) h1) : Ev (d + 7) 171 (45, [some (.inr (.inr (.inr (11, 0, 83)))), x1, some (.inl (iZ (w))), x3], [], h) Q := by
  refine Ev.sts 2 (c' := (47, [some (.inr (.inr (.inr (11, 0, 83)))), x1, some (.inl (iZ (w))), x3], [.inl (iZ (4)), .inl (iZ (w))], h)) rfl ?_
  refine Ev.brc (p := (iZ (4)) ≤ (iZ (w))) (q := ((4 : Int)) ≤ w) (c1 := (110, [some (.inr (.inr (.inr (11, 0, 83)))), x1, some (.inl (iZ (w))), x3], [], h)) (c2 := (50, [some (.inr (.inr (.inr (11, 0, 83)))), x1, some (.inl (iZ (w))), x3], [], h)) rfl (iZ_le ⟨by omega, by omega⟩ ⟨by omega, by omega⟩) (fun c0 => ?_) (fun c0 => ?_)
  · refine at_110 b l e (by omega) (by omega) (fun h9 i ra i4 B F T n m X => q h9 ra ⟨_, _, _, [(11 + i, 0, 0)], [(11 + i, 0)], _, B, F, (lx_fld i4 l e).1, cA_1 (opd_t.mpr (by omega)), trivial, EV_up (EV_1 (by unfold kPu; omega)) hK, TR_le T (Nat.zero_le _), ⟨rfl, Nat.le_refl _, by omega, by show _ ≤ dr + 12; omega, n⟩, m, X⟩)
  · refine Ev.sts 2 (c' := (52, [some (.inr (.inr (.inr (11, 0, 83)))), x1, some (.inl (iZ (w))), x3], [.inl (iZ (3)), .inr (.inr (.inr (11, 0, 83)))], h)) rfl ?_
    refine Ev.callw (a := [.inr (.inr (.inr (11, 0, 83))), .inl (iZ (3))]) rfl (bk_draw b (by omega) ⟨by omega, by omega⟩ (fun w1 h1 v1a v1b b1 f1 n1 m1 r1 => ?_))
    refine Ev.brc (p := ¬ (iZ (w1)) = (iZ (0))) (q := ¬ ((w1 : Int)) = 0) (c1 := (68, [some (.inr (.inr (.inr (11, 0, 83)))), x1, some (.inl (iZ (w))), x3], [], h1)) (c2 := (58, [some (.inr (.inr (.inr (11, 0, 83)))), x1, some (.inl (iZ (w))), x3], [], h1)) rfl (not_congr (iZ_eq ⟨by omega, by omega⟩ ⟨by omega, by omega⟩)) (fun c1 => ?_) (fun c1 => ?_)
    · refine Ev.sts 2 (c' := (71, [some (.inr (.inr (.inr (11, 0, 83)))), x1, some (.inl (iZ (w))), x3], [.inl (iZ (12)), .inr (.inr (.inr (11, 0, 83)))], h1)) rfl ?_
      refine Ev.callw (a := [.inr (.inr (.inr (11, 0, 83))), .inl (iZ (12))]) rfl (bk_draw b1 (by omega) ⟨by omega, by omega⟩ (fun w2 h2 v2a v2b b2 f2 n2 m2 r2 => ?_))
      refine Ev.sts 1 (c' := (75, [some (.inr (.inr (.inr (11, 0, 83)))), x1, some (.inl (iZ (w))), some (.inl (iZ (w2)))], [], h2)) rfl ?_
      refine at_75 b2 l e (by omega) (by omega) (fun h9 ra B F T n m X => q h9 ra (Pst_base (c2 := 10) (cc := 12) (dr := dr + 1 + 1) ⟨_, _, _, [(3, w2, 0)], [(3, w2)], _, B, F, (lx_num (by omega) l e).1, cA_1 rfl, trivial, EV_up (EV_1 (.inl rfl)) hK, TR_le T (Nat.zero_le _), ⟨rfl, Nat.le_refl _, by omega, by show _ ≤ _ + 12; omega, n⟩, m, X⟩ (FB_t (FB_t (FB_r h) f1) f2) (by omega) (by omega) (by omega)))
    · refine Ev.sts 2 (c' := (62, [some (.inr (.inr (.inr (11, 0, 83)))), x1, some (.inl (iZ (w))), x3], [.inl (iZ (1000)), .inr (.inr (.inr (11, 0, 83)))], h1)) rfl ?_
      refine Ev.callw (a := [.inr (.inr (.inr (11, 0, 83))), .inl (iZ (1000))]) rfl (bk_draw b1 (by omega) ⟨by omega, by omega⟩ (fun w3 h3 v3a v3b b3 f3 n3 m3 r3 => ?_))
      refine Ev.sts 2 (c' := (75, [some (.inr (.inr (.inr (11, 0, 83)))), x1, some (.inl (iZ (w))), some (.inl (iZ (w3)))], [], h3)) rfl ?_
      refine at_75 b3 l e (by omega) (by omega) (fun h9 ra B F T n m X => q h9 ra (Pst_base (c2 := 10) (cc := 12) (dr := dr + 1 + 1) ⟨_, _, _, [(3, w3, 0)], [(3, w3)], _, B, F, (lx_num (by omega) l e).1, cA_1 rfl, trivial, EV_up (EV_1 (.inl rfl)) hK, TR_le T (Nat.zero_le _), ⟨rfl, Nat.le_refl _, by omega, by show _ ≤ _ + 12; omega, n⟩, m, X⟩ (FB_t (FB_t (FB_r h) f1) f3) (by omega) (by omega) (by omega)))

theorem X_draw {h h1 : PH} {lo N : Nat} {T : List Int} (t : txR h lo N (h.2.2.1 83 4) T) (f : FB h h1) (hr : h1.2.2.1 83 4 = h.2.2.1 83 4) (hN0 : N ≤ hN h) (hlo : 83 ≤ lo) : txR h1 lo N (h1.2.2.1 83 4) T := by
  rw [hr]
  exact txR_Kp t f.1 hN0 (fun a ha => by omega)
theorem TR_mv {h h1 : PH} {lo l2 N K D : Nat} {r : VR} {g : Ctx → Int32 → Int32} (t : TRr h lo N D r g) (f : FB h h1) (hN0 : N ≤ hN h) (hlo : 83 ≤ lo) (hK : N ≤ K) (hl : l2 ≤ lo) : TRr h1 l2 K D r g := TR_Kp f.1 hN0 (fun a ha => by omega) hK hl t
theorem lx_as {tp : List Int} {a b c : List Sg} (l : LXs tp ((a ++ b) ++ c)) : LXs tp (a ++ (b ++ c)) := by rw [← List.append_assoc]; exact l
theorem at_go {d L dr tk ln dd E : Nat} {tp : List Int} {ks : List Sg} {h : PH} {Q : Rs → PH → Prop} (hdd : dd ≤ 3) (hv : dd < 3 → PVs 169 tG (cV (dd + 1)) tZ (dd + 1) (9 - 2 * (dd + 1)) (8 - 2 * (dd + 1)) (4 - (dd + 1)) 7 1990 E) (hE : E ≤ d) (b : BKh h L dr tk ln tp) (l : LXs tp ks) (e : enN tp = false) (ht : tk + (4 - dd) ≤ 290) (ht2 : ln + 40 + (4 - dd) ≤ 290) (hd : dr ≤ 12 * tk + 1990) (q : ∀ h1 ra, Pst (cA dd) tZ (7 - 2 * dd) (6 - 2 * dd) (4 - dd) 9 h L dr tk ln ks h1 ra → Q (.inl (some (.inr (.inr (.inr (13, 0, ra)))))) h1) : Rn (d + 7) 171 [.inr (.inr (.inr (11, 0, 83))), .inl (iZ (((dd : Nat) : Int)))] h Q := by
  have h88 := b.2.2.2.2.2.2.2.1
  have hK : 1 ≤ 7 - 2 * dd := by omega
  have hb : 1 ≤ 4 - dd := by omega
  refine Ev.sts 2 (c' := (3, [some (.inr (.inr (.inr (11, 0, 83)))), some (.inl (iZ (((dd : Nat) : Int)))), none, none], [.inl (iZ (8)), .inr (.inr (.inr (11, 0, 83)))], h)) rfl ?_
  refine Ev.callw (a := [.inr (.inr (.inr (11, 0, 83))), .inl (iZ (8))]) rfl (bk_draw b (by omega) ⟨by omega, by omega⟩ (fun w1 h1 v1a v1b b1 f1 n1 m1 r1 => ?_))
  refine Ev.sts 2 (c' := (8, [some (.inr (.inr (.inr (11, 0, 83)))), some (.inl (iZ (((dd : Nat) : Int)))), some (.inl (iZ (w1))), none], [.inl (iZ (w1))], h1)) rfl ?_
  refine Ev.brc (p := ¬ (iZ (w1)) = (iZ (0))) (q := ¬ ((w1 : Int)) = 0) (c1 := (45, [some (.inr (.inr (.inr (11, 0, 83)))), some (.inl (iZ (((dd : Nat) : Int)))), some (.inl (iZ (w1))), none], [], h1)) (c2 := (11, [some (.inr (.inr (.inr (11, 0, 83)))), some (.inl (iZ (((dd : Nat) : Int)))), some (.inl (iZ (w1))), none], [], h1)) rfl (not_congr (iZ_eq ⟨by omega, by omega⟩ ⟨by omega, by omega⟩)) (fun c0 => ?_) (fun c0 => ?_)
  · refine at_45 (dd := dd) b1 l e (by omega) (by omega) ⟨by omega, by omega⟩ hK hb (fun h9 ra P => q h9 ra (Pst_base P f1 (by omega) (by omega) (by omega)))
  · refine Ev.sts 2 (c' := (13, [some (.inr (.inr (.inr (11, 0, 83)))), some (.inl (iZ (((dd : Nat) : Int)))), some (.inl (iZ (w1))), none], [.inl (iZ (3)), .inl (iZ (((dd : Nat) : Int)))], h1)) rfl ?_
    refine Ev.brc (p := (iZ (3)) ≤ (iZ (((dd : Nat) : Int)))) (q := ((3 : Int)) ≤ ((dd : Nat) : Int)) (c1 := (45, [some (.inr (.inr (.inr (11, 0, 83)))), some (.inl (iZ (((dd : Nat) : Int)))), some (.inl (iZ (w1))), none], [], h1)) (c2 := (16, [some (.inr (.inr (.inr (11, 0, 83)))), some (.inl (iZ (((dd : Nat) : Int)))), some (.inl (iZ (w1))), none], [], h1)) rfl (iZ_le ⟨by omega, by omega⟩ ⟨by omega, by omega⟩) (fun c1 => ?_) (fun c1 => ?_)
    · refine at_45 (dd := dd) b1 l e (by omega) (by omega) ⟨by omega, by omega⟩ hK hb (fun h9 ra P => q h9 ra (Pst_base P f1 (by omega) (by omega) (by omega)))
    · refine Ev.sts 1 (c' := (17, [some (.inr (.inr (.inr (11, 0, 83)))), some (.inl (iZ (((dd : Nat) : Int)))), some (.inl (iZ (w1))), none], [.inr (.inr (.inr (11, 0, 83)))], h1)) rfl ?_
      refine Ev.callw (a := [.inr (.inr (.inr (11, 0, 83)))]) rfl (bk_short b1 ⟨by omega, by omega⟩ (fun c_2 => ?_) (fun c_2 => ?_))
      · refine Ev.brF (p := (iZ (1)) = (iZ (0))) (c1 := (45, [some (.inr (.inr (.inr (11, 0, 83)))), some (.inl (iZ (((dd : Nat) : Int)))), some (.inl (iZ (w1))), none], [], h1)) (c2 := (23, [some (.inr (.inr (.inr (11, 0, 83)))), some (.inl (iZ (((dd : Nat) : Int)))), some (.inl (iZ (w1))), none], [], h1)) (by decide) rfl ?_
        refine Ev.sts 2 (c' := (26, [some (.inr (.inr (.inr (11, 0, 83)))), some (.inl (iZ (((dd : Nat) : Int)))), some (.inl (iZ (w1))), none], [.inr (.inr (.inr (43, 0, 36))), .inr (.inr (.inr (11, 0, 83)))], h1)) rfl ?_
        refine Ev.callw (a := [.inr (.inr (.inr (11, 0, 83))), .inr (.inr (.inr (43, 0, 36)))]) rfl (bk_add b1 (txR_c _ _ _ 36) (txC_as 36) (Nat.le_trans ll_36 (by decide)) (by omega) (fun h3 b3 f3 n3 m3 t3 => ?_))
        have l3 := lx_36 l
        have N3 := FB_n f3
        refine Ev.sts 3 (c' := (32, [some (.inr (.inr (.inr (11, 0, 83)))), some (.inl (iZ (((dd : Nat) : Int)))), some (.inl (iZ (w1))), none], [.inl (iZ (1)), .inl (iZ (((dd : Nat) : Int))), .inr (.inr (.inr (11, 0, 83)))], h3)) rfl ?_
        refine Ev.gv (w := (iZ ((((dd : Nat) : Int)) + 1))) rfl (iZ_add _ _) ?_
        rw [show ((dd : Int) + 1) = ((dd + 1 : Nat) : Int) by omega]
        refine Ev.callw (a := [.inr (.inr (.inr (11, 0, 83))), .inl (iZ (((dd + 1 : Nat) : Int)))]) rfl ((hv (by omega)) _ (by omega) _ _ _ _ _ _ _ _ trivial b3 (l3).1 (l3).2 (by omega) (by omega) (by omega) (fun h4 ra4 P4 => ?_))
        obtain ⟨dr4, tk4, tp4, kk4, cc4, g4, b4, f4, l4, C4, Z4, ev4, T4, ⟨a4a, a4b, a4c, a4d, n4⟩, m4, t4⟩ := P4
        have N4 := FB_n f4
        refine Ev.sts 3 (c' := (40, [some (.inr (.inr (.inr (11, 0, 83)))), some (.inl (iZ (((dd : Nat) : Int)))), some (.inl (iZ (w1))), some (.inr (.inr (.inr (13, 0, ra4))))], [.inr (.inr (.inr (43, 0, 37))), .inr (.inr (.inr (11, 0, 83)))], h4)) rfl ?_
        refine Ev.callw (a := [.inr (.inr (.inr (11, 0, 83))), .inr (.inr (.inr (43, 0, 37)))]) rfl (bk_add b4 (txR_c _ _ _ 37) (txC_as 37) (Nat.le_trans ll_37 (by decide)) (by omega) (fun h5 b5 f5 n5 m5 t5 => ?_))
        have l5 := lx_37 l4
        have N5 := FB_n f5
        refine Ev.sts 1 (c' := (44, [some (.inr (.inr (.inr (11, 0, 83)))), some (.inl (iZ (((dd : Nat) : Int)))), some (.inl (iZ (w1))), some (.inr (.inr (.inr (13, 0, ra4))))], [.inr (.inr (.inr (13, 0, ra4)))], h5)) rfl ?_
        refine Ev.ret rfl (q _ _ ⟨_, _, _, (26, 0, 0) :: (kk4 ++ [(27, 0, 0)]), cc4, g4, b5, (FB_t (FB_t (FB_t f1 f3) f4) f5), by simpa only [List.append_assoc, List.cons_append, List.nil_append] using (l5).1, fun m hm => ?_, trivial, EV_up ev4 (by omega), TR_le (TR_mv T4 f5 (Nat.le_refl _) (by omega) (by omega) (by omega)) (by omega), ?_, ?_, ?_⟩)
        · obtain ⟨m, rfl⟩ : ∃ k, m = k + 1 := ⟨m - 1, by omega⟩
          exact AP_par (C4 m (by omega))
        · simp only [List.length_cons, List.length_append, List.length_nil]
          omega
        · omega
        · exact txR_lo t5 (by omega)
      · refine Ev.brT (p := (iZ (0)) = (iZ (0))) (c1 := (45, [some (.inr (.inr (.inr (11, 0, 83)))), some (.inl (iZ (((dd : Nat) : Int)))), some (.inl (iZ (w1))), none], [], h1)) (c2 := (23, [some (.inr (.inr (.inr (11, 0, 83)))), some (.inl (iZ (((dd : Nat) : Int)))), some (.inl (iZ (w1))), none], [], h1)) (by decide) rfl ?_
        refine at_45 (dd := dd) b1 l e (by omega) (by omega) ⟨by omega, by omega⟩ hK hb (fun h9 ra P => q h9 ra (Pst_base P f1 (by omega) (by omega) (by omega)))

theorem pr_go {d L dr tk ln dd E : Nat} {tp : List Int} {ks : List Sg} {h : PH} {Q : Rs → PH → Prop} (hdd : dd ≤ 3) (ha : PVs 171 tG (cA dd) tZ dd (7 - 2 * dd) (6 - 2 * dd) (4 - dd) 9 1990 E) (hE : E ≤ d) (b : BKh h L dr tk ln tp) (l : LXs tp ks) (e : enN tp = false) (ht : tk + (4 - dd) ≤ 290) (ht2 : ln + 40 + (4 - dd) ≤ 290) (hd : dr ≤ 12 * tk + 1990) (q : ∀ h1 ra, Pst (cP dd) tZ (8 - 2 * dd) (7 - 2 * dd) (4 - dd) 8 h L dr tk ln ks h1 ra → Q (.inl (some (.inr (.inr (.inr (13, 0, ra)))))) h1) : Rn (d + 7) 170 [.inr (.inr (.inr (11, 0, 83))), .inl (iZ (((dd : Nat) : Int)))] h Q := by
  have h88 := b.2.2.2.2.2.2.2.1
  refine Ev.sts 2 (c' := (2, [some (.inr (.inr (.inr (11, 0, 83)))), some (.inl (iZ (((dd : Nat) : Int)))), none], [.inl (iZ (((dd : Nat) : Int))), .inr (.inr (.inr (11, 0, 83)))], h)) rfl ?_
  refine Ev.callw (a := [.inr (.inr (.inr (11, 0, 83))), .inl (iZ (((dd : Nat) : Int)))]) rfl (ha _ (by omega) _ _ _ _ _ _ _ _ trivial b l e (by omega) (by omega) (by omega) (fun h1 ra1 P1 => ?_))
  obtain ⟨dr1, tk1, tp1, kk1, cc1, g1, b1, f1, l1, C1, Z1, ev1, T1, ⟨a1a, a1b, a1c, a1d, n1⟩, m1, t1⟩ := P1
  have N1 := FB_n f1
  refine Ev.sts 3 (c' := (8, [some (.inr (.inr (.inr (11, 0, 83)))), some (.inl (iZ (((dd : Nat) : Int)))), some (.inr (.inr (.inr (13, 0, ra1))))], [.inl (iZ (5)), .inr (.inr (.inr (11, 0, 83)))], h1)) rfl ?_
  refine Ev.callw (a := [.inr (.inr (.inr (11, 0, 83))), .inl (iZ (5))]) rfl (bk_draw b1 (by omega) ⟨by omega, by omega⟩ (fun w2 h2 v2a v2b b2 f2 n2 m2 r2 => ?_))
  refine Ev.brc (p := (iZ (0)) < (iZ (w2))) (q := ((0 : Int)) < w2) (c1 := (21, [some (.inr (.inr (.inr (11, 0, 83)))), some (.inl (iZ (((dd : Nat) : Int)))), some (.inr (.inr (.inr (13, 0, ra1))))], [], h2)) (c2 := (14, [some (.inr (.inr (.inr (11, 0, 83)))), some (.inl (iZ (((dd : Nat) : Int)))), some (.inr (.inr (.inr (13, 0, ra1))))], [], h2)) rfl (iZ_lt ⟨by omega, by omega⟩ ⟨by omega, by omega⟩) (fun c0 => ?_) (fun c0 => ?_)
  · refine Ev.sts 1 (c' := (22, [some (.inr (.inr (.inr (11, 0, 83)))), some (.inl (iZ (((dd : Nat) : Int)))), some (.inr (.inr (.inr (13, 0, ra1))))], [.inr (.inr (.inr (13, 0, ra1)))], h2)) rfl ?_
    exact Ev.ret rfl (q _ _ ⟨_, _, _, kk1, cc1, g1, b2, (FB_t f1 f2), l1, fun m hm => PP_1 (C1 m hm), trivial, EV_up ev1 (by omega), TR_le (TR_mv T1 f2 (Nat.le_refl _) (by omega) (by omega) (by omega)) (by omega), ⟨by omega, by omega, by omega, by omega, by omega⟩, by omega, by rw [show hN h2 = hN h1 by omega]; exact X_draw (txR_lo t1 (by omega)) f2 (congrFun r2 4) (Nat.le_refl _) (by omega)⟩)
  · refine Ev.sts 1 (c' := (15, [some (.inr (.inr (.inr (11, 0, 83)))), some (.inl (iZ (((dd : Nat) : Int)))), some (.inr (.inr (.inr (13, 0, ra1))))], [.inr (.inr (.inr (11, 0, 83)))], h2)) rfl ?_
    refine Ev.callw (a := [.inr (.inr (.inr (11, 0, 83)))]) rfl (bk_short b2 ⟨by omega, by omega⟩ (fun c_3 => ?_) (fun c_3 => ?_))
    · refine Ev.brT (p := ¬ (iZ (1)) = (iZ (0))) (c1 := (23, [some (.inr (.inr (.inr (11, 0, 83)))), some (.inl (iZ (((dd : Nat) : Int)))), some (.inr (.inr (.inr (13, 0, ra1))))], [], h2)) (c2 := (21, [some (.inr (.inr (.inr (11, 0, 83)))), some (.inl (iZ (((dd : Nat) : Int)))), some (.inr (.inr (.inr (13, 0, ra1))))], [], h2)) (by decide) rfl ?_
      refine Ev.sts 2 (c' := (26, [some (.inr (.inr (.inr (11, 0, 83)))), some (.inl (iZ (((dd : Nat) : Int)))), some (.inr (.inr (.inr (13, 0, ra1))))], [.inr (.inr (.inr (43, 0, 38))), .inr (.inr (.inr (11, 0, 83)))], h2)) rfl ?_
      refine Ev.callw (a := [.inr (.inr (.inr (11, 0, 83))), .inr (.inr (.inr (43, 0, 38)))]) rfl (bk_add b2 (txR_c _ _ _ 38) (txC_as 38) (Nat.le_trans ll_38 (by decide)) (by omega) (fun h4 b4 f4 n4 m4 t4 => ?_))
      have l4 := lx_38 l1
      have N4 := FB_n f4
      refine Ev.sts 7 (c' := (38, [some (.inr (.inr (.inr (11, 0, 83)))), some (.inl (iZ (((dd : Nat) : Int)))), some (.inr (.inr (.inr (13, 0, ra1))))], [.inl (iZ (((dd : Nat) : Int))), .inr (.inr (.inr (11, 0, 83))), .inr (.inr (.inr (13, 0, ra1))), .inl (iZ (0)), .inl (iZ (4)), .inr (.inr (.inr (13, 0, (hN h4)))), .inr (.inr (.inr (13, 0, (hN h4))))], (grow h4 4))) rfl ?_
      refine Ev.callw (a := [.inr (.inr (.inr (11, 0, 83))), .inl (iZ (((dd : Nat) : Int)))]) rfl (ha _ (by omega) _ _ _ _ _ _ _ _ trivial (BK_g (n := 4) b4).1 (l4).1 (l4).2 (by omega) (by omega) (by omega) (fun h5 ra5 P5 => ?_))
      obtain ⟨dr5, tk5, tp5, kk5, cc5, g5, b5, f5, l5, C5, Z5, ev5, T5, ⟨a5a, a5b, a5c, a5d, n5⟩, m5, t5⟩ := P5
      have N5 := FB_n f5
      have G5 : hN (grow h4 4) = hN h4 + 1 := rfl
      have M5 : hS (grow h4 4) = hS h4 + 4 := rfl
      refine Ev.callv (a := [.inr (.inr (.inr (13, 0, (hN h4)))), .inl (iZ (4)), .inl (iZ (0)), .inr (.inr (.inr (13, 0, ra1))), .inr (.inr (.inr (13, 0, ra5)))]) rfl (lt_pq (h := h5)) ?_
      have P := BK_tr (s := (iZ (4))) (n := (iZ (0))) (p := (13, 0, ra1)) (q := (13, 0, ra5)) (a := hN h4) b5 (FB_t (FB_t (FB_t (FB_t f1 f2) f4) (BK_g (n := 4) b4).2) f5) (by omega) (by omega) (by omega) ⟨_, _, .inr (show hN h4 ≤ hN (grow h4 4) - 1 by omega), by omega, Nat.le_refl _, t5⟩
      have X := trX (a := hN h4) (s := (iZ (4))) (n := (iZ (0))) (p := (13, 0, ra1)) (q := (13, 0, ra5)) t5 (.inr (show hN h4 ≤ hN (grow h4 4) - 1 by omega)) (by omega) (by omega) (Nat.le_refl _)
      have K1 : FB h1 h5 := (FB_t (FB_t (FB_t f2 f4) (BK_g (n := 4) b4).2) f5)
      have T1 : TRr (trH h5 (hN h4) (iZ (4)) (iZ (0)) (13, 0, ra1) (13, 0, ra5)) (hN h - 1) (hN h5) _ (13, 0, ra1) g1 := TR_Kp (Kp_t K1.1 (trH_k (A := fun a => a = 83) (fun z => absurd z (by omega)) (by omega))) (Nat.le_refl _) (fun a ha => by omega) (by omega) (by omega) T1
      have T2 : TRr (trH h5 (hN h4) (iZ (4)) (iZ (0)) (13, 0, ra1) (13, 0, ra5)) (hN h - 1) (hN h5) _ (13, 0, ra5) g5 := TR_Kp (trH_k (A := fun a => a = hN h4) (fun _ => rfl) (by omega)) (Nat.le_refl _) (fun a ha => by omega) (Nat.le_refl _) (by omega) T5
      refine Ev.ret rfl (q _ _ ⟨_, _, _, kk1 ++ (37, 0, 0) :: kk5, cc1 ++ (cc5 ++ [(37, (0 : Int))]), fun x t => opj 37 (g1 x t) (g5 x t), P.1, P.2, by simpa only [List.append_assoc, List.cons_append, List.nil_append] using l5, fun m hm => PP_2 (C1 m hm) (C5 m hm), trivial, EV_up (EV_2 (by unfold kJ; omega) ev1 ev5) (by omega), TR_le (TR_jn (N := hN h5) (s := 4) ⟨by omega, by omega⟩ (.inl (.inr (.inr (.inl ⟨rfl, rfl⟩)))) ((trH_0 _ _ _ _ _ _).trans (by first | rfl | (congr 1; omega))) (trH_2 _ _ _ _ _ _) (trH_3 _ _ _ _ _ _) T1 T2) (by omega), ?_, ?_, txR_lo X (by omega)⟩)
      · simp only [List.length_cons, List.length_append]
        show _ ∧ _ ∧ _ ∧ _ ∧ hN h5 ≤ _
        omega
      · show hS h5 + gP tk ≤ _
        omega
    · refine Ev.brF (p := ¬ (iZ (0)) = (iZ (0))) (c1 := (23, [some (.inr (.inr (.inr (11, 0, 83)))), some (.inl (iZ (((dd : Nat) : Int)))), some (.inr (.inr (.inr (13, 0, ra1))))], [], h2)) (c2 := (21, [some (.inr (.inr (.inr (11, 0, 83)))), some (.inl (iZ (((dd : Nat) : Int)))), some (.inr (.inr (.inr (13, 0, ra1))))], [], h2)) (by decide) rfl ?_
      refine Ev.sts 1 (c' := (22, [some (.inr (.inr (.inr (11, 0, 83)))), some (.inl (iZ (((dd : Nat) : Int)))), some (.inr (.inr (.inr (13, 0, ra1))))], [.inr (.inr (.inr (13, 0, ra1)))], h2)) rfl ?_
      exact Ev.ret rfl (q _ _ ⟨_, _, _, kk1, cc1, g1, b2, (FB_t f1 f2), l1, fun m hm => PP_1 (C1 m hm), trivial, EV_up ev1 (by omega), TR_le (TR_mv T1 f2 (Nat.le_refl _) (by omega) (by omega) (by omega)) (by omega), ⟨by omega, by omega, by omega, by omega, by omega⟩, by omega, by rw [show hN h2 = hN h1 by omega]; exact X_draw (txR_lo t1 (by omega)) f2 (congrFun r2 4) (Nat.le_refl _) (by omega)⟩)

theorem vl_go {d L dr tk ln dd E : Nat} {tp : List Int} {ks : List Sg} {h : PH} {Q : Rs → PH → Prop} (hdd : dd ≤ 3) (ha : PVs 170 tG (cP dd) tZ dd (8 - 2 * dd) (7 - 2 * dd) (4 - dd) 8 1990 E) (hE : E ≤ d) (b : BKh h L dr tk ln tp) (l : LXs tp ks) (e : enN tp = false) (ht : tk + (4 - dd) ≤ 290) (ht2 : ln + 40 + (4 - dd) ≤ 290) (hd : dr ≤ 12 * tk + 1990) (q : ∀ h1 ra, Pst (cV dd) tZ (9 - 2 * dd) (8 - 2 * dd) (4 - dd) 7 h L dr tk ln ks h1 ra → Q (.inl (some (.inr (.inr (.inr (13, 0, ra)))))) h1) : Rn (d + 7) 169 [.inr (.inr (.inr (11, 0, 83))), .inl (iZ (((dd : Nat) : Int)))] h Q := by
  have h88 := b.2.2.2.2.2.2.2.1
  refine Ev.sts 2 (c' := (2, [some (.inr (.inr (.inr (11, 0, 83)))), some (.inl (iZ (((dd : Nat) : Int)))), none, none], [.inl (iZ (((dd : Nat) : Int))), .inr (.inr (.inr (11, 0, 83)))], h)) rfl ?_
  refine Ev.callw (a := [.inr (.inr (.inr (11, 0, 83))), .inl (iZ (((dd : Nat) : Int)))]) rfl (ha _ (by omega) _ _ _ _ _ _ _ _ trivial b l e (by omega) (by omega) (by omega) (fun h1 ra1 P1 => ?_))
  obtain ⟨dr1, tk1, tp1, kk1, cc1, g1, b1, f1, l1, C1, Z1, ev1, T1, ⟨a1a, a1b, a1c, a1d, n1⟩, m1, t1⟩ := P1
  have N1 := FB_n f1
  refine Ev.sts 3 (c' := (8, [some (.inr (.inr (.inr (11, 0, 83)))), some (.inl (iZ (((dd : Nat) : Int)))), some (.inr (.inr (.inr (13, 0, ra1)))), none], [.inl (iZ (4)), .inr (.inr (.inr (11, 0, 83)))], h1)) rfl ?_
  refine Ev.callw (a := [.inr (.inr (.inr (11, 0, 83))), .inl (iZ (4))]) rfl (bk_draw b1 (by omega) ⟨by omega, by omega⟩ (fun w2 h2 v2a v2b b2 f2 n2 m2 r2 => ?_))
  refine Ev.sts 1 (c' := (12, [some (.inr (.inr (.inr (11, 0, 83)))), some (.inl (iZ (((dd : Nat) : Int)))), some (.inr (.inr (.inr (13, 0, ra1)))), none], [.inl (iZ (3)), .inl (iZ (w2))], h2)) rfl ?_
  refine Ev.brc (p := (iZ (w2)) < (iZ (3))) (q := ((w2 : Int)) < 3) (c1 := (22, [some (.inr (.inr (.inr (11, 0, 83)))), some (.inl (iZ (((dd : Nat) : Int)))), some (.inr (.inr (.inr (13, 0, ra1)))), none], [], h2)) (c2 := (15, [some (.inr (.inr (.inr (11, 0, 83)))), some (.inl (iZ (((dd : Nat) : Int)))), some (.inr (.inr (.inr (13, 0, ra1)))), none], [], h2)) rfl (iZ_lt ⟨by omega, by omega⟩ ⟨by omega, by omega⟩) (fun c0 => ?_) (fun c0 => ?_)
  · refine Ev.sts 1 (c' := (23, [some (.inr (.inr (.inr (11, 0, 83)))), some (.inl (iZ (((dd : Nat) : Int)))), some (.inr (.inr (.inr (13, 0, ra1)))), none], [.inr (.inr (.inr (13, 0, ra1)))], h2)) rfl ?_
    exact Ev.ret rfl (q _ _ ⟨_, _, _, kk1, cc1, g1, b2, (FB_t f1 f2), l1, fun m hm => VP_1 (C1 m hm), trivial, EV_up ev1 (by omega), TR_le (TR_mv T1 f2 (Nat.le_refl _) (by omega) (by omega) (by omega)) (by omega), ⟨by omega, by omega, by omega, by omega, by omega⟩, by omega, by rw [show hN h2 = hN h1 by omega]; exact X_draw (txR_lo t1 (by omega)) f2 (congrFun r2 4) (Nat.le_refl _) (by omega)⟩)
  · refine Ev.sts 1 (c' := (16, [some (.inr (.inr (.inr (11, 0, 83)))), some (.inl (iZ (((dd : Nat) : Int)))), some (.inr (.inr (.inr (13, 0, ra1)))), none], [.inr (.inr (.inr (11, 0, 83)))], h2)) rfl ?_
    refine Ev.callw (a := [.inr (.inr (.inr (11, 0, 83)))]) rfl (bk_short b2 ⟨by omega, by omega⟩ (fun c_3 => ?_) (fun c_3 => ?_))
    · refine Ev.brT (p := ¬ (iZ (1)) = (iZ (0))) (c1 := (24, [some (.inr (.inr (.inr (11, 0, 83)))), some (.inl (iZ (((dd : Nat) : Int)))), some (.inr (.inr (.inr (13, 0, ra1)))), none], [], h2)) (c2 := (22, [some (.inr (.inr (.inr (11, 0, 83)))), some (.inl (iZ (((dd : Nat) : Int)))), some (.inr (.inr (.inr (13, 0, ra1)))), none], [], h2)) (by decide) rfl ?_
      refine Ev.sts 2 (c' := (26, [some (.inr (.inr (.inr (11, 0, 83)))), some (.inl (iZ (((dd : Nat) : Int)))), some (.inr (.inr (.inr (13, 0, ra1)))), none], [.inl (iZ (2)), .inr (.inr (.inr (11, 0, 83)))], h2)) rfl ?_
      refine Ev.callw (a := [.inr (.inr (.inr (11, 0, 83))), .inl (iZ (2))]) rfl (bk_draw b2 (by omega) ⟨by omega, by omega⟩ (fun w4 h4 v4a v4b b4 f4 n4 m4 r4 => ?_))
      refine Ev.sts 3 (c' := (32, [some (.inr (.inr (.inr (11, 0, 83)))), some (.inl (iZ (((dd : Nat) : Int)))), some (.inr (.inr (.inr (13, 0, ra1)))), some (.inl (iZ (w4)))], [.inl (iZ (w4)), .inr (.inr (.inr (11, 0, 83)))], h4)) rfl ?_
      refine Ev.brc (p := ¬ (iZ (w4)) = (iZ (0))) (q := ¬ ((w4 : Int)) = 0) (c1 := (40, [some (.inr (.inr (.inr (11, 0, 83)))), some (.inl (iZ (((dd : Nat) : Int)))), some (.inr (.inr (.inr (13, 0, ra1)))), some (.inl (iZ (w4)))], [.inr (.inr (.inr (11, 0, 83)))], h4)) (c2 := (35, [some (.inr (.inr (.inr (11, 0, 83)))), some (.inl (iZ (((dd : Nat) : Int)))), some (.inr (.inr (.inr (13, 0, ra1)))), some (.inl (iZ (w4)))], [.inr (.inr (.inr (11, 0, 83)))], h4)) rfl (not_congr (iZ_eq ⟨by omega, by omega⟩ ⟨by omega, by omega⟩)) (fun c1 => ?_) (fun c1 => ?_)
      · refine Ev.sts 1 (c' := (42, [some (.inr (.inr (.inr (11, 0, 83)))), some (.inl (iZ (((dd : Nat) : Int)))), some (.inr (.inr (.inr (13, 0, ra1)))), some (.inl (iZ (w4)))], [.inr (.inr (.inr (43, 0, 40))), .inr (.inr (.inr (11, 0, 83)))], h4)) rfl ?_
        refine Ev.callw (a := [.inr (.inr (.inr (11, 0, 83))), .inr (.inr (.inr (43, 0, 40)))]) rfl (bk_add b4 (txR_c _ _ _ 40) (txC_as 40) (Nat.le_trans ll_40 (by decide)) (by omega) (fun h5 b5 f5 n5 m5 t5 => ?_))
        have l5 := lx_40 l1
        have N5 := FB_n f5
        refine Ev.sts 4 (c' := (51, [some (.inr (.inr (.inr (11, 0, 83)))), some (.inl (iZ (((dd : Nat) : Int)))), some (.inr (.inr (.inr (13, 0, ra1)))), some (.inl (iZ (w4)))], [.inl (iZ (w4)), .inl (iZ (2)), .inr (.inr (.inr (13, 0, (hN h5)))), .inr (.inr (.inr (13, 0, (hN h5))))], (grow h5 4))) rfl ?_
        refine Ev.gv (w := (iZ (2 + w4))) rfl (iZ_add _ _) ?_
        refine Ev.sts 4 (c' := (56, [some (.inr (.inr (.inr (11, 0, 83)))), some (.inl (iZ (((dd : Nat) : Int)))), some (.inr (.inr (.inr (13, 0, ra1)))), some (.inl (iZ (w4)))], [.inl (iZ (((dd : Nat) : Int))), .inr (.inr (.inr (11, 0, 83))), .inr (.inr (.inr (13, 0, ra1))), .inl (iZ (0)), .inl (iZ (2 + w4)), .inr (.inr (.inr (13, 0, (hN h5)))), .inr (.inr (.inr (13, 0, (hN h5))))], (grow h5 4))) rfl ?_
        refine Ev.callw (a := [.inr (.inr (.inr (11, 0, 83))), .inl (iZ (((dd : Nat) : Int)))]) rfl (ha _ (by omega) _ _ _ _ _ _ _ _ trivial (BK_g (n := 4) b5).1 (l5).1 (l5).2 (by omega) (by omega) (by omega) (fun h6 ra6 P6 => ?_))
        obtain ⟨dr6, tk6, tp6, kk6, cc6, g6, b6, f6, l6, C6, Z6, ev6, T6, ⟨a6a, a6b, a6c, a6d, n6⟩, m6, t6⟩ := P6
        have N6 := FB_n f6
        have G6 : hN (grow h5 4) = hN h5 + 1 := rfl
        have M6 : hS (grow h5 4) = hS h5 + 4 := rfl
        refine Ev.callv (a := [.inr (.inr (.inr (13, 0, (hN h5)))), .inl (iZ (2 + w4)), .inl (iZ (0)), .inr (.inr (.inr (13, 0, ra1))), .inr (.inr (.inr (13, 0, ra6)))]) rfl (lt_pq (h := h6)) ?_
        have P := BK_tr (s := (iZ (2 + w4))) (n := (iZ (0))) (p := (13, 0, ra1)) (q := (13, 0, ra6)) (a := hN h5) b6 (FB_t (FB_t (FB_t (FB_t (FB_t f1 f2) f4) f5) (BK_g (n := 4) b5).2) f6) (by omega) (by omega) (by omega) ⟨_, _, .inr (show hN h5 ≤ hN (grow h5 4) - 1 by omega), by omega, Nat.le_refl _, t6⟩
        have X := trX (a := hN h5) (s := (iZ (2 + w4))) (n := (iZ (0))) (p := (13, 0, ra1)) (q := (13, 0, ra6)) t6 (.inr (show hN h5 ≤ hN (grow h5 4) - 1 by omega)) (by omega) (by omega) (Nat.le_refl _)
        have K1 : FB h1 h6 := (FB_t (FB_t (FB_t (FB_t f2 f4) f5) (BK_g (n := 4) b5).2) f6)
        have T1 : TRr (trH h6 (hN h5) (iZ (2 + w4)) (iZ (0)) (13, 0, ra1) (13, 0, ra6)) (hN h - 1) (hN h6) _ (13, 0, ra1) g1 := TR_Kp (Kp_t K1.1 (trH_k (A := fun a => a = 83) (fun z => absurd z (by omega)) (by omega))) (Nat.le_refl _) (fun a ha => by omega) (by omega) (by omega) T1
        have T2 : TRr (trH h6 (hN h5) (iZ (2 + w4)) (iZ (0)) (13, 0, ra1) (13, 0, ra6)) (hN h - 1) (hN h6) _ (13, 0, ra6) g6 := TR_Kp (trH_k (A := fun a => a = hN h5) (fun _ => rfl) (by omega)) (Nat.le_refl _) (fun a ha => by omega) (Nat.le_refl _) (by omega) T6
        refine Ev.ret rfl (q _ _ ⟨_, _, _, kk1 ++ (36, 0, 0) :: kk6, cc1 ++ (cc6 ++ [(36, (0 : Int))]), fun x t => opj 36 (g1 x t) (g6 x t), P.1, P.2, by simpa only [List.append_assoc, List.cons_append, List.nil_append] using l6, fun m hm => VP_2 (.inr rfl) (C1 m hm) (C6 m hm), trivial, EV_up (EV_2 (by unfold kJ; omega) ev1 ev6) (by omega), TR_le (TR_jn (N := hN h6) (s := 3) ⟨by omega, by omega⟩ (.inl (.inr (.inl ⟨rfl, rfl⟩))) ((trH_0 _ _ _ _ _ _).trans (by first | rfl | (congr 1; omega))) (trH_2 _ _ _ _ _ _) (trH_3 _ _ _ _ _ _) T1 T2) (by omega), ?_, ?_, txR_lo X (by omega)⟩)
        · simp only [List.length_cons, List.length_append]
          show _ ∧ _ ∧ _ ∧ _ ∧ hN h6 ≤ _
          omega
        · show hS h6 + gP tk ≤ _
          omega
      · refine Ev.sts 2 (c' := (42, [some (.inr (.inr (.inr (11, 0, 83)))), some (.inl (iZ (((dd : Nat) : Int)))), some (.inr (.inr (.inr (13, 0, ra1)))), some (.inl (iZ (w4)))], [.inr (.inr (.inr (43, 0, 39))), .inr (.inr (.inr (11, 0, 83)))], h4)) rfl ?_
        refine Ev.callw (a := [.inr (.inr (.inr (11, 0, 83))), .inr (.inr (.inr (43, 0, 39)))]) rfl (bk_add b4 (txR_c _ _ _ 39) (txC_as 39) (Nat.le_trans ll_39 (by decide)) (by omega) (fun h7 b7 f7 n7 m7 t7 => ?_))
        have l7 := lx_39 l1
        have N7 := FB_n f7
        refine Ev.sts 4 (c' := (51, [some (.inr (.inr (.inr (11, 0, 83)))), some (.inl (iZ (((dd : Nat) : Int)))), some (.inr (.inr (.inr (13, 0, ra1)))), some (.inl (iZ (w4)))], [.inl (iZ (w4)), .inl (iZ (2)), .inr (.inr (.inr (13, 0, (hN h7)))), .inr (.inr (.inr (13, 0, (hN h7))))], (grow h7 4))) rfl ?_
        refine Ev.gv (w := (iZ (2 + w4))) rfl (iZ_add _ _) ?_
        refine Ev.sts 4 (c' := (56, [some (.inr (.inr (.inr (11, 0, 83)))), some (.inl (iZ (((dd : Nat) : Int)))), some (.inr (.inr (.inr (13, 0, ra1)))), some (.inl (iZ (w4)))], [.inl (iZ (((dd : Nat) : Int))), .inr (.inr (.inr (11, 0, 83))), .inr (.inr (.inr (13, 0, ra1))), .inl (iZ (0)), .inl (iZ (2 + w4)), .inr (.inr (.inr (13, 0, (hN h7)))), .inr (.inr (.inr (13, 0, (hN h7))))], (grow h7 4))) rfl ?_
        refine Ev.callw (a := [.inr (.inr (.inr (11, 0, 83))), .inl (iZ (((dd : Nat) : Int)))]) rfl (ha _ (by omega) _ _ _ _ _ _ _ _ trivial (BK_g (n := 4) b7).1 (l7).1 (l7).2 (by omega) (by omega) (by omega) (fun h8 ra8 P8 => ?_))
        obtain ⟨dr8, tk8, tp8, kk8, cc8, g8, b8, f8, l8, C8, Z8, ev8, T8, ⟨a8a, a8b, a8c, a8d, n8⟩, m8, t8⟩ := P8
        have N8 := FB_n f8
        have G8 : hN (grow h7 4) = hN h7 + 1 := rfl
        have M8 : hS (grow h7 4) = hS h7 + 4 := rfl
        refine Ev.callv (a := [.inr (.inr (.inr (13, 0, (hN h7)))), .inl (iZ (2 + w4)), .inl (iZ (0)), .inr (.inr (.inr (13, 0, ra1))), .inr (.inr (.inr (13, 0, ra8)))]) rfl (lt_pq (h := h8)) ?_
        have P := BK_tr (s := (iZ (2 + w4))) (n := (iZ (0))) (p := (13, 0, ra1)) (q := (13, 0, ra8)) (a := hN h7) b8 (FB_t (FB_t (FB_t (FB_t (FB_t f1 f2) f4) f7) (BK_g (n := 4) b7).2) f8) (by omega) (by omega) (by omega) ⟨_, _, .inr (show hN h7 ≤ hN (grow h7 4) - 1 by omega), by omega, Nat.le_refl _, t8⟩
        have X := trX (a := hN h7) (s := (iZ (2 + w4))) (n := (iZ (0))) (p := (13, 0, ra1)) (q := (13, 0, ra8)) t8 (.inr (show hN h7 ≤ hN (grow h7 4) - 1 by omega)) (by omega) (by omega) (Nat.le_refl _)
        have K1 : FB h1 h8 := (FB_t (FB_t (FB_t (FB_t f2 f4) f7) (BK_g (n := 4) b7).2) f8)
        have T1 : TRr (trH h8 (hN h7) (iZ (2 + w4)) (iZ (0)) (13, 0, ra1) (13, 0, ra8)) (hN h - 1) (hN h8) _ (13, 0, ra1) g1 := TR_Kp (Kp_t K1.1 (trH_k (A := fun a => a = 83) (fun z => absurd z (by omega)) (by omega))) (Nat.le_refl _) (fun a ha => by omega) (by omega) (by omega) T1
        have T2 : TRr (trH h8 (hN h7) (iZ (2 + w4)) (iZ (0)) (13, 0, ra1) (13, 0, ra8)) (hN h - 1) (hN h8) _ (13, 0, ra8) g8 := TR_Kp (trH_k (A := fun a => a = hN h7) (fun _ => rfl) (by omega)) (Nat.le_refl _) (fun a ha => by omega) (Nat.le_refl _) (by omega) T8
        refine Ev.ret rfl (q _ _ ⟨_, _, _, kk1 ++ (35, 0, 0) :: kk8, cc1 ++ (cc8 ++ [(35, (0 : Int))]), fun x t => opj 35 (g1 x t) (g8 x t), P.1, P.2, by simpa only [List.append_assoc, List.cons_append, List.nil_append] using l8, fun m hm => VP_2 (.inl rfl) (C1 m hm) (C8 m hm), trivial, EV_up (EV_2 (by unfold kJ; omega) ev1 ev8) (by omega), TR_le (TR_jn (N := hN h8) (s := 2) ⟨by omega, by omega⟩ (.inl (.inl ⟨rfl, rfl⟩)) ((trH_0 _ _ _ _ _ _).trans (by first | rfl | (congr 1; omega))) (trH_2 _ _ _ _ _ _) (trH_3 _ _ _ _ _ _) T1 T2) (by omega), ?_, ?_, txR_lo X (by omega)⟩)
        · simp only [List.length_cons, List.length_append]
          show _ ∧ _ ∧ _ ∧ _ ∧ hN h8 ≤ _
          omega
        · show hS h8 + gP tk ≤ _
          omega
    · refine Ev.brF (p := ¬ (iZ (0)) = (iZ (0))) (c1 := (24, [some (.inr (.inr (.inr (11, 0, 83)))), some (.inl (iZ (((dd : Nat) : Int)))), some (.inr (.inr (.inr (13, 0, ra1)))), none], [], h2)) (c2 := (22, [some (.inr (.inr (.inr (11, 0, 83)))), some (.inl (iZ (((dd : Nat) : Int)))), some (.inr (.inr (.inr (13, 0, ra1)))), none], [], h2)) (by decide) rfl ?_
      refine Ev.sts 1 (c' := (23, [some (.inr (.inr (.inr (11, 0, 83)))), some (.inl (iZ (((dd : Nat) : Int)))), some (.inr (.inr (.inr (13, 0, ra1)))), none], [.inr (.inr (.inr (13, 0, ra1)))], h2)) rfl ?_
      exact Ev.ret rfl (q _ _ ⟨_, _, _, kk1, cc1, g1, b2, (FB_t f1 f2), l1, fun m hm => VP_1 (C1 m hm), trivial, EV_up ev1 (by omega), TR_le (TR_mv T1 f2 (Nat.le_refl _) (by omega) (by omega) (by omega)) (by omega), ⟨by omega, by omega, by omega, by omega, by omega⟩, by omega, by rw [show hN h2 = hN h1 by omega]; exact X_draw (txR_lo t1 (by omega)) f2 (congrFun r2 4) (Nat.le_refl _) (by omega)⟩)

/-- values are written, at every depth -/
theorem PV_A {dd E : Nat} (hdd : dd ≤ 3) (hv : dd < 3 → PVs 169 tG (cV (dd + 1)) tZ (dd + 1) (9 - 2 * (dd + 1)) (8 - 2 * (dd + 1)) (4 - (dd + 1)) 7 1990 E) : PVs 171 tG (cA dd) tZ dd (7 - 2 * dd) (6 - 2 * dd) (4 - dd) 9 1990 (E + 7) := by
  intro e he h L dr tk ln tp ks Q _ b l en t1 t2 hd q
  obtain ⟨d, rfl⟩ : ∃ d, e = d + 7 := ⟨e - 7, by omega⟩
  exact at_go hdd hv (by omega) b l en t1 t2 hd q
theorem PV_P {dd E : Nat} (hdd : dd ≤ 3) (ha : PVs 171 tG (cA dd) tZ dd (7 - 2 * dd) (6 - 2 * dd) (4 - dd) 9 1990 E) : PVs 170 tG (cP dd) tZ dd (8 - 2 * dd) (7 - 2 * dd) (4 - dd) 8 1990 (E + 7) := by
  intro e he h L dr tk ln tp ks Q _ b l en t1 t2 hd q
  obtain ⟨d, rfl⟩ : ∃ d, e = d + 7 := ⟨e - 7, by omega⟩
  exact pr_go hdd ha (by omega) b l en t1 t2 hd q
theorem PV_V {dd E : Nat} (hdd : dd ≤ 3) (ha : PVs 170 tG (cP dd) tZ dd (8 - 2 * dd) (7 - 2 * dd) (4 - dd) 8 1990 E) : PVs 169 tG (cV dd) tZ dd (9 - 2 * dd) (8 - 2 * dd) (4 - dd) 7 1990 (E + 7) := by
  intro e he h L dr tk ln tp ks Q _ b l en t1 t2 hd q
  obtain ⟨d, rfl⟩ : ∃ d, e = d + 7 := ⟨e - 7, by omega⟩
  exact vl_go hdd ha (by omega) b l en t1 t2 hd q
/-- frames for a value at depth dd -/
def eV (dd : Nat) : Nat := 21 * (4 - dd)
theorem PV_all : ∀ k dd : Nat, dd + k = 3 → PVs 169 tG (cV dd) tZ dd (9 - 2 * dd) (8 - 2 * dd) (4 - dd) 7 1990 (eV dd) := by
  intro k
  induction k with
  | zero =>
    intro dd h
    exact PV_V (E := 0 + 7 + 7) (by omega) (PV_P (by omega) (PV_A (E := 0) (by omega) (fun z => absurd z (by omega)))) |> fun p => by rw [show eV dd = 0 + 7 + 7 + 7 by unfold eV; rw [show 4 - dd = 1 by omega]]; exact p
  | succ k ih =>
    intro dd h
    have p := PV_V (by omega) (PV_P (by omega) (PV_A (dd := dd) (E := eV (dd + 1)) (by omega) (fun _ => ih (dd + 1) (by omega))))
    rw [show eV dd = eV (dd + 1) + 7 + 7 + 7 by unfold eV; rw [show 4 - dd = (4 - (dd + 1)) + 1 by omega]; omega]
    exact p
