/-! The book writes: tests. -/
def nmF (n : Nat) : List Int := (List.range n).map (fun i : Nat => 193 + (i : Int))
def nmG (n : Nat) : List Int := (List.range n).map (fun i : Nat => 225 + (i : Int))
theorem lk_F : ∀ n i : Fin 9, lk (nmF n.val) (193 + (i.val : Int)) = (if i.val < n.val then (i.val : Int) else -1) ∧ lk (nmG n.val) (193 + (i.val : Int)) = -1 ∧ lk (nmF n.val) (225 + (i.val : Int)) = -1 ∧ lk (nmG n.val) (225 + (i.val : Int)) = (if i.val < n.val then (i.val : Int) else -1) := by decide +kernel
def gM (mn : Nat) (h : PH) : Prop := h.1 83 7 = iZ (mn : Int) ∧ mn ≤ 8
def cK (mn d : Nat) (kk : List Sg) (c : List Cmd) : Prop := ∀ m, 3 ≤ m + d → KPk (nmF mn) m kk c
def cS (mn d : Nat) (kk : List Sg) (c : List Cmd) : Prop := ∀ m, 3 ≤ m + d → SPk (nmF mn) m kk c
def cB (mn d : Nat) (kk : List Sg) (c : List Cmd) : Prop := ∀ m, 3 ≤ m + d → BPk (nmF mn) m kk c
def cT (mn d : Nat) (kk : List Sg) (c : List Cmd) : Prop := ∀ m, 3 ≤ m + d → TPk (nmF mn) m kk c
theorem gM_f {mn : Nat} {h h1 : PH} (g : gM mn h) (f : FB h h1) : gM mn h1 := ⟨(f.2.1 7 (by decide) (by decide)).trans g.1, g.2⟩
theorem i2c_s {i : Int} (h : 0 ≤ i ∧ i < 200) : ((iZ i).toUInt32 % 65536).toInt32 = iZ i := by
  have f : ∀ i : Fin 200, ((iZ (i.val : Int)).toUInt32 % 65536).toInt32 = iZ (i.val : Int) := by decide +kernel
  have := f ⟨i.toNat, by omega⟩
  rw [show ((i.toNat : Nat) : Int) = i by omega] at this
  exact this
theorem txC44 : txC 44 = [102] := by decide +kernel
theorem lx_name {tp : List Int} {ks : List Sg} {i : Nat} (hi : i < 8) (l : LXs tp ks) (e : enN tp = false) : LXs (tp ++ [102, 97 + (i : Int)]) (ks ++ [(2, 0, 193 + (i : Int))]) := by
  have t := (tk1_nm 102 (.inl rfl) i hi).1
  rw [show (((102 : Nat) : Int) - 96) * 32 + 1 + (i : Int) = 193 + (i : Int) by omega] at t
  exact (LXs_tk l t (fun z => by rw [e] at z; cases z)).1
theorem kp_112 {d L dr tk ln dd mn E1 E2 : Nat} {x3 x4 : Option VV} {w0 : Int} {tp : List Int} {ks : List Sg} {h : PH} {Q : Rs → PH → Prop} (hdd : dd ≤ 3) (hv : PVs 169 tG (cV dd) tZ dd (9 - 2 * dd) (8 - 2 * dd) (4 - dd) 7 1990 E1) (hE1 : E1 ≤ d) (hg : gM mn h) (b : BKh h L dr tk ln tp) (l : LXs tp ks) (e : enN tp = false) (ht : tk + (12 - 3 * dd) ≤ 290) (ht2 : ln + 40 + (12 - 3 * dd) ≤ 290) (hd : dr ≤ 12 * tk + 1986) (q : ∀ h1 ra, Pst (cK mn dd) b01 (10 - 2 * dd) (15 - 4 * dd) (12 - 3 * dd) 21 h L dr tk ln ks h1 ra → Q (.inl (some (.inr (.inr (.inr (13, 0, ra)))))) h1) : Ev (d + 7) 167 (112, [some (.inr (.inr (.inr (11, 0, 83)))), some (.inl (iZ (((dd : Nat) : Int)))), some (.inl (iZ (w0))), x3, x4], [], h) Q := by
  have h88 := b.2.2.2.2.2.2.2.1
  refine Ev.sts 2 (c' := (114, [some (.inr (.inr (.inr (11, 0, 83)))), some (.inl (iZ (((dd : Nat) : Int)))), some (.inl (iZ (w0))), x3, x4], [.inl (iZ (((dd : Nat) : Int))), .inr (.inr (.inr (11, 0, 83)))], h)) rfl ?_
  refine Ev.callw (a := [.inr (.inr (.inr (11, 0, 83))), .inl (iZ (((dd : Nat) : Int)))]) rfl (hv _ (by omega) _ _ _ _ _ _ _ _ trivial b l e (by omega) (by omega) (by omega) (fun h1 ra1 P1 => ?_))
  obtain ⟨dr1, tk1, tp1, kk1, cc1, g1, b1, f1, l1, C1, Z1, ev1, T1, ⟨a1a, a1b, a1c, a1d, n1⟩, m1, t1⟩ := P1
  have N1 := FB_n f1
  refine Ev.sts 3 (c' := (120, [some (.inr (.inr (.inr (11, 0, 83)))), some (.inl (iZ (((dd : Nat) : Int)))), some (.inl (iZ (w0))), some (.inr (.inr (.inr (13, 0, ra1)))), x4], [.inl (iZ (3)), .inr (.inr (.inr (11, 0, 83)))], h1)) rfl ?_
  refine Ev.callw (a := [.inr (.inr (.inr (11, 0, 83))), .inl (iZ (3))]) rfl (bk_draw b1 (by omega) ⟨by omega, by omega⟩ (fun w2 h2 v2a v2b b2 f2 n2 m2 r2 => ?_))
  refine Ev.sts 3 (c' := (128, [some (.inr (.inr (.inr (11, 0, 83)))), some (.inl (iZ (((dd : Nat) : Int)))), some (.inl (iZ (w0))), some (.inr (.inr (.inr (13, 0, ra1)))), some (.inl (iZ (w2)))], [.inl (iZ (w2)), .inr (.inr (.inr (11, 0, 83)))], h2)) rfl ?_
  refine Ev.brc (p := ¬ (iZ (w2)) = (iZ (0))) (q := ¬ ((w2 : Int)) = 0) (c1 := (136, [some (.inr (.inr (.inr (11, 0, 83)))), some (.inl (iZ (((dd : Nat) : Int)))), some (.inl (iZ (w0))), some (.inr (.inr (.inr (13, 0, ra1)))), some (.inl (iZ (w2)))], [.inr (.inr (.inr (11, 0, 83)))], h2)) (c2 := (131, [some (.inr (.inr (.inr (11, 0, 83)))), some (.inl (iZ (((dd : Nat) : Int)))), some (.inl (iZ (w0))), some (.inr (.inr (.inr (13, 0, ra1)))), some (.inl (iZ (w2)))], [.inr (.inr (.inr (11, 0, 83)))], h2)) rfl (not_congr (iZ_eq ⟨by omega, by omega⟩ ⟨by omega, by omega⟩)) (fun c0 => ?_) (fun c0 => ?_)
  · refine Ev.sts 2 (c' := (139, [some (.inr (.inr (.inr (11, 0, 83)))), some (.inl (iZ (((dd : Nat) : Int)))), some (.inl (iZ (w0))), some (.inr (.inr (.inr (13, 0, ra1)))), some (.inl (iZ (w2)))], [.inl (iZ (1)), .inl (iZ (w2)), .inr (.inr (.inr (11, 0, 83)))], h2)) rfl ?_
    refine Ev.brc (p := ¬ (iZ (w2)) = (iZ (1))) (q := ¬ ((w2 : Int)) = 1) (c1 := (147, [some (.inr (.inr (.inr (11, 0, 83)))), some (.inl (iZ (((dd : Nat) : Int)))), some (.inl (iZ (w0))), some (.inr (.inr (.inr (13, 0, ra1)))), some (.inl (iZ (w2)))], [.inr (.inr (.inr (11, 0, 83)))], h2)) (c2 := (142, [some (.inr (.inr (.inr (11, 0, 83)))), some (.inl (iZ (((dd : Nat) : Int)))), some (.inl (iZ (w0))), some (.inr (.inr (.inr (13, 0, ra1)))), some (.inl (iZ (w2)))], [.inr (.inr (.inr (11, 0, 83)))], h2)) rfl (not_congr (iZ_eq ⟨by omega, by omega⟩ ⟨by omega, by omega⟩)) (fun c1 => ?_) (fun c1 => ?_)
    · refine Ev.sts 1 (c' := (149, [some (.inr (.inr (.inr (11, 0, 83)))), some (.inl (iZ (((dd : Nat) : Int)))), some (.inl (iZ (w0))), some (.inr (.inr (.inr (13, 0, ra1)))), some (.inl (iZ (w2)))], [.inr (.inr (.inr (43, 0, 47))), .inr (.inr (.inr (11, 0, 83)))], h2)) rfl ?_
      refine Ev.callw (a := [.inr (.inr (.inr (11, 0, 83))), .inr (.inr (.inr (43, 0, 47)))]) rfl (bk_add b2 (txR_c _ _ _ 47) (txC_as 47) (Nat.le_trans ll_47 (by decide)) (by omega) (fun h3 b3 f3 n3 m3 t3 => ?_))
      have l3 := lx_47 l1
      have N3 := FB_n f3
      refine Ev.sts 4 (c' := (159, [some (.inr (.inr (.inr (11, 0, 83)))), some (.inl (iZ (((dd : Nat) : Int)))), some (.inl (iZ (w0))), some (.inr (.inr (.inr (13, 0, ra1)))), some (.inl (iZ (w2)))], [.inl (iZ (w2)), .inl (iZ (5)), .inr (.inr (.inr (13, 0, (hN h3)))), .inr (.inr (.inr (13, 0, (hN h3))))], (grow h3 4))) rfl ?_
      refine Ev.gv (w := (iZ (5 + w2))) rfl (iZ_add _ _) ?_
      refine Ev.sts 4 (c' := (164, [some (.inr (.inr (.inr (11, 0, 83)))), some (.inl (iZ (((dd : Nat) : Int)))), some (.inl (iZ (w0))), some (.inr (.inr (.inr (13, 0, ra1)))), some (.inl (iZ (w2)))], [.inl (iZ (((dd : Nat) : Int))), .inr (.inr (.inr (11, 0, 83))), .inr (.inr (.inr (13, 0, ra1))), .inl (iZ (0)), .inl (iZ (5 + w2)), .inr (.inr (.inr (13, 0, (hN h3)))), .inr (.inr (.inr (13, 0, (hN h3))))], (grow h3 4))) rfl ?_
      refine Ev.callw (a := [.inr (.inr (.inr (11, 0, 83))), .inl (iZ (((dd : Nat) : Int)))]) rfl (hv _ (by omega) _ _ _ _ _ _ _ _ trivial (BK_g (n := 4) b3).1 (l3).1 (l3).2 (by omega) (by omega) (by omega) (fun h4 ra4 P4 => ?_))
      obtain ⟨dr4, tk4, tp4, kk4, cc4, g4, b4, f4, l4, C4, Z4, ev4, T4, ⟨a4a, a4b, a4c, a4d, n4⟩, m4, t4⟩ := P4
      have N4 := FB_n f4
      have G4 : hN (grow h3 4) = hN h3 + 1 := rfl
      have M4 : hS (grow h3 4) = hS h3 + 4 := rfl
      refine Ev.callv (a := [.inr (.inr (.inr (13, 0, (hN h3)))), .inl (iZ (5 + w2)), .inl (iZ (0)), .inr (.inr (.inr (13, 0, ra1))), .inr (.inr (.inr (13, 0, ra4)))]) rfl (lt_pq (h := h4)) ?_
      have P := BK_tr (s := (iZ (5 + w2))) (n := (iZ (0))) (p := (13, 0, ra1)) (q := (13, 0, ra4)) (a := hN h3) b4 (FB_t (FB_t (FB_t (FB_t f1 f2) f3) (BK_g (n := 4) b3).2) f4) (by omega) (by omega) (by omega) ⟨_, _, .inr (show hN h3 ≤ hN (grow h3 4) - 1 by omega), by omega, Nat.le_refl _, t4⟩
      have X := trX (a := hN h3) (s := (iZ (5 + w2))) (n := (iZ (0))) (p := (13, 0, ra1)) (q := (13, 0, ra4)) t4 (.inr (show hN h3 ≤ hN (grow h3 4) - 1 by omega)) (by omega) (by omega) (Nat.le_refl _)
      have K1 : FB h1 h4 := (FB_t (FB_t (FB_t f2 f3) (BK_g (n := 4) b3).2) f4)
      have T1 : TRr (trH h4 (hN h3) (iZ (5 + w2)) (iZ (0)) (13, 0, ra1) (13, 0, ra4)) (hN h - 1) (hN h4) _ (13, 0, ra1) g1 := TR_Kp (Kp_t K1.1 (trH_k (A := fun a => a = 83) (fun z => absurd z (by omega)) (by omega))) (Nat.le_refl _) (fun a ha => by omega) (by omega) (by omega) T1
      have T2 : TRr (trH h4 (hN h3) (iZ (5 + w2)) (iZ (0)) (13, 0, ra1) (13, 0, ra4)) (hN h - 1) (hN h4) _ (13, 0, ra4) g4 := TR_Kp (trH_k (A := fun a => a = hN h3) (fun _ => rfl) (by omega)) (Nat.le_refl _) (fun a ha => by omega) (Nat.le_refl _) (by omega) T4
      refine Ev.ret rfl (q _ _ ⟨_, _, _, kk1 ++ (34, 0, 0) :: kk4, cc1 ++ (cc4 ++ [(34, (0 : Int))]), fun x t => opj 34 (g1 x t) (g4 x t), P.1, P.2, by simpa only [List.append_assoc, List.cons_append, List.nil_append] using l4, fun m hm => KP_cmp (.inr (.inr rfl)) (C1 m hm) (C4 m hm), b01_cmp (.inr (.inr rfl)) _ _, EV_up (EV_2 (by unfold kJ; omega) ev1 ev4) (by omega), TR_le (TR_jn (N := hN h4) (s := 7) ⟨by omega, by omega⟩ (.inl (.inr (.inr (.inr (.inr (.inr ⟨rfl, rfl⟩)))))) ((trH_0 _ _ _ _ _ _).trans (by first | rfl | (congr 1; omega))) (trH_2 _ _ _ _ _ _) (trH_3 _ _ _ _ _ _) T1 T2) (by omega), ?_, ?_, txR_lo X (by omega)⟩)
      · simp only [List.length_cons, List.length_append]
        show _ ∧ _ ∧ _ ∧ _ ∧ hN h4 ≤ _
        omega
      · show hS h4 + gP tk ≤ _
        omega
    · refine Ev.sts 2 (c' := (149, [some (.inr (.inr (.inr (11, 0, 83)))), some (.inl (iZ (((dd : Nat) : Int)))), some (.inl (iZ (w0))), some (.inr (.inr (.inr (13, 0, ra1)))), some (.inl (iZ (w2)))], [.inr (.inr (.inr (43, 0, 46))), .inr (.inr (.inr (11, 0, 83)))], h2)) rfl ?_
      refine Ev.callw (a := [.inr (.inr (.inr (11, 0, 83))), .inr (.inr (.inr (43, 0, 46)))]) rfl (bk_add b2 (txR_c _ _ _ 46) (txC_as 46) (Nat.le_trans ll_46 (by decide)) (by omega) (fun h5 b5 f5 n5 m5 t5 => ?_))
      have l5 := lx_46 l1
      have N5 := FB_n f5
      refine Ev.sts 4 (c' := (159, [some (.inr (.inr (.inr (11, 0, 83)))), some (.inl (iZ (((dd : Nat) : Int)))), some (.inl (iZ (w0))), some (.inr (.inr (.inr (13, 0, ra1)))), some (.inl (iZ (w2)))], [.inl (iZ (w2)), .inl (iZ (5)), .inr (.inr (.inr (13, 0, (hN h5)))), .inr (.inr (.inr (13, 0, (hN h5))))], (grow h5 4))) rfl ?_
      refine Ev.gv (w := (iZ (5 + w2))) rfl (iZ_add _ _) ?_
      refine Ev.sts 4 (c' := (164, [some (.inr (.inr (.inr (11, 0, 83)))), some (.inl (iZ (((dd : Nat) : Int)))), some (.inl (iZ (w0))), some (.inr (.inr (.inr (13, 0, ra1)))), some (.inl (iZ (w2)))], [.inl (iZ (((dd : Nat) : Int))), .inr (.inr (.inr (11, 0, 83))), .inr (.inr (.inr (13, 0, ra1))), .inl (iZ (0)), .inl (iZ (5 + w2)), .inr (.inr (.inr (13, 0, (hN h5)))), .inr (.inr (.inr (13, 0, (hN h5))))], (grow h5 4))) rfl ?_
      refine Ev.callw (a := [.inr (.inr (.inr (11, 0, 83))), .inl (iZ (((dd : Nat) : Int)))]) rfl (hv _ (by omega) _ _ _ _ _ _ _ _ trivial (BK_g (n := 4) b5).1 (l5).1 (l5).2 (by omega) (by omega) (by omega) (fun h6 ra6 P6 => ?_))
      obtain ⟨dr6, tk6, tp6, kk6, cc6, g6, b6, f6, l6, C6, Z6, ev6, T6, ⟨a6a, a6b, a6c, a6d, n6⟩, m6, t6⟩ := P6
      have N6 := FB_n f6
      have G6 : hN (grow h5 4) = hN h5 + 1 := rfl
      have M6 : hS (grow h5 4) = hS h5 + 4 := rfl
      refine Ev.callv (a := [.inr (.inr (.inr (13, 0, (hN h5)))), .inl (iZ (5 + w2)), .inl (iZ (0)), .inr (.inr (.inr (13, 0, ra1))), .inr (.inr (.inr (13, 0, ra6)))]) rfl (lt_pq (h := h6)) ?_
      have P := BK_tr (s := (iZ (5 + w2))) (n := (iZ (0))) (p := (13, 0, ra1)) (q := (13, 0, ra6)) (a := hN h5) b6 (FB_t (FB_t (FB_t (FB_t f1 f2) f5) (BK_g (n := 4) b5).2) f6) (by omega) (by omega) (by omega) ⟨_, _, .inr (show hN h5 ≤ hN (grow h5 4) - 1 by omega), by omega, Nat.le_refl _, t6⟩
      have X := trX (a := hN h5) (s := (iZ (5 + w2))) (n := (iZ (0))) (p := (13, 0, ra1)) (q := (13, 0, ra6)) t6 (.inr (show hN h5 ≤ hN (grow h5 4) - 1 by omega)) (by omega) (by omega) (Nat.le_refl _)
      have K1 : FB h1 h6 := (FB_t (FB_t (FB_t f2 f5) (BK_g (n := 4) b5).2) f6)
      have T1 : TRr (trH h6 (hN h5) (iZ (5 + w2)) (iZ (0)) (13, 0, ra1) (13, 0, ra6)) (hN h - 1) (hN h6) _ (13, 0, ra1) g1 := TR_Kp (Kp_t K1.1 (trH_k (A := fun a => a = 83) (fun z => absurd z (by omega)) (by omega))) (Nat.le_refl _) (fun a ha => by omega) (by omega) (by omega) T1
      have T2 : TRr (trH h6 (hN h5) (iZ (5 + w2)) (iZ (0)) (13, 0, ra1) (13, 0, ra6)) (hN h - 1) (hN h6) _ (13, 0, ra6) g6 := TR_Kp (trH_k (A := fun a => a = hN h5) (fun _ => rfl) (by omega)) (Nat.le_refl _) (fun a ha => by omega) (Nat.le_refl _) (by omega) T6
      refine Ev.ret rfl (q _ _ ⟨_, _, _, kk1 ++ (33, 0, 0) :: kk6, cc1 ++ (cc6 ++ [(33, (0 : Int))]), fun x t => opj 33 (g1 x t) (g6 x t), P.1, P.2, by simpa only [List.append_assoc, List.cons_append, List.nil_append] using l6, fun m hm => KP_cmp (.inr (.inl rfl)) (C1 m hm) (C6 m hm), b01_cmp (.inr (.inl rfl)) _ _, EV_up (EV_2 (by unfold kJ; omega) ev1 ev6) (by omega), TR_le (TR_jn (N := hN h6) (s := 6) ⟨by omega, by omega⟩ (.inl (.inr (.inr (.inr (.inr (.inl ⟨rfl, rfl⟩)))))) ((trH_0 _ _ _ _ _ _).trans (by first | rfl | (congr 1; omega))) (trH_2 _ _ _ _ _ _) (trH_3 _ _ _ _ _ _) T1 T2) (by omega), ?_, ?_, txR_lo X (by omega)⟩)
      · simp only [List.length_cons, List.length_append]
        show _ ∧ _ ∧ _ ∧ _ ∧ hN h6 ≤ _
        omega
      · show hS h6 + gP tk ≤ _
        omega
  · refine Ev.sts 2 (c' := (149, [some (.inr (.inr (.inr (11, 0, 83)))), some (.inl (iZ (((dd : Nat) : Int)))), some (.inl (iZ (w0))), some (.inr (.inr (.inr (13, 0, ra1)))), some (.inl (iZ (w2)))], [.inr (.inr (.inr (43, 0, 45))), .inr (.inr (.inr (11, 0, 83)))], h2)) rfl ?_
    refine Ev.callw (a := [.inr (.inr (.inr (11, 0, 83))), .inr (.inr (.inr (43, 0, 45)))]) rfl (bk_add b2 (txR_c _ _ _ 45) (txC_as 45) (Nat.le_trans ll_45 (by decide)) (by omega) (fun h7 b7 f7 n7 m7 t7 => ?_))
    have l7 := lx_45 l1
    have N7 := FB_n f7
    refine Ev.sts 4 (c' := (159, [some (.inr (.inr (.inr (11, 0, 83)))), some (.inl (iZ (((dd : Nat) : Int)))), some (.inl (iZ (w0))), some (.inr (.inr (.inr (13, 0, ra1)))), some (.inl (iZ (w2)))], [.inl (iZ (w2)), .inl (iZ (5)), .inr (.inr (.inr (13, 0, (hN h7)))), .inr (.inr (.inr (13, 0, (hN h7))))], (grow h7 4))) rfl ?_
    refine Ev.gv (w := (iZ (5 + w2))) rfl (iZ_add _ _) ?_
    refine Ev.sts 4 (c' := (164, [some (.inr (.inr (.inr (11, 0, 83)))), some (.inl (iZ (((dd : Nat) : Int)))), some (.inl (iZ (w0))), some (.inr (.inr (.inr (13, 0, ra1)))), some (.inl (iZ (w2)))], [.inl (iZ (((dd : Nat) : Int))), .inr (.inr (.inr (11, 0, 83))), .inr (.inr (.inr (13, 0, ra1))), .inl (iZ (0)), .inl (iZ (5 + w2)), .inr (.inr (.inr (13, 0, (hN h7)))), .inr (.inr (.inr (13, 0, (hN h7))))], (grow h7 4))) rfl ?_
    refine Ev.callw (a := [.inr (.inr (.inr (11, 0, 83))), .inl (iZ (((dd : Nat) : Int)))]) rfl (hv _ (by omega) _ _ _ _ _ _ _ _ trivial (BK_g (n := 4) b7).1 (l7).1 (l7).2 (by omega) (by omega) (by omega) (fun h8 ra8 P8 => ?_))
    obtain ⟨dr8, tk8, tp8, kk8, cc8, g8, b8, f8, l8, C8, Z8, ev8, T8, ⟨a8a, a8b, a8c, a8d, n8⟩, m8, t8⟩ := P8
    have N8 := FB_n f8
    have G8 : hN (grow h7 4) = hN h7 + 1 := rfl
    have M8 : hS (grow h7 4) = hS h7 + 4 := rfl
    refine Ev.callv (a := [.inr (.inr (.inr (13, 0, (hN h7)))), .inl (iZ (5 + w2)), .inl (iZ (0)), .inr (.inr (.inr (13, 0, ra1))), .inr (.inr (.inr (13, 0, ra8)))]) rfl (lt_pq (h := h8)) ?_
    have P := BK_tr (s := (iZ (5 + w2))) (n := (iZ (0))) (p := (13, 0, ra1)) (q := (13, 0, ra8)) (a := hN h7) b8 (FB_t (FB_t (FB_t (FB_t f1 f2) f7) (BK_g (n := 4) b7).2) f8) (by omega) (by omega) (by omega) ⟨_, _, .inr (show hN h7 ≤ hN (grow h7 4) - 1 by omega), by omega, Nat.le_refl _, t8⟩
    have X := trX (a := hN h7) (s := (iZ (5 + w2))) (n := (iZ (0))) (p := (13, 0, ra1)) (q := (13, 0, ra8)) t8 (.inr (show hN h7 ≤ hN (grow h7 4) - 1 by omega)) (by omega) (by omega) (Nat.le_refl _)
    have K1 : FB h1 h8 := (FB_t (FB_t (FB_t f2 f7) (BK_g (n := 4) b7).2) f8)
    have T1 : TRr (trH h8 (hN h7) (iZ (5 + w2)) (iZ (0)) (13, 0, ra1) (13, 0, ra8)) (hN h - 1) (hN h8) _ (13, 0, ra1) g1 := TR_Kp (Kp_t K1.1 (trH_k (A := fun a => a = 83) (fun z => absurd z (by omega)) (by omega))) (Nat.le_refl _) (fun a ha => by omega) (by omega) (by omega) T1
    have T2 : TRr (trH h8 (hN h7) (iZ (5 + w2)) (iZ (0)) (13, 0, ra1) (13, 0, ra8)) (hN h - 1) (hN h8) _ (13, 0, ra8) g8 := TR_Kp (trH_k (A := fun a => a = hN h7) (fun _ => rfl) (by omega)) (Nat.le_refl _) (fun a ha => by omega) (Nat.le_refl _) (by omega) T8
    refine Ev.ret rfl (q _ _ ⟨_, _, _, kk1 ++ (32, 0, 0) :: kk8, cc1 ++ (cc8 ++ [(32, (0 : Int))]), fun x t => opj 32 (g1 x t) (g8 x t), P.1, P.2, by simpa only [List.append_assoc, List.cons_append, List.nil_append] using l8, fun m hm => KP_cmp (.inl rfl) (C1 m hm) (C8 m hm), b01_cmp (.inl rfl) _ _, EV_up (EV_2 (by unfold kJ; omega) ev1 ev8) (by omega), TR_le (TR_jn (N := hN h8) (s := 5) ⟨by omega, by omega⟩ (.inl (.inr (.inr (.inr (.inl ⟨rfl, rfl⟩))))) ((trH_0 _ _ _ _ _ _).trans (by first | rfl | (congr 1; omega))) (trH_2 _ _ _ _ _ _) (trH_3 _ _ _ _ _ _) T1 T2) (by omega), ?_, ?_, txR_lo X (by omega)⟩)
    · simp only [List.length_cons, List.length_append]
      show _ ∧ _ ∧ _ ∧ _ ∧ hN h8 ≤ _
      omega
    · show hS h8 + gP tk ≤ _
      omega

theorem kp_57 {d L dr tk ln dd mn E1 E2 : Nat} {x3 x4 : Option VV} {w0 : Int} {tp : List Int} {ks : List Sg} {h : PH} {Q : Rs → PH → Prop} (hdd : dd ≤ 3) (hmn : 0 < mn) (hg : gM mn h) (b : BKh h L dr tk ln tp) (l : LXs tp ks) (e : enN tp = false) (ht : tk + (12 - 3 * dd) ≤ 290) (ht2 : ln + 40 + (12 - 3 * dd) ≤ 290) (hd : dr ≤ 12 * tk + 1986) (q : ∀ h1 ra, Pst (cK mn dd) b01 (10 - 2 * dd) (15 - 4 * dd) (12 - 3 * dd) 21 h L dr tk ln ks h1 ra → Q (.inl (some (.inr (.inr (.inr (13, 0, ra)))))) h1) : Ev (d + 7) 167 (57, [some (.inr (.inr (.inr (11, 0, 83)))), some (.inl (iZ (((dd : Nat) : Int)))), some (.inl (iZ (w0))), x3, x4], [], h) Q := by
  have h88 := b.2.2.2.2.2.2.2.1
  have hm8 := hg.2
  refine Ev.sts 2 (c' := (59, [some (.inr (.inr (.inr (11, 0, 83)))), some (.inl (iZ (((dd : Nat) : Int)))), some (.inl (iZ (w0))), x3, x4], [.inr (.inr (.inr (11, 0, 83))), .inr (.inr (.inr (11, 0, 83)))], h)) rfl ?_
  refine Ev.gv (w := (iZ ((mn : Int)))) rfl hg.1 ?_
  refine Ev.callw (a := [.inr (.inr (.inr (11, 0, 83))), .inl (iZ ((mn : Int)))]) rfl (bk_draw b (by omega) ⟨by omega, by omega⟩ (fun w1 h1 v1a v1b b1 f1 n1 m1 r1 => ?_))
  refine Ev.sts 3 (c' := (69, [some (.inr (.inr (.inr (11, 0, 83)))), some (.inl (iZ (((dd : Nat) : Int)))), some (.inl (iZ (w0))), some (.inl (iZ (w1))), x4], [.inr (.inr (.inr (43, 0, 43))), .inr (.inr (.inr (11, 0, 83)))], h1)) rfl ?_
  refine Ev.callw (a := [.inr (.inr (.inr (11, 0, 83))), .inr (.inr (.inr (43, 0, 43)))]) rfl (bk_add b1 (txR_c _ _ _ 43) (txC_as 43) (Nat.le_trans ll_43 (by decide)) (by omega) (fun h2 b2 f2 n2 m2 t2 => ?_))
  have l2 := lx_43 l e
  have N2 := FB_n f2
  refine Ev.sts 1 (c' := (73, [some (.inr (.inr (.inr (11, 0, 83)))), some (.inl (iZ (((dd : Nat) : Int)))), some (.inl (iZ (w0))), some (.inl (iZ (w1))), x4], [.inr (.inr (.inr (11, 0, 83)))], h2)) rfl ?_
  have z := b2.2.2.2.2.2.2.1
  have h82 := b2.2.2.2.2.2.2.2.1
  have ns := newB_s z
  have ns3 := ns.2.2.1
  have ns4 := ns.2.2.2
  have e44 : (txC 44).length = 1 := by rw [txC44]; rfl
  refine Ev.sts 2 (c' := (77, [some (.inr (.inr (.inr (11, 0, 83)))), some (.inl (iZ (((dd : Nat) : Int)))), some (.inl (iZ (w0))), some (.inl (iZ (w1))), x4], [.inr (.inr (.inr (15, 0, (hN h2)))), .inr (.inr (.inr (15, 0, (hN h2)))), .inr (.inr (.inr (11, 0, 83)))], (grow h2 4))) rfl ?_
  refine Ev.callv (a := [.inr (.inr (.inr (15, 0, (hN h2))))]) rfl sb_init ?_
  refine Ev.sts 1 (c' := (82, [some (.inr (.inr (.inr (11, 0, 83)))), some (.inl (iZ (((dd : Nat) : Int)))), some (.inl (iZ (w0))), some (.inl (iZ (w1))), x4], [.inr (.inr (.inr (43, 0, 44))), .inr (.inr (.inr (15, 0, (hN h2)))), .inr (.inr (.inr (11, 0, 83)))], (newB h2))) rfl ?_
  refine Ev.callw (a := [.inr (.inr (.inr (15, 0, (hN h2)))), .inr (.inr (.inr (43, 0, 44)))]) rfl (sb_append ns.1 (Kp_Z ns.2.1 z) (txR_Kp (txR_c h2 87 (hN h2) 44) ns.2.1 (Nat.le_refl _) (fun _ _ y => y)) (txC_as 44) (by omega) (by omega) (by simp only [List.length_append, List.length_cons, List.length_nil]; omega) (fun g1 p1 qb1 s1 k1 u1 n1 m1 => ?_))
  simp only [List.length_append, List.length_cons, List.length_nil] at u1 m1
  refine Ev.sts 2 (c' := (88, [some (.inr (.inr (.inr (11, 0, 83)))), some (.inl (iZ (((dd : Nat) : Int)))), some (.inl (iZ (w0))), some (.inl (iZ (w1))), x4], [.inl (iZ (w1)), .inl (iZ (97)), .inr (.inr (.inr (15, 0, (hN h2)))), .inr (.inr (.inr (11, 0, 83)))], g1)) rfl ?_
  refine Ev.gv (w := (iZ (97 + w1))) rfl (iZ_add _ _) ?_
  refine Ev.gv (w := (iZ (97 + w1))) rfl (i2c_s ⟨by omega, by omega⟩) ?_
  refine Ev.callw (a := [.inr (.inr (.inr (15, 0, (hN h2)))), .inl (iZ (97 + w1))]) rfl (sb_appendC s1 (Kp_Z (Kp_t ns.2.1 k1) z) ⟨by omega, by omega⟩ (by omega) (by simp only [List.length_append, List.length_cons, List.length_nil]; omega) (fun g2 p2 qb2 s2 k2 u2 n2 m2 => ?_))
  simp only [List.length_append, List.length_cons, List.length_nil] at u2 m2
  refine Ev.callw (a := [.inr (.inr (.inr (15, 0, (hN h2))))]) rfl (sb_toString (lo := hN h2 - 1) s2 (by omega) (Kp_t (Kp_t ns.2.1 k1) k2).2.2.2 (by omega) (fun g ra e0 k0 n0 m0 => ?_))
  have K := (Kp_t (Kp_t (Kp_t ns.2.1 k1) k2) k0)
  have hK := K.2.2.2
  simp only [List.length_append, List.length_cons, List.length_nil] at m0
  rw [txC44] at e0
  refine Ev.callw (a := [.inr (.inr (.inr (11, 0, 83))), .inr (.inr (.inr (14, 0, ra)))]) rfl (bk_add (BK_k b2 K).1 (T := [102, 97 + w1]) (txR_lo e0 (by omega)) (fun t ht => by simp only [List.mem_cons, List.not_mem_nil, or_false] at ht; omega) (by show 2 ≤ 6; decide) (by omega) (fun h3 b3 f3 n3 m3 t3 => ?_))
  have l3 := lx_name (i := w1.toNat) (by omega) (l2).1 (l2).2
  rw [show ((w1.toNat : Nat) : Int) = w1 by omega] at l3
  have N3 := FB_n f3
  refine Ev.sts 6 (c' := (108, [some (.inr (.inr (.inr (11, 0, 83)))), some (.inl (iZ (((dd : Nat) : Int)))), some (.inl (iZ (w0))), some (.inl (iZ (w1))), x4], [.inr (.inr (.inr (0, 0, 0))), .inr (.inr (.inr (0, 0, 0))), .inl (iZ (w1)), .inl (iZ (8)), .inr (.inr (.inr (13, 0, (hN h3)))), .inr (.inr (.inr (13, 0, (hN h3))))], (grow h3 4))) rfl ?_
  refine Ev.callv (a := [.inr (.inr (.inr (13, 0, (hN h3)))), .inl (iZ (8)), .inl (iZ (w1)), .inr (.inr (.inr (0, 0, 0))), .inr (.inr (.inr (0, 0, 0)))]) rfl (lt_nn (h := (grow h3 4))) ?_
  have P := BK_tr (s := (iZ (8))) (n := (iZ (w1))) (p := (0, 0, 0)) (q := (0, 0, 0)) (BK_g (n := 4) b3).1 (FB_t (FB_t (FB_t (FB_t f1 f2) (BK_k b2 K).2) f3) (BK_g b3).2) (by omega) (show hN h ≤ hN h3 by omega) (Nat.lt_succ_self _) ⟨_, hN h3, .inl (Nat.le_refl _), Nat.le_refl _, Nat.le_succ _, txR_Kp b3.2.2.2.2.1 (Kp_g (A := nA)) (Nat.le_refl _) (fun _ _ z => z)⟩
  have X := trX (h := grow h3 4) (a := hN h3) (s := (iZ (8))) (n := (iZ (w1))) (p := (0, 0, 0)) (q := (0, 0, 0)) (txR_Kp t3 (Kp_g (A := nA)) (Nat.le_refl _) (fun _ _ z => z)) (.inl (Nat.le_refl _)) (by omega) (Nat.lt_succ_self _) (Nat.le_succ _)
  have lk1 := (lk_F ⟨mn, by omega⟩ ⟨w1.toNat, by omega⟩).1
  rw [if_pos (show w1.toNat < mn by omega)] at lk1
  have lk2 : lk (nmF mn) (193 + w1) = ((w1.toNat : Nat) : Int) := by rw [show w1 = ((w1.toNat : Nat) : Int) by omega]; exact lk1
  refine Ev.ret rfl (q _ _ ⟨_, _, _, [(7, 0, 0), (2, 0, 193 + w1)], [(7, ((w1.toNat : Nat) : Int))], psh (7, ((w1.toNat : Nat) : Int)), P.1, P.2, by simpa only [List.append_assoc, List.cons_append, List.nil_append] using l3, fun m hm => KP_in lk2, b01_in _, EV_up (EV_1 (.inr (.inl rfl))) (by omega), TR_tak ⟨by omega, Nat.lt_succ_self _⟩ (by omega) (trH_0 _ _ _ _ _ _) ((trH_1 _ _ _ _ _ _).trans (by rw [show ((w1.toNat : Nat) : Int) = w1 by omega])), ?_, ?_, txR_up (txR_lo X (by omega)) (Nat.le_succ _)⟩)
  · simp only [List.length_cons, List.length_nil]
    refine ⟨by first | omega | exact True.intro, by first | omega | exact True.intro, by omega, by omega, ?_⟩
    show hN h3 + 1 ≤ _
    omega
  · show hS h3 + 4 + gP tk ≤ _
    omega

theorem kp_go {d L dr tk ln dd mn E1 E2 : Nat} {tp : List Int} {ks : List Sg} {h : PH} {Q : Rs → PH → Prop} (hdd : dd ≤ 3) (hv : PVs 169 tG (cV dd) tZ dd (9 - 2 * dd) (8 - 2 * dd) (4 - dd) 7 1990 E1) (hE1 : E1 ≤ d) (ht_ : dd < 3 → PVs 163 (gM mn) (cT mn (dd + 1)) b01 (dd + 1) (12 - 2 * (dd + 1)) (19 - 4 * (dd + 1)) (14 - 3 * (dd + 1)) 16 1980 E2) (hE2 : E2 ≤ d) (hg : gM mn h) (b : BKh h L dr tk ln tp) (l : LXs tp ks) (e : enN tp = false) (ht : tk + (12 - 3 * dd) ≤ 290) (ht2 : ln + 40 + (12 - 3 * dd) ≤ 290) (hd : dr ≤ 12 * tk + 1985) (q : ∀ h1 ra, Pst (cK mn dd) b01 (10 - 2 * dd) (15 - 4 * dd) (12 - 3 * dd) 20 h L dr tk ln ks h1 ra → Q (.inl (some (.inr (.inr (.inr (13, 0, ra)))))) h1) : Rn (d + 7) 167 [.inr (.inr (.inr (11, 0, 83))), .inl (iZ (((dd : Nat) : Int)))] h Q := by
  have h88 := b.2.2.2.2.2.2.2.1
  have hm8 := hg.2
  refine Ev.sts 2 (c' := (3, [some (.inr (.inr (.inr (11, 0, 83)))), some (.inl (iZ (((dd : Nat) : Int)))), none, none, none], [.inl (iZ (6)), .inr (.inr (.inr (11, 0, 83)))], h)) rfl ?_
  refine Ev.callw (a := [.inr (.inr (.inr (11, 0, 83))), .inl (iZ (6))]) rfl (bk_draw b (by omega) ⟨by omega, by omega⟩ (fun w1 h1 v1a v1b b1 f1 n1 m1 r1 => ?_))
  refine Ev.sts 2 (c' := (8, [some (.inr (.inr (.inr (11, 0, 83)))), some (.inl (iZ (((dd : Nat) : Int)))), some (.inl (iZ (w1))), none, none], [.inl (iZ (w1))], h1)) rfl ?_
  refine Ev.brc (p := ¬ (iZ (w1)) = (iZ (0))) (q := ¬ ((w1 : Int)) = 0) (c1 := (45, [some (.inr (.inr (.inr (11, 0, 83)))), some (.inl (iZ (((dd : Nat) : Int)))), some (.inl (iZ (w1))), none, none], [], h1)) (c2 := (11, [some (.inr (.inr (.inr (11, 0, 83)))), some (.inl (iZ (((dd : Nat) : Int)))), some (.inl (iZ (w1))), none, none], [], h1)) rfl (not_congr (iZ_eq ⟨by omega, by omega⟩ ⟨by omega, by omega⟩)) (fun c0 => ?_) (fun c0 => ?_)
  · refine Ev.sts 2 (c' := (47, [some (.inr (.inr (.inr (11, 0, 83)))), some (.inl (iZ (((dd : Nat) : Int)))), some (.inl (iZ (w1))), none, none], [.inl (iZ (1)), .inl (iZ (w1))], h1)) rfl ?_
    refine Ev.brc (p := ¬ (iZ (w1)) = (iZ (1))) (q := ¬ ((w1 : Int)) = 1) (c1 := (112, [some (.inr (.inr (.inr (11, 0, 83)))), some (.inl (iZ (((dd : Nat) : Int)))), some (.inl (iZ (w1))), none, none], [], h1)) (c2 := (50, [some (.inr (.inr (.inr (11, 0, 83)))), some (.inl (iZ (((dd : Nat) : Int)))), some (.inl (iZ (w1))), none, none], [], h1)) rfl (not_congr (iZ_eq ⟨by omega, by omega⟩ ⟨by omega, by omega⟩)) (fun c1 => ?_) (fun c1 => ?_)
    · refine kp_112 (E1 := E1) (E2 := 0) hdd hv (by omega) (gM_f hg f1) b1 l e (by omega) (by omega) (by omega) (fun h9 ra P => q h9 ra (Pst_base P f1 (by omega) (by omega) (by omega)))
    · refine Ev.sts 1 (c' := (51, [some (.inr (.inr (.inr (11, 0, 83)))), some (.inl (iZ (((dd : Nat) : Int)))), some (.inl (iZ (w1))), none, none], [.inr (.inr (.inr (11, 0, 83)))], h1)) rfl ?_
      refine Ev.gv (w := (iZ ((mn : Int)))) rfl ((f1.2.1 7 (by decide) (by decide)).trans hg.1) ?_
      refine Ev.brc (p := (iZ ((mn : Int))) ≤ (iZ (0))) (q := (((mn : Int) : Int)) ≤ 0) (c1 := (112, [some (.inr (.inr (.inr (11, 0, 83)))), some (.inl (iZ (((dd : Nat) : Int)))), some (.inl (iZ (w1))), none, none], [], h1)) (c2 := (57, [some (.inr (.inr (.inr (11, 0, 83)))), some (.inl (iZ (((dd : Nat) : Int)))), some (.inl (iZ (w1))), none, none], [], h1)) rfl (iZ_le ⟨by omega, by omega⟩ ⟨by omega, by omega⟩) (fun c2 => ?_) (fun c2 => ?_)
      · refine kp_112 (E1 := E1) (E2 := 0) hdd hv (by omega) (gM_f hg f1) b1 l e (by omega) (by omega) (by omega) (fun h9 ra P => q h9 ra (Pst_base P f1 (by omega) (by omega) (by omega)))
      · refine kp_57 (E1 := 0) (E2 := 0) hdd (by omega) (gM_f hg f1) b1 l e (by omega) (by omega) (by omega) (fun h9 ra P => q h9 ra (Pst_base P f1 (by omega) (by omega) (by omega)))
  · refine Ev.sts 2 (c' := (13, [some (.inr (.inr (.inr (11, 0, 83)))), some (.inl (iZ (((dd : Nat) : Int)))), some (.inl (iZ (w1))), none, none], [.inl (iZ (3)), .inl (iZ (((dd : Nat) : Int)))], h1)) rfl ?_
    refine Ev.brc (p := (iZ (3)) ≤ (iZ (((dd : Nat) : Int)))) (q := ((3 : Int)) ≤ ((dd : Nat) : Int)) (c1 := (45, [some (.inr (.inr (.inr (11, 0, 83)))), some (.inl (iZ (((dd : Nat) : Int)))), some (.inl (iZ (w1))), none, none], [], h1)) (c2 := (16, [some (.inr (.inr (.inr (11, 0, 83)))), some (.inl (iZ (((dd : Nat) : Int)))), some (.inl (iZ (w1))), none, none], [], h1)) rfl (iZ_le ⟨by omega, by omega⟩ ⟨by omega, by omega⟩) (fun c1 => ?_) (fun c1 => ?_)
    · refine Ev.sts 2 (c' := (47, [some (.inr (.inr (.inr (11, 0, 83)))), some (.inl (iZ (((dd : Nat) : Int)))), some (.inl (iZ (w1))), none, none], [.inl (iZ (1)), .inl (iZ (w1))], h1)) rfl ?_
      refine Ev.brc (p := ¬ (iZ (w1)) = (iZ (1))) (q := ¬ ((w1 : Int)) = 1) (c1 := (112, [some (.inr (.inr (.inr (11, 0, 83)))), some (.inl (iZ (((dd : Nat) : Int)))), some (.inl (iZ (w1))), none, none], [], h1)) (c2 := (50, [some (.inr (.inr (.inr (11, 0, 83)))), some (.inl (iZ (((dd : Nat) : Int)))), some (.inl (iZ (w1))), none, none], [], h1)) rfl (not_congr (iZ_eq ⟨by omega, by omega⟩ ⟨by omega, by omega⟩)) (fun c2 => ?_) (fun c2 => ?_)
      · refine kp_112 (E1 := E1) (E2 := 0) hdd hv (by omega) (gM_f hg f1) b1 l e (by omega) (by omega) (by omega) (fun h9 ra P => q h9 ra (Pst_base P f1 (by omega) (by omega) (by omega)))
      · refine Ev.sts 1 (c' := (51, [some (.inr (.inr (.inr (11, 0, 83)))), some (.inl (iZ (((dd : Nat) : Int)))), some (.inl (iZ (w1))), none, none], [.inr (.inr (.inr (11, 0, 83)))], h1)) rfl ?_
        refine Ev.gv (w := (iZ ((mn : Int)))) rfl ((f1.2.1 7 (by decide) (by decide)).trans hg.1) ?_
        refine Ev.brc (p := (iZ ((mn : Int))) ≤ (iZ (0))) (q := (((mn : Int) : Int)) ≤ 0) (c1 := (112, [some (.inr (.inr (.inr (11, 0, 83)))), some (.inl (iZ (((dd : Nat) : Int)))), some (.inl (iZ (w1))), none, none], [], h1)) (c2 := (57, [some (.inr (.inr (.inr (11, 0, 83)))), some (.inl (iZ (((dd : Nat) : Int)))), some (.inl (iZ (w1))), none, none], [], h1)) rfl (iZ_le ⟨by omega, by omega⟩ ⟨by omega, by omega⟩) (fun c3 => ?_) (fun c3 => ?_)
        · refine kp_112 (E1 := E1) (E2 := 0) hdd hv (by omega) (gM_f hg f1) b1 l e (by omega) (by omega) (by omega) (fun h9 ra P => q h9 ra (Pst_base P f1 (by omega) (by omega) (by omega)))
        · refine kp_57 (E1 := 0) (E2 := 0) hdd (by omega) (gM_f hg f1) b1 l e (by omega) (by omega) (by omega) (fun h9 ra P => q h9 ra (Pst_base P f1 (by omega) (by omega) (by omega)))
    · refine Ev.sts 1 (c' := (17, [some (.inr (.inr (.inr (11, 0, 83)))), some (.inl (iZ (((dd : Nat) : Int)))), some (.inl (iZ (w1))), none, none], [.inr (.inr (.inr (11, 0, 83)))], h1)) rfl ?_
      refine Ev.callw (a := [.inr (.inr (.inr (11, 0, 83)))]) rfl (bk_short b1 ⟨by omega, by omega⟩ (fun c_2 => ?_) (fun c_2 => ?_))
      · refine Ev.brF (p := (iZ (1)) = (iZ (0))) (c1 := (45, [some (.inr (.inr (.inr (11, 0, 83)))), some (.inl (iZ (((dd : Nat) : Int)))), some (.inl (iZ (w1))), none, none], [], h1)) (c2 := (23, [some (.inr (.inr (.inr (11, 0, 83)))), some (.inl (iZ (((dd : Nat) : Int)))), some (.inl (iZ (w1))), none, none], [], h1)) (by decide) rfl ?_
        refine Ev.sts 2 (c' := (26, [some (.inr (.inr (.inr (11, 0, 83)))), some (.inl (iZ (((dd : Nat) : Int)))), some (.inl (iZ (w1))), none, none], [.inr (.inr (.inr (43, 0, 41))), .inr (.inr (.inr (11, 0, 83)))], h1)) rfl ?_
        refine Ev.callw (a := [.inr (.inr (.inr (11, 0, 83))), .inr (.inr (.inr (43, 0, 41)))]) rfl (bk_add b1 (txR_c _ _ _ 41) (txC_as 41) (Nat.le_trans ll_41 (by decide)) (by omega) (fun h3 b3 f3 n3 m3 t3 => ?_))
        have l3 := lx_41 l
        have N3 := FB_n f3
        refine Ev.sts 3 (c' := (32, [some (.inr (.inr (.inr (11, 0, 83)))), some (.inl (iZ (((dd : Nat) : Int)))), some (.inl (iZ (w1))), none, none], [.inl (iZ (1)), .inl (iZ (((dd : Nat) : Int))), .inr (.inr (.inr (11, 0, 83)))], h3)) rfl ?_
        refine Ev.gv (w := (iZ ((((dd : Nat) : Int)) + 1))) rfl (iZ_add _ _) ?_
        rw [show ((dd : Int) + 1) = ((dd + 1 : Nat) : Int) by omega]
        refine Ev.callw (a := [.inr (.inr (.inr (11, 0, 83))), .inl (iZ (((dd + 1 : Nat) : Int)))]) rfl ((ht_ (by omega)) _ (by omega) _ _ _ _ _ _ _ _ (gM_f hg (FB_t f1 f3)) b3 (l3).1 (l3).2 (by omega) (by omega) (by omega) (fun h4 ra4 P4 => ?_))
        obtain ⟨dr4, tk4, tp4, kk4, cc4, g4, b4, f4, l4, C4, Z4, ev4, T4, ⟨a4a, a4b, a4c, a4d, n4⟩, m4, t4⟩ := P4
        have N4 := FB_n f4
        refine Ev.sts 3 (c' := (40, [some (.inr (.inr (.inr (11, 0, 83)))), some (.inl (iZ (((dd : Nat) : Int)))), some (.inl (iZ (w1))), some (.inr (.inr (.inr (13, 0, ra4)))), none], [.inr (.inr (.inr (43, 0, 42))), .inr (.inr (.inr (11, 0, 83)))], h4)) rfl ?_
        refine Ev.callw (a := [.inr (.inr (.inr (11, 0, 83))), .inr (.inr (.inr (43, 0, 42)))]) rfl (bk_add b4 (txR_c _ _ _ 42) (txC_as 42) (Nat.le_trans ll_42 (by decide)) (by omega) (fun h5 b5 f5 n5 m5 t5 => ?_))
        have l5 := lx_42 l4
        have N5 := FB_n f5
        refine Ev.sts 1 (c' := (44, [some (.inr (.inr (.inr (11, 0, 83)))), some (.inl (iZ (((dd : Nat) : Int)))), some (.inl (iZ (w1))), some (.inr (.inr (.inr (13, 0, ra4)))), none], [.inr (.inr (.inr (13, 0, ra4)))], h5)) rfl ?_
        refine Ev.ret rfl (q _ _ ⟨_, _, _, (28, 0, 0) :: (kk4 ++ [(29, 0, 0)]), cc4, g4, b5, (FB_t (FB_t (FB_t f1 f3) f4) f5), by simpa only [List.append_assoc, List.cons_append, List.nil_append] using (l5).1, fun m hm => ?_, Z4, EV_up ev4 (by omega), TR_le (TR_mv T4 f5 (Nat.le_refl _) (by omega) (by omega) (by omega)) (by omega), ?_, ?_, ?_⟩)
        · obtain ⟨m, rfl⟩ : ∃ k, m = k + 1 := ⟨m - 1, by omega⟩
          exact KP_br (C4 m (by omega))
        · simp only [List.length_cons, List.length_append, List.length_nil]
          omega
        · omega
        · exact txR_lo t5 (by omega)
      · refine Ev.brT (p := (iZ (0)) = (iZ (0))) (c1 := (45, [some (.inr (.inr (.inr (11, 0, 83)))), some (.inl (iZ (((dd : Nat) : Int)))), some (.inl (iZ (w1))), none, none], [], h1)) (c2 := (23, [some (.inr (.inr (.inr (11, 0, 83)))), some (.inl (iZ (((dd : Nat) : Int)))), some (.inl (iZ (w1))), none, none], [], h1)) (by decide) rfl ?_
        refine Ev.sts 2 (c' := (47, [some (.inr (.inr (.inr (11, 0, 83)))), some (.inl (iZ (((dd : Nat) : Int)))), some (.inl (iZ (w1))), none, none], [.inl (iZ (1)), .inl (iZ (w1))], h1)) rfl ?_
        refine Ev.brc (p := ¬ (iZ (w1)) = (iZ (1))) (q := ¬ ((w1 : Int)) = 1) (c1 := (112, [some (.inr (.inr (.inr (11, 0, 83)))), some (.inl (iZ (((dd : Nat) : Int)))), some (.inl (iZ (w1))), none, none], [], h1)) (c2 := (50, [some (.inr (.inr (.inr (11, 0, 83)))), some (.inl (iZ (((dd : Nat) : Int)))), some (.inl (iZ (w1))), none, none], [], h1)) rfl (not_congr (iZ_eq ⟨by omega, by omega⟩ ⟨by omega, by omega⟩)) (fun c2 => ?_) (fun c2 => ?_)
        · refine kp_112 (E1 := E1) (E2 := 0) hdd hv (by omega) (gM_f hg f1) b1 l e (by omega) (by omega) (by omega) (fun h9 ra P => q h9 ra (Pst_base P f1 (by omega) (by omega) (by omega)))
        · refine Ev.sts 1 (c' := (51, [some (.inr (.inr (.inr (11, 0, 83)))), some (.inl (iZ (((dd : Nat) : Int)))), some (.inl (iZ (w1))), none, none], [.inr (.inr (.inr (11, 0, 83)))], h1)) rfl ?_
          refine Ev.gv (w := (iZ ((mn : Int)))) rfl ((f1.2.1 7 (by decide) (by decide)).trans hg.1) ?_
          refine Ev.brc (p := (iZ ((mn : Int))) ≤ (iZ (0))) (q := (((mn : Int) : Int)) ≤ 0) (c1 := (112, [some (.inr (.inr (.inr (11, 0, 83)))), some (.inl (iZ (((dd : Nat) : Int)))), some (.inl (iZ (w1))), none, none], [], h1)) (c2 := (57, [some (.inr (.inr (.inr (11, 0, 83)))), some (.inl (iZ (((dd : Nat) : Int)))), some (.inl (iZ (w1))), none, none], [], h1)) rfl (iZ_le ⟨by omega, by omega⟩ ⟨by omega, by omega⟩) (fun c3 => ?_) (fun c3 => ?_)
          · refine kp_112 (E1 := E1) (E2 := 0) hdd hv (by omega) (gM_f hg f1) b1 l e (by omega) (by omega) (by omega) (fun h9 ra P => q h9 ra (Pst_base P f1 (by omega) (by omega) (by omega)))
          · refine kp_57 (E1 := 0) (E2 := 0) hdd (by omega) (gM_f hg f1) b1 l e (by omega) (by omega) (by omega) (fun h9 ra P => q h9 ra (Pst_base P f1 (by omega) (by omega) (by omega)))

