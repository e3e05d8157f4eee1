/-! A line with a goose, from its first draw to its end. -/
theorem ln_goose {d L dr t0 nl mn al : Nat} {x1 x3 : Option VV} {y2 : Int} {tp : List Int} {ks : List Sg} {s : Sm} {h : PH} {Q : Rs → PH → Prop} (hE : eV 0 ≤ d + 5) (b : BKl h L dr (t0 + 12) t0 tp) (lx : LXs tp ks) (en : enN tp = false) (bs : BKs ks s nl) (bi : BIs s) (fF : smF s = nmF mn) (fG : smG s = nmG al) (H : HB h (bkO s) mn al) (hm : 0 < mn) (ha6 : al < 6) (h0 : t0 ≤ 199) (hl : tp.length ≤ 6 * t0 + 24) (hk : ks.length ≤ t0 + 12) (hd : dr ≤ 12 * t0 + 200) (k : ∀ h1 tk1 dr1 tp1 ks1 s1 x4, LSt h1 L dr1 tk1 tp1 ks1 s1 (nl + 1) mn (al + 1) → Kp 83 nA h h1 → tk1 ≤ t0 + 54 → t0 + 12 ≤ tk1 → hN h1 ≤ hN h + 14 * (tk1 - t0) → hS h1 + gP t0 ≤ hS h + gP tk1 → Ev (d + 6) 161 (673, [some (.inr (.inr (.inr (11, 0, 83)))), x1, some (.inl (iZ (y2))), x4], [], h1) Q) : Ev (d + 6) 161 (310, [some (.inr (.inr (.inr (11, 0, 83)))), x1, some (.inl (iZ (y2))), x3], [], h) Q := by
  have h88 := b.2.2.2.2.2.2.2
  have m8 := H.1.2.1
  refine rw_go (d := d + 4) b H.1.2.2.1 ⟨hm, m8⟩ (by omega) (fun h1 w0 w1 w3 dr1 R rows a0 a1 a3 hdr => ?_)
  obtain ⟨rb, rf, -, rn, rs, rt, rg⟩ := R
  have H1 := HB_F h88 rf H
  refine tw_goose (w0 := w0) rb (by omega) (by omega) H1.2.1.2.2.1 (by omega) rows.1 ⟨a0.1, by omega⟩ (fun h2 b2 f2 n2 m2 x2 => ?_)
  have lg : (txC 56 ++ ([97 + (al : Int)] ++ (txC 57 ++ [97 + w0]))).length = 14 := by rw [List.length_append, List.length_append, List.length_append, show (txC 56).length = 7 by decide +kernel, show (txC 57).length = 5 by decide +kernel]; rfl
  have l2n : (tp ++ (txC 56 ++ ([97 + (al : Int)] ++ (txC 57 ++ [97 + w0])))).length = tp.length + 14 := by rw [List.length_append, lg]
  have lx2 := lx_goose (al := al) (w0 := w0) (by omega) ⟨a0.1, by omega⟩ lx en
  have k2 := KT_n f2
  have g2 : GWb h2 (hN h) L dr1 (t0 + 12) t0 (tp ++ (txC 56 ++ ([97 + (al : Int)] ++ (txC 57 ++ [97 + w0])))) := ⟨b2, txR_lo x2 (by omega), rg, by omega⟩
  have r2 : ∀ j, h2.1 (hN h) j = h1.1 (hN h) j := fun j => KG_row f2 (by omega) rg j
  refine gs_win g2 lx2 a1 ((r2 1).trans rows.2.1) (by omega) (by omega) ((r2 2).trans rows.2.2.1) (fun h3 wk st dr3 tp3 W => ?_)
  obtain ⟨g3, f3, l3, ⟨q0, q1, q3, q2⟩, hw, u3, e3, n3, m3⟩ := W
  have row3 : h3.1 (hN h) 3 = iZ w3 := q3.trans ((r2 3).trans rows.2.2.2)
  refine tw_tells (w3 := w3) g3.1 (by omega) g3.2.2.2 row3 a3 (fun h4 b4 f4 n4 m4 x4 => ?_)
  have lt := lt_tel (t := w3.toNat) (by omega)
  have lT : (txC 61 ++ txC (fid 1 w3.toNat)).length ≤ 16 := by rw [List.length_append, show (txC 61).length = 7 by decide +kernel]; omega
  have l4n : (tp3 ++ (txC 61 ++ txC (fid 1 w3.toNat))).length ≤ tp.length + 49 := by rw [List.length_append]; omega
  obtain ⟨l4, en4⟩ := lx_tel (t := w3.toNat) (by omega) l3
  have k4 := KT_n f4
  have r4 : ∀ j, h4.1 (hN h) j = h3.1 (hN h) j := fun j => KG_row f4 g3.2.2.2 rg j
  have F4 : FB h h4 := FB_t (FB_KG (FB_t rf f2.1) f3 (Nat.le_refl _)) f4.1
  have H4 := HB_F h88 F4 H
  have c0 : h4.1 (hN h) 0 = iZ w0 := (r4 0).trans (q0.trans ((r2 0).trans rows.1))
  have c1 : h4.1 (hN h) 1 = iZ w1 := (r4 1).trans (q1.trans ((r2 1).trans rows.2.1))
  have c2 : h4.1 (hN h) 2 = iZ (lWin wk st) := (r4 2).trans q2
  have c3 : h4.1 (hN h) 3 = iZ w3 := (r4 3).trans row3
  have g3l := g3.2.2.2
  by_cases z : w3 = 0
  · have zt : w3.toNat = 0 := by omega
    rw [zt] at l4
    refine gt_607z (d := d + 6) c3 z ?_
    refine ge_627 (wk := wk) (tl := 0) (kk := []) (c := []) (w0 := w0) (n := w1) (st := st) b4 (by simpa only [List.append_assoc, List.cons_append, List.nil_append, zt] using l4) bs bi fF fG H4 ha6 ⟨by omega, by omega⟩ ⟨c0, c1, c2, by rw [c3, z]; rfl⟩ a0 a1 (by decide) hw (fun y => absurd rfl y) (fun _ => rfl) (fun y => absurd rfl y) (by omega) (by omega) (by show ks.length + 1 + 10 ≤ _; omega) (by omega) (fun hc tpc ksc sc S K nn mm => k hc _ _ _ _ _ _ S (Kp_t (KL_F h88 F4) K) (by omega) (Nat.le_refl _) (by omega) ?_)
    have g := gP12 t0
    omega
  · refine gt_607 (d := d + 5) hE c3 ⟨by omega, a3.2⟩ H4.2.1.2.2.1 ha6 H4.2.1.2.2.2.2.1 (BL_h b4 (by omega)) l4 (en4 (by omega)) (by omega) (by omega) (by omega) (fun h5 ra P => ?_)
    obtain ⟨dr5, tk5, tp5, kk, c, f, p1, p2, p3, p4, p5, p6, p7, ⟨e1, e2, e3', e4, e5⟩, p9, -⟩ := P
    have h8b := p1.2.2.2.2.2.2.2.1
    have lb := p1.2.2.2.2.2.2.2.2
    have h84 := b4.2.2.2.2.2.2.2
    have n45 := FB_n p2
    have H5 := HB_of (r := (13, 0, ra)) h8b (HB_F h84 p2 H4)
    have row5 : ∀ j, (setR h5 87 al (13, 0, ra)).1 (hN h) j = h4.1 (hN h) j := fun j => congrFun (p2.1.2.1 (hN h) (by omega) (by omega)).1 j
    have tne : w3.toNat ≠ 0 := by omega
    have l5 : LXs tp5 (ks ++ ((15, 0, 0) :: (2, 0, 225 + (al : Int)) :: (16, 0, 0) :: (2, 0, 193 + w0) :: (wiK w1 st wk ++ ((20, 0, 0) :: teK kk w3.toNat)))) := by
      rw [teK_app kk _ tne]
      simpa only [List.append_assoc, List.cons_append, List.nil_append] using p3
    have tl5 : (teK kk w3.toNat).length = 2 + kk.length := by
      obtain ⟨t, ht⟩ : ∃ t, w3.toNat = t + 1 := ⟨w3.toNat - 1, by omega⟩
      rw [ht]; show kk.length + 1 + 1 = _; omega
    have T5 : TRr (setR h5 87 al (13, 0, ra)) 87 (hN (setR h5 87 al (13, 0, ra))) 8 ((setR h5 87 al (13, 0, ra)).2.2.1 87 al) f := by
      rw [show (setR h5 87 al (13, 0, ra)).2.2.1 87 al = (13, 0, ra) from setR_self _ _ _ _]
      exact TR_Kp (M := hN h5) (A := fun a => a = 87) (Kp_R (fun _ => rfl)) (Nat.le_refl _) (fun a ha => by omega) (Nat.le_refl _) (by omega) p7
    refine ge_627 (wk := wk) (tl := w3.toNat) (kk := kk) (c := c) (w0 := w0) (n := w1) (st := st) (BL_87 (al := al) (r := (13, 0, ra)) (BL_of p1)) l5 bs bi fF fG H5 ha6 ⟨by omega, by show hN h < hN h5; omega⟩ ⟨(row5 0).trans c0, (row5 1).trans c1, (row5 2).trans c2, (row5 3).trans (by rw [c3, show ((w3.toNat : Nat) : Int) = w3 by omega])⟩ a0 a1 (by omega) hw (fun _ => p4 6 (by omega)) (fun y => absurd y tne) (fun _ => ⟨f, T5, p6⟩) (by omega) (by omega) (by omega) (by omega) (fun hc tpc ksc sc S K nn mm => k hc _ _ _ _ _ _ S (Kp_t (Kp_t (KL_F h88 F4) (KL_F h84 p2)) (Kp_t (Kp_R (fun y => absurd y (by decide))) K)) (by omega) (by omega) ?_ ?_)
    · have : hN (setR h5 87 al (13, 0, ra)) = hN h5 := rfl
      omega
    · have : hS (setR h5 87 al (13, 0, ra)) = hS h5 := rfl
      have g := gP12 t0
      omega
