/-! A whole line with a flock. -/
theorem gP12 (t : Nat) : gP (t + 12) = gP t + (360 * t + 5580) := by
  show gP t + _ + _ + _ + _ + _ + _ + _ + _ + _ + _ + _ + _ = _
  omega
/-- the book between two lines -/
def LSt (h : PH) (L dr tk : Nat) (tp : List Int) (ks : List Sg) (s : Sm) (nl mn al : Nat) : Prop := (∃ ln, BKl h L dr tk ln tp) ∧ LXs tp ks ∧ enN tp = false ∧ BKs ks s nl ∧ BIs s ∧ smF s = nmF mn ∧ smG s = nmG al ∧ HB h (bkO s) mn al ∧ tp.length ≤ 6 * tk + 24 ∧ ks.length ≤ tk + 12 ∧ dr ≤ 12 * tk + 100
theorem KL_F {h h1 : PH} (h88 : 88 ≤ hN h) (f : FB h h1) : Kp 83 nA h h1 := Kp_m f.1 (by omega) (fun x hx e => by omega)
theorem ln_flock {d L dr t0 nl mn al : Nat} {x1 x2 x3 : Option VV} {tp : List Int} {ks : List Sg} {s : Sm} {h : PH} {Q : Rs → PH → Prop} (hE : eTs 0 ≤ d + 5) (b : BKl h L dr (t0 + 12) t0 tp) (lx : LXs tp ks) (en : enN tp = false) (bs : BKs ks s nl) (bi : BIs s) (fF : smF s = nmF mn) (fG : smG s = nmG al) (H : HB h (bkO s) mn al) (hm : mn < 8) (h0 : t0 ≤ 199) (hl : tp.length ≤ 6 * t0 + 24) (hk : ks.length ≤ t0 + 12) (hd : dr ≤ 12 * t0 + 200) (k : ∀ h1 tk1 dr1 tp1 ks1 s1, LSt h1 L dr1 tk1 tp1 ks1 s1 (nl + 1) (mn + 1) al → Kp 83 nA h h1 → tk1 ≤ t0 + 54 → t0 + 12 ≤ tk1 → hN h1 ≤ hN h + 14 * (tk1 - t0) → hS h1 + gP t0 ≤ hS h + gP tk1 → Ev (d + 6) 161 (673, [some (.inr (.inr (.inr (11, 0, 83)))), x1, x2, x3], [], h1) Q) : Ev (d + 6) 161 (232, [some (.inr (.inr (.inr (11, 0, 83)))), x1, x2, x3], [], h) Q := by
  have h88 := b.2.2.2.2.2.2.2
  refine tw_flock b (by omega) H.1.2.2.1 (by omega) (fun ha ba fa na ma _ => ?_)
  have l54 : (txC 54 ++ ([97 + (mn : Int)] ++ txC 55)).length = 15 := by rw [List.length_append, List.length_append, show (txC 54).length = 7 by decide +kernel, show (txC 55).length = 7 by decide +kernel]; rfl
  obtain ⟨lxa, ena⟩ := lx_flock hm lx en
  have Ha := HB_F h88 fa.1 H
  have la : (tp ++ (txC 54 ++ ([97 + (mn : Int)] ++ txC 55))).length = tp.length + 15 := by rw [List.length_append, l54]
  have h8a := ba.2.2.2.2.2.2.2
  refine fl_274 (d := d + 5) hE (BL_h ba (by omega)) lxa ena ⟨Ha.1.2.2.1, by omega⟩ hm Ha.1.2.2.2.1 (by omega) (by omega) (by omega) (fun hb ra P => ?_)
  obtain ⟨dr1, tk1, tp1, kk, c, f, p1, p2, p3, p4, p5, p6, p7, ⟨q1, q2, q3, q4, q5⟩, p9, -⟩ := P
  have h8b := p1.2.2.2.2.2.2.2.1
  have lb := p1.2.2.2.2.2.2.2.2
  have Hb := HB_fl h8b (HB_F h8a p2 Ha) hm (TR_Kp (Kp_r (hN hb) nA hb) (Nat.le_refl _) (fun _ _ z => z) (Nat.le_refl _) (by omega) p7) p5 p6
  have bb := BL_fl (mn := mn) (ra := ra) (BL_of p1)
  refine tw_end bb (by omega) (fun hc bc fc nc mc _ => ?_)
  have e53 : (txC 53).length = 2 := by decide +kernel
  have h8f : 88 ≤ hN (fl7H hb mn ra) := h8b
  have Hc := HB_F h8f fc.1 Hb
  have lx5 := lx_53 p3
  have tpk := p4 6 (by omega)
  have lk1 := lk_F ⟨mn, by omega⟩ ⟨mn, by omega⟩
  have lk2 := lk_F ⟨al, by have := H.2.1.2.1; omega⟩ ⟨mn, by omega⟩
  have w1 : lk (smF s) (193 + (mn : Int)) = -1 := by rw [fF]; exact lk1.1.trans (if_neg (Nat.lt_irrefl _))
  have w2 : lk (smG s) (193 + (mn : Int)) = -1 := by rw [fG]; exact lk2.2.1
  have bs1 := BKs_flock bs bi (by rw [fF]; exact tpk) w1 w2 (by rw [fF, nmF_l]; exact hm)
  have bi1 := sFl_B (w := 193 + (mn : Int)) (c := c) bi
  refine k hc tk1 dr1 _ _ (sFl s (193 + (mn : Int)) c) ⟨⟨_, bc⟩, by simpa only [List.append_assoc, List.cons_append, List.nil_append] using lx5.1, lx5.2, bs1, bi1.1, ?_, fG, by rw [bi1.2]; exact Hc, by rw [List.length_append]; omega, ?_, by omega⟩ ?_ (by omega) (by omega) ?_ ?_
  · show smF s ++ [193 + (mn : Int)] = nmF (mn + 1)
    rw [fF, nmF_s]
  · simp only [List.length_append, List.length_cons, List.length_nil]
    omega
  · exact Kp_t (KL_F h88 fa.1) (Kp_t (KL_F h8a p2) (Kp_t (Kp_m (fl7H_k (N := 83) h8b) (Nat.le_refl _) (fun x hx e => by omega)) (KL_F h8f fc.1)))
  · have : hN (fl7H hb mn ra) = hN hb := rfl
    omega
  · have : hS (fl7H hb mn ra) = hS hb := rfl
    have g := gP12 t0
    omega
