/-! The lines of the book, one after another. -/
theorem bl_draw {d L dr tk ln : Nat} {n : Int} {tp : List Int} {h : PH} {Q : Rs → PH → Prop} (b : BKl h L dr tk ln tp) (hd : dr < 1000000) (hn : 0 < n ∧ n ≤ 100000) (q : ∀ (w : Int) h1, 0 ≤ w → w < n → BKl h1 L (dr + 1) tk ln tp → FB h h1 → hN h1 = hN h → hS h1 = hS h → Q (.inl (some (.inl (iZ w)))) h1) : Rn (d + 1) 162 [.inr (.inr (.inr (11, 0, 83))), .inl (iZ (n))] h Q := by
  obtain ⟨b1, b2, b3, b4, b5, b6, b7, b8⟩ := b
  refine bk_draw0 b1.1 b2 hd b1.2 hn (fun w w0 w1 => q w _ w0 w1 ?_ ?_ rfl rfl)
  · have k : Kp (hN h) (fun a => a = 83) h (setI h 83 1 (iZ ((dr : Int) + 1))) := Kp_I (fun _ => rfl) (by omega)
    exact ⟨b1, setI_self _ _ _ _, (setI_ne (by decide)).trans b3, (setI_ne (by decide)).trans b4, txR_Kp b5 k (Nat.le_refl _) (fun a ha => by omega), b6, Kp_Z k b7, b8⟩
  · exact ⟨Kp_I (fun _ => rfl) (by omega), fun j j1 _ => setI_ne (fun z => j1 z.2), fun _ _ => rfl⟩
/-- a line begins -/
def lnH (h : PH) (tk : Nat) : PH := setI (setI h 83 3 (iZ (tk : Int))) 83 2 (iZ ((tk : Int) + 12))
theorem BL_ln {h : PH} {L dr tk ln : Nat} {tp : List Int} (b : BKl h L dr tk ln tp) : BKl (lnH h tk) L dr (tk + 12) tk tp ∧ Kp (hN h) (fun a => a = 83) h (lnH h tk) := by
  obtain ⟨b1, b2, b3, b4, b5, b6, b7, b8⟩ := b
  have k : Kp (hN h) (fun a => a = 83) h (lnH h tk) := Kp_t (Kp_I (fun _ => rfl) (by omega)) (Kp_I (fun _ => rfl) (by show 83 < hN h; omega))
  exact ⟨⟨b1, (setI_ne (by decide)).trans ((setI_ne (by decide)).trans b2), (setI_self _ _ _ _).trans (by rw [show (((tk + 12 : Nat) : Int)) = (tk : Int) + 12 by omega]), (setI_ne (by decide)).trans (setI_self _ _ _ _), txR_Kp b5 k (Nat.le_refl _) (fun a ha => by omega), b6, Kp_Z k b7, b8⟩, k⟩
theorem HB_ln {h : PH} {B : Bk} {mn al tk : Nat} (h88 : 88 ≤ hN h) (a : HB h B mn al) : HB (lnH h tk) B mn al := by
  have k : Kp (hN h) (fun a => a ≤ 87) h (lnH h tk) := Kp_t (Kp_I (fun _ => by omega) (by omega)) (Kp_I (fun _ => by omega) (by show 83 < hN h; omega))
  have i : ∀ j, j ≠ 2 → j ≠ 3 → (lnH h tk).1 83 j = h.1 83 j := fun j j2 j3 => (setI_ne (fun z => j2 z.2)).trans (setI_ne (fun z => j3 z.2))
  exact ⟨FLr_k k (i 7 (by decide) (by decide)) rfl (fun g _ => rfl) a.1, GOr_k k (Nat.le_refl _) (i 10 (by decide) (by decide)) rfl rfl (fun g _ => rfl) (fun g _ => rfl) a.2.1, MOr_k k rfl ((setI_oth (by decide)).trans (setI_oth (by decide))) a.2.2⟩
theorem wl_174 {d L dr tk ln : Nat} {N k : Int} {x3 : Option VV} {tp : List Int} {h : PH} {Q : Rs → PH → Prop} (b : BKl h L dr tk ln tp) (ht : tk ≤ 1000) (hk : 0 ≤ k ∧ k ≤ 100) (hN_ : 0 ≤ N ∧ N ≤ 100) (q0 : Q (.inl none) h) (k1 : k < N → tk < 200 → Ev d 161 (208, [some (.inr (.inr (.inr (11, 0, 83)))), some (.inl (iZ (N))), some (.inl (iZ (k))), x3], [], (lnH h tk)) Q) : Ev d 161 (174, [some (.inr (.inr (.inr (11, 0, 83)))), some (.inl (iZ (N))), some (.inl (iZ (k))), x3], [], h) Q := by
  refine Ev.sts 2 (c' := (176, [some (.inr (.inr (.inr (11, 0, 83)))), some (.inl (iZ (N))), some (.inl (iZ (k))), x3], [.inl (iZ (N)), .inl (iZ (k))], h)) rfl ?_
  refine Ev.brc (p := (iZ (N)) ≤ (iZ (k))) (q := ((N : Int)) ≤ k) (c1 := (679, [some (.inr (.inr (.inr (11, 0, 83)))), some (.inl (iZ (N))), some (.inl (iZ (k))), x3], [], h)) (c2 := (179, [some (.inr (.inr (.inr (11, 0, 83)))), some (.inl (iZ (N))), some (.inl (iZ (k))), x3], [], h)) rfl (iZ_le ⟨by omega, by omega⟩ ⟨by omega, by omega⟩) (fun c0 => ?_) (fun c0 => ?_)
  · exact Ev.ret rfl (q0)
  · refine Ev.sts 1 (c' := (180, [some (.inr (.inr (.inr (11, 0, 83)))), some (.inl (iZ (N))), some (.inl (iZ (k))), x3], [.inr (.inr (.inr (11, 0, 83)))], h)) rfl ?_
    refine Ev.gv (w := (iZ ((tk : Int)))) rfl b.2.2.1 ?_
    refine Ev.sts 1 (c' := (186, [some (.inr (.inr (.inr (11, 0, 83)))), some (.inl (iZ (N))), some (.inl (iZ (k))), x3], [.inl (iZ (200)), .inl (iZ ((tk : Int)))], h)) rfl ?_
    refine Ev.brc (p := (iZ (200)) ≤ (iZ ((tk : Int)))) (q := ((200 : Int)) ≤ (tk : Int)) (c1 := (679, [some (.inr (.inr (.inr (11, 0, 83)))), some (.inl (iZ (N))), some (.inl (iZ (k))), x3], [], h)) (c2 := (189, [some (.inr (.inr (.inr (11, 0, 83)))), some (.inl (iZ (N))), some (.inl (iZ (k))), x3], [], h)) rfl (iZ_le ⟨by omega, by omega⟩ ⟨by omega, by omega⟩) (fun c1 => ?_) (fun c1 => ?_)
    · exact Ev.ret rfl (q0)
    · refine Ev.sts 2 (c' := (191, [some (.inr (.inr (.inr (11, 0, 83)))), some (.inl (iZ (N))), some (.inl (iZ (k))), x3], [.inr (.inr (.inr (11, 0, 83))), .inr (.inr (.inr (11, 0, 83)))], h)) rfl ?_
      refine Ev.gv (w := (iZ ((tk : Int)))) rfl b.2.2.1 ?_
      refine Ev.sts 3 (c' := (199, [some (.inr (.inr (.inr (11, 0, 83)))), some (.inl (iZ (N))), some (.inl (iZ (k))), x3], [.inr (.inr (.inr (11, 0, 83))), .inr (.inr (.inr (11, 0, 83)))], (setI h 83 3 ((iZ ((tk : Int))))))) rfl ?_
      refine Ev.gv (w := (iZ ((tk : Int)))) rfl ((setI_ne (by decide)).trans b.2.2.1) ?_
      refine Ev.sts 1 (c' := (204, [some (.inr (.inr (.inr (11, 0, 83)))), some (.inl (iZ (N))), some (.inl (iZ (k))), x3], [.inl (iZ (12)), .inl (iZ ((tk : Int))), .inr (.inr (.inr (11, 0, 83)))], (setI h 83 3 ((iZ ((tk : Int))))))) rfl ?_
      refine Ev.gv (w := (iZ (((tk : Int)) + 12))) rfl (iZ_add _ _) ?_
      refine Ev.sts 1 (c' := (208, [some (.inr (.inr (.inr (11, 0, 83)))), some (.inl (iZ (N))), some (.inl (iZ (k))), x3], [], (setI (setI h 83 3 ((iZ ((tk : Int))))) 83 2 ((iZ (((tk : Int)) + 12)))))) rfl ?_
      exact k1 (by omega) (by omega)

theorem wl_208 {d L dr tk ln mn : Nat} {N k : Int} {x3 : Option VV} {tp : List Int} {h : PH} {Q : Rs → PH → Prop} (b : BKl h L dr tk ln tp) (hm : h.1 83 7 = iZ (mn : Int)) (hm8 : mn ≤ 8) (hd : dr < 100000) (kf : ∀ (h1 : PH) {dr1 : Nat}, BKl h1 L dr1 tk ln tp → FB h h1 → dr1 ≤ dr + 1 → mn < 8 → hN h1 = hN h → hS h1 = hS h → Ev (d + 2) 161 (232, [some (.inr (.inr (.inr (11, 0, 83)))), some (.inl (iZ (N))), some (.inl (iZ (k))), x3], [], h1) Q) (kg : ∀ h1, BKl h1 L (dr + 1) tk ln tp → FB h h1 → 0 < mn → hN h1 = hN h → hS h1 = hS h → Ev (d + 2) 161 (301, [some (.inr (.inr (.inr (11, 0, 83)))), some (.inl (iZ (N))), some (.inl (iZ (k))), x3], [], h1) Q) : Ev (d + 2) 161 (208, [some (.inr (.inr (.inr (11, 0, 83)))), some (.inl (iZ (N))), some (.inl (iZ (k))), x3], [], h) Q := by
  refine Ev.sts 1 (c' := (209, [some (.inr (.inr (.inr (11, 0, 83)))), some (.inl (iZ (N))), some (.inl (iZ (k))), x3], [.inr (.inr (.inr (11, 0, 83)))], h)) rfl ?_
  refine Ev.gv (w := (iZ ((mn : Int)))) rfl hm ?_
  refine Ev.brc (p := (iZ ((mn : Int))) = (iZ (0))) (q := (((mn : Int) : Int)) = 0) (c1 := (232, [some (.inr (.inr (.inr (11, 0, 83)))), some (.inl (iZ (N))), some (.inl (iZ (k))), x3], [], h)) (c2 := (215, [some (.inr (.inr (.inr (11, 0, 83)))), some (.inl (iZ (N))), some (.inl (iZ (k))), x3], [], h)) rfl (iZ_eq ⟨by omega, by omega⟩ ⟨by omega, by omega⟩) (fun c0 => ?_) (fun c0 => ?_)
  · exact kf h b (FB_r h) (Nat.le_succ _) (by omega) rfl rfl
  · refine Ev.sts 2 (c' := (217, [some (.inr (.inr (.inr (11, 0, 83)))), some (.inl (iZ (N))), some (.inl (iZ (k))), x3], [.inl (iZ (2)), .inr (.inr (.inr (11, 0, 83)))], h)) rfl ?_
    refine Ev.callw (a := [.inr (.inr (.inr (11, 0, 83))), .inl (iZ (2))]) rfl (bl_draw b (by omega) ⟨by omega, by omega⟩ (fun w h1 v0 v1 b1 f1 n1 m1 => ?_))
    refine Ev.brc (p := ¬ (iZ (w)) = (iZ (0))) (q := ¬ ((w : Int)) = 0) (c1 := (301, [some (.inr (.inr (.inr (11, 0, 83)))), some (.inl (iZ (N))), some (.inl (iZ (k))), x3], [], h1)) (c2 := (223, [some (.inr (.inr (.inr (11, 0, 83)))), some (.inl (iZ (N))), some (.inl (iZ (k))), x3], [], h1)) rfl (not_congr (iZ_eq ⟨by omega, by omega⟩ ⟨by omega, by omega⟩)) (fun c1 => ?_) (fun c1 => ?_)
    · exact kg h1 b1 f1 (by omega) n1 m1
    · refine Ev.sts 1 (c' := (224, [some (.inr (.inr (.inr (11, 0, 83)))), some (.inl (iZ (N))), some (.inl (iZ (k))), x3], [.inr (.inr (.inr (11, 0, 83)))], h1)) rfl ?_
      refine Ev.gv (w := (iZ ((mn : Int)))) rfl ((f1.2.1 7 (by decide) (by decide)).trans hm) ?_
      refine Ev.sts 1 (c' := (229, [some (.inr (.inr (.inr (11, 0, 83)))), some (.inl (iZ (N))), some (.inl (iZ (k))), x3], [.inl (iZ (8)), .inl (iZ ((mn : Int)))], h1)) rfl ?_
      refine Ev.brc (p := (iZ (8)) ≤ (iZ ((mn : Int)))) (q := ((8 : Int)) ≤ (mn : Int)) (c1 := (301, [some (.inr (.inr (.inr (11, 0, 83)))), some (.inl (iZ (N))), some (.inl (iZ (k))), x3], [], h1)) (c2 := (232, [some (.inr (.inr (.inr (11, 0, 83)))), some (.inl (iZ (N))), some (.inl (iZ (k))), x3], [], h1)) rfl (iZ_le ⟨by omega, by omega⟩ ⟨by omega, by omega⟩) (fun c2 => ?_) (fun c2 => ?_)
      · exact kg h1 b1 f1 (by omega) n1 m1
      · exact kf h1 b1 f1 (Nat.le_refl _) (by omega) n1 m1

theorem wl_301 {d al : Nat} {N k : Int} {x3 : Option VV} {h : PH} {Q : Rs → PH → Prop} (ha : h.1 83 10 = iZ (al : Int)) (ha6 : al ≤ 6) (k1 : al < 6 → Ev d 161 (310, [some (.inr (.inr (.inr (11, 0, 83)))), some (.inl (iZ (N))), some (.inl (iZ (k))), x3], [], h) Q) (k0 : Ev d 161 (673, [some (.inr (.inr (.inr (11, 0, 83)))), some (.inl (iZ (N))), some (.inl (iZ (k))), x3], [], h) Q) : Ev d 161 (301, [some (.inr (.inr (.inr (11, 0, 83)))), some (.inl (iZ (N))), some (.inl (iZ (k))), x3], [], h) Q := by
  refine Ev.sts 1 (c' := (302, [some (.inr (.inr (.inr (11, 0, 83)))), some (.inl (iZ (N))), some (.inl (iZ (k))), x3], [.inr (.inr (.inr (11, 0, 83)))], h)) rfl ?_
  refine Ev.gv (w := (iZ ((al : Int)))) rfl ha ?_
  refine Ev.sts 1 (c' := (307, [some (.inr (.inr (.inr (11, 0, 83)))), some (.inl (iZ (N))), some (.inl (iZ (k))), x3], [.inl (iZ (6)), .inl (iZ ((al : Int)))], h)) rfl ?_
  refine Ev.brc (p := (iZ (6)) ≤ (iZ ((al : Int)))) (q := ((6 : Int)) ≤ (al : Int)) (c1 := (673, [some (.inr (.inr (.inr (11, 0, 83)))), some (.inl (iZ (N))), some (.inl (iZ (k))), x3], [], h)) (c2 := (310, [some (.inr (.inr (.inr (11, 0, 83)))), some (.inl (iZ (N))), some (.inl (iZ (k))), x3], [], h)) rfl (iZ_le ⟨by omega, by omega⟩ ⟨by omega, by omega⟩) (fun c0 => ?_) (fun c0 => ?_)
  · exact k0
  · exact k1 (by omega)

theorem wl_673 {d : Nat} {N k : Int} {x3 : Option VV} {h : PH} {Q : Rs → PH → Prop} (k1 : Ev d 161 (174, [some (.inr (.inr (.inr (11, 0, 83)))), some (.inl (iZ (N))), some (.inl (iZ (k + 1))), x3], [], h) Q) : Ev d 161 (673, [some (.inr (.inr (.inr (11, 0, 83)))), some (.inl (iZ (N))), some (.inl (iZ (k))), x3], [], h) Q := by
  refine Ev.stc (c1 := (676, [some (.inr (.inr (.inr (11, 0, 83)))), some (.inl (iZ (N))), some (.inl ((iZ (k)) + (iZ (1)))), x3], [], h)) (c2 := (676, [some (.inr (.inr (.inr (11, 0, 83)))), some (.inl (iZ (N))), some (.inl (iZ (k + 1))), x3], [], h)) rfl (by rw [iZ_add]) ?_
  refine Ev.sts 1 (c' := (174, [some (.inr (.inr (.inr (11, 0, 83)))), some (.inl (iZ (N))), some (.inl (iZ (k + 1))), x3], [], h)) rfl ?_
  exact k1

