/-! The book writes: pieces of its lines put to its text. -/
/-- the book between its tokens: as BKh, whatever its length -/
def BKl (h : PH) (L dr tk ln : Nat) (tp : List Int) : Prop := (h.2.2.1 83 0 = (45, L, 0) ∧ L ≤ 100000) ∧ h.1 83 1 = iZ (dr : Int) ∧ h.1 83 2 = iZ (tk : Int) ∧ h.1 83 3 = iZ (ln : Int) ∧ txR h 87 (hN h) (h.2.2.1 83 4) tp ∧ asT tp ∧ Zr h ∧ 88 ≤ hN h
theorem BL_h {h : PH} {L dr tk ln : Nat} {tp : List Int} (b : BKl h L dr tk ln tp) (hl : tp.length ≤ 6 * tk + 4) : BKh h L dr tk ln tp := ⟨b.1, b.2.1, b.2.2.1, b.2.2.2.1, b.2.2.2.2.1, b.2.2.2.2.2.1, b.2.2.2.2.2.2.1, b.2.2.2.2.2.2.2, hl⟩
theorem BL_of {h : PH} {L dr tk ln : Nat} {tp : List Int} (b : BKh h L dr tk ln tp) : BKl h L dr tk ln tp := ⟨b.1, b.2.1, b.2.2.1, b.2.2.2.1, b.2.2.2.2.1, b.2.2.2.2.2.1, b.2.2.2.2.2.2.1, b.2.2.2.2.2.2.2.1⟩
/-- only the book's text is another -/
def KTx (h h1 : PH) : Prop := FB h h1 ∧ ∀ k, h1.1 83 k = h.1 83 k
theorem BL_put {h g : PH} {L dr tk ln ra : Nat} {tp T : List Int} (b : BKl h L dr tk ln tp) (k : Kp (hN h) nA h g) (t : txR g (hN h - 1) (hN g) (14, 0, ra) (tp ++ T)) (as : asT T) : BKl (setR g 83 4 (14, 0, ra)) L dr tk ln (tp ++ T) ∧ KTx h (setR g 83 4 (14, 0, ra)) ∧ txR (setR g 83 4 (14, 0, ra)) (hN h - 1) (hN g) ((setR g 83 4 (14, 0, ra)).2.2.1 83 4) (tp ++ T) := by
  obtain ⟨b1, b2, b3, b4, b5, b6, b7, b8⟩ := b
  have e := k.2.1 83 (by omega) (fun z => z)
  have n := k.2.2.2
  have k1 : Kp (hN g) (fun a => a = 83) g (setR g 83 4 (14, 0, ra)) := Kp_R (fun _ => rfl)
  have i : ∀ j, (setR g 83 4 (14, 0, ra)).1 83 j = h.1 83 j := fun j => by rw [setR_1, e.1]
  have r4 : (setR g 83 4 (14, 0, ra)).2.2.1 83 4 = (14, 0, ra) := setR_self _ _ _ _
  refine ⟨⟨⟨(setR_ne (by decide)).trans (by rw [e.2]; exact b1.1), b1.2⟩, (i 1).trans b2, (i 2).trans b3, (i 3).trans b4, by rw [r4]; exact txR_Kp (txR_lo t (by omega)) k1 (Nat.le_refl _) (fun a ha => by omega), asT_app b6 as, Kp_Z k1 (Kp_Z k b7), by show 88 ≤ hN g; omega⟩, ⟨⟨Kp_t (Kp_m k (Nat.le_refl _) (fun _ _ z => absurd z (fun y => y))) (Kp_R (fun _ => rfl)), fun j _ _ => i j, fun j j4 => (setR_ne (fun z => j4 z.2)).trans (by rw [e.2])⟩, i⟩, by rw [r4]; exact txR_Kp t k1 (Nat.le_refl _) (fun a ha => by omega)⟩
theorem tw_moon {d L dr tk ln : Nat} {x1 x2 x3 : Option VV} {tp : List Int} {h : PH} {Q : Rs → PH → Prop} (b : BKl h L dr tk ln tp) (hl : tp.length ≤ 1700)  (k : ∀ h1, BKl h1 L dr tk ln (tp ++ ((txC 51))) → KTx h h1 → hN h1 ≤ hN h + 6 → hS h1 ≤ hS h + 5 * (tp.length + ((txC 51)).length) + 30 → txR h1 (hN h - 1) (hN h1) (h1.2.2.1 83 4) (tp ++ ((txC 51))) → Ev (d + 6) 161 (47, [some (.inr (.inr (.inr (11, 0, 83)))), x1, x2, x3], [], h1) Q) : Ev (d + 6) 161 (21, [some (.inr (.inr (.inr (11, 0, 83)))), x1, x2, x3], [], h) Q := by
  have z := b.2.2.2.2.2.2.1
  have h88 := b.2.2.2.2.2.2.2
  have ns := newB_s z
  have ns3 := ns.2.2.1
  have ns4 := ns.2.2.2
  have e51 : (txC 51).length = 5 := by decide +kernel
  refine Ev.sts 2 (c' := (25, [some (.inr (.inr (.inr (11, 0, 83)))), x1, x2, x3], [.inr (.inr (.inr (15, 0, (hN h)))), .inr (.inr (.inr (15, 0, (hN h))))], (grow h 4))) rfl ?_
  refine Ev.callv (a := [.inr (.inr (.inr (15, 0, (hN h))))]) rfl sb_init ?_
  refine Ev.sts 2 (c' := (30, [some (.inr (.inr (.inr (11, 0, 83)))), x1, x2, x3], [.inr (.inr (.inr (11, 0, 83))), .inr (.inr (.inr (15, 0, (hN h)))), .inr (.inr (.inr (11, 0, 83)))], (newB h))) rfl ?_
  refine Ev.gfr (r := (h.2.2.1 83 4)) rfl (show (newB h).2.2.1 83 4 = h.2.2.1 83 4 from setR_ne (by omega)) ?_
  refine Ev.callw (a := [.inr (.inr (.inr (15, 0, (hN h)))), .inr (.inr (.inr ((h.2.2.1 83 4))))]) rfl (sb_append ns.1 (Kp_Z ns.2.1 z) (txR_Kp b.2.2.2.2.1 ns.2.1 (Nat.le_refl _) (fun _ _ y => y)) b.2.2.2.2.2.1 (by omega) (by omega) (by simp only [List.length_append, List.length_cons, List.length_nil]; omega) (fun g1 p1 qb1 s1 k1 u1 n1 m1 => ?_))
  simp only [List.length_append, List.length_cons, List.length_nil] at u1 m1
  refine Ev.sts 1 (c' := (38, [some (.inr (.inr (.inr (11, 0, 83)))), x1, x2, x3], [.inr (.inr (.inr (43, 0, 51))), .inr (.inr (.inr (15, 0, (hN h)))), .inr (.inr (.inr (11, 0, 83)))], g1)) rfl ?_
  refine Ev.callw (a := [.inr (.inr (.inr (15, 0, (hN h)))), .inr (.inr (.inr (43, 0, 51)))]) rfl (sb_append s1 (Kp_Z (Kp_t ns.2.1 k1) z) (txR_Kp (txR_c h 87 (hN h) 51) (Kp_t ns.2.1 k1) (Nat.le_refl _) (fun _ _ y => y)) (txC_as 51) (by omega) (by omega) (by simp only [List.length_append, List.length_cons, List.length_nil]; omega) (fun g2 p2 qb2 s2 k2 u2 n2 m2 => ?_))
  simp only [List.length_append, List.length_cons, List.length_nil] at u2 m2
  refine Ev.callw (a := [.inr (.inr (.inr (15, 0, (hN h))))]) rfl (sb_toString (lo := hN h - 1) s2 (by omega) (Kp_t (Kp_t ns.2.1 k1) k2).2.2.2 (by omega) (fun g ra e0 k0 n0 m0 => ?_))
  have K := (Kp_t (Kp_t (Kp_t ns.2.1 k1) k2) k0)
  have hK := K.2.2.2
  simp only [List.length_append, List.length_cons, List.length_nil] at m0
  refine Ev.sts 1 (c' := (47, [some (.inr (.inr (.inr (11, 0, 83)))), x1, x2, x3], [], (setR g 83 4 (14, 0, ra)))) rfl ?_
  have P := BL_put (T := (txC 51)) b K (by simpa only [List.append_assoc, List.nil_append] using e0) (txC_as 51)
  have lT : ((txC 51)).length = 5 := by (try simp only [List.length_append, List.length_cons, List.length_nil]); omega
  exact k _ P.1 P.2.1 (by show hN g ≤ _; omega) (by show hS g ≤ _; omega) P.2.2

theorem tw_semi {d L dr tk ln : Nat} {x1 x2 x3 : Option VV} {tp : List Int} {h : PH} {Q : Rs → PH → Prop} (b : BKl h L dr tk ln tp) (hl : tp.length ≤ 1700)  (k : ∀ h1, BKl h1 L dr tk ln (tp ++ ((txC 53))) → KTx h h1 → hN h1 ≤ hN h + 6 → hS h1 ≤ hS h + 5 * (tp.length + ((txC 53)).length) + 30 → txR h1 (hN h - 1) (hN h1) (h1.2.2.1 83 4) (tp ++ ((txC 53))) → Ev (d + 6) 161 (163, [some (.inr (.inr (.inr (11, 0, 83)))), x1, x2, x3], [], h1) Q) : Ev (d + 6) 161 (137, [some (.inr (.inr (.inr (11, 0, 83)))), x1, x2, x3], [], h) Q := by
  have z := b.2.2.2.2.2.2.1
  have h88 := b.2.2.2.2.2.2.2
  have ns := newB_s z
  have ns3 := ns.2.2.1
  have ns4 := ns.2.2.2
  have e53 : (txC 53).length = 2 := by decide +kernel
  refine Ev.sts 2 (c' := (141, [some (.inr (.inr (.inr (11, 0, 83)))), x1, x2, x3], [.inr (.inr (.inr (15, 0, (hN h)))), .inr (.inr (.inr (15, 0, (hN h))))], (grow h 4))) rfl ?_
  refine Ev.callv (a := [.inr (.inr (.inr (15, 0, (hN h))))]) rfl sb_init ?_
  refine Ev.sts 2 (c' := (146, [some (.inr (.inr (.inr (11, 0, 83)))), x1, x2, x3], [.inr (.inr (.inr (11, 0, 83))), .inr (.inr (.inr (15, 0, (hN h)))), .inr (.inr (.inr (11, 0, 83)))], (newB h))) rfl ?_
  refine Ev.gfr (r := (h.2.2.1 83 4)) rfl (show (newB h).2.2.1 83 4 = h.2.2.1 83 4 from setR_ne (by omega)) ?_
  refine Ev.callw (a := [.inr (.inr (.inr (15, 0, (hN h)))), .inr (.inr (.inr ((h.2.2.1 83 4))))]) rfl (sb_append ns.1 (Kp_Z ns.2.1 z) (txR_Kp b.2.2.2.2.1 ns.2.1 (Nat.le_refl _) (fun _ _ y => y)) b.2.2.2.2.2.1 (by omega) (by omega) (by simp only [List.length_append, List.length_cons, List.length_nil]; omega) (fun g1 p1 qb1 s1 k1 u1 n1 m1 => ?_))
  simp only [List.length_append, List.length_cons, List.length_nil] at u1 m1
  refine Ev.sts 1 (c' := (154, [some (.inr (.inr (.inr (11, 0, 83)))), x1, x2, x3], [.inr (.inr (.inr (43, 0, 53))), .inr (.inr (.inr (15, 0, (hN h)))), .inr (.inr (.inr (11, 0, 83)))], g1)) rfl ?_
  refine Ev.callw (a := [.inr (.inr (.inr (15, 0, (hN h)))), .inr (.inr (.inr (43, 0, 53)))]) rfl (sb_append s1 (Kp_Z (Kp_t ns.2.1 k1) z) (txR_Kp (txR_c h 87 (hN h) 53) (Kp_t ns.2.1 k1) (Nat.le_refl _) (fun _ _ y => y)) (txC_as 53) (by omega) (by omega) (by simp only [List.length_append, List.length_cons, List.length_nil]; omega) (fun g2 p2 qb2 s2 k2 u2 n2 m2 => ?_))
  simp only [List.length_append, List.length_cons, List.length_nil] at u2 m2
  refine Ev.callw (a := [.inr (.inr (.inr (15, 0, (hN h))))]) rfl (sb_toString (lo := hN h - 1) s2 (by omega) (Kp_t (Kp_t ns.2.1 k1) k2).2.2.2 (by omega) (fun g ra e0 k0 n0 m0 => ?_))
  have K := (Kp_t (Kp_t (Kp_t ns.2.1 k1) k2) k0)
  have hK := K.2.2.2
  simp only [List.length_append, List.length_cons, List.length_nil] at m0
  refine Ev.sts 1 (c' := (163, [some (.inr (.inr (.inr (11, 0, 83)))), x1, x2, x3], [], (setR g 83 4 (14, 0, ra)))) rfl ?_
  have P := BL_put (T := (txC 53)) b K (by simpa only [List.append_assoc, List.nil_append] using e0) (txC_as 53)
  have lT : ((txC 53)).length = 2 := by (try simp only [List.length_append, List.length_cons, List.length_nil]); omega
  exact k _ P.1 P.2.1 (by show hN g ≤ _; omega) (by show hS g ≤ _; omega) P.2.2

theorem tw_end {d L dr tk ln : Nat} {x1 x2 x3 : Option VV} {tp : List Int} {h : PH} {Q : Rs → PH → Prop} (b : BKl h L dr tk ln tp) (hl : tp.length ≤ 1700)  (k : ∀ h1, BKl h1 L dr tk ln (tp ++ ((txC 53))) → KTx h h1 → hN h1 ≤ hN h + 6 → hS h1 ≤ hS h + 5 * (tp.length + ((txC 53)).length) + 30 → txR h1 (hN h - 1) (hN h1) (h1.2.2.1 83 4) (tp ++ ((txC 53))) → Ev (d + 6) 161 (673, [some (.inr (.inr (.inr (11, 0, 83)))), x1, x2, x3], [], h1) Q) : Ev (d + 6) 161 (647, [some (.inr (.inr (.inr (11, 0, 83)))), x1, x2, x3], [], h) Q := by
  have z := b.2.2.2.2.2.2.1
  have h88 := b.2.2.2.2.2.2.2
  have ns := newB_s z
  have ns3 := ns.2.2.1
  have ns4 := ns.2.2.2
  have e53 : (txC 53).length = 2 := by decide +kernel
  refine Ev.sts 2 (c' := (651, [some (.inr (.inr (.inr (11, 0, 83)))), x1, x2, x3], [.inr (.inr (.inr (15, 0, (hN h)))), .inr (.inr (.inr (15, 0, (hN h))))], (grow h 4))) rfl ?_
  refine Ev.callv (a := [.inr (.inr (.inr (15, 0, (hN h))))]) rfl sb_init ?_
  refine Ev.sts 2 (c' := (656, [some (.inr (.inr (.inr (11, 0, 83)))), x1, x2, x3], [.inr (.inr (.inr (11, 0, 83))), .inr (.inr (.inr (15, 0, (hN h)))), .inr (.inr (.inr (11, 0, 83)))], (newB h))) rfl ?_
  refine Ev.gfr (r := (h.2.2.1 83 4)) rfl (show (newB h).2.2.1 83 4 = h.2.2.1 83 4 from setR_ne (by omega)) ?_
  refine Ev.callw (a := [.inr (.inr (.inr (15, 0, (hN h)))), .inr (.inr (.inr ((h.2.2.1 83 4))))]) rfl (sb_append ns.1 (Kp_Z ns.2.1 z) (txR_Kp b.2.2.2.2.1 ns.2.1 (Nat.le_refl _) (fun _ _ y => y)) b.2.2.2.2.2.1 (by omega) (by omega) (by simp only [List.length_append, List.length_cons, List.length_nil]; omega) (fun g1 p1 qb1 s1 k1 u1 n1 m1 => ?_))
  simp only [List.length_append, List.length_cons, List.length_nil] at u1 m1
  refine Ev.sts 1 (c' := (664, [some (.inr (.inr (.inr (11, 0, 83)))), x1, x2, x3], [.inr (.inr (.inr (43, 0, 53))), .inr (.inr (.inr (15, 0, (hN h)))), .inr (.inr (.inr (11, 0, 83)))], g1)) rfl ?_
  refine Ev.callw (a := [.inr (.inr (.inr (15, 0, (hN h)))), .inr (.inr (.inr (43, 0, 53)))]) rfl (sb_append s1 (Kp_Z (Kp_t ns.2.1 k1) z) (txR_Kp (txR_c h 87 (hN h) 53) (Kp_t ns.2.1 k1) (Nat.le_refl _) (fun _ _ y => y)) (txC_as 53) (by omega) (by omega) (by simp only [List.length_append, List.length_cons, List.length_nil]; omega) (fun g2 p2 qb2 s2 k2 u2 n2 m2 => ?_))
  simp only [List.length_append, List.length_cons, List.length_nil] at u2 m2
  refine Ev.callw (a := [.inr (.inr (.inr (15, 0, (hN h))))]) rfl (sb_toString (lo := hN h - 1) s2 (by omega) (Kp_t (Kp_t ns.2.1 k1) k2).2.2.2 (by omega) (fun g ra e0 k0 n0 m0 => ?_))
  have K := (Kp_t (Kp_t (Kp_t ns.2.1 k1) k2) k0)
  have hK := K.2.2.2
  simp only [List.length_append, List.length_cons, List.length_nil] at m0
  refine Ev.sts 1 (c' := (673, [some (.inr (.inr (.inr (11, 0, 83)))), x1, x2, x3], [], (setR g 83 4 (14, 0, ra)))) rfl ?_
  have P := BL_put (T := (txC 53)) b K (by simpa only [List.append_assoc, List.nil_append] using e0) (txC_as 53)
  have lT : ((txC 53)).length = 2 := by (try simp only [List.length_append, List.length_cons, List.length_nil]); omega
  exact k _ P.1 P.2.1 (by show hN g ≤ _; omega) (by show hS g ≤ _; omega) P.2.2

theorem tw_flock {d L dr tk ln : Nat} {x1 x2 x3 : Option VV} {mn : Nat} {tp : List Int} {h : PH} {Q : Rs → PH → Prop} (b : BKl h L dr tk ln tp) (hl : tp.length ≤ 1700) (hm : h.1 83 7 = iZ (mn : Int)) (hm8 : mn ≤ 8) (k : ∀ h1, BKl h1 L dr tk ln (tp ++ ((txC 54) ++ (([97 + (mn : Int)]) ++ ((txC 55))))) → KTx h h1 → hN h1 ≤ hN h + 8 → hS h1 ≤ hS h + 9 * (tp.length + ((txC 54) ++ (([97 + (mn : Int)]) ++ ((txC 55)))).length) + 34 → txR h1 (hN h - 1) (hN h1) (h1.2.2.1 83 4) (tp ++ ((txC 54) ++ (([97 + (mn : Int)]) ++ ((txC 55))))) → Ev (d + 6) 161 (274, [some (.inr (.inr (.inr (11, 0, 83)))), x1, x2, x3], [], h1) Q) : Ev (d + 6) 161 (232, [some (.inr (.inr (.inr (11, 0, 83)))), x1, x2, x3], [], h) Q := by
  have z := b.2.2.2.2.2.2.1
  have h88 := b.2.2.2.2.2.2.2
  have ns := newB_s z
  have ns3 := ns.2.2.1
  have ns4 := ns.2.2.2
  have e54 : (txC 54).length = 7 := by decide +kernel
  have e55 : (txC 55).length = 7 := by decide +kernel
  refine Ev.sts 2 (c' := (236, [some (.inr (.inr (.inr (11, 0, 83)))), x1, x2, x3], [.inr (.inr (.inr (15, 0, (hN h)))), .inr (.inr (.inr (15, 0, (hN h))))], (grow h 4))) rfl ?_
  refine Ev.callv (a := [.inr (.inr (.inr (15, 0, (hN h))))]) rfl sb_init ?_
  refine Ev.sts 2 (c' := (241, [some (.inr (.inr (.inr (11, 0, 83)))), x1, x2, x3], [.inr (.inr (.inr (11, 0, 83))), .inr (.inr (.inr (15, 0, (hN h)))), .inr (.inr (.inr (11, 0, 83)))], (newB h))) rfl ?_
  refine Ev.gfr (r := (h.2.2.1 83 4)) rfl (show (newB h).2.2.1 83 4 = h.2.2.1 83 4 from setR_ne (by omega)) ?_
  refine Ev.callw (a := [.inr (.inr (.inr (15, 0, (hN h)))), .inr (.inr (.inr ((h.2.2.1 83 4))))]) rfl (sb_append ns.1 (Kp_Z ns.2.1 z) (txR_Kp b.2.2.2.2.1 ns.2.1 (Nat.le_refl _) (fun _ _ y => y)) b.2.2.2.2.2.1 (by omega) (by omega) (by simp only [List.length_append, List.length_cons, List.length_nil]; omega) (fun g1 p1 qb1 s1 k1 u1 n1 m1 => ?_))
  simp only [List.length_append, List.length_cons, List.length_nil] at u1 m1
  refine Ev.sts 1 (c' := (249, [some (.inr (.inr (.inr (11, 0, 83)))), x1, x2, x3], [.inr (.inr (.inr (43, 0, 54))), .inr (.inr (.inr (15, 0, (hN h)))), .inr (.inr (.inr (11, 0, 83)))], g1)) rfl ?_
  refine Ev.callw (a := [.inr (.inr (.inr (15, 0, (hN h)))), .inr (.inr (.inr (43, 0, 54)))]) rfl (sb_append s1 (Kp_Z (Kp_t ns.2.1 k1) z) (txR_Kp (txR_c h 87 (hN h) 54) (Kp_t ns.2.1 k1) (Nat.le_refl _) (fun _ _ y => y)) (txC_as 54) (by omega) (by omega) (by simp only [List.length_append, List.length_cons, List.length_nil]; omega) (fun g2 p2 qb2 s2 k2 u2 n2 m2 => ?_))
  simp only [List.length_append, List.length_cons, List.length_nil] at u2 m2
  refine Ev.sts 2 (c' := (255, [some (.inr (.inr (.inr (11, 0, 83)))), x1, x2, x3], [.inr (.inr (.inr (11, 0, 83))), .inl (iZ (97)), .inr (.inr (.inr (15, 0, (hN h)))), .inr (.inr (.inr (11, 0, 83)))], g2)) rfl ?_
  refine Ev.gv (w := (iZ ((mn : Int)))) rfl ((congrFun ((Kp_t (Kp_t ns.2.1 k1) k2).2.1 83 (by omega) (fun y => y)).1 7).trans hm) ?_
  refine Ev.gv (w := (iZ (97 + ((mn : Int))))) rfl (iZ_add _ _) ?_
  refine Ev.gv (w := (iZ (97 + ((mn : Int))))) rfl (i2c_s ⟨by omega, by omega⟩) ?_
  refine Ev.callw (a := [.inr (.inr (.inr (15, 0, (hN h)))), .inl (iZ (97 + ((mn : Int))))]) rfl (sb_appendC s2 (Kp_Z (Kp_t (Kp_t ns.2.1 k1) k2) z) ⟨by omega, by omega⟩ (by omega) (by simp only [List.length_append, List.length_cons, List.length_nil]; omega) (fun g3 p3 qb3 s3 k3 u3 n3 m3 => ?_))
  simp only [List.length_append, List.length_cons, List.length_nil] at u3 m3
  refine Ev.sts 1 (c' := (265, [some (.inr (.inr (.inr (11, 0, 83)))), x1, x2, x3], [.inr (.inr (.inr (43, 0, 55))), .inr (.inr (.inr (15, 0, (hN h)))), .inr (.inr (.inr (11, 0, 83)))], g3)) rfl ?_
  refine Ev.callw (a := [.inr (.inr (.inr (15, 0, (hN h)))), .inr (.inr (.inr (43, 0, 55)))]) rfl (sb_append s3 (Kp_Z (Kp_t (Kp_t (Kp_t ns.2.1 k1) k2) k3) z) (txR_Kp (txR_c h 87 (hN h) 55) (Kp_t (Kp_t (Kp_t ns.2.1 k1) k2) k3) (Nat.le_refl _) (fun _ _ y => y)) (txC_as 55) (by omega) (by omega) (by simp only [List.length_append, List.length_cons, List.length_nil]; omega) (fun g4 p4 qb4 s4 k4 u4 n4 m4 => ?_))
  simp only [List.length_append, List.length_cons, List.length_nil] at u4 m4
  refine Ev.callw (a := [.inr (.inr (.inr (15, 0, (hN h))))]) rfl (sb_toString (lo := hN h - 1) s4 (by omega) (Kp_t (Kp_t (Kp_t (Kp_t ns.2.1 k1) k2) k3) k4).2.2.2 (by omega) (fun g ra e0 k0 n0 m0 => ?_))
  have K := (Kp_t (Kp_t (Kp_t (Kp_t (Kp_t ns.2.1 k1) k2) k3) k4) k0)
  have hK := K.2.2.2
  simp only [List.length_append, List.length_cons, List.length_nil] at m0
  refine Ev.sts 1 (c' := (274, [some (.inr (.inr (.inr (11, 0, 83)))), x1, x2, x3], [], (setR g 83 4 (14, 0, ra)))) rfl ?_
  have P := BL_put (T := (txC 54) ++ (([97 + (mn : Int)]) ++ ((txC 55)))) b K (by simpa only [List.append_assoc, List.nil_append] using e0) (asT_app (txC_as 54) (asT_app (fun x hx => by rw [List.mem_singleton.mp hx]; omega) (txC_as 55)))
  have lT : ((txC 54) ++ (([97 + (mn : Int)]) ++ ((txC 55)))).length = 7 + 1 + 7 := by (try simp only [List.length_append, List.length_cons, List.length_nil]); omega
  exact k _ P.1 P.2.1 (by show hN g ≤ _; omega) (by show hS g ≤ _; omega) P.2.2

theorem tw_goose {d L dr tk ln : Nat} {x1 x2 : Option VV} {ga : Nat} {al : Nat} {w0 : Int} {tp : List Int} {h : PH} {Q : Rs → PH → Prop} (b : BKl h L dr tk ln tp) (hl : tp.length ≤ 1700) (hga : ga < hN h) (ha : h.1 83 10 = iZ (al : Int)) (ha6 : al ≤ 6) (hr0 : h.1 ga 0 = iZ w0) (hw0 : 0 ≤ w0 ∧ w0 < 8) (k : ∀ h1, BKl h1 L dr tk ln (tp ++ ((txC 56) ++ (([97 + (al : Int)]) ++ ((txC 57) ++ (([97 + w0])))))) → KTx h h1 → hN h1 ≤ hN h + 9 → hS h1 ≤ hS h + 11 * (tp.length + ((txC 56) ++ (([97 + (al : Int)]) ++ ((txC 57) ++ (([97 + w0]))))).length) + 36 → txR h1 (hN h - 1) (hN h1) (h1.2.2.1 83 4) (tp ++ ((txC 56) ++ (([97 + (al : Int)]) ++ ((txC 57) ++ (([97 + w0])))))) → Ev (d + 6) 161 (414, [some (.inr (.inr (.inr (11, 0, 83)))), x1, x2, some (.inr (.inr (.inr (20, 4, ga))))], [], h1) Q) : Ev (d + 6) 161 (362, [some (.inr (.inr (.inr (11, 0, 83)))), x1, x2, some (.inr (.inr (.inr (20, 4, ga))))], [], h) Q := by
  have z := b.2.2.2.2.2.2.1
  have h88 := b.2.2.2.2.2.2.2
  have ns := newB_s z
  have ns3 := ns.2.2.1
  have ns4 := ns.2.2.2
  have e56 : (txC 56).length = 7 := by decide +kernel
  have e57 : (txC 57).length = 5 := by decide +kernel
  refine Ev.sts 2 (c' := (366, [some (.inr (.inr (.inr (11, 0, 83)))), x1, x2, some (.inr (.inr (.inr (20, 4, ga))))], [.inr (.inr (.inr (15, 0, (hN h)))), .inr (.inr (.inr (15, 0, (hN h))))], (grow h 4))) rfl ?_
  refine Ev.callv (a := [.inr (.inr (.inr (15, 0, (hN h))))]) rfl sb_init ?_
  refine Ev.sts 2 (c' := (371, [some (.inr (.inr (.inr (11, 0, 83)))), x1, x2, some (.inr (.inr (.inr (20, 4, ga))))], [.inr (.inr (.inr (11, 0, 83))), .inr (.inr (.inr (15, 0, (hN h)))), .inr (.inr (.inr (11, 0, 83)))], (newB h))) rfl ?_
  refine Ev.gfr (r := (h.2.2.1 83 4)) rfl (show (newB h).2.2.1 83 4 = h.2.2.1 83 4 from setR_ne (by omega)) ?_
  refine Ev.callw (a := [.inr (.inr (.inr (15, 0, (hN h)))), .inr (.inr (.inr ((h.2.2.1 83 4))))]) rfl (sb_append ns.1 (Kp_Z ns.2.1 z) (txR_Kp b.2.2.2.2.1 ns.2.1 (Nat.le_refl _) (fun _ _ y => y)) b.2.2.2.2.2.1 (by omega) (by omega) (by simp only [List.length_append, List.length_cons, List.length_nil]; omega) (fun g1 p1 qb1 s1 k1 u1 n1 m1 => ?_))
  simp only [List.length_append, List.length_cons, List.length_nil] at u1 m1
  refine Ev.sts 1 (c' := (379, [some (.inr (.inr (.inr (11, 0, 83)))), x1, x2, some (.inr (.inr (.inr (20, 4, ga))))], [.inr (.inr (.inr (43, 0, 56))), .inr (.inr (.inr (15, 0, (hN h)))), .inr (.inr (.inr (11, 0, 83)))], g1)) rfl ?_
  refine Ev.callw (a := [.inr (.inr (.inr (15, 0, (hN h)))), .inr (.inr (.inr (43, 0, 56)))]) rfl (sb_append s1 (Kp_Z (Kp_t ns.2.1 k1) z) (txR_Kp (txR_c h 87 (hN h) 56) (Kp_t ns.2.1 k1) (Nat.le_refl _) (fun _ _ y => y)) (txC_as 56) (by omega) (by omega) (by simp only [List.length_append, List.length_cons, List.length_nil]; omega) (fun g2 p2 qb2 s2 k2 u2 n2 m2 => ?_))
  simp only [List.length_append, List.length_cons, List.length_nil] at u2 m2
  refine Ev.sts 2 (c' := (385, [some (.inr (.inr (.inr (11, 0, 83)))), x1, x2, some (.inr (.inr (.inr (20, 4, ga))))], [.inr (.inr (.inr (11, 0, 83))), .inl (iZ (97)), .inr (.inr (.inr (15, 0, (hN h)))), .inr (.inr (.inr (11, 0, 83)))], g2)) rfl ?_
  refine Ev.gv (w := (iZ ((al : Int)))) rfl ((congrFun ((Kp_t (Kp_t ns.2.1 k1) k2).2.1 83 (by omega) (fun y => y)).1 10).trans ha) ?_
  refine Ev.gv (w := (iZ (97 + ((al : Int))))) rfl (iZ_add _ _) ?_
  refine Ev.gv (w := (iZ (97 + ((al : Int))))) rfl (i2c_s ⟨by omega, by omega⟩) ?_
  refine Ev.callw (a := [.inr (.inr (.inr (15, 0, (hN h)))), .inl (iZ (97 + ((al : Int))))]) rfl (sb_appendC s2 (Kp_Z (Kp_t (Kp_t ns.2.1 k1) k2) z) ⟨by omega, by omega⟩ (by omega) (by simp only [List.length_append, List.length_cons, List.length_nil]; omega) (fun g3 p3 qb3 s3 k3 u3 n3 m3 => ?_))
  simp only [List.length_append, List.length_cons, List.length_nil] at u3 m3
  refine Ev.sts 1 (c' := (395, [some (.inr (.inr (.inr (11, 0, 83)))), x1, x2, some (.inr (.inr (.inr (20, 4, ga))))], [.inr (.inr (.inr (43, 0, 57))), .inr (.inr (.inr (15, 0, (hN h)))), .inr (.inr (.inr (11, 0, 83)))], g3)) rfl ?_
  refine Ev.callw (a := [.inr (.inr (.inr (15, 0, (hN h)))), .inr (.inr (.inr (43, 0, 57)))]) rfl (sb_append s3 (Kp_Z (Kp_t (Kp_t (Kp_t ns.2.1 k1) k2) k3) z) (txR_Kp (txR_c h 87 (hN h) 57) (Kp_t (Kp_t (Kp_t ns.2.1 k1) k2) k3) (Nat.le_refl _) (fun _ _ y => y)) (txC_as 57) (by omega) (by omega) (by simp only [List.length_append, List.length_cons, List.length_nil]; omega) (fun g4 p4 qb4 s4 k4 u4 n4 m4 => ?_))
  simp only [List.length_append, List.length_cons, List.length_nil] at u4 m4
  refine Ev.sts 3 (c' := (402, [some (.inr (.inr (.inr (11, 0, 83)))), x1, x2, some (.inr (.inr (.inr (20, 4, ga))))], [.inl (iZ (0)), .inr (.inr (.inr (20, 4, ga))), .inl (iZ (97)), .inr (.inr (.inr (15, 0, (hN h)))), .inr (.inr (.inr (11, 0, 83)))], g4)) rfl ?_
  refine Ev.ldv (j := (iZ (0))) (n := 4) (w := .inl (iZ (w0))) (by decide) rfl (congrArg vI ((congrFun ((Kp_t (Kp_t (Kp_t (Kp_t ns.2.1 k1) k2) k3) k4).2.1 ga (by omega) (fun y => y)).1 0).trans hr0)) ?_
  refine Ev.gv (w := (iZ (97 + w0))) rfl (iZ_add _ _) ?_
  refine Ev.gv (w := (iZ (97 + w0))) rfl (i2c_s ⟨by omega, by omega⟩) ?_
  refine Ev.callw (a := [.inr (.inr (.inr (15, 0, (hN h)))), .inl (iZ (97 + w0))]) rfl (sb_appendC s4 (Kp_Z (Kp_t (Kp_t (Kp_t (Kp_t ns.2.1 k1) k2) k3) k4) z) ⟨by omega, by omega⟩ (by omega) (by simp only [List.length_append, List.length_cons, List.length_nil]; omega) (fun g5 p5 qb5 s5 k5 u5 n5 m5 => ?_))
  simp only [List.length_append, List.length_cons, List.length_nil] at u5 m5
  refine Ev.callw (a := [.inr (.inr (.inr (15, 0, (hN h))))]) rfl (sb_toString (lo := hN h - 1) s5 (by omega) (Kp_t (Kp_t (Kp_t (Kp_t (Kp_t ns.2.1 k1) k2) k3) k4) k5).2.2.2 (by omega) (fun g ra e0 k0 n0 m0 => ?_))
  have K := (Kp_t (Kp_t (Kp_t (Kp_t (Kp_t (Kp_t ns.2.1 k1) k2) k3) k4) k5) k0)
  have hK := K.2.2.2
  simp only [List.length_append, List.length_cons, List.length_nil] at m0
  refine Ev.sts 1 (c' := (414, [some (.inr (.inr (.inr (11, 0, 83)))), x1, x2, some (.inr (.inr (.inr (20, 4, ga))))], [], (setR g 83 4 (14, 0, ra)))) rfl ?_
  have P := BL_put (T := (txC 56) ++ (([97 + (al : Int)]) ++ ((txC 57) ++ (([97 + w0]))))) b K (by simpa only [List.append_assoc, List.nil_append] using e0) (asT_app (txC_as 56) (asT_app (fun x hx => by rw [List.mem_singleton.mp hx]; omega) (asT_app (txC_as 57) (fun x hx => by rw [List.mem_singleton.mp hx]; omega))))
  have lT : ((txC 56) ++ (([97 + (al : Int)]) ++ ((txC 57) ++ (([97 + w0]))))).length = 7 + 1 + 5 + 1 := by (try simp only [List.length_append, List.length_cons, List.length_nil]); omega
  exact k _ P.1 P.2.1 (by show hN g ≤ _; omega) (by show hS g ≤ _; omega) P.2.2

theorem tw_gap {d L dr tk ln : Nat} {x1 x2 : Option VV} {ga : Nat} {w1 : Int} {tp : List Int} {h : PH} {Q : Rs → PH → Prop} (b : BKl h L dr tk ln tp) (hl : tp.length ≤ 1700) (hga : ga < hN h) (hr1 : h.1 ga 1 = iZ w1) (hn : 0 ≤ w1 ∧ w1 ≤ 999) (k : ∀ h1, BKl h1 L dr tk ln (tp ++ ((txC 58) ++ ((digs w1)))) → KTx h h1 → hN h1 ≤ hN h + 7 → hS h1 ≤ hS h + 7 * (tp.length + ((txC 58) ++ ((digs w1))).length) + 32 → txR h1 (hN h - 1) (hN h1) (h1.2.2.1 83 4) (tp ++ ((txC 58) ++ ((digs w1)))) → Ev (d + 6) 161 (571, [some (.inr (.inr (.inr (11, 0, 83)))), x1, x2, some (.inr (.inr (.inr (20, 4, ga))))], [], h1) Q) : Ev (d + 6) 161 (422, [some (.inr (.inr (.inr (11, 0, 83)))), x1, x2, some (.inr (.inr (.inr (20, 4, ga))))], [], h) Q := by
  have z := b.2.2.2.2.2.2.1
  have h88 := b.2.2.2.2.2.2.2
  have ns := newB_s z
  have ns3 := ns.2.2.1
  have ns4 := ns.2.2.2
  have e58 : (txC 58).length = 5 := by decide +kernel
  have dl := digs_len (n := w1)
  refine Ev.sts 2 (c' := (426, [some (.inr (.inr (.inr (11, 0, 83)))), x1, x2, some (.inr (.inr (.inr (20, 4, ga))))], [.inr (.inr (.inr (15, 0, (hN h)))), .inr (.inr (.inr (15, 0, (hN h))))], (grow h 4))) rfl ?_
  refine Ev.callv (a := [.inr (.inr (.inr (15, 0, (hN h))))]) rfl sb_init ?_
  refine Ev.sts 2 (c' := (431, [some (.inr (.inr (.inr (11, 0, 83)))), x1, x2, some (.inr (.inr (.inr (20, 4, ga))))], [.inr (.inr (.inr (11, 0, 83))), .inr (.inr (.inr (15, 0, (hN h)))), .inr (.inr (.inr (11, 0, 83)))], (newB h))) rfl ?_
  refine Ev.gfr (r := (h.2.2.1 83 4)) rfl (show (newB h).2.2.1 83 4 = h.2.2.1 83 4 from setR_ne (by omega)) ?_
  refine Ev.callw (a := [.inr (.inr (.inr (15, 0, (hN h)))), .inr (.inr (.inr ((h.2.2.1 83 4))))]) rfl (sb_append ns.1 (Kp_Z ns.2.1 z) (txR_Kp b.2.2.2.2.1 ns.2.1 (Nat.le_refl _) (fun _ _ y => y)) b.2.2.2.2.2.1 (by omega) (by omega) (by simp only [List.length_append, List.length_cons, List.length_nil]; omega) (fun g1 p1 qb1 s1 k1 u1 n1 m1 => ?_))
  simp only [List.length_append, List.length_cons, List.length_nil] at u1 m1
  refine Ev.sts 1 (c' := (439, [some (.inr (.inr (.inr (11, 0, 83)))), x1, x2, some (.inr (.inr (.inr (20, 4, ga))))], [.inr (.inr (.inr (43, 0, 58))), .inr (.inr (.inr (15, 0, (hN h)))), .inr (.inr (.inr (11, 0, 83)))], g1)) rfl ?_
  refine Ev.callw (a := [.inr (.inr (.inr (15, 0, (hN h)))), .inr (.inr (.inr (43, 0, 58)))]) rfl (sb_append s1 (Kp_Z (Kp_t ns.2.1 k1) z) (txR_Kp (txR_c h 87 (hN h) 58) (Kp_t ns.2.1 k1) (Nat.le_refl _) (fun _ _ y => y)) (txC_as 58) (by omega) (by omega) (by simp only [List.length_append, List.length_cons, List.length_nil]; omega) (fun g2 p2 qb2 s2 k2 u2 n2 m2 => ?_))
  simp only [List.length_append, List.length_cons, List.length_nil] at u2 m2
  refine Ev.sts 2 (c' := (444, [some (.inr (.inr (.inr (11, 0, 83)))), x1, x2, some (.inr (.inr (.inr (20, 4, ga))))], [.inl (iZ (1)), .inr (.inr (.inr (20, 4, ga))), .inr (.inr (.inr (15, 0, (hN h)))), .inr (.inr (.inr (11, 0, 83)))], g2)) rfl ?_
  refine Ev.ldv (j := (iZ (1))) (n := 4) (w := .inl (iZ (w1))) (by decide) rfl (congrArg vI ((congrFun ((Kp_t (Kp_t ns.2.1 k1) k2).2.1 ga (by omega) (fun y => y)).1 1).trans hr1)) ?_
  refine Ev.callw (a := [.inr (.inr (.inr (15, 0, (hN h)))), .inl (iZ (w1))]) rfl (sb_appendI s2 (Kp_Z (Kp_t (Kp_t ns.2.1 k1) k2) z) hn (by omega) (by simp only [List.length_append, List.length_cons, List.length_nil]; omega) (fun g3 p3 qb3 s3 k3 u3 n3 m3 => ?_))
  simp only [List.length_append, List.length_cons, List.length_nil] at u3 m3
  refine Ev.callw (a := [.inr (.inr (.inr (15, 0, (hN h))))]) rfl (sb_toString (lo := hN h - 1) s3 (by omega) (Kp_t (Kp_t (Kp_t ns.2.1 k1) k2) k3).2.2.2 (by omega) (fun g ra e0 k0 n0 m0 => ?_))
  have K := (Kp_t (Kp_t (Kp_t (Kp_t ns.2.1 k1) k2) k3) k0)
  have hK := K.2.2.2
  simp only [List.length_append, List.length_cons, List.length_nil] at m0
  refine Ev.sts 2 (c' := (571, [some (.inr (.inr (.inr (11, 0, 83)))), x1, x2, some (.inr (.inr (.inr (20, 4, ga))))], [], (setR g 83 4 (14, 0, ra)))) rfl ?_
  have P := BL_put (T := (txC 58) ++ ((digs w1))) b K (by simpa only [List.append_assoc, List.nil_append] using e0) (asT_app (txC_as 58) (digs_as hn))
  have lT : ((txC 58) ++ ((digs w1))).length = 5 + (digs w1).length := by (try simp only [List.length_append, List.length_cons, List.length_nil]); omega
  exact k _ P.1 P.2.1 (by show hN g ≤ _; omega) (by show hS g ≤ _; omega) P.2.2

theorem tw_every {d L dr tk ln : Nat} {x1 x2 : Option VV} {ga : Nat} {w1 : Int} {tp : List Int} {h : PH} {Q : Rs → PH → Prop} (b : BKl h L dr tk ln tp) (hl : tp.length ≤ 1700) (hga : ga < hN h) (hr1 : h.1 ga 1 = iZ w1) (hn : 0 ≤ w1 ∧ w1 ≤ 999) (k : ∀ h1, BKl h1 L dr tk ln (tp ++ ((txC 59) ++ ((digs w1)))) → KTx h h1 → hN h1 ≤ hN h + 7 → hS h1 ≤ hS h + 7 * (tp.length + ((txC 59) ++ ((digs w1))).length) + 32 → txR h1 (hN h - 1) (hN h1) (h1.2.2.1 83 4) (tp ++ ((txC 59) ++ ((digs w1)))) → Ev (d + 6) 161 (495, [some (.inr (.inr (.inr (11, 0, 83)))), x1, x2, some (.inr (.inr (.inr (20, 4, ga))))], [], h1) Q) : Ev (d + 6) 161 (463, [some (.inr (.inr (.inr (11, 0, 83)))), x1, x2, some (.inr (.inr (.inr (20, 4, ga))))], [], h) Q := by
  have z := b.2.2.2.2.2.2.1
  have h88 := b.2.2.2.2.2.2.2
  have ns := newB_s z
  have ns3 := ns.2.2.1
  have ns4 := ns.2.2.2
  have e59 : (txC 59).length = 7 := by decide +kernel
  have dl := digs_len (n := w1)
  refine Ev.sts 2 (c' := (467, [some (.inr (.inr (.inr (11, 0, 83)))), x1, x2, some (.inr (.inr (.inr (20, 4, ga))))], [.inr (.inr (.inr (15, 0, (hN h)))), .inr (.inr (.inr (15, 0, (hN h))))], (grow h 4))) rfl ?_
  refine Ev.callv (a := [.inr (.inr (.inr (15, 0, (hN h))))]) rfl sb_init ?_
  refine Ev.sts 2 (c' := (472, [some (.inr (.inr (.inr (11, 0, 83)))), x1, x2, some (.inr (.inr (.inr (20, 4, ga))))], [.inr (.inr (.inr (11, 0, 83))), .inr (.inr (.inr (15, 0, (hN h)))), .inr (.inr (.inr (11, 0, 83)))], (newB h))) rfl ?_
  refine Ev.gfr (r := (h.2.2.1 83 4)) rfl (show (newB h).2.2.1 83 4 = h.2.2.1 83 4 from setR_ne (by omega)) ?_
  refine Ev.callw (a := [.inr (.inr (.inr (15, 0, (hN h)))), .inr (.inr (.inr ((h.2.2.1 83 4))))]) rfl (sb_append ns.1 (Kp_Z ns.2.1 z) (txR_Kp b.2.2.2.2.1 ns.2.1 (Nat.le_refl _) (fun _ _ y => y)) b.2.2.2.2.2.1 (by omega) (by omega) (by simp only [List.length_append, List.length_cons, List.length_nil]; omega) (fun g1 p1 qb1 s1 k1 u1 n1 m1 => ?_))
  simp only [List.length_append, List.length_cons, List.length_nil] at u1 m1
  refine Ev.sts 1 (c' := (480, [some (.inr (.inr (.inr (11, 0, 83)))), x1, x2, some (.inr (.inr (.inr (20, 4, ga))))], [.inr (.inr (.inr (43, 0, 59))), .inr (.inr (.inr (15, 0, (hN h)))), .inr (.inr (.inr (11, 0, 83)))], g1)) rfl ?_
  refine Ev.callw (a := [.inr (.inr (.inr (15, 0, (hN h)))), .inr (.inr (.inr (43, 0, 59)))]) rfl (sb_append s1 (Kp_Z (Kp_t ns.2.1 k1) z) (txR_Kp (txR_c h 87 (hN h) 59) (Kp_t ns.2.1 k1) (Nat.le_refl _) (fun _ _ y => y)) (txC_as 59) (by omega) (by omega) (by simp only [List.length_append, List.length_cons, List.length_nil]; omega) (fun g2 p2 qb2 s2 k2 u2 n2 m2 => ?_))
  simp only [List.length_append, List.length_cons, List.length_nil] at u2 m2
  refine Ev.sts 2 (c' := (485, [some (.inr (.inr (.inr (11, 0, 83)))), x1, x2, some (.inr (.inr (.inr (20, 4, ga))))], [.inl (iZ (1)), .inr (.inr (.inr (20, 4, ga))), .inr (.inr (.inr (15, 0, (hN h)))), .inr (.inr (.inr (11, 0, 83)))], g2)) rfl ?_
  refine Ev.ldv (j := (iZ (1))) (n := 4) (w := .inl (iZ (w1))) (by decide) rfl (congrArg vI ((congrFun ((Kp_t (Kp_t ns.2.1 k1) k2).2.1 ga (by omega) (fun y => y)).1 1).trans hr1)) ?_
  refine Ev.callw (a := [.inr (.inr (.inr (15, 0, (hN h)))), .inl (iZ (w1))]) rfl (sb_appendI s2 (Kp_Z (Kp_t (Kp_t ns.2.1 k1) k2) z) hn (by omega) (by simp only [List.length_append, List.length_cons, List.length_nil]; omega) (fun g3 p3 qb3 s3 k3 u3 n3 m3 => ?_))
  simp only [List.length_append, List.length_cons, List.length_nil] at u3 m3
  refine Ev.callw (a := [.inr (.inr (.inr (15, 0, (hN h))))]) rfl (sb_toString (lo := hN h - 1) s3 (by omega) (Kp_t (Kp_t (Kp_t ns.2.1 k1) k2) k3).2.2.2 (by omega) (fun g ra e0 k0 n0 m0 => ?_))
  have K := (Kp_t (Kp_t (Kp_t (Kp_t ns.2.1 k1) k2) k3) k0)
  have hK := K.2.2.2
  simp only [List.length_append, List.length_cons, List.length_nil] at m0
  refine Ev.sts 1 (c' := (495, [some (.inr (.inr (.inr (11, 0, 83)))), x1, x2, some (.inr (.inr (.inr (20, 4, ga))))], [], (setR g 83 4 (14, 0, ra)))) rfl ?_
  have P := BL_put (T := (txC 59) ++ ((digs w1))) b K (by simpa only [List.append_assoc, List.nil_append] using e0) (asT_app (txC_as 59) (digs_as hn))
  have lT : ((txC 59) ++ ((digs w1))).length = 7 + (digs w1).length := by (try simp only [List.length_append, List.length_cons, List.length_nil]); omega
  exact k _ P.1 P.2.1 (by show hN g ≤ _; omega) (by show hS g ≤ _; omega) P.2.2

theorem tw_step {d L dr tk ln : Nat} {x1 x2 : Option VV} {ga : Nat} {w2 : Int} {tp : List Int} {h : PH} {Q : Rs → PH → Prop} (b : BKl h L dr tk ln tp) (hl : tp.length ≤ 1700) (hga : ga < hN h) (hr2 : h.1 ga 2 = iZ w2) (hn : 0 ≤ w2 ∧ w2 ≤ 999) (k : ∀ h1, BKl h1 L dr tk ln (tp ++ ((txC 60) ++ ((digs w2)))) → KTx h h1 → hN h1 ≤ hN h + 7 → hS h1 ≤ hS h + 7 * (tp.length + ((txC 60) ++ ((digs w2))).length) + 32 → txR h1 (hN h - 1) (hN h1) (h1.2.2.1 83 4) (tp ++ ((txC 60) ++ ((digs w2)))) → Ev (d + 6) 161 (571, [some (.inr (.inr (.inr (11, 0, 83)))), x1, x2, some (.inr (.inr (.inr (20, 4, ga))))], [], h1) Q) : Ev (d + 6) 161 (539, [some (.inr (.inr (.inr (11, 0, 83)))), x1, x2, some (.inr (.inr (.inr (20, 4, ga))))], [], h) Q := by
  have z := b.2.2.2.2.2.2.1
  have h88 := b.2.2.2.2.2.2.2
  have ns := newB_s z
  have ns3 := ns.2.2.1
  have ns4 := ns.2.2.2
  have e60 : (txC 60).length = 6 := by decide +kernel
  have dl := digs_len (n := w2)
  refine Ev.sts 2 (c' := (543, [some (.inr (.inr (.inr (11, 0, 83)))), x1, x2, some (.inr (.inr (.inr (20, 4, ga))))], [.inr (.inr (.inr (15, 0, (hN h)))), .inr (.inr (.inr (15, 0, (hN h))))], (grow h 4))) rfl ?_
  refine Ev.callv (a := [.inr (.inr (.inr (15, 0, (hN h))))]) rfl sb_init ?_
  refine Ev.sts 2 (c' := (548, [some (.inr (.inr (.inr (11, 0, 83)))), x1, x2, some (.inr (.inr (.inr (20, 4, ga))))], [.inr (.inr (.inr (11, 0, 83))), .inr (.inr (.inr (15, 0, (hN h)))), .inr (.inr (.inr (11, 0, 83)))], (newB h))) rfl ?_
  refine Ev.gfr (r := (h.2.2.1 83 4)) rfl (show (newB h).2.2.1 83 4 = h.2.2.1 83 4 from setR_ne (by omega)) ?_
  refine Ev.callw (a := [.inr (.inr (.inr (15, 0, (hN h)))), .inr (.inr (.inr ((h.2.2.1 83 4))))]) rfl (sb_append ns.1 (Kp_Z ns.2.1 z) (txR_Kp b.2.2.2.2.1 ns.2.1 (Nat.le_refl _) (fun _ _ y => y)) b.2.2.2.2.2.1 (by omega) (by omega) (by simp only [List.length_append, List.length_cons, List.length_nil]; omega) (fun g1 p1 qb1 s1 k1 u1 n1 m1 => ?_))
  simp only [List.length_append, List.length_cons, List.length_nil] at u1 m1
  refine Ev.sts 1 (c' := (556, [some (.inr (.inr (.inr (11, 0, 83)))), x1, x2, some (.inr (.inr (.inr (20, 4, ga))))], [.inr (.inr (.inr (43, 0, 60))), .inr (.inr (.inr (15, 0, (hN h)))), .inr (.inr (.inr (11, 0, 83)))], g1)) rfl ?_
  refine Ev.callw (a := [.inr (.inr (.inr (15, 0, (hN h)))), .inr (.inr (.inr (43, 0, 60)))]) rfl (sb_append s1 (Kp_Z (Kp_t ns.2.1 k1) z) (txR_Kp (txR_c h 87 (hN h) 60) (Kp_t ns.2.1 k1) (Nat.le_refl _) (fun _ _ y => y)) (txC_as 60) (by omega) (by omega) (by simp only [List.length_append, List.length_cons, List.length_nil]; omega) (fun g2 p2 qb2 s2 k2 u2 n2 m2 => ?_))
  simp only [List.length_append, List.length_cons, List.length_nil] at u2 m2
  refine Ev.sts 2 (c' := (561, [some (.inr (.inr (.inr (11, 0, 83)))), x1, x2, some (.inr (.inr (.inr (20, 4, ga))))], [.inl (iZ (2)), .inr (.inr (.inr (20, 4, ga))), .inr (.inr (.inr (15, 0, (hN h)))), .inr (.inr (.inr (11, 0, 83)))], g2)) rfl ?_
  refine Ev.ldv (j := (iZ (2))) (n := 4) (w := .inl (iZ (w2))) (by decide) rfl (congrArg vI ((congrFun ((Kp_t (Kp_t ns.2.1 k1) k2).2.1 ga (by omega) (fun y => y)).1 2).trans hr2)) ?_
  refine Ev.callw (a := [.inr (.inr (.inr (15, 0, (hN h)))), .inl (iZ (w2))]) rfl (sb_appendI s2 (Kp_Z (Kp_t (Kp_t ns.2.1 k1) k2) z) hn (by omega) (by simp only [List.length_append, List.length_cons, List.length_nil]; omega) (fun g3 p3 qb3 s3 k3 u3 n3 m3 => ?_))
  simp only [List.length_append, List.length_cons, List.length_nil] at u3 m3
  refine Ev.callw (a := [.inr (.inr (.inr (15, 0, (hN h))))]) rfl (sb_toString (lo := hN h - 1) s3 (by omega) (Kp_t (Kp_t (Kp_t ns.2.1 k1) k2) k3).2.2.2 (by omega) (fun g ra e0 k0 n0 m0 => ?_))
  have K := (Kp_t (Kp_t (Kp_t (Kp_t ns.2.1 k1) k2) k3) k0)
  have hK := K.2.2.2
  simp only [List.length_append, List.length_cons, List.length_nil] at m0
  refine Ev.sts 1 (c' := (571, [some (.inr (.inr (.inr (11, 0, 83)))), x1, x2, some (.inr (.inr (.inr (20, 4, ga))))], [], (setR g 83 4 (14, 0, ra)))) rfl ?_
  have P := BL_put (T := (txC 60) ++ ((digs w2))) b K (by simpa only [List.append_assoc, List.nil_append] using e0) (asT_app (txC_as 60) (digs_as hn))
  have lT : ((txC 60) ++ ((digs w2))).length = 6 + (digs w2).length := by (try simp only [List.length_append, List.length_cons, List.length_nil]); omega
  exact k _ P.1 P.2.1 (by show hN g ≤ _; omega) (by show hS g ≤ _; omega) P.2.2

theorem lt_tel {t : Nat} (h : t < 4) : (txC (fid 1 t)).length ≤ 9 := by
  rcases (show t = 0 ∨ t = 1 ∨ t = 2 ∨ t = 3 by omega) with rfl | rfl | rfl | rfl <;> decide +kernel
theorem tw_tells {d L dr tk ln : Nat} {x1 x2 : Option VV} {ga : Nat} {w3 : Int} {tp : List Int} {h : PH} {Q : Rs → PH → Prop} (b : BKl h L dr tk ln tp) (hl : tp.length ≤ 1700) (hga : ga < hN h) (hr3 : h.1 ga 3 = iZ w3) (hw3 : 0 ≤ w3 ∧ w3 < 4) (k : ∀ h1, BKl h1 L dr tk ln (tp ++ ((txC 61) ++ ((txC (fid 1 w3.toNat))))) → KTx h h1 → hN h1 ≤ hN h + 7 → hS h1 ≤ hS h + 7 * (tp.length + ((txC 61) ++ ((txC (fid 1 w3.toNat)))).length) + 32 → txR h1 (hN h - 1) (hN h1) (h1.2.2.1 83 4) (tp ++ ((txC 61) ++ ((txC (fid 1 w3.toNat))))) → Ev (d + 6) 161 (607, [some (.inr (.inr (.inr (11, 0, 83)))), x1, x2, some (.inr (.inr (.inr (20, 4, ga))))], [], h1) Q) : Ev (d + 6) 161 (571, [some (.inr (.inr (.inr (11, 0, 83)))), x1, x2, some (.inr (.inr (.inr (20, 4, ga))))], [], h) Q := by
  have z := b.2.2.2.2.2.2.1
  have h88 := b.2.2.2.2.2.2.2
  have ns := newB_s z
  have ns3 := ns.2.2.1
  have ns4 := ns.2.2.2
  have e61 : (txC 61).length = 7 := by decide +kernel
  have e1 := lt_tel (t := w3.toNat) (by omega)
  refine Ev.sts 2 (c' := (575, [some (.inr (.inr (.inr (11, 0, 83)))), x1, x2, some (.inr (.inr (.inr (20, 4, ga))))], [.inr (.inr (.inr (15, 0, (hN h)))), .inr (.inr (.inr (15, 0, (hN h))))], (grow h 4))) rfl ?_
  refine Ev.callv (a := [.inr (.inr (.inr (15, 0, (hN h))))]) rfl sb_init ?_
  refine Ev.sts 2 (c' := (580, [some (.inr (.inr (.inr (11, 0, 83)))), x1, x2, some (.inr (.inr (.inr (20, 4, ga))))], [.inr (.inr (.inr (11, 0, 83))), .inr (.inr (.inr (15, 0, (hN h)))), .inr (.inr (.inr (11, 0, 83)))], (newB h))) rfl ?_
  refine Ev.gfr (r := (h.2.2.1 83 4)) rfl (show (newB h).2.2.1 83 4 = h.2.2.1 83 4 from setR_ne (by omega)) ?_
  refine Ev.callw (a := [.inr (.inr (.inr (15, 0, (hN h)))), .inr (.inr (.inr ((h.2.2.1 83 4))))]) rfl (sb_append ns.1 (Kp_Z ns.2.1 z) (txR_Kp b.2.2.2.2.1 ns.2.1 (Nat.le_refl _) (fun _ _ y => y)) b.2.2.2.2.2.1 (by omega) (by omega) (by simp only [List.length_append, List.length_cons, List.length_nil]; omega) (fun g1 p1 qb1 s1 k1 u1 n1 m1 => ?_))
  simp only [List.length_append, List.length_cons, List.length_nil] at u1 m1
  refine Ev.sts 1 (c' := (588, [some (.inr (.inr (.inr (11, 0, 83)))), x1, x2, some (.inr (.inr (.inr (20, 4, ga))))], [.inr (.inr (.inr (43, 0, 61))), .inr (.inr (.inr (15, 0, (hN h)))), .inr (.inr (.inr (11, 0, 83)))], g1)) rfl ?_
  refine Ev.callw (a := [.inr (.inr (.inr (15, 0, (hN h)))), .inr (.inr (.inr (43, 0, 61)))]) rfl (sb_append s1 (Kp_Z (Kp_t ns.2.1 k1) z) (txR_Kp (txR_c h 87 (hN h) 61) (Kp_t ns.2.1 k1) (Nat.le_refl _) (fun _ _ y => y)) (txC_as 61) (by omega) (by omega) (by simp only [List.length_append, List.length_cons, List.length_nil]; omega) (fun g2 p2 qb2 s2 k2 u2 n2 m2 => ?_))
  simp only [List.length_append, List.length_cons, List.length_nil] at u2 m2
  refine Ev.sts 3 (c' := (596, [some (.inr (.inr (.inr (11, 0, 83)))), x1, x2, some (.inr (.inr (.inr (20, 4, ga))))], [.inl (iZ (3)), .inr (.inr (.inr (20, 4, ga))), .inr (.inr (.inr (47, 4, 1))), .inr (.inr (.inr (15, 0, (hN h)))), .inr (.inr (.inr (11, 0, 83)))], g2)) rfl ?_
  refine Ev.ldv (j := (iZ (3))) (n := 4) (w := .inl (iZ (w3))) (by decide) rfl (congrArg vI ((congrFun ((Kp_t (Kp_t ns.2.1 k1) k2).2.1 ga (by omega) (fun y => y)).1 3).trans hr3)) ?_
  refine Ev.ldv (j := (iZ (w3))) (n := 4) (w := .inr (.inr (.inr (43, 0, (fid 1 w3.toNat))))) (iZ_in (by omega) (by omega) (by omega)) rfl (by rw [iZ_ix (n := w3.toNat) (by omega) (by omega)]) ?_
  refine Ev.callw (a := [.inr (.inr (.inr (15, 0, (hN h)))), .inr (.inr (.inr (43, 0, (fid 1 w3.toNat))))]) rfl (sb_append s2 (Kp_Z (Kp_t (Kp_t ns.2.1 k1) k2) z) (txR_Kp (txR_c h 87 (hN h) ((fid 1 w3.toNat))) (Kp_t (Kp_t ns.2.1 k1) k2) (Nat.le_refl _) (fun _ _ y => y)) (txC_as ((fid 1 w3.toNat))) (by omega) (by omega) (by simp only [List.length_append, List.length_cons, List.length_nil]; omega) (fun g3 p3 qb3 s3 k3 u3 n3 m3 => ?_))
  simp only [List.length_append, List.length_cons, List.length_nil] at u3 m3
  refine Ev.callw (a := [.inr (.inr (.inr (15, 0, (hN h))))]) rfl (sb_toString (lo := hN h - 1) s3 (by omega) (Kp_t (Kp_t (Kp_t ns.2.1 k1) k2) k3).2.2.2 (by omega) (fun g ra e0 k0 n0 m0 => ?_))
  have K := (Kp_t (Kp_t (Kp_t (Kp_t ns.2.1 k1) k2) k3) k0)
  have hK := K.2.2.2
  simp only [List.length_append, List.length_cons, List.length_nil] at m0
  refine Ev.sts 1 (c' := (607, [some (.inr (.inr (.inr (11, 0, 83)))), x1, x2, some (.inr (.inr (.inr (20, 4, ga))))], [], (setR g 83 4 (14, 0, ra)))) rfl ?_
  have P := BL_put (T := (txC 61) ++ ((txC (fid 1 w3.toNat)))) b K (by simpa only [List.append_assoc, List.nil_append] using e0) (asT_app (txC_as 61) (txC_as _))
  have lT : ((txC 61) ++ ((txC (fid 1 w3.toNat)))).length = 7 + (txC (fid 1 w3.toNat)).length := by (try simp only [List.length_append, List.length_cons, List.length_nil]); omega
  exact k _ P.1 P.2.1 (by show hN g ≤ _; omega) (by show hS g ≤ _; omega) P.2.2

theorem tw_num0 {d L dr tk ln : Nat} {x2 x3 : Option VV} {kk M ma : Nat} {w : Int} {tp : List Int} {h : PH} {Q : Rs → PH → Prop} (b : BKl h L dr tk ln tp) (hl : tp.length ≤ 1700) (hk : kk = 0) (hM : kk < M ∧ M ≤ 8) (hma : ma < hN h) (hmo : h.2.2.1 83 5 = (20, M, ma)) (hw : h.1 ma kk = iZ w) (hn : 0 ≤ w ∧ w ≤ 999) (k : ∀ h1, BKl h1 L dr tk ln (tp ++ ((txC 35) ++ ((digs w)))) → KTx h h1 → hN h1 ≤ hN h + 7 → hS h1 ≤ hS h + 7 * (tp.length + ((txC 35) ++ ((digs w))).length) + 32 → txR h1 (hN h - 1) (hN h1) (h1.2.2.1 83 4) (tp ++ ((txC 35) ++ ((digs w)))) → Ev (d + 6) 161 (131, [some (.inr (.inr (.inr (11, 0, 83)))), some (.inl (iZ ((kk : Int)))), x2, x3], [], h1) Q) : Ev (d + 6) 161 (87, [some (.inr (.inr (.inr (11, 0, 83)))), some (.inl (iZ ((kk : Int)))), x2, x3], [], h) Q := by
  have z := b.2.2.2.2.2.2.1
  have h88 := b.2.2.2.2.2.2.2
  have ns := newB_s z
  have ns3 := ns.2.2.1
  have ns4 := ns.2.2.2
  have e35 : (txC 35).length = 0 := by decide +kernel
  have dl := digs_len (n := w)
  refine Ev.sts 2 (c' := (91, [some (.inr (.inr (.inr (11, 0, 83)))), some (.inl (iZ ((kk : Int)))), x2, x3], [.inr (.inr (.inr (15, 0, (hN h)))), .inr (.inr (.inr (15, 0, (hN h))))], (grow h 4))) rfl ?_
  refine Ev.callv (a := [.inr (.inr (.inr (15, 0, (hN h))))]) rfl sb_init ?_
  refine Ev.sts 2 (c' := (96, [some (.inr (.inr (.inr (11, 0, 83)))), some (.inl (iZ ((kk : Int)))), x2, x3], [.inr (.inr (.inr (11, 0, 83))), .inr (.inr (.inr (15, 0, (hN h)))), .inr (.inr (.inr (11, 0, 83)))], (newB h))) rfl ?_
  refine Ev.gfr (r := (h.2.2.1 83 4)) rfl (show (newB h).2.2.1 83 4 = h.2.2.1 83 4 from setR_ne (by omega)) ?_
  refine Ev.callw (a := [.inr (.inr (.inr (15, 0, (hN h)))), .inr (.inr (.inr ((h.2.2.1 83 4))))]) rfl (sb_append ns.1 (Kp_Z ns.2.1 z) (txR_Kp b.2.2.2.2.1 ns.2.1 (Nat.le_refl _) (fun _ _ y => y)) b.2.2.2.2.2.1 (by omega) (by omega) (by simp only [List.length_append, List.length_cons, List.length_nil]; omega) (fun g1 p1 qb1 s1 k1 u1 n1 m1 => ?_))
  simp only [List.length_append, List.length_cons, List.length_nil] at u1 m1
  refine Ev.sts 1 (c' := (103, [some (.inr (.inr (.inr (11, 0, 83)))), some (.inl (iZ ((kk : Int)))), x2, x3], [.inl (iZ ((kk : Int))), .inr (.inr (.inr (15, 0, (hN h)))), .inr (.inr (.inr (11, 0, 83)))], g1)) rfl ?_
  refine Ev.brT (p := (iZ ((kk : Int))) ≤ (iZ (0))) (c1 := (111, [some (.inr (.inr (.inr (11, 0, 83)))), some (.inl (iZ ((kk : Int)))), x2, x3], [.inr (.inr (.inr (15, 0, (hN h)))), .inr (.inr (.inr (11, 0, 83)))], g1)) (c2 := (106, [some (.inr (.inr (.inr (11, 0, 83)))), some (.inl (iZ ((kk : Int)))), x2, x3], [.inr (.inr (.inr (15, 0, (hN h)))), .inr (.inr (.inr (11, 0, 83)))], g1)) ((iZ_le ⟨by omega, by omega⟩ ⟨by omega, by omega⟩).mpr (by omega)) rfl ?_
  refine Ev.sts 1 (c' := (113, [some (.inr (.inr (.inr (11, 0, 83)))), some (.inl (iZ ((kk : Int)))), x2, x3], [.inr (.inr (.inr (43, 0, 35))), .inr (.inr (.inr (15, 0, (hN h)))), .inr (.inr (.inr (11, 0, 83)))], g1)) rfl ?_
  refine Ev.callw (a := [.inr (.inr (.inr (15, 0, (hN h)))), .inr (.inr (.inr (43, 0, 35)))]) rfl (sb_append s1 (Kp_Z (Kp_t ns.2.1 k1) z) (txR_Kp (txR_c h 87 (hN h) 35) (Kp_t ns.2.1 k1) (Nat.le_refl _) (fun _ _ y => y)) (txC_as 35) (by omega) (by omega) (by simp only [List.length_append, List.length_cons, List.length_nil]; omega) (fun g2 p2 qb2 s2 k2 u2 n2 m2 => ?_))
  simp only [List.length_append, List.length_cons, List.length_nil] at u2 m2
  refine Ev.sts 1 (c' := (117, [some (.inr (.inr (.inr (11, 0, 83)))), some (.inl (iZ ((kk : Int)))), x2, x3], [.inr (.inr (.inr (11, 0, 83))), .inr (.inr (.inr (15, 0, (hN h)))), .inr (.inr (.inr (11, 0, 83)))], g2)) rfl ?_
  refine Ev.gfr (r := (20, M, ma)) rfl ((congrFun ((Kp_t (Kp_t ns.2.1 k1) k2).2.1 83 (by omega) (fun y => y)).2 5).trans hmo) ?_
  refine Ev.sts 1 (c' := (121, [some (.inr (.inr (.inr (11, 0, 83)))), some (.inl (iZ ((kk : Int)))), x2, x3], [.inl (iZ ((kk : Int))), .inr (.inr (.inr (20, M, ma))), .inr (.inr (.inr (15, 0, (hN h)))), .inr (.inr (.inr (11, 0, 83)))], g2)) rfl ?_
  refine Ev.ldv (j := (iZ ((kk : Int)))) (n := M) (w := .inl (iZ (w))) (iZ_in (by omega) (by omega) (by omega)) rfl (by rw [iZ_ix (n := kk) (by omega) (by omega)]; exact congrArg vI ((congrFun ((Kp_t (Kp_t ns.2.1 k1) k2).2.1 ma (by omega) (fun y => y)).1 kk).trans hw)) ?_
  refine Ev.callw (a := [.inr (.inr (.inr (15, 0, (hN h)))), .inl (iZ (w))]) rfl (sb_appendI s2 (Kp_Z (Kp_t (Kp_t ns.2.1 k1) k2) z) hn (by omega) (by simp only [List.length_append, List.length_cons, List.length_nil]; omega) (fun g3 p3 qb3 s3 k3 u3 n3 m3 => ?_))
  simp only [List.length_append, List.length_cons, List.length_nil] at u3 m3
  refine Ev.callw (a := [.inr (.inr (.inr (15, 0, (hN h))))]) rfl (sb_toString (lo := hN h - 1) s3 (by omega) (Kp_t (Kp_t (Kp_t ns.2.1 k1) k2) k3).2.2.2 (by omega) (fun g ra e0 k0 n0 m0 => ?_))
  have K := (Kp_t (Kp_t (Kp_t (Kp_t ns.2.1 k1) k2) k3) k0)
  have hK := K.2.2.2
  simp only [List.length_append, List.length_cons, List.length_nil] at m0
  refine Ev.sts 1 (c' := (131, [some (.inr (.inr (.inr (11, 0, 83)))), some (.inl (iZ ((kk : Int)))), x2, x3], [], (setR g 83 4 (14, 0, ra)))) rfl ?_
  have P := BL_put (T := (txC 35) ++ ((digs w))) b K (by simpa only [List.append_assoc, List.nil_append] using e0) (asT_app (txC_as 35) (digs_as hn))
  have lT : ((txC 35) ++ ((digs w))).length = 0 + (digs w).length := by (try simp only [List.length_append, List.length_cons, List.length_nil]); omega
  exact k _ P.1 P.2.1 (by show hN g ≤ _; omega) (by show hS g ≤ _; omega) P.2.2

theorem tw_num1 {d L dr tk ln : Nat} {x2 x3 : Option VV} {kk M ma : Nat} {w : Int} {tp : List Int} {h : PH} {Q : Rs → PH → Prop} (b : BKl h L dr tk ln tp) (hl : tp.length ≤ 1700) (hk : 0 < kk) (hM : kk < M ∧ M ≤ 8) (hma : ma < hN h) (hmo : h.2.2.1 83 5 = (20, M, ma)) (hw : h.1 ma kk = iZ w) (hn : 0 ≤ w ∧ w ≤ 999) (k : ∀ h1, BKl h1 L dr tk ln (tp ++ ((txC 52) ++ ((digs w)))) → KTx h h1 → hN h1 ≤ hN h + 7 → hS h1 ≤ hS h + 7 * (tp.length + ((txC 52) ++ ((digs w))).length) + 32 → txR h1 (hN h - 1) (hN h1) (h1.2.2.1 83 4) (tp ++ ((txC 52) ++ ((digs w)))) → Ev (d + 6) 161 (131, [some (.inr (.inr (.inr (11, 0, 83)))), some (.inl (iZ ((kk : Int)))), x2, x3], [], h1) Q) : Ev (d + 6) 161 (87, [some (.inr (.inr (.inr (11, 0, 83)))), some (.inl (iZ ((kk : Int)))), x2, x3], [], h) Q := by
  have z := b.2.2.2.2.2.2.1
  have h88 := b.2.2.2.2.2.2.2
  have ns := newB_s z
  have ns3 := ns.2.2.1
  have ns4 := ns.2.2.2
  have e52 : (txC 52).length = 1 := by decide +kernel
  have dl := digs_len (n := w)
  refine Ev.sts 2 (c' := (91, [some (.inr (.inr (.inr (11, 0, 83)))), some (.inl (iZ ((kk : Int)))), x2, x3], [.inr (.inr (.inr (15, 0, (hN h)))), .inr (.inr (.inr (15, 0, (hN h))))], (grow h 4))) rfl ?_
  refine Ev.callv (a := [.inr (.inr (.inr (15, 0, (hN h))))]) rfl sb_init ?_
  refine Ev.sts 2 (c' := (96, [some (.inr (.inr (.inr (11, 0, 83)))), some (.inl (iZ ((kk : Int)))), x2, x3], [.inr (.inr (.inr (11, 0, 83))), .inr (.inr (.inr (15, 0, (hN h)))), .inr (.inr (.inr (11, 0, 83)))], (newB h))) rfl ?_
  refine Ev.gfr (r := (h.2.2.1 83 4)) rfl (show (newB h).2.2.1 83 4 = h.2.2.1 83 4 from setR_ne (by omega)) ?_
  refine Ev.callw (a := [.inr (.inr (.inr (15, 0, (hN h)))), .inr (.inr (.inr ((h.2.2.1 83 4))))]) rfl (sb_append ns.1 (Kp_Z ns.2.1 z) (txR_Kp b.2.2.2.2.1 ns.2.1 (Nat.le_refl _) (fun _ _ y => y)) b.2.2.2.2.2.1 (by omega) (by omega) (by simp only [List.length_append, List.length_cons, List.length_nil]; omega) (fun g1 p1 qb1 s1 k1 u1 n1 m1 => ?_))
  simp only [List.length_append, List.length_cons, List.length_nil] at u1 m1
  refine Ev.sts 1 (c' := (103, [some (.inr (.inr (.inr (11, 0, 83)))), some (.inl (iZ ((kk : Int)))), x2, x3], [.inl (iZ ((kk : Int))), .inr (.inr (.inr (15, 0, (hN h)))), .inr (.inr (.inr (11, 0, 83)))], g1)) rfl ?_
  refine Ev.brF (p := (iZ ((kk : Int))) ≤ (iZ (0))) (c1 := (111, [some (.inr (.inr (.inr (11, 0, 83)))), some (.inl (iZ ((kk : Int)))), x2, x3], [.inr (.inr (.inr (15, 0, (hN h)))), .inr (.inr (.inr (11, 0, 83)))], g1)) (c2 := (106, [some (.inr (.inr (.inr (11, 0, 83)))), some (.inl (iZ ((kk : Int)))), x2, x3], [.inr (.inr (.inr (15, 0, (hN h)))), .inr (.inr (.inr (11, 0, 83)))], g1)) (fun c_ => absurd ((iZ_le ⟨by omega, by omega⟩ ⟨by omega, by omega⟩).mp c_) (by omega)) rfl ?_
  refine Ev.sts 2 (c' := (113, [some (.inr (.inr (.inr (11, 0, 83)))), some (.inl (iZ ((kk : Int)))), x2, x3], [.inr (.inr (.inr (43, 0, 52))), .inr (.inr (.inr (15, 0, (hN h)))), .inr (.inr (.inr (11, 0, 83)))], g1)) rfl ?_
  refine Ev.callw (a := [.inr (.inr (.inr (15, 0, (hN h)))), .inr (.inr (.inr (43, 0, 52)))]) rfl (sb_append s1 (Kp_Z (Kp_t ns.2.1 k1) z) (txR_Kp (txR_c h 87 (hN h) 52) (Kp_t ns.2.1 k1) (Nat.le_refl _) (fun _ _ y => y)) (txC_as 52) (by omega) (by omega) (by simp only [List.length_append, List.length_cons, List.length_nil]; omega) (fun g2 p2 qb2 s2 k2 u2 n2 m2 => ?_))
  simp only [List.length_append, List.length_cons, List.length_nil] at u2 m2
  refine Ev.sts 1 (c' := (117, [some (.inr (.inr (.inr (11, 0, 83)))), some (.inl (iZ ((kk : Int)))), x2, x3], [.inr (.inr (.inr (11, 0, 83))), .inr (.inr (.inr (15, 0, (hN h)))), .inr (.inr (.inr (11, 0, 83)))], g2)) rfl ?_
  refine Ev.gfr (r := (20, M, ma)) rfl ((congrFun ((Kp_t (Kp_t ns.2.1 k1) k2).2.1 83 (by omega) (fun y => y)).2 5).trans hmo) ?_
  refine Ev.sts 1 (c' := (121, [some (.inr (.inr (.inr (11, 0, 83)))), some (.inl (iZ ((kk : Int)))), x2, x3], [.inl (iZ ((kk : Int))), .inr (.inr (.inr (20, M, ma))), .inr (.inr (.inr (15, 0, (hN h)))), .inr (.inr (.inr (11, 0, 83)))], g2)) rfl ?_
  refine Ev.ldv (j := (iZ ((kk : Int)))) (n := M) (w := .inl (iZ (w))) (iZ_in (by omega) (by omega) (by omega)) rfl (by rw [iZ_ix (n := kk) (by omega) (by omega)]; exact congrArg vI ((congrFun ((Kp_t (Kp_t ns.2.1 k1) k2).2.1 ma (by omega) (fun y => y)).1 kk).trans hw)) ?_
  refine Ev.callw (a := [.inr (.inr (.inr (15, 0, (hN h)))), .inl (iZ (w))]) rfl (sb_appendI s2 (Kp_Z (Kp_t (Kp_t ns.2.1 k1) k2) z) hn (by omega) (by simp only [List.length_append, List.length_cons, List.length_nil]; omega) (fun g3 p3 qb3 s3 k3 u3 n3 m3 => ?_))
  simp only [List.length_append, List.length_cons, List.length_nil] at u3 m3
  refine Ev.callw (a := [.inr (.inr (.inr (15, 0, (hN h))))]) rfl (sb_toString (lo := hN h - 1) s3 (by omega) (Kp_t (Kp_t (Kp_t ns.2.1 k1) k2) k3).2.2.2 (by omega) (fun g ra e0 k0 n0 m0 => ?_))
  have K := (Kp_t (Kp_t (Kp_t (Kp_t ns.2.1 k1) k2) k3) k0)
  have hK := K.2.2.2
  simp only [List.length_append, List.length_cons, List.length_nil] at m0
  refine Ev.sts 1 (c' := (131, [some (.inr (.inr (.inr (11, 0, 83)))), some (.inl (iZ ((kk : Int)))), x2, x3], [], (setR g 83 4 (14, 0, ra)))) rfl ?_
  have P := BL_put (T := (txC 52) ++ ((digs w))) b K (by simpa only [List.append_assoc, List.nil_append] using e0) (asT_app (txC_as 52) (digs_as hn))
  have lT : ((txC 52) ++ ((digs w))).length = 1 + (digs w).length := by (try simp only [List.length_append, List.length_cons, List.length_nil]); omega
  exact k _ P.1 P.2.1 (by show hN g ≤ _; omega) (by show hS g ≤ _; omega) P.2.2

