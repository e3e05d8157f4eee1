/-! A token is added; a number's text; a tree. -/
theorem bk_add {d L dr tk ln : Nat} {rT : VR} {tp T : List Int} {h : PH} {Q : Rs → PH → Prop} (b : BKh h L dr tk ln tp) (t : txR h 87 (hN h) rT T) (as : asT T) (hl : T.length ≤ 6) (ht : tk ≤ 300) (q : ∀ h1, BKh h1 L dr (tk + 1) ln (tp ++ T) → FB h h1 → hN h1 ≤ hN h + 6 → hS h1 + gP tk + 100 ≤ hS h + gP (tk + 1) → txR h1 (hN h - 1) (hN h1) (h1.2.2.1 83 4) (tp ++ T) → Q (.inl none) h1) : Rn (d + 6) 166 [.inr (.inr (.inr (11, 0, 83))), .inr (.inr (.inr (rT)))] h Q := by
  have z := b.2.2.2.2.2.2.1
  have h88 := b.2.2.2.2.2.2.2.1
  have hL := b.2.2.2.2.2.2.2.2
  have ns := newB_s z
  have ns3 := ns.2.2.1
  have ns4 := ns.2.2.2
  refine Ev.sts 2 (c' := (4, [some (.inr (.inr (.inr (11, 0, 83)))), some (.inr (.inr (.inr (rT))))], [.inr (.inr (.inr (15, 0, (hN h)))), .inr (.inr (.inr (15, 0, (hN h))))], (grow h 4))) rfl ?_
  refine Ev.callv (a := [.inr (.inr (.inr (15, 0, (hN h))))]) rfl sb_init ?_
  refine Ev.sts 2 (c' := (9, [some (.inr (.inr (.inr (11, 0, 83)))), some (.inr (.inr (.inr (rT))))], [.inr (.inr (.inr (11, 0, 83))), .inr (.inr (.inr (15, 0, (hN h)))), .inr (.inr (.inr (11, 0, 83)))], (newB h))) rfl ?_
  refine Ev.gfr (r := (h.2.2.1 83 4)) rfl (show (newB h).2.2.1 83 4 = h.2.2.1 83 4 from setR_ne (by omega)) ?_
  refine Ev.callw (a := [.inr (.inr (.inr (15, 0, (hN h)))), .inr (.inr (.inr ((h.2.2.1 83 4))))]) rfl (sb_append ns.1 (Kp_Z ns.2.1 z) (txR_Kp b.2.2.2.2.1 ns.2.1 (Nat.le_refl _) (fun _ _ y => y)) b.2.2.2.2.2.1 (by omega) (by omega) (by simp only [List.length_append, List.length_cons, List.length_nil]; omega) (fun g1 p1 qb1 s1 k1 u1 n1 m1 => ?_))
  simp only [List.length_append, List.length_cons, List.length_nil] at u1 m1
  refine Ev.sts 1 (c' := (16, [some (.inr (.inr (.inr (11, 0, 83)))), some (.inr (.inr (.inr (rT))))], [.inr (.inr (.inr (rT))), .inr (.inr (.inr (15, 0, (hN h)))), .inr (.inr (.inr (11, 0, 83)))], g1)) rfl ?_
  refine Ev.callw (a := [.inr (.inr (.inr (15, 0, (hN h)))), .inr (.inr (.inr (rT)))]) rfl (sb_append s1 (Kp_Z (Kp_t ns.2.1 k1) z) (txR_Kp t (Kp_t ns.2.1 k1) (Nat.le_refl _) (fun _ _ y => y)) as (by omega) (by omega) (by simp only [List.length_append, List.length_cons, List.length_nil]; omega) (fun g2 p2 qb2 s2 k2 u2 n2 m2 => ?_))
  simp only [List.length_append, List.length_cons, List.length_nil] at u2 m2
  refine Ev.callw (a := [.inr (.inr (.inr (15, 0, (hN h))))]) rfl (sb_toString (lo := hN h - 1) s2 (by omega) (Kp_t (Kp_t ns.2.1 k1) k2).2.2.2 (by omega) (fun g ra e0 k0 n0 m0 => ?_))
  have K := (Kp_t (Kp_t (Kp_t ns.2.1 k1) k2) k0)
  have hK := K.2.2.2
  simp only [List.length_append, List.length_cons, List.length_nil] at m0
  refine Ev.sts 3 (c' := (27, [some (.inr (.inr (.inr (11, 0, 83)))), some (.inr (.inr (.inr (rT))))], [.inr (.inr (.inr (11, 0, 83))), .inr (.inr (.inr (11, 0, 83)))], (setR g 83 4 (14, 0, ra)))) rfl ?_
  refine Ev.gv (w := (iZ ((tk : Int)))) rfl (BK_k b K).1.2.2.1 ?_
  refine Ev.sts 1 (c' := (31, [some (.inr (.inr (.inr (11, 0, 83)))), some (.inr (.inr (.inr (rT))))], [.inl (iZ (1)), .inl (iZ ((tk : Int))), .inr (.inr (.inr (11, 0, 83)))], (setR g 83 4 (14, 0, ra)))) rfl ?_
  refine Ev.gv (w := (iZ (((tk : Int)) + 1))) rfl (iZ_add _ _) ?_
  refine Ev.sts 1 (c' := (35, [some (.inr (.inr (.inr (11, 0, 83)))), some (.inr (.inr (.inr (rT))))], [], (setI (setR g 83 4 (14, 0, ra)) 83 2 ((iZ (((tk : Int)) + 1)))))) rfl ?_
  have P := BK_put (T := T) (t2 := tk + 1) (x := iZ ((tk : Int) + 1)) b K (txR_lo e0 (by omega)) as (by rw [show ((tk : Int) + 1) = ((tk + 1 : Nat) : Int) by omega]) (by rw [List.length_append]; omega)
  have X : txR (setI (setR g 83 4 (14, 0, ra)) 83 2 (iZ ((tk : Int) + 1))) (hN h - 1) (hN g) ((setI (setR g 83 4 (14, 0, ra)) 83 2 (iZ ((tk : Int) + 1))).2.2.1 83 4) (tp ++ T) := by
    rw [show (setI (setR g 83 4 (14, 0, ra)) 83 2 (iZ ((tk : Int) + 1))).2.2.1 83 4 = (14, 0, ra) from setR_self _ _ _ _]
    exact txR_Kp e0 (Kp_t (Kp_R (A := fun a => a = 83) (fun _ => rfl)) (Kp_I (A := fun a => a = 83) (fun _ => rfl) (by show 83 < hN g; omega))) (Nat.le_refl _) (fun a ha => by omega)
  have G : gP (tk + 1) = gP tk + (30 * tk + 300) := rfl
  exact Ev.ret rfl (q _ P.1 P.2 (by show hN g ≤ _; omega) (by show hS g + gP tk + 100 ≤ _; omega) X)

