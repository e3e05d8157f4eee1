/-! The book writes: atoms. -/
theorem trX {h : PH} {lo N a : Nat} {s n : Int32} {p q : VR} {T : List Int} (t : txR h lo N (h.2.2.1 83 4) T) (hc : N ≤ a ∨ a ≤ lo) (h83 : 83 ≠ a) (ha : a < hN h) (hN0 : N ≤ hN h) : txR (trH h a s n p q) lo N ((trH h a s n p q).2.2.1 83 4) T := by
  have k : Kp (hN h) (fun x => x = a) h (trH h a s n p q) := trH_k (fun _ => rfl) ha
  by_cases c : 83 < hN h
  · rw [(k.2.1 83 c h83).2]
    exact hc.elim (fun c => txR_Kp t (trH_k (N := N) (A := nA) (fun z => absurd z (by omega)) ha) (Nat.le_refl _) (fun _ _ z => z)) (fun c => txR_Kp t k hN0 (fun x hx => by omega))
  · have e : (trH h a s n p q).2.2.1 83 = h.2.2.1 83 := (setR_oth (by omega)).trans (setR_oth (by omega))
    rw [e]
    exact hc.elim (fun c => txR_Kp t (trH_k (N := N) (A := nA) (fun z => absurd z (by omega)) ha) (Nat.le_refl _) (fun _ _ z => z)) (fun c => txR_Kp t k hN0 (fun x hx => by omega))
theorem txC35 : txC 35 = [] := by decide +kernel
theorem at_75 {d L dr tk ln : Nat} {x1 x2 : Option VV} {n : Int} {tp : List Int} {ks : List Sg} {h : PH} {Q : Rs → PH → Prop} (b : BKh h L dr tk ln tp) (l : LXs tp ks) (e : enN tp = false) (ht : tk ≤ 290) (hn : 0 ≤ n ∧ n ≤ 999) (q : ∀ h1 ra, BKh h1 L dr (tk + 1) ln (tp ++ digs n) → FB h h1 → TRr h1 (hN h - 1) (hN h1) 0 (13, 0, ra) (psh (3, n)) → hN h1 ≤ hN h + 14 → hS h1 + gP tk ≤ hS h + gP (tk + 1) → txR h1 (hN h - 1) (hN h1) (h1.2.2.1 83 4) (tp ++ digs n) → Q (.inl (some (.inr (.inr (.inr (13, 0, ra)))))) h1) : Ev (d + 7) 171 (75, [some (.inr (.inr (.inr (11, 0, 83)))), x1, x2, some (.inl (iZ (n)))], [], h) Q := by
  refine Ev.sts 1 (c' := (76, [some (.inr (.inr (.inr (11, 0, 83)))), x1, x2, some (.inl (iZ (n)))], [.inr (.inr (.inr (11, 0, 83)))], h)) rfl ?_
  have z := b.2.2.2.2.2.2.1
  have h88 := b.2.2.2.2.2.2.2.1
  have ns := newB_s z
  have ns3 := ns.2.2.1
  have ns4 := ns.2.2.2
  have dl := digs_len (n := n)
  have e35 : (txC 35).length = 0 := by rw [txC35]; rfl
  refine Ev.sts 2 (c' := (80, [some (.inr (.inr (.inr (11, 0, 83)))), x1, x2, some (.inl (iZ (n)))], [.inr (.inr (.inr (15, 0, (hN h)))), .inr (.inr (.inr (15, 0, (hN h)))), .inr (.inr (.inr (11, 0, 83)))], (grow h 4))) rfl ?_
  refine Ev.callv (a := [.inr (.inr (.inr (15, 0, (hN h))))]) rfl sb_init ?_
  refine Ev.sts 1 (c' := (85, [some (.inr (.inr (.inr (11, 0, 83)))), x1, x2, some (.inl (iZ (n)))], [.inr (.inr (.inr (43, 0, 35))), .inr (.inr (.inr (15, 0, (hN h)))), .inr (.inr (.inr (11, 0, 83)))], (newB h))) rfl ?_
  refine Ev.callw (a := [.inr (.inr (.inr (15, 0, (hN h)))), .inr (.inr (.inr (43, 0, 35)))]) rfl (sb_append ns.1 (Kp_Z ns.2.1 z) (txR_Kp (txR_c h 87 (hN h) 35) ns.2.1 (Nat.le_refl _) (fun _ _ y => y)) (txC_as 35) (by omega) (by omega) (by simp only [List.length_append, List.length_cons, List.length_nil]; omega) (fun g1 p1 qb1 s1 k1 u1 n1 m1 => ?_))
  simp only [List.length_append, List.length_cons, List.length_nil] at u1 m1
  refine Ev.sts 1 (c' := (89, [some (.inr (.inr (.inr (11, 0, 83)))), x1, x2, some (.inl (iZ (n)))], [.inl (iZ (n)), .inr (.inr (.inr (15, 0, (hN h)))), .inr (.inr (.inr (11, 0, 83)))], g1)) rfl ?_
  refine Ev.callw (a := [.inr (.inr (.inr (15, 0, (hN h)))), .inl (iZ (n))]) rfl (sb_appendI s1 (Kp_Z (Kp_t ns.2.1 k1) z) hn (by omega) (by simp only [List.length_append, List.length_cons, List.length_nil]; omega) (fun g2 p2 qb2 s2 k2 u2 n2 m2 => ?_))
  simp only [List.length_append, List.length_cons, List.length_nil] at u2 m2
  refine Ev.callw (a := [.inr (.inr (.inr (15, 0, (hN h))))]) rfl (sb_toString (lo := hN h - 1) s2 (by omega) (Kp_t (Kp_t ns.2.1 k1) k2).2.2.2 (by omega) (fun g ra e0 k0 n0 m0 => ?_))
  have K := (Kp_t (Kp_t (Kp_t ns.2.1 k1) k2) k0)
  have hK := K.2.2.2
  simp only [List.length_append, List.length_cons, List.length_nil] at m0
  rw [txC35] at e0
  refine Ev.callw (a := [.inr (.inr (.inr (11, 0, 83))), .inr (.inr (.inr (14, 0, ra)))]) rfl (bk_add (BK_k b K).1 (T := digs n) (txR_lo e0 (by omega)) (digs_as hn) (by omega) (by omega) (fun h1 b1 f1 n1 m1 t1 => ?_))
  have l1 := lx_num hn l e
  have N1 := FB_n f1
  refine Ev.sts 6 (c' := (106, [some (.inr (.inr (.inr (11, 0, 83)))), x1, x2, some (.inl (iZ (n)))], [.inr (.inr (.inr (0, 0, 0))), .inr (.inr (.inr (0, 0, 0))), .inl (iZ (n)), .inl (iZ (0)), .inr (.inr (.inr (13, 0, (hN h1)))), .inr (.inr (.inr (13, 0, (hN h1))))], (grow h1 4))) rfl ?_
  refine Ev.callv (a := [.inr (.inr (.inr (13, 0, (hN h1)))), .inl (iZ (0)), .inl (iZ (n)), .inr (.inr (.inr (0, 0, 0))), .inr (.inr (.inr (0, 0, 0)))]) rfl (lt_nn (h := (grow h1 4))) ?_
  have P := BK_tr (s := iZ (0)) (n := iZ (n)) (p := (0, 0, 0)) (q := (0, 0, 0)) (BK_g (n := 4) b1).1 (FB_t (FB_t (BK_k b K).2 f1) (BK_g b1).2) (by omega) (show hN h ≤ hN h1 by omega) (Nat.lt_succ_self _) ⟨_, hN h1, .inl (Nat.le_refl _), Nat.le_refl _, Nat.le_succ _, txR_Kp (b1).2.2.2.2.1 (Kp_g (A := nA)) (Nat.le_refl _) (fun _ _ z => z)⟩
  have X := trX (h := grow h1 4) (a := hN h1) (s := iZ (0)) (n := iZ (n)) (p := (0, 0, 0)) (q := (0, 0, 0)) (txR_Kp t1 (Kp_g (A := nA)) (Nat.le_refl _) (fun _ _ z => z)) (.inl (Nat.le_refl _)) (by omega) (Nat.lt_succ_self _) (Nat.le_succ _)
  exact Ev.ret rfl (q _ _ P.1 P.2 (TR_num ⟨by omega, Nat.lt_succ_self _⟩ (trH_0 _ _ _ _ _ _) (trH_1 _ _ _ _ _ _)) (by show hN h1 + 1 ≤ _; omega) (by show hS h1 + 4 + gP tk ≤ _; omega) (txR_up (txR_lo X (by omega)) (Nat.le_succ _)))

theorem at_110 {d L dr tk ln : Nat} {x1 x3 : Option VV} {w0 : Int} {tp : List Int} {ks : List Sg} {h : PH} {Q : Rs → PH → Prop} (b : BKh h L dr tk ln tp) (l : LXs tp ks) (e : enN tp = false) (ht : tk ≤ 290) (hd : dr < 100000) (q : ∀ h1 i ra, i < 4 → BKh h1 L (dr + 1) (tk + 1) ln (tp ++ txC (fid 0 i)) → FB h h1 → TRr h1 (hN h - 1) (hN h1) 0 (13, 0, ra) (psh (11 + i, 0)) → hN h1 ≤ hN h + 14 → hS h1 + gP tk ≤ hS h + gP (tk + 1) → txR h1 (hN h - 1) (hN h1) (h1.2.2.1 83 4) (tp ++ txC (fid 0 i)) → Q (.inl (some (.inr (.inr (.inr (13, 0, ra)))))) h1) : Ev (d + 7) 171 (110, [some (.inr (.inr (.inr (11, 0, 83)))), x1, some (.inl (iZ (w0))), x3], [], h) Q := by
  refine Ev.sts 2 (c' := (112, [some (.inr (.inr (.inr (11, 0, 83)))), x1, some (.inl (iZ (w0))), x3], [.inl (iZ (4)), .inr (.inr (.inr (11, 0, 83)))], h)) rfl ?_
  refine Ev.callw (a := [.inr (.inr (.inr (11, 0, 83))), .inl (iZ (4))]) rfl (bk_draw b (by omega) ⟨by omega, by omega⟩ (fun w1 h1 v1a v1b b1 f1 n1 m1 r1 => ?_))
  refine Ev.sts 4 (c' := (121, [some (.inr (.inr (.inr (11, 0, 83)))), x1, some (.inl (iZ (w0))), some (.inl (iZ (w1)))], [.inl (iZ (w1)), .inr (.inr (.inr (47, 4, 0))), .inr (.inr (.inr (11, 0, 83)))], h1)) rfl ?_
  refine Ev.ldv (j := (iZ (w1))) (n := 4) (w := .inr (.inr (.inr (43, 0, (fid 0 w1.toNat))))) (iZ_in (by omega) (by omega) (by omega)) rfl (by rw [iZ_ix (n := w1.toNat) (by omega) (by omega)]) ?_
  refine Ev.callw (a := [.inr (.inr (.inr (11, 0, 83))), .inr (.inr (.inr (43, 0, (fid 0 w1.toNat))))]) rfl (bk_add b1 (txR_c _ _ _ (fid 0 w1.toNat)) (txC_as (fid 0 w1.toNat)) (lx_fld (f := w1.toNat) (by omega) l e).2.2 (by omega) (fun h2 b2 f2 n2 m2 t2 => ?_))
  have l2 := lx_fld (f := w1.toNat) (by omega) l e
  have N2 := FB_n f2
  refine Ev.sts 6 (c' := (133, [some (.inr (.inr (.inr (11, 0, 83)))), x1, some (.inl (iZ (w0))), some (.inl (iZ (w1)))], [.inr (.inr (.inr (0, 0, 0))), .inr (.inr (.inr (0, 0, 0))), .inl (iZ (w1)), .inl (iZ (1)), .inr (.inr (.inr (13, 0, (hN h2)))), .inr (.inr (.inr (13, 0, (hN h2))))], (grow h2 4))) rfl ?_
  refine Ev.callv (a := [.inr (.inr (.inr (13, 0, (hN h2)))), .inl (iZ (1)), .inl (iZ (w1)), .inr (.inr (.inr (0, 0, 0))), .inr (.inr (.inr (0, 0, 0)))]) rfl (lt_nn (h := (grow h2 4))) ?_
  have h88 := b.2.2.2.2.2.2.2.1
  have P := BK_tr (s := iZ (1)) (n := iZ (w1)) (p := (0, 0, 0)) (q := (0, 0, 0)) (BK_g (n := 4) b2).1 (FB_t (FB_t (FB_t (FB_r h) f1) f2) (BK_g b2).2) (by omega) (show hN h ≤ hN h2 by omega) (Nat.lt_succ_self _) ⟨_, hN h2, .inl (Nat.le_refl _), Nat.le_refl _, Nat.le_succ _, txR_Kp (b2).2.2.2.2.1 (Kp_g (A := nA)) (Nat.le_refl _) (fun _ _ z => z)⟩
  have X := trX (h := grow h2 4) (a := hN h2) (s := iZ (1)) (n := iZ (w1)) (p := (0, 0, 0)) (q := (0, 0, 0)) (txR_Kp t2 (Kp_g (A := nA)) (Nat.le_refl _) (fun _ _ z => z)) (.inl (Nat.le_refl _)) (by omega) (Nat.lt_succ_self _) (Nat.le_succ _)
  exact Ev.ret rfl (q _ w1.toNat _ (by omega) P.1 P.2 (TR_fld ⟨by omega, Nat.lt_succ_self _⟩ (by omega) (trH_0 _ _ _ _ _ _) ((trH_1 _ _ _ _ _ _).trans (by rw [show ((w1.toNat : Nat) : Int) = w1 by omega]))) (by show hN h2 + 1 ≤ _; omega) (by show hS h2 + 4 + gP tk ≤ _; omega) (txR_up (txR_lo X (by omega)) (Nat.le_succ _)))

