/-! The class's windows of a goose: what is over is told; a comma with a gap. -/
def keepE (W : List Win) (m : Int) : List Win := W.filter (fun w => decide (m < w.2.1))
def goneE (W : List Win) (m : Int) : List Win := W.filter (fun w => decide (w.2.1 ≤ m))
theorem keepE_y {w : Win} {W : List Win} {m : Int} (c : m < w.2.1) : keepE (w :: W) m = w :: keepE W m := List.filter_cons_of_pos (decide_eq_true c)
theorem keepE_n {w : Win} {W : List Win} {m : Int} (c : ¬ m < w.2.1) : keepE (w :: W) m = keepE W m := List.filter_cons_of_neg (by rw [decide_eq_true_eq]; exact c)
theorem goneE_y {w : Win} {W : List Win} {m : Int} (c : w.2.1 ≤ m) : goneE (w :: W) m = w :: goneE W m := List.filter_cons_of_pos (decide_eq_true c)
theorem goneE_n {w : Win} {W : List Win} {m : Int} (c : ¬ w.2.1 ≤ m) : goneE (w :: W) m = goneE W m := List.filter_cons_of_neg (by rw [decide_eq_true_eq]; exact c)
/-- rows under way: K stands in front, from k on the rest of W -/
def cpt (h : PH) (g : Nat) (K W : List Win) (k : Nat) : Prop := (∀ j, j < K.length → wr h g j = wz (K.getD j w0)) ∧ (∀ j, k ≤ j → j < W.length → wr h g j = wz (W.getD j w0)) ∧ K.length ≤ k ∧ k ≤ W.length ∧ h.1 (32 + 5 * g) 4 = iZ W.length ∧ W.length ≤ 128
theorem cpt_start {h : PH} {g : Nat} {W : List Win} (w : winC h g W) : cpt h g [] W 0 := ⟨fun j hj => absurd hj (Nat.not_lt_zero _), fun j _ hj => w.2.2 j hj, Nat.le_refl _, Nat.zero_le _, w.1, w.2.1⟩
theorem cpt_skip {h : PH} {g k : Nat} {K W : List Win} (c : cpt h g K W k) (hk : k < W.length) : cpt h g K W (k + 1) := ⟨c.1, fun j h1 h2 => c.2.1 j (by omega) h2, by have := c.2.2.1; omega, by omega, c.2.2.2.2⟩
theorem cpt_move {h : PH} {g k : Nat} {K W : List Win} (c : cpt h g K W k) (hk : k < W.length) : cpt (setW h g K.length (wr h g k)) g (K ++ [W.getD k w0]) W (k + 1) := by
  obtain ⟨c1, c2, c3, c4, c5, c6⟩ := c
  refine ⟨fun j hj => ?_, fun j h1 h2 => ?_, by rw [app_len]; omega, by omega, (congrFun (setW_oth (by omega)) 4).trans c5, c6⟩
  · rw [app_len] at hj
    rw [wr_setW, app_get _ _ _ _ hj]
    by_cases z : j = K.length
    · rw [if_pos z, if_pos z]; exact c2 k (Nat.le_refl _) hk
    · rw [if_neg z, if_neg z]; exact c1 j (by omega)
  · rw [wr_setW, if_neg (by omega)]; exact c2 j (by omega) h2
theorem cpt_end {h : PH} {g k : Nat} {K W : List Win} (c : cpt h g K W k) : winC (setI h (32 + 5 * g) 4 (iZ K.length)) g K := by
  obtain ⟨c1, c2, c3, c4, c5, c6⟩ := c
  exact ⟨setI_self _ _ _ _, by omega, fun j hj => (wr_size _ _ _ _).trans (c1 j hj)⟩
theorem cpt_z {h : PH} {g k : Nat} {K W : List Win} (c : cpt h g K W k) : h.1 (32 + 5 * g) 4 = iZ W.length := c.2.2.2.2.1
theorem cpt_s {h : PH} {g k j : Nat} {K W : List Win} (c : cpt h g K W k) (h1 : k ≤ j) (h2 : j < W.length) : h.1 (33 + 5 * g) j = iZ (W.getD j w0).1 := congrArg (fun q => q.1) (c.2.1 j h1 h2)
theorem cpt_e {h : PH} {g k j : Nat} {K W : List Win} (c : cpt h g K W k) (h1 : k ≤ j) (h2 : j < W.length) : h.1 (34 + 5 * g) j = iZ (W.getD j w0).2.1 := congrArg (fun q => q.2.1) (c.2.1 j h1 h2)
theorem cpt_c {h : PH} {g k j : Nat} {K W : List Win} (c : cpt h g K W k) (h1 : k ≤ j) (h2 : j < W.length) : h.1 (35 + 5 * g) j = iZ (W.getD j w0).2.2.1 := congrArg (fun q => q.2.2.1) (c.2.1 j h1 h2)
theorem cpt_v {h : PH} {g k j : Nat} {K W : List Win} (c : cpt h g K W k) (h1 : k ≤ j) (h2 : j < W.length) : h.1 (36 + 5 * g) j = (W.getD j w0).2.2.2 := congrArg (fun q => q.2.2.2) (c.2.1 j h1 h2)
theorem cpt_eq {h h' : PH} {g k : Nat} {K W : List Win} (e : ∀ a, 32 + 5 * g ≤ a → a ≤ 36 + 5 * g → h'.1 a = h.1 a) (c : cpt h g K W k) : cpt h' g K W k := by
  have ew : ∀ j, wr h' g j = wr h g j := by
    intro j
    unfold wr
    rw [e _ (by omega) (by omega), e _ (by omega) (by omega), e _ (by omega) (by omega), e _ (by omega) (by omega)]
  obtain ⟨c1, c2, c3, c4, c5, c6⟩ := c
  exact ⟨fun j hj => (ew j).trans (c1 j hj), fun j h1 h2 => (ew j).trans (c2 j h1 h2), c3, c4, by rw [e _ (by omega) (by omega)]; exact c5, c6⟩
theorem winC_eq {h h' : PH} {g : Nat} {W : List Win} (e : ∀ a, 32 + 5 * g ≤ a → a ≤ 36 + 5 * g → h'.1 a = h.1 a) (w : winC h g W) : winC h' g W := by
  have ew : ∀ j, wr h' g j = wr h g j := by
    intro j
    unfold wr
    rw [e _ (by omega) (by omega), e _ (by omega) (by omega), e _ (by omega) (by omega), e _ (by omega) (by omega)]
  exact ⟨by rw [e _ (by omega) (by omega)]; exact w.1, w.2.1, fun j hj => (ew j).trans (w.2.2 j hj)⟩
theorem qO_ne {x N a : Nat} (h : qO x N) (ha : a < 63 ∨ 67 < a ∧ a < 83) : a ≠ x := by unfold qO at h; omega
theorem qD_N {q : Q5} {N a : Nat} (h : qD q N) (ha : a < 63 ∨ 67 < a ∧ a < 83) : qN q a := ⟨qO_ne h.1 ha, qO_ne h.2.1 ha, qO_ne h.2.2.1 ha, qO_ne h.2.2.2.1 ha, qO_ne h.2.2.2.2.1 ha⟩
/-- a cell of the class that a step does not touch -/
theorem FX_1 {P : Nat → Prop} {h h' : PH} {q q' : Q5} {n n' a : Nat} (f : FX P h h' q q' n n') (hq : qD q (hN h)) (hh : 83 ≤ hN h) (hp : ¬ P a) (ha : a < 62 ∨ 67 < a ∧ a < 83) : h'.1 a = h.1 a := f.2.2.1 a hp (by omega) (qD_N hq (by omega)) (by omega)
theorem pF_n {a : Nat} (_ : a < 83) : ¬ pF a := fun z => z
theorem tlC_eq {h h' : PH} {TL : List Tel} {n : Nat} {q : Q5} (ht : tlC h TL n q) (e2 : h'.2 = h.2) (e : ∀ a, a = 62 ∨ a = q.1 ∨ a = q.2.1 ∨ a = q.2.2.1 ∨ a = q.2.2.2.1 ∨ a = q.2.2.2.2 → h'.1 a = h.1 a) : tlC h' TL n q := by
  obtain ⟨t1, t2, t3, t4, t5, t6⟩ := ht
  refine ⟨by rw [e 62 (Or.inl rfl)]; exact t1, t2, t3, ?_, ?_, fun j hj => ?_⟩
  · unfold qR; rw [e2]; exact t4
  · unfold hN; rw [e2]; exact t5
  · obtain ⟨u1, u2, u3, u4, u5⟩ := t6 j hj
    refine ⟨?_, ?_, ?_, ?_, ?_⟩
    · rw [e _ (by omega)]; exact u1
    · rw [e _ (by omega)]; exact u2
    · rw [e _ (by omega)]; exact u3
    · rw [e _ (by omega)]; exact u4
    · rw [e _ (by omega)]; exact u5
theorem tlC_fw {g : Nat} {h h' : PH} {TL : List Tel} {n : Nat} {q : Q5} (hg : g < 6) (f : fw g h h') (ht : tlC h TL n q) : tlC h' TL n q := by
  obtain ⟨d1, d2, d3, d4, d5, -⟩ := ht.2.2.2.2.1
  unfold qO at d1 d2 d3 d4 d5
  exact tlC_eq ht f.1 (fun a ha => f.2.1 a (by omega))
theorem winC_fw {g g' : Nat} {h h' : PH} {W : List Win} (e : g' ≠ g) (f : fw g h h') (w : winC h g' W) : winC h' g' W := winC_eq (fun a h1 h2 => f.2.1 a (by omega)) w
theorem sp_tell_lp {d g : Nat} {m N : Int} {W : List Win} {Q : Rs → PH → Prop} (hg : g < 6) (hn : wsB N W) (hb : N ≤ 1900) (hm : -2147483648 ≤ m ∧ m < 2147483648) (n : Nat) : ∀ (h : PH) (k : Nat) (K : List Win) (TL : List Tel) (nn : Nat) (u : Q5), Sh h → cpt h g K W k → W.length < k + n → tlC h TL nn u → 83 ≤ hN h → TL.length + (W.length - k) ≤ 5040 → (∀ h1 n1 q1, winC h1 g (K ++ keepE (W.drop k) m) → tlC h1 (TL ++ (goneE (W.drop k) m).map (Prod.mk g)) n1 q1 → FX (pW g) h h1 u q1 nn n1 → h1.1 (32 + 5 * g) 5 = h.1 (32 + 5 * g) 5 → Q (.inl none) h1) → Ev (d + 3) 151 (6, [some (.inr (.inr (.inr (10, 0, (32 + 5 * g))))), some (.inl (iZ (g))), some (.inl (iZ (m))), some (.inr (.inr (.inr (8, 0, 62)))), some (.inl (iZ (K.length))), some (.inl (iZ (k)))], [], h) Q := by
  induction n with
  | zero =>
    intro h k K TL nn u sh cp hk ht hh hl qq
    have := cp.2.2.2.1
    omega
  | succ n ih =>
    intro h k K TL nn u sh cp hk ht hh hl qq
    have cl := cp.2.2.1
    have cl2 := cp.2.2.2.1
    have cl3 := cp.2.2.2.2.2
    refine Ev.sts 2 (c' := (9, [some (.inr (.inr (.inr (10, 0, (32 + 5 * g))))), some (.inl (iZ (g))), some (.inl (iZ (m))), some (.inr (.inr (.inr (8, 0, 62)))), some (.inl (iZ (K.length))), some (.inl (iZ (k)))], [.inr (.inr (.inr (10, 0, (32 + 5 * g)))), .inl (iZ (k))], h)) rfl ?_
    refine Ev.gv (w := (iZ (W.length))) rfl (cpt_z cp) ?_
    refine Ev.brc (p := (iZ (W.length)) ≤ (iZ (k))) (q := ((W.length : Int)) ≤ k) (c1 := (89, [some (.inr (.inr (.inr (10, 0, (32 + 5 * g))))), some (.inl (iZ (g))), some (.inl (iZ (m))), some (.inr (.inr (.inr (8, 0, 62)))), some (.inl (iZ (K.length))), some (.inl (iZ (k)))], [], h)) (c2 := (15, [some (.inr (.inr (.inr (10, 0, (32 + 5 * g))))), some (.inl (iZ (g))), some (.inl (iZ (m))), some (.inr (.inr (.inr (8, 0, 62)))), some (.inl (iZ (K.length))), some (.inl (iZ (k)))], [], h)) rfl (iZ_le ⟨by omega, by omega⟩ ⟨by omega, by omega⟩) (fun c0 => ?_) (fun c0 => ?_)
    · refine Ev.sts 3 (c' := (95, [some (.inr (.inr (.inr (10, 0, (32 + 5 * g))))), some (.inl (iZ (g))), some (.inl (iZ (m))), some (.inr (.inr (.inr (8, 0, 62)))), some (.inl (iZ (K.length))), some (.inl (iZ (k)))], [], (setI h (32 + 5 * g) 4 ((iZ (K.length)))))) rfl ?_
      have e := List.drop_eq_nil_of_le (show W.length ≤ k by omega)
      rw [e] at qq
      refine Ev.ret rfl (qq _ nn u ?_ ?_ (FX_fw (fw_size _ _ _) u nn) (setI_ne (by omega)))
      · show winC _ g (K ++ [])
        rw [List.append_nil]; exact cpt_end cp
      · show tlC _ (TL ++ []) nn u
        rw [List.append_nil]; exact tlC_fw hg (fw_size _ _ _) ht
    · obtain ⟨b1, b2, b3, b4, b5, b6⟩ := hn k (by omega)
      have e0 := drop_get w0 W k (by omega)
      refine Ev.sts 1 (c' := (16, [some (.inr (.inr (.inr (10, 0, (32 + 5 * g))))), some (.inl (iZ (g))), some (.inl (iZ (m))), some (.inr (.inr (.inr (8, 0, 62)))), some (.inl (iZ (K.length))), some (.inl (iZ (k)))], [.inr (.inr (.inr (10, 0, (32 + 5 * g))))], h)) rfl ?_
      refine Ev.gfr (r := (20, 128, (34 + 5 * g))) rfl (sh_w1 sh hg) ?_
      refine Ev.sts 1 (c' := (21, [some (.inr (.inr (.inr (10, 0, (32 + 5 * g))))), some (.inl (iZ (g))), some (.inl (iZ (m))), some (.inr (.inr (.inr (8, 0, 62)))), some (.inl (iZ (K.length))), some (.inl (iZ (k)))], [.inl (iZ (k)), .inr (.inr (.inr (20, 128, (34 + 5 * g))))], h)) rfl ?_
      refine Ev.callv (a := [.inr (.inr (.inr (20, 128, (34 + 5 * g)))), .inl (iZ (k))]) rfl (sp_at (k := k) (by omega) (by omega) (by omega) (cpt_e cp (Nat.le_refl _) (by omega))) ?_
      refine Ev.sts 1 (c' := (25, [some (.inr (.inr (.inr (10, 0, (32 + 5 * g))))), some (.inl (iZ (g))), some (.inl (iZ (m))), some (.inr (.inr (.inr (8, 0, 62)))), some (.inl (iZ (K.length))), some (.inl (iZ (k)))], [.inl (iZ (m)), .inl (iZ ((W.getD k w0).2.1))], h)) rfl ?_
      refine Ev.brc (p := (iZ (m)) < (iZ ((W.getD k w0).2.1))) (q := ((m : Int)) < ((W.getD k w0).2.1)) (c1 := (72, [some (.inr (.inr (.inr (10, 0, (32 + 5 * g))))), some (.inl (iZ (g))), some (.inl (iZ (m))), some (.inr (.inr (.inr (8, 0, 62)))), some (.inl (iZ (K.length))), some (.inl (iZ (k)))], [], h)) (c2 := (28, [some (.inr (.inr (.inr (10, 0, (32 + 5 * g))))), some (.inl (iZ (g))), some (.inl (iZ (m))), some (.inr (.inr (.inr (8, 0, 62)))), some (.inl (iZ (K.length))), some (.inl (iZ (k)))], [], h)) rfl (iZ_lt ⟨by omega, by omega⟩ ⟨by omega, by omega⟩) (fun c1 => ?_) (fun c1 => ?_)
      · refine Ev.sts 3 (c' := (77, [some (.inr (.inr (.inr (10, 0, (32 + 5 * g))))), some (.inl (iZ (g))), some (.inl (iZ (m))), some (.inr (.inr (.inr (8, 0, 62)))), some (.inl (iZ (K.length))), some (.inl (iZ (k)))], [.inl (iZ (K.length)), .inl (iZ (k)), .inr (.inr (.inr (10, 0, (32 + 5 * g))))], h)) rfl ?_
        refine Ev.callv (a := [.inr (.inr (.inr (10, 0, (32 + 5 * g)))), .inl (iZ (k)), .inl (iZ (K.length))]) rfl (sp_move (f := k) (t := K.length) sh hg (by omega) (by omega) (by omega) (by omega)) ?_
        refine Ev.stc (c1 := (83, [some (.inr (.inr (.inr (10, 0, (32 + 5 * g))))), some (.inl (iZ (g))), some (.inl (iZ (m))), some (.inr (.inr (.inr (8, 0, 62)))), some (.inl ((iZ (K.length)) + (iZ (1)))), some (.inl (iZ (k)))], [], (setW h g K.length (wr h g k)))) (c2 := (83, [some (.inr (.inr (.inr (10, 0, (32 + 5 * g))))), some (.inl (iZ (g))), some (.inl (iZ (m))), some (.inr (.inr (.inr (8, 0, 62)))), some (.inl (iZ (K.length + 1))), some (.inl (iZ (k)))], [], (setW h g K.length (wr h g k)))) rfl (by rw [iZ_add]) ?_
        refine Ev.stc (c1 := (86, [some (.inr (.inr (.inr (10, 0, (32 + 5 * g))))), some (.inl (iZ (g))), some (.inl (iZ (m))), some (.inr (.inr (.inr (8, 0, 62)))), some (.inl (iZ (K.length + 1))), some (.inl ((iZ (k)) + (iZ (1))))], [], (setW h g K.length (wr h g k)))) (c2 := (86, [some (.inr (.inr (.inr (10, 0, (32 + 5 * g))))), some (.inl (iZ (g))), some (.inl (iZ (m))), some (.inr (.inr (.inr (8, 0, 62)))), some (.inl (iZ (K.length + 1))), some (.inl (iZ (k + 1)))], [], (setW h g K.length (wr h g k)))) rfl (by rw [iZ_add]) ?_
        refine Ev.sts 1 (c' := (6, [some (.inr (.inr (.inr (10, 0, (32 + 5 * g))))), some (.inl (iZ (g))), some (.inl (iZ (m))), some (.inr (.inr (.inr (8, 0, 62)))), some (.inl (iZ (K.length + 1))), some (.inl (iZ (k + 1)))], [], (setW h g K.length (wr h g k)))) rfl ?_
        rw [show ((K.length : Int) + 1) = (((K ++ [W.getD k w0]).length : Nat) : Int) by rw [app_len]; omega]
        refine ih _ (k + 1) (K ++ [W.getD k w0]) TL nn u (Sh_eq sh rfl) (cpt_move cp (by omega)) (by omega) (tlC_fw hg (fw_setW _ _ _ _) ht) hh (by omega) (fun h2 n2 q2 w2 t2 f2 l2 => qq h2 n2 q2 ?_ ?_ (FX_trans (FX_fw (fw_setW _ _ _ _) _ _) f2) (l2.trans (fw_setW h g K.length (wr h g k)).2.2))
        · rw [e0, keepE_y (by omega)]
          rw [List.append_assoc] at w2
          exact w2
        · rw [e0, goneE_n (by omega)]; exact t2
      · refine Ev.sts 3 (c' := (31, [some (.inr (.inr (.inr (10, 0, (32 + 5 * g))))), some (.inl (iZ (g))), some (.inl (iZ (m))), some (.inr (.inr (.inr (8, 0, 62)))), some (.inl (iZ (K.length))), some (.inl (iZ (k)))], [.inr (.inr (.inr (10, 0, (32 + 5 * g)))), .inl (iZ (g)), .inr (.inr (.inr (8, 0, 62)))], h)) rfl ?_
        refine Ev.gfr (r := (20, 128, (33 + 5 * g))) rfl (sh_w0 sh hg) ?_
        refine Ev.sts 1 (c' := (36, [some (.inr (.inr (.inr (10, 0, (32 + 5 * g))))), some (.inl (iZ (g))), some (.inl (iZ (m))), some (.inr (.inr (.inr (8, 0, 62)))), some (.inl (iZ (K.length))), some (.inl (iZ (k)))], [.inl (iZ (k)), .inr (.inr (.inr (20, 128, (33 + 5 * g)))), .inl (iZ (g)), .inr (.inr (.inr (8, 0, 62)))], h)) rfl ?_
        refine Ev.callv (a := [.inr (.inr (.inr (20, 128, (33 + 5 * g)))), .inl (iZ (k))]) rfl (sp_at (k := k) (by omega) (by omega) (by omega) (cpt_s cp (Nat.le_refl _) (by omega))) ?_
        refine Ev.sts 1 (c' := (40, [some (.inr (.inr (.inr (10, 0, (32 + 5 * g))))), some (.inl (iZ (g))), some (.inl (iZ (m))), some (.inr (.inr (.inr (8, 0, 62)))), some (.inl (iZ (K.length))), some (.inl (iZ (k)))], [.inr (.inr (.inr (10, 0, (32 + 5 * g)))), .inl (iZ ((W.getD k w0).1)), .inl (iZ (g)), .inr (.inr (.inr (8, 0, 62)))], h)) rfl ?_
        refine Ev.gfr (r := (20, 128, (34 + 5 * g))) rfl (sh_w1 sh hg) ?_
        refine Ev.sts 1 (c' := (45, [some (.inr (.inr (.inr (10, 0, (32 + 5 * g))))), some (.inl (iZ (g))), some (.inl (iZ (m))), some (.inr (.inr (.inr (8, 0, 62)))), some (.inl (iZ (K.length))), some (.inl (iZ (k)))], [.inl (iZ (k)), .inr (.inr (.inr (20, 128, (34 + 5 * g)))), .inl (iZ ((W.getD k w0).1)), .inl (iZ (g)), .inr (.inr (.inr (8, 0, 62)))], h)) rfl ?_
        refine Ev.callv (a := [.inr (.inr (.inr (20, 128, (34 + 5 * g)))), .inl (iZ (k))]) rfl (sp_at (k := k) (by omega) (by omega) (by omega) (cpt_e cp (Nat.le_refl _) (by omega))) ?_
        refine Ev.sts 1 (c' := (49, [some (.inr (.inr (.inr (10, 0, (32 + 5 * g))))), some (.inl (iZ (g))), some (.inl (iZ (m))), some (.inr (.inr (.inr (8, 0, 62)))), some (.inl (iZ (K.length))), some (.inl (iZ (k)))], [.inr (.inr (.inr (10, 0, (32 + 5 * g)))), .inl (iZ ((W.getD k w0).2.1)), .inl (iZ ((W.getD k w0).1)), .inl (iZ (g)), .inr (.inr (.inr (8, 0, 62)))], h)) rfl ?_
        refine Ev.gfr (r := (20, 128, (35 + 5 * g))) rfl (sh_w2 sh hg) ?_
        refine Ev.sts 1 (c' := (54, [some (.inr (.inr (.inr (10, 0, (32 + 5 * g))))), some (.inl (iZ (g))), some (.inl (iZ (m))), some (.inr (.inr (.inr (8, 0, 62)))), some (.inl (iZ (K.length))), some (.inl (iZ (k)))], [.inl (iZ (k)), .inr (.inr (.inr (20, 128, (35 + 5 * g)))), .inl (iZ ((W.getD k w0).2.1)), .inl (iZ ((W.getD k w0).1)), .inl (iZ (g)), .inr (.inr (.inr (8, 0, 62)))], h)) rfl ?_
        refine Ev.callv (a := [.inr (.inr (.inr (20, 128, (35 + 5 * g)))), .inl (iZ (k))]) rfl (sp_at (k := k) (by omega) (by omega) (by omega) (cpt_c cp (Nat.le_refl _) (by omega))) ?_
        refine Ev.sts 1 (c' := (58, [some (.inr (.inr (.inr (10, 0, (32 + 5 * g))))), some (.inl (iZ (g))), some (.inl (iZ (m))), some (.inr (.inr (.inr (8, 0, 62)))), some (.inl (iZ (K.length))), some (.inl (iZ (k)))], [.inr (.inr (.inr (10, 0, (32 + 5 * g)))), .inl (iZ ((W.getD k w0).2.2.1)), .inl (iZ ((W.getD k w0).2.1)), .inl (iZ ((W.getD k w0).1)), .inl (iZ (g)), .inr (.inr (.inr (8, 0, 62)))], h)) rfl ?_
        refine Ev.gfr (r := (20, 128, (36 + 5 * g))) rfl (sh_w3 sh hg) ?_
        refine Ev.sts 1 (c' := (63, [some (.inr (.inr (.inr (10, 0, (32 + 5 * g))))), some (.inl (iZ (g))), some (.inl (iZ (m))), some (.inr (.inr (.inr (8, 0, 62)))), some (.inl (iZ (K.length))), some (.inl (iZ (k)))], [.inl (iZ (k)), .inr (.inr (.inr (20, 128, (36 + 5 * g)))), .inl (iZ ((W.getD k w0).2.2.1)), .inl (iZ ((W.getD k w0).2.1)), .inl (iZ ((W.getD k w0).1)), .inl (iZ (g)), .inr (.inr (.inr (8, 0, 62)))], h)) rfl ?_
        refine Ev.callv (a := [.inr (.inr (.inr (20, 128, (36 + 5 * g)))), .inl (iZ (k))]) rfl (sp_at (k := k) (by omega) (by omega) (by omega) (cpt_v cp (Nat.le_refl _) (by omega))) ?_
        refine Ev.callw (a := [.inr (.inr (.inr (8, 0, 62))), .inl (iZ (g)), .inl (iZ ((W.getD k w0).1)), .inl (iZ ((W.getD k w0).2.1)), .inl (iZ ((W.getD k w0).2.2.1)), .inl ((W.getD k w0).2.2.2)]) rfl (sp_add ht hh (by omega) (fun h1 n1 q1 t1 f1 => ?_))
        refine Ev.sts 1 (c' := (83, [some (.inr (.inr (.inr (10, 0, (32 + 5 * g))))), some (.inl (iZ (g))), some (.inl (iZ (m))), some (.inr (.inr (.inr (8, 0, 62)))), some (.inl (iZ (K.length))), some (.inl (iZ (k)))], [], h1)) rfl ?_
        refine Ev.stc (c1 := (86, [some (.inr (.inr (.inr (10, 0, (32 + 5 * g))))), some (.inl (iZ (g))), some (.inl (iZ (m))), some (.inr (.inr (.inr (8, 0, 62)))), some (.inl (iZ (K.length))), some (.inl ((iZ (k)) + (iZ (1))))], [], h1)) (c2 := (86, [some (.inr (.inr (.inr (10, 0, (32 + 5 * g))))), some (.inl (iZ (g))), some (.inl (iZ (m))), some (.inr (.inr (.inr (8, 0, 62)))), some (.inl (iZ (K.length))), some (.inl (iZ (k + 1)))], [], h1)) rfl (by rw [iZ_add]) ?_
        refine Ev.sts 1 (c' := (6, [some (.inr (.inr (.inr (10, 0, (32 + 5 * g))))), some (.inl (iZ (g))), some (.inl (iZ (m))), some (.inr (.inr (.inr (8, 0, 62)))), some (.inl (iZ (K.length))), some (.inl (iZ (k + 1)))], [], h1)) rfl ?_
        have f3 := f1.2.2.2.1
        refine ih h1 (k + 1) K (TL ++ [(g, W.getD k w0)]) n1 q1 (Sh_FX sh f1) (cpt_skip (cpt_eq (fun a a1 a2 => FX_1 f1 ht.2.2.2.2.1 hh (pF_n (by omega)) (by omega)) cp) (by omega)) (by omega) t1 (by omega) (by rw [app_len]; omega) (fun h2 n2 q2 w2 t2 f2 l2 => qq h2 n2 q2 ?_ ?_ (FX_trans (FX_mono f1 (fun x hx => False.elim hx)) f2) (l2.trans (congrFun (FX_1 f1 ht.2.2.2.2.1 hh (pF_n (by omega)) (by omega)) 5)))
        · rw [e0, keepE_n (by omega)]; exact w2
        · rw [e0, goneE_y (by omega)]
          rw [List.append_assoc] at t2
          exact t2

theorem sp_tell {d g nn : Nat} {m N : Int} {W : List Win} {TL : List Tel} {u : Q5} {h : PH} {Q : Rs → PH → Prop} (sh : Sh h) (hg : g < 6) (hw : winC h g W) (hn : wsB N W) (hb : N ≤ 1900) (hm : -2147483648 ≤ m ∧ m < 2147483648) (ht : tlC h TL nn u) (hh : 83 ≤ hN h) (hl : TL.length + W.length ≤ 5040) (qq : ∀ h1 n1 q1, winC h1 g (keepE W m) → tlC h1 (TL ++ (goneE W m).map (Prod.mk g)) n1 q1 → FX (pW g) h h1 u q1 nn n1 → h1.1 (32 + 5 * g) 5 = h.1 (32 + 5 * g) 5 → Q (.inl none) h1) : Rn (d + 3) 151 [.inr (.inr (.inr (10, 0, (32 + 5 * g)))), .inl (iZ (g)), .inl (iZ (m)), .inr (.inr (.inr (8, 0, 62)))] h Q := by
  refine Ev.sts 4 (c' := (6, [some (.inr (.inr (.inr (10, 0, (32 + 5 * g))))), some (.inl (iZ (g))), some (.inl (iZ (m))), some (.inr (.inr (.inr (8, 0, 62)))), some (.inl (iZ (0))), some (.inl (iZ (0)))], [], h)) rfl ?_
  exact sp_tell_lp hg hn hb hm (W.length + 1) h 0 [] TL nn u sh (cpt_start hw) (by omega) ht hh (by omega) (fun h1 n1 q1 w1 t1 f1 l1 => qq h1 n1 q1 w1 t1 f1 l1)

/-- what a comma with a gap makes of the windows that it meets -/
def gpf (hr wd : Int) (tl : Nat) : List Win → Win → Win
  | [], a => a
  | w :: W, a => if w.1 < hr + wd ∧ hr < w.2.1 then gpf hr wd tl W (min a.1 w.1, max a.2.1 w.2.1, a.2.2.1 + w.2.2.1, jn tl a.2.2.2 w.2.2.2) else gpf hr wd tl W a
def gpk (hr wd : Int) (W : List Win) : List Win := W.filter (fun w => !(decide (w.1 < hr + wd) && decide (hr < w.2.1)))
theorem gpk_y {hr wd : Int} {w : Win} {W : List Win} (c : ¬ (w.1 < hr + wd ∧ hr < w.2.1)) : gpk hr wd (w :: W) = w :: gpk hr wd W := List.filter_cons_of_pos (by
  rw [Bool.not_eq_true', ← Bool.not_eq_true, Bool.and_eq_true, decide_eq_true_eq, decide_eq_true_eq]; exact c)
theorem gpk_n {hr wd : Int} {w : Win} {W : List Win} (c : w.1 < hr + wd ∧ hr < w.2.1) : gpk hr wd (w :: W) = gpk hr wd W := List.filter_cons_of_neg (by
  rw [Bool.not_eq_true', ← Bool.not_eq_true, Bool.and_eq_true, decide_eq_true_eq, decide_eq_true_eq]; exact fun z => z c)
theorem gpf_y {hr wd : Int} {tl : Nat} {w a : Win} {W : List Win} (c : w.1 < hr + wd ∧ hr < w.2.1) : gpf hr wd tl (w :: W) a = gpf hr wd tl W (min a.1 w.1, max a.2.1 w.2.1, a.2.2.1 + w.2.2.1, jn tl a.2.2.2 w.2.2.2) := if_pos c
theorem gpf_n {hr wd : Int} {tl : Nat} {w a : Win} {W : List Win} (c : ¬ (w.1 < hr + wd ∧ hr < w.2.1)) : gpf hr wd tl (w :: W) a = gpf hr wd tl W a := if_neg c
/-- the class's windows behind a comma with a gap -/
def cgap (hr wd : Int) (tl : Nat) (v : Int32) (W : List Win) : List Win := insW (gpk hr wd W) (gpf hr wd tl W (hr, hr + wd, 1, v))
theorem wsB_app {N : Int} {K : List Win} {w : Win} (hK : wsB N K) (hw : wB N w) : wsB N (K ++ [w]) := by
  intro j hj
  rw [app_len] at hj
  rw [app_get _ _ _ _ hj]
  by_cases z : j = K.length
  · rw [if_pos z]; exact hw
  · rw [if_neg z]; exact hK j (by omega)
theorem sp_gap_lp {d g ga tl : Nat} {hr wd st N : Int} {v : Int32} {W : List Win} {Q : Rs → PH → Prop} (hg : g < 6) (hn : wsB N W) (hN : N ≤ 1900) (hga : ga < 31 ∨ 62 < ga) (hh : 0 ≤ hr ∧ hr < 1000) (hl : W.length < 128) (n : Nat) : ∀ (h : PH) (k : Nat) (K : List Win) (a : Win), Sh h → cpt h g K W k → W.length < k + n → gooC h ga wd st tl → wsB N K → 0 ≤ a.1 → a.1 < 1000 → 0 ≤ a.2.1 → a.2.1 < 1300 → (∀ h1, fw g h h1 → winC h1 g (insW (K ++ gpk hr wd (W.drop k)) (gpf hr wd tl (W.drop k) a)) → Q (.inl none) h1) → Ev (d + 3) 154 (23, [some (.inr (.inr (.inr (10, 0, (32 + 5 * g))))), some (.inr (.inr (.inr (4, 0, ga)))), some (.inl (iZ (hr))), some (.inl (v)), some (.inl (iZ (a.1))), some (.inl (iZ (a.2.1))), some (.inl (iZ (a.2.2.1))), some (.inl (a.2.2.2)), some (.inl (iZ (K.length))), some (.inl (iZ (k)))], [], h) Q := by
  induction n with
  | zero =>
    intro h k K a sh cp hk go hK ha1 ha2 ha3 ha4 qq
    have := cp.2.2.2.1
    omega
  | succ n ih =>
    intro h k K a sh cp hk go hK ha1 ha2 ha3 ha4 qq
    have cl := cp.2.2.1
    have cl2 := cp.2.2.2.1
    obtain ⟨g1, g2, g3, g4, g5, g6, g7, g8⟩ := go
    have go : gooC h ga wd st tl := ⟨g1, g2, g3, g4, g5, g6, g7, g8⟩
    refine Ev.sts 2 (c' := (26, [some (.inr (.inr (.inr (10, 0, (32 + 5 * g))))), some (.inr (.inr (.inr (4, 0, ga)))), some (.inl (iZ (hr))), some (.inl (v)), some (.inl (iZ (a.1))), some (.inl (iZ (a.2.1))), some (.inl (iZ (a.2.2.1))), some (.inl (a.2.2.2)), some (.inl (iZ (K.length))), some (.inl (iZ (k)))], [.inr (.inr (.inr (10, 0, (32 + 5 * g)))), .inl (iZ (k))], h)) rfl ?_
    refine Ev.gv (w := (iZ (W.length))) rfl (cpt_z cp) ?_
    refine Ev.brc (p := (iZ (W.length)) ≤ (iZ (k))) (q := ((W.length : Int)) ≤ k) (c1 := (146, [some (.inr (.inr (.inr (10, 0, (32 + 5 * g))))), some (.inr (.inr (.inr (4, 0, ga)))), some (.inl (iZ (hr))), some (.inl (v)), some (.inl (iZ (a.1))), some (.inl (iZ (a.2.1))), some (.inl (iZ (a.2.2.1))), some (.inl (a.2.2.2)), some (.inl (iZ (K.length))), some (.inl (iZ (k)))], [], h)) (c2 := (32, [some (.inr (.inr (.inr (10, 0, (32 + 5 * g))))), some (.inr (.inr (.inr (4, 0, ga)))), some (.inl (iZ (hr))), some (.inl (v)), some (.inl (iZ (a.1))), some (.inl (iZ (a.2.1))), some (.inl (iZ (a.2.2.1))), some (.inl (a.2.2.2)), some (.inl (iZ (K.length))), some (.inl (iZ (k)))], [], h)) rfl (iZ_le ⟨by omega, by omega⟩ ⟨by omega, by omega⟩) (fun c0 => ?_) (fun c0 => ?_)
    · refine Ev.sts 8 (c' := (161, [some (.inr (.inr (.inr (10, 0, (32 + 5 * g))))), some (.inr (.inr (.inr (4, 0, ga)))), some (.inl (iZ (hr))), some (.inl (v)), some (.inl (iZ (a.1))), some (.inl (iZ (a.2.1))), some (.inl (iZ (a.2.2.1))), some (.inl (a.2.2.2)), some (.inl (iZ (K.length))), some (.inl (iZ (k)))], [.inl (a.2.2.2), .inl (iZ (a.2.2.1)), .inl (iZ (a.2.1)), .inl (iZ (a.1)), .inr (.inr (.inr (10, 0, (32 + 5 * g))))], (setI h (32 + 5 * g) 4 ((iZ (K.length)))))) rfl ?_
      refine Ev.callw (a := [.inr (.inr (.inr (10, 0, (32 + 5 * g)))), .inl (iZ (a.1)), .inl (iZ (a.2.1)), .inl (iZ (a.2.2.1)), .inl (a.2.2.2)]) rfl (sp_insert (Sh_eq sh rfl) hg (cpt_end cp) hK hN (by omega) ⟨by omega, by omega⟩ (fun h1 f1 w1 => ?_))
      have e := List.drop_eq_nil_of_le (show W.length ≤ k by omega)
      rw [e] at qq
      exact Ev.ret rfl (qq h1 (fw_trans (fw_size _ _ _) f1) (by show winC h1 g (insW (K ++ []) _); rw [List.append_nil]; exact w1))
    · obtain ⟨b1, b2, b3, b4, b5, b6⟩ := hn k (by omega)
      have e0 := drop_get w0 W k (by omega)
      refine Ev.sts 1 (c' := (33, [some (.inr (.inr (.inr (10, 0, (32 + 5 * g))))), some (.inr (.inr (.inr (4, 0, ga)))), some (.inl (iZ (hr))), some (.inl (v)), some (.inl (iZ (a.1))), some (.inl (iZ (a.2.1))), some (.inl (iZ (a.2.2.1))), some (.inl (a.2.2.2)), some (.inl (iZ (K.length))), some (.inl (iZ (k)))], [.inr (.inr (.inr (10, 0, (32 + 5 * g))))], h)) rfl ?_
      refine Ev.gfr (r := (20, 128, (33 + 5 * g))) rfl (sh_w0 sh hg) ?_
      refine Ev.sts 1 (c' := (38, [some (.inr (.inr (.inr (10, 0, (32 + 5 * g))))), some (.inr (.inr (.inr (4, 0, ga)))), some (.inl (iZ (hr))), some (.inl (v)), some (.inl (iZ (a.1))), some (.inl (iZ (a.2.1))), some (.inl (iZ (a.2.2.1))), some (.inl (a.2.2.2)), some (.inl (iZ (K.length))), some (.inl (iZ (k)))], [.inl (iZ (k)), .inr (.inr (.inr (20, 128, (33 + 5 * g))))], h)) rfl ?_
      refine Ev.callv (a := [.inr (.inr (.inr (20, 128, (33 + 5 * g)))), .inl (iZ (k))]) rfl (sp_at (k := k) (by omega) (by omega) (by omega) (cpt_s cp (Nat.le_refl _) (by omega))) ?_
      refine Ev.sts 2 (c' := (43, [some (.inr (.inr (.inr (10, 0, (32 + 5 * g))))), some (.inr (.inr (.inr (4, 0, ga)))), some (.inl (iZ (hr))), some (.inl (v)), some (.inl (iZ (a.1))), some (.inl (iZ (a.2.1))), some (.inl (iZ (a.2.2.1))), some (.inl (a.2.2.2)), some (.inl (iZ (K.length))), some (.inl (iZ (k)))], [.inr (.inr (.inr (4, 0, ga))), .inl (iZ (hr)), .inl (iZ ((W.getD k w0).1))], h)) rfl ?_
      refine Ev.gv (w := (iZ (wd))) rfl go.1 ?_
      refine Ev.gv (w := (iZ (hr + wd))) rfl (iZ_add _ _) ?_
      refine Ev.brc (p := (iZ (hr + wd)) ≤ (iZ ((W.getD k w0).1))) (q := ((hr + wd : Int)) ≤ ((W.getD k w0).1)) (c1 := (129, [some (.inr (.inr (.inr (10, 0, (32 + 5 * g))))), some (.inr (.inr (.inr (4, 0, ga)))), some (.inl (iZ (hr))), some (.inl (v)), some (.inl (iZ (a.1))), some (.inl (iZ (a.2.1))), some (.inl (iZ (a.2.2.1))), some (.inl (a.2.2.2)), some (.inl (iZ (K.length))), some (.inl (iZ (k)))], [], h)) (c2 := (50, [some (.inr (.inr (.inr (10, 0, (32 + 5 * g))))), some (.inr (.inr (.inr (4, 0, ga)))), some (.inl (iZ (hr))), some (.inl (v)), some (.inl (iZ (a.1))), some (.inl (iZ (a.2.1))), some (.inl (iZ (a.2.2.1))), some (.inl (a.2.2.2)), some (.inl (iZ (K.length))), some (.inl (iZ (k)))], [], h)) rfl (iZ_le ⟨by omega, by omega⟩ ⟨by omega, by omega⟩) (fun c1 => ?_) (fun c1 => ?_)
      · refine Ev.sts 3 (c' := (134, [some (.inr (.inr (.inr (10, 0, (32 + 5 * g))))), some (.inr (.inr (.inr (4, 0, ga)))), some (.inl (iZ (hr))), some (.inl (v)), some (.inl (iZ (a.1))), some (.inl (iZ (a.2.1))), some (.inl (iZ (a.2.2.1))), some (.inl (a.2.2.2)), some (.inl (iZ (K.length))), some (.inl (iZ (k)))], [.inl (iZ (K.length)), .inl (iZ (k)), .inr (.inr (.inr (10, 0, (32 + 5 * g))))], h)) rfl ?_
        refine Ev.callv (a := [.inr (.inr (.inr (10, 0, (32 + 5 * g)))), .inl (iZ (k)), .inl (iZ (K.length))]) rfl (sp_move (f := k) (t := K.length) sh hg (by omega) (by omega) (by omega) (by omega)) ?_
        refine Ev.stc (c1 := (140, [some (.inr (.inr (.inr (10, 0, (32 + 5 * g))))), some (.inr (.inr (.inr (4, 0, ga)))), some (.inl (iZ (hr))), some (.inl (v)), some (.inl (iZ (a.1))), some (.inl (iZ (a.2.1))), some (.inl (iZ (a.2.2.1))), some (.inl (a.2.2.2)), some (.inl ((iZ (K.length)) + (iZ (1)))), some (.inl (iZ (k)))], [], (setW h g K.length (wr h g k)))) (c2 := (140, [some (.inr (.inr (.inr (10, 0, (32 + 5 * g))))), some (.inr (.inr (.inr (4, 0, ga)))), some (.inl (iZ (hr))), some (.inl (v)), some (.inl (iZ (a.1))), some (.inl (iZ (a.2.1))), some (.inl (iZ (a.2.2.1))), some (.inl (a.2.2.2)), some (.inl (iZ (K.length + 1))), some (.inl (iZ (k)))], [], (setW h g K.length (wr h g k)))) rfl (by rw [iZ_add]) ?_
        refine Ev.stc (c1 := (143, [some (.inr (.inr (.inr (10, 0, (32 + 5 * g))))), some (.inr (.inr (.inr (4, 0, ga)))), some (.inl (iZ (hr))), some (.inl (v)), some (.inl (iZ (a.1))), some (.inl (iZ (a.2.1))), some (.inl (iZ (a.2.2.1))), some (.inl (a.2.2.2)), some (.inl (iZ (K.length + 1))), some (.inl ((iZ (k)) + (iZ (1))))], [], (setW h g K.length (wr h g k)))) (c2 := (143, [some (.inr (.inr (.inr (10, 0, (32 + 5 * g))))), some (.inr (.inr (.inr (4, 0, ga)))), some (.inl (iZ (hr))), some (.inl (v)), some (.inl (iZ (a.1))), some (.inl (iZ (a.2.1))), some (.inl (iZ (a.2.2.1))), some (.inl (a.2.2.2)), some (.inl (iZ (K.length + 1))), some (.inl (iZ (k + 1)))], [], (setW h g K.length (wr h g k)))) rfl (by rw [iZ_add]) ?_
        refine Ev.sts 1 (c' := (23, [some (.inr (.inr (.inr (10, 0, (32 + 5 * g))))), some (.inr (.inr (.inr (4, 0, ga)))), some (.inl (iZ (hr))), some (.inl (v)), some (.inl (iZ (a.1))), some (.inl (iZ (a.2.1))), some (.inl (iZ (a.2.2.1))), some (.inl (a.2.2.2)), some (.inl (iZ (K.length + 1))), some (.inl (iZ (k + 1)))], [], (setW h g K.length (wr h g k)))) rfl ?_
        rw [show ((K.length : Int) + 1) = (((K ++ [W.getD k w0]).length : Nat) : Int) by rw [app_len]; omega]
        refine ih _ (k + 1) (K ++ [W.getD k w0]) a (Sh_eq sh rfl) (cpt_move cp (by omega)) (by omega) (gooC_eq go (setW_oth (by omega)) rfl) (wsB_app hK ⟨b1, b2, b3, b4, b5, b6⟩) ha1 ha2 ha3 ha4 (fun h1 f1 w1 => qq h1 (fw_trans (fw_setW _ _ _ _) f1) ?_)
        rw [e0, gpf_n (fun z => by omega), gpk_y (fun z => by omega)]
        rw [List.append_assoc] at w1
        exact w1
      · refine Ev.sts 2 (c' := (52, [some (.inr (.inr (.inr (10, 0, (32 + 5 * g))))), some (.inr (.inr (.inr (4, 0, ga)))), some (.inl (iZ (hr))), some (.inl (v)), some (.inl (iZ (a.1))), some (.inl (iZ (a.2.1))), some (.inl (iZ (a.2.2.1))), some (.inl (a.2.2.2)), some (.inl (iZ (K.length))), some (.inl (iZ (k)))], [.inr (.inr (.inr (10, 0, (32 + 5 * g)))), .inl (iZ (hr))], h)) rfl ?_
        refine Ev.gfr (r := (20, 128, (34 + 5 * g))) rfl (sh_w1 sh hg) ?_
        refine Ev.sts 1 (c' := (57, [some (.inr (.inr (.inr (10, 0, (32 + 5 * g))))), some (.inr (.inr (.inr (4, 0, ga)))), some (.inl (iZ (hr))), some (.inl (v)), some (.inl (iZ (a.1))), some (.inl (iZ (a.2.1))), some (.inl (iZ (a.2.2.1))), some (.inl (a.2.2.2)), some (.inl (iZ (K.length))), some (.inl (iZ (k)))], [.inl (iZ (k)), .inr (.inr (.inr (20, 128, (34 + 5 * g)))), .inl (iZ (hr))], h)) rfl ?_
        refine Ev.callv (a := [.inr (.inr (.inr (20, 128, (34 + 5 * g)))), .inl (iZ (k))]) rfl (sp_at (k := k) (by omega) (by omega) (by omega) (cpt_e cp (Nat.le_refl _) (by omega))) ?_
        refine Ev.brc (p := (iZ ((W.getD k w0).2.1)) ≤ (iZ (hr))) (q := (((W.getD k w0).2.1 : Int)) ≤ hr) (c1 := (129, [some (.inr (.inr (.inr (10, 0, (32 + 5 * g))))), some (.inr (.inr (.inr (4, 0, ga)))), some (.inl (iZ (hr))), some (.inl (v)), some (.inl (iZ (a.1))), some (.inl (iZ (a.2.1))), some (.inl (iZ (a.2.2.1))), some (.inl (a.2.2.2)), some (.inl (iZ (K.length))), some (.inl (iZ (k)))], [], h)) (c2 := (63, [some (.inr (.inr (.inr (10, 0, (32 + 5 * g))))), some (.inr (.inr (.inr (4, 0, ga)))), some (.inl (iZ (hr))), some (.inl (v)), some (.inl (iZ (a.1))), some (.inl (iZ (a.2.1))), some (.inl (iZ (a.2.2.1))), some (.inl (a.2.2.2)), some (.inl (iZ (K.length))), some (.inl (iZ (k)))], [], h)) rfl (iZ_le ⟨by omega, by omega⟩ ⟨by omega, by omega⟩) (fun c2 => ?_) (fun c2 => ?_)
        · refine Ev.sts 3 (c' := (134, [some (.inr (.inr (.inr (10, 0, (32 + 5 * g))))), some (.inr (.inr (.inr (4, 0, ga)))), some (.inl (iZ (hr))), some (.inl (v)), some (.inl (iZ (a.1))), some (.inl (iZ (a.2.1))), some (.inl (iZ (a.2.2.1))), some (.inl (a.2.2.2)), some (.inl (iZ (K.length))), some (.inl (iZ (k)))], [.inl (iZ (K.length)), .inl (iZ (k)), .inr (.inr (.inr (10, 0, (32 + 5 * g))))], h)) rfl ?_
          refine Ev.callv (a := [.inr (.inr (.inr (10, 0, (32 + 5 * g)))), .inl (iZ (k)), .inl (iZ (K.length))]) rfl (sp_move (f := k) (t := K.length) sh hg (by omega) (by omega) (by omega) (by omega)) ?_
          refine Ev.stc (c1 := (140, [some (.inr (.inr (.inr (10, 0, (32 + 5 * g))))), some (.inr (.inr (.inr (4, 0, ga)))), some (.inl (iZ (hr))), some (.inl (v)), some (.inl (iZ (a.1))), some (.inl (iZ (a.2.1))), some (.inl (iZ (a.2.2.1))), some (.inl (a.2.2.2)), some (.inl ((iZ (K.length)) + (iZ (1)))), some (.inl (iZ (k)))], [], (setW h g K.length (wr h g k)))) (c2 := (140, [some (.inr (.inr (.inr (10, 0, (32 + 5 * g))))), some (.inr (.inr (.inr (4, 0, ga)))), some (.inl (iZ (hr))), some (.inl (v)), some (.inl (iZ (a.1))), some (.inl (iZ (a.2.1))), some (.inl (iZ (a.2.2.1))), some (.inl (a.2.2.2)), some (.inl (iZ (K.length + 1))), some (.inl (iZ (k)))], [], (setW h g K.length (wr h g k)))) rfl (by rw [iZ_add]) ?_
          refine Ev.stc (c1 := (143, [some (.inr (.inr (.inr (10, 0, (32 + 5 * g))))), some (.inr (.inr (.inr (4, 0, ga)))), some (.inl (iZ (hr))), some (.inl (v)), some (.inl (iZ (a.1))), some (.inl (iZ (a.2.1))), some (.inl (iZ (a.2.2.1))), some (.inl (a.2.2.2)), some (.inl (iZ (K.length + 1))), some (.inl ((iZ (k)) + (iZ (1))))], [], (setW h g K.length (wr h g k)))) (c2 := (143, [some (.inr (.inr (.inr (10, 0, (32 + 5 * g))))), some (.inr (.inr (.inr (4, 0, ga)))), some (.inl (iZ (hr))), some (.inl (v)), some (.inl (iZ (a.1))), some (.inl (iZ (a.2.1))), some (.inl (iZ (a.2.2.1))), some (.inl (a.2.2.2)), some (.inl (iZ (K.length + 1))), some (.inl (iZ (k + 1)))], [], (setW h g K.length (wr h g k)))) rfl (by rw [iZ_add]) ?_
          refine Ev.sts 1 (c' := (23, [some (.inr (.inr (.inr (10, 0, (32 + 5 * g))))), some (.inr (.inr (.inr (4, 0, ga)))), some (.inl (iZ (hr))), some (.inl (v)), some (.inl (iZ (a.1))), some (.inl (iZ (a.2.1))), some (.inl (iZ (a.2.2.1))), some (.inl (a.2.2.2)), some (.inl (iZ (K.length + 1))), some (.inl (iZ (k + 1)))], [], (setW h g K.length (wr h g k)))) rfl ?_
          rw [show ((K.length : Int) + 1) = (((K ++ [W.getD k w0]).length : Nat) : Int) by rw [app_len]; omega]
          refine ih _ (k + 1) (K ++ [W.getD k w0]) a (Sh_eq sh rfl) (cpt_move cp (by omega)) (by omega) (gooC_eq go (setW_oth (by omega)) rfl) (wsB_app hK ⟨b1, b2, b3, b4, b5, b6⟩) ha1 ha2 ha3 ha4 (fun h1 f1 w1 => qq h1 (fw_trans (fw_setW _ _ _ _) f1) ?_)
          rw [e0, gpf_n (fun z => by omega), gpk_y (fun z => by omega)]
          rw [List.append_assoc] at w1
          exact w1
        · refine Ev.sts 2 (c' := (66, [some (.inr (.inr (.inr (10, 0, (32 + 5 * g))))), some (.inr (.inr (.inr (4, 0, ga)))), some (.inl (iZ (hr))), some (.inl (v)), some (.inl (iZ (a.1))), some (.inl (iZ (a.2.1))), some (.inl (iZ (a.2.2.1))), some (.inl (a.2.2.2)), some (.inl (iZ (K.length))), some (.inl (iZ (k)))], [.inr (.inr (.inr (10, 0, (32 + 5 * g)))), .inl (iZ (a.1))], h)) rfl ?_
          refine Ev.gfr (r := (20, 128, (33 + 5 * g))) rfl (sh_w0 sh hg) ?_
          refine Ev.sts 1 (c' := (71, [some (.inr (.inr (.inr (10, 0, (32 + 5 * g))))), some (.inr (.inr (.inr (4, 0, ga)))), some (.inl (iZ (hr))), some (.inl (v)), some (.inl (iZ (a.1))), some (.inl (iZ (a.2.1))), some (.inl (iZ (a.2.2.1))), some (.inl (a.2.2.2)), some (.inl (iZ (K.length))), some (.inl (iZ (k)))], [.inl (iZ (k)), .inr (.inr (.inr (20, 128, (33 + 5 * g)))), .inl (iZ (a.1))], h)) rfl ?_
          refine Ev.callv (a := [.inr (.inr (.inr (20, 128, (33 + 5 * g)))), .inl (iZ (k))]) rfl (sp_at (k := k) (by omega) (by omega) (by omega) (cpt_s cp (Nat.le_refl _) (by omega))) ?_
          refine Ev.gv (w := (iZ (min a.1 ((W.getD k w0).1)))) rfl (iZ_min ⟨by omega, by omega⟩ ⟨by omega, by omega⟩) ?_
          refine Ev.sts 3 (c' := (82, [some (.inr (.inr (.inr (10, 0, (32 + 5 * g))))), some (.inr (.inr (.inr (4, 0, ga)))), some (.inl (iZ (hr))), some (.inl (v)), some (.inl (iZ (min a.1 ((W.getD k w0).1)))), some (.inl (iZ (a.2.1))), some (.inl (iZ (a.2.2.1))), some (.inl (a.2.2.2)), some (.inl (iZ (K.length))), some (.inl (iZ (k)))], [.inr (.inr (.inr (10, 0, (32 + 5 * g)))), .inl (iZ (a.2.1))], h)) rfl ?_
          refine Ev.gfr (r := (20, 128, (34 + 5 * g))) rfl (sh_w1 sh hg) ?_
          refine Ev.sts 1 (c' := (87, [some (.inr (.inr (.inr (10, 0, (32 + 5 * g))))), some (.inr (.inr (.inr (4, 0, ga)))), some (.inl (iZ (hr))), some (.inl (v)), some (.inl (iZ (min a.1 ((W.getD k w0).1)))), some (.inl (iZ (a.2.1))), some (.inl (iZ (a.2.2.1))), some (.inl (a.2.2.2)), some (.inl (iZ (K.length))), some (.inl (iZ (k)))], [.inl (iZ (k)), .inr (.inr (.inr (20, 128, (34 + 5 * g)))), .inl (iZ (a.2.1))], h)) rfl ?_
          refine Ev.callv (a := [.inr (.inr (.inr (20, 128, (34 + 5 * g)))), .inl (iZ (k))]) rfl (sp_at (k := k) (by omega) (by omega) (by omega) (cpt_e cp (Nat.le_refl _) (by omega))) ?_
          refine Ev.gv (w := (iZ (max a.2.1 ((W.getD k w0).2.1)))) rfl (iZ_max ⟨by omega, by omega⟩ ⟨by omega, by omega⟩) ?_
          refine Ev.sts 3 (c' := (98, [some (.inr (.inr (.inr (10, 0, (32 + 5 * g))))), some (.inr (.inr (.inr (4, 0, ga)))), some (.inl (iZ (hr))), some (.inl (v)), some (.inl (iZ (min a.1 ((W.getD k w0).1)))), some (.inl (iZ (max a.2.1 ((W.getD k w0).2.1)))), some (.inl (iZ (a.2.2.1))), some (.inl (a.2.2.2)), some (.inl (iZ (K.length))), some (.inl (iZ (k)))], [.inr (.inr (.inr (10, 0, (32 + 5 * g)))), .inl (iZ (a.2.2.1))], h)) rfl ?_
          refine Ev.gfr (r := (20, 128, (35 + 5 * g))) rfl (sh_w2 sh hg) ?_
          refine Ev.sts 1 (c' := (103, [some (.inr (.inr (.inr (10, 0, (32 + 5 * g))))), some (.inr (.inr (.inr (4, 0, ga)))), some (.inl (iZ (hr))), some (.inl (v)), some (.inl (iZ (min a.1 ((W.getD k w0).1)))), some (.inl (iZ (max a.2.1 ((W.getD k w0).2.1)))), some (.inl (iZ (a.2.2.1))), some (.inl (a.2.2.2)), some (.inl (iZ (K.length))), some (.inl (iZ (k)))], [.inl (iZ (k)), .inr (.inr (.inr (20, 128, (35 + 5 * g)))), .inl (iZ (a.2.2.1))], h)) rfl ?_
          refine Ev.callv (a := [.inr (.inr (.inr (20, 128, (35 + 5 * g)))), .inl (iZ (k))]) rfl (sp_at (k := k) (by omega) (by omega) (by omega) (cpt_c cp (Nat.le_refl _) (by omega))) ?_
          refine Ev.gv (w := (iZ (a.2.2.1 + ((W.getD k w0).2.2.1)))) rfl (iZ_add _ _) ?_
          refine Ev.sts 4 (c' := (113, [some (.inr (.inr (.inr (10, 0, (32 + 5 * g))))), some (.inr (.inr (.inr (4, 0, ga)))), some (.inl (iZ (hr))), some (.inl (v)), some (.inl (iZ (min a.1 ((W.getD k w0).1)))), some (.inl (iZ (max a.2.1 ((W.getD k w0).2.1)))), some (.inl (iZ (a.2.2.1 + ((W.getD k w0).2.2.1)))), some (.inl (a.2.2.2)), some (.inl (iZ (K.length))), some (.inl (iZ (k)))], [.inr (.inr (.inr (10, 0, (32 + 5 * g)))), .inl (a.2.2.2), .inr (.inr (.inr (4, 0, ga)))], h)) rfl ?_
          refine Ev.gfr (r := (20, 128, (36 + 5 * g))) rfl (sh_w3 sh hg) ?_
          refine Ev.sts 1 (c' := (118, [some (.inr (.inr (.inr (10, 0, (32 + 5 * g))))), some (.inr (.inr (.inr (4, 0, ga)))), some (.inl (iZ (hr))), some (.inl (v)), some (.inl (iZ (min a.1 ((W.getD k w0).1)))), some (.inl (iZ (max a.2.1 ((W.getD k w0).2.1)))), some (.inl (iZ (a.2.2.1 + ((W.getD k w0).2.2.1)))), some (.inl (a.2.2.2)), some (.inl (iZ (K.length))), some (.inl (iZ (k)))], [.inl (iZ (k)), .inr (.inr (.inr (20, 128, (36 + 5 * g)))), .inl (a.2.2.2), .inr (.inr (.inr (4, 0, ga)))], h)) rfl ?_
          refine Ev.callv (a := [.inr (.inr (.inr (20, 128, (36 + 5 * g)))), .inl (iZ (k))]) rfl (sp_at (k := k) (by omega) (by omega) (by omega) (cpt_v cp (Nat.le_refl _) (by omega))) ?_
          refine Ev.callv (a := [.inr (.inr (.inr (4, 0, ga))), .inl (a.2.2.2), .inl ((W.getD k w0).2.2.2)]) rfl (sp_joined go) ?_
          refine Ev.sts 2 (c' := (140, [some (.inr (.inr (.inr (10, 0, (32 + 5 * g))))), some (.inr (.inr (.inr (4, 0, ga)))), some (.inl (iZ (hr))), some (.inl (v)), some (.inl (iZ (min a.1 ((W.getD k w0).1)))), some (.inl (iZ (max a.2.1 ((W.getD k w0).2.1)))), some (.inl (iZ (a.2.2.1 + ((W.getD k w0).2.2.1)))), some (.inl ((jn tl a.2.2.2 ((W.getD k w0).2.2.2)))), some (.inl (iZ (K.length))), some (.inl (iZ (k)))], [], h)) rfl ?_
          refine Ev.stc (c1 := (143, [some (.inr (.inr (.inr (10, 0, (32 + 5 * g))))), some (.inr (.inr (.inr (4, 0, ga)))), some (.inl (iZ (hr))), some (.inl (v)), some (.inl (iZ (min a.1 ((W.getD k w0).1)))), some (.inl (iZ (max a.2.1 ((W.getD k w0).2.1)))), some (.inl (iZ (a.2.2.1 + ((W.getD k w0).2.2.1)))), some (.inl ((jn tl a.2.2.2 ((W.getD k w0).2.2.2)))), some (.inl (iZ (K.length))), some (.inl ((iZ (k)) + (iZ (1))))], [], h)) (c2 := (143, [some (.inr (.inr (.inr (10, 0, (32 + 5 * g))))), some (.inr (.inr (.inr (4, 0, ga)))), some (.inl (iZ (hr))), some (.inl (v)), some (.inl (iZ (min a.1 ((W.getD k w0).1)))), some (.inl (iZ (max a.2.1 ((W.getD k w0).2.1)))), some (.inl (iZ (a.2.2.1 + ((W.getD k w0).2.2.1)))), some (.inl ((jn tl a.2.2.2 ((W.getD k w0).2.2.2)))), some (.inl (iZ (K.length))), some (.inl (iZ (k + 1)))], [], h)) rfl (by rw [iZ_add]) ?_
          refine Ev.sts 1 (c' := (23, [some (.inr (.inr (.inr (10, 0, (32 + 5 * g))))), some (.inr (.inr (.inr (4, 0, ga)))), some (.inl (iZ (hr))), some (.inl (v)), some (.inl (iZ (min a.1 ((W.getD k w0).1)))), some (.inl (iZ (max a.2.1 ((W.getD k w0).2.1)))), some (.inl (iZ (a.2.2.1 + ((W.getD k w0).2.2.1)))), some (.inl ((jn tl a.2.2.2 ((W.getD k w0).2.2.2)))), some (.inl (iZ (K.length))), some (.inl (iZ (k + 1)))], [], h)) rfl ?_
          refine ih h (k + 1) K (min a.1 (W.getD k w0).1, max a.2.1 (W.getD k w0).2.1, a.2.2.1 + (W.getD k w0).2.2.1, jn tl a.2.2.2 (W.getD k w0).2.2.2) sh (cpt_skip cp (by omega)) (by omega) go hK (by show 0 ≤ min a.1 (W.getD k w0).1; omega) (by show min a.1 (W.getD k w0).1 < 1000; omega) (by show 0 ≤ max a.2.1 (W.getD k w0).2.1; omega) (by show max a.2.1 (W.getD k w0).2.1 < 1300; omega) (fun h1 f1 w1 => qq h1 f1 ?_)
          rw [e0, gpf_y ⟨by omega, by omega⟩, gpk_n ⟨by omega, by omega⟩]
          exact w1

theorem sp_countGap {d g ga tl : Nat} {hr wd st N : Int} {v : Int32} {W : List Win} {h : PH} {Q : Rs → PH → Prop} (sh : Sh h) (hg : g < 6) (hw : winC h g W) (hn : wsB N W) (hN : N ≤ 1900) (hl : W.length < 128) (go : gooC h ga wd st tl) (hga : ga < 31 ∨ 62 < ga) (hh : 0 ≤ hr ∧ hr < 1000) (qq : ∀ h1, fw g h h1 → winC h1 g (cgap hr wd tl v W) → Q (.inl none) h1) : Rn (d + 3) 154 [.inr (.inr (.inr (10, 0, (32 + 5 * g)))), .inr (.inr (.inr (4, 0, ga))), .inl (iZ (hr)), .inl (v)] h Q := by
  obtain ⟨g1, g2, g3, g4, g5, g6, g7, g8⟩ := go
  have go : gooC h ga wd st tl := ⟨g1, g2, g3, g4, g5, g6, g7, g8⟩
  refine Ev.sts 4 (c' := (5, [some (.inr (.inr (.inr (10, 0, (32 + 5 * g))))), some (.inr (.inr (.inr (4, 0, ga)))), some (.inl (iZ (hr))), some (.inl (v)), some (.inl (iZ (hr))), none, none, none, none, none], [.inr (.inr (.inr (4, 0, ga))), .inl (iZ (hr))], h)) rfl ?_
  refine Ev.gv (w := (iZ (wd))) rfl go.1 ?_
  refine Ev.gv (w := (iZ (hr + wd))) rfl (iZ_add _ _) ?_
  refine Ev.sts 9 (c' := (23, [some (.inr (.inr (.inr (10, 0, (32 + 5 * g))))), some (.inr (.inr (.inr (4, 0, ga)))), some (.inl (iZ (hr))), some (.inl (v)), some (.inl (iZ (hr))), some (.inl (iZ (hr + wd))), some (.inl (iZ (1))), some (.inl (v)), some (.inl (iZ (0))), some (.inl (iZ (0)))], [], h)) rfl ?_
  exact sp_gap_lp hg hn hN hga hh hl (W.length + 1) h 0 [] (hr, hr + wd, 1, v) sh (cpt_start hw) (by omega) go (fun j hj => absurd hj (Nat.not_lt_zero _)) hh.1 hh.2 (by show 0 ≤ hr + wd; omega) (by show hr + wd < 1300; omega) (fun h1 f1 w1 => qq h1 f1 w1)

