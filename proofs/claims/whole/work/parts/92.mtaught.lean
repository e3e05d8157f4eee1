/-! The reference is taught: what stands then. -/
/-- what reading changes, c new rows of six -/
def gV (c : Nat) (h h1 : PH) : Prop := h1.2.2.1 = h.2.2.1 ∧ (∀ a, a ≠ 86 → a ≠ 89 → h1.2.1 a = h.2.1 a) ∧ (∀ a, a ≠ 83 → a ≠ 85 → a ≠ 87 → a ≠ 90 → a ≠ 91 → a ≠ 92 → a < hN h → h1.1 a = h.1 a) ∧ (∀ k, k ≠ 0 → k ≠ 7 → k ≠ 8 → k ≠ 9 → k ≠ 10 → k ≠ 14 → k ≠ 16 → h1.1 83 k = h.1 83 k) ∧ hN h ≤ hN h1 ∧ hN h1 ≤ hN h + c ∧ hS h1 ≤ hS h + 6 * c
theorem gV_t {c c2 : Nat} {h h1 h2 : PH} (a : gV c h h1) (b : gV c2 h1 h2) : gV (c + c2) h h2 := ⟨b.1.trans a.1, fun x x1 x2 => (b.2.1 x x1 x2).trans (a.2.1 x x1 x2), fun x x1 x2 x3 x4 x5 x6 x7 => (b.2.2.1 x x1 x2 x3 x4 x5 x6 (by have := a.2.2.2.2.1; omega)).trans (a.2.2.1 x x1 x2 x3 x4 x5 x6 x7), fun k k1 k2 k3 k4 k5 k6 k7 => (b.2.2.2.1 k k1 k2 k3 k4 k5 k6 k7).trans (a.2.2.2.1 k k1 k2 k3 k4 k5 k6 k7), by have := a.2.2.2.2.1; have := b.2.2.2.2.1; omega, by have := a.2.2.2.2.2.1; have := b.2.2.2.2.2.1; omega, by have := a.2.2.2.2.2.2; have := b.2.2.2.2.2.2; omega⟩
theorem gV_Q {c : Nat} {h h1 : PH} (f : fQ c h h1) : gV c h h1 := ⟨f.1, fun a _ a2 => f.2.1 a a2, fun a a1 _ _ a4 a5 a6 a7 => f.2.2.1 a a1 a4 a5 a6 a7, fun k _ k2 _ k4 k5 k6 k7 => f.2.2.2.1 k k2 k4 k5 k6 k7, f.2.2.2.2.1, f.2.2.2.2.2.1, f.2.2.2.2.2.2⟩
theorem gV_N {h h1 : PH} (f : fN h h1) : gV 0 h h1 := ⟨by rw [f.1], fun a a1 _ => f.2.2 a a1, fun a _ a2 a3 _ _ _ _ => f.2.1 a a2 a3, fun k _ _ _ _ _ _ _ => by rw [f.2.1 83 (by decide) (by decide)], by unfold hN; rw [f.1]; exact Nat.le_refl _, by unfold hN; rw [f.1]; exact Nat.le_refl _, by unfold hS; rw [f.1]; exact Nat.le_refl _⟩
theorem gV_I {h : PH} {k : Nat} {v : Int32} (hk : k = 0 ∨ k = 8) : gV 0 h (setI h 83 k v) := ⟨rfl, fun _ _ _ => rfl, fun a a1 _ _ _ _ _ _ => setI_oth a1, fun j j1 _ j3 _ _ _ _ => setI_ne (by omega), Nat.le_refl _, Nat.le_refl _, Nat.le_refl _⟩
/-- what teaching changes -/
def fV (h h1 : PH) : Prop := h1.2.2.1 = h.2.2.1 ∧ (∀ a, a ≠ 86 → a ≠ 89 → h1.2.1 a = h.2.1 a) ∧ (∀ a, ¬ pMo a → a < hN h → h1.1 a = h.1 a) ∧ hN h ≤ hN h1 ∧ hN h1 ≤ hN h + 7 ∧ hS h1 ≤ hS h + 42
theorem fV_g {c : Nat} {h h1 h2 : PH} (g : gV c h h1) (hc : c ≤ 7) (e : ∀ a, ¬ pMo a → h2.1 a = h1.1 a) (e2 : h2.2 = h1.2) : fV h h2 := by
  obtain ⟨g1, g2, g3, g4, g5, g6, g7⟩ := g
  refine ⟨by rw [e2]; exact g1, fun a a1 a2 => by rw [e2]; exact g2 a a1 a2, fun a ha hl => (e a ha).trans (g3 a ?_ ?_ ?_ ?_ ?_ ?_ hl), ?_, ?_, ?_⟩
  · intro z; exact ha (by unfold pMo; omega)
  · intro z; exact ha (by unfold pMo; omega)
  · intro z; exact ha (by unfold pMo; omega)
  · intro z; exact ha (by unfold pMo; omega)
  · intro z; exact ha (by unfold pMo; omega)
  · intro z; exact ha (by unfold pMo; omega)
  · unfold hN at *; rw [e2]; exact g5
  · unfold hN at *; rw [e2]; omega
  · unfold hS at *; rw [e2]; omega
theorem Sh_r {h h1 : PH} (s : Sh h) (e : h1.2.2.1 = h.2.2.1) : Sh h1 := fun t ht => by rw [e]; exact s t ht
def terM (h : PH) (q : Int) : PH := setI (setI h 83 2 (iZ 0)) 83 11 (iZ q)
theorem MI_teM {c : Nat} {h h1 : PH} {S : Sta} {y : Y4} {q : Int} (I : MI h S y) (g : gV c h h1) (hq : q = (rdE (lex (tpS S))).2) : MI (terM h1 q) (terS S) y := by
  obtain ⟨g1, g2, g3, g4, g5, g6, g7⟩ := g
  obtain ⟨i1, i2, i3, i4, i5, i6, i7, i8, i9, i10, i11, i12, i13, i14⟩ := I
  have ho := i10.2.2.2.2.2.1
  have ht := i11.2.2.2.2.2.1
  have e : ∀ a, a ≠ 83 → a ≠ 85 → a ≠ 87 → a ≠ 90 → a ≠ 91 → a ≠ 92 → a < hN h → (terM h1 q).1 a = h.1 a := fun a a1 a2 a3 a4 a5 a6 a7 => (setI_oth a1).trans ((setI_oth a1).trans (g3 a a1 a2 a3 a4 a5 a6 a7))
  have e8 : ∀ k, k ≠ 0 → k ≠ 2 → k ≠ 7 → k ≠ 8 → k ≠ 9 → k ≠ 10 → k ≠ 11 → k ≠ 14 → k ≠ 16 → (terM h1 q).1 83 k = h.1 83 k := fun k k1 k2 k3 k4 k5 k6 k7 k8 k9 => (setI_ne (by omega)).trans ((setI_ne (by omega)).trans (g4 k k1 k3 k4 k5 k6 k8 k9))
  unfold aO at ho ht
  refine ⟨Sh_r i1 g1, ⟨(setI_ne (by omega)).trans (setI_self _ _ _ _), fun j hj => absurd hj (Nat.not_lt_zero _)⟩, ?_, bkM_eq (e 93 (by decide) (by decide) (by decide) (by decide) (by decide) (by decide) (by omega)) (e 94 (by decide) (by decide) (by decide) (by decide) (by decide) (by decide) (by omega)) i4, ?_, ?_, ?_, ?_, ?_, opM_eq i10 (e8 30 (by decide) (by decide) (by decide) (by decide) (by decide) (by decide) (by decide) (by decide) (by decide)) (by show h1.2.2.1 83 29 = _; rw [g1]) (e _ (by omega) (by omega) (by omega) (by omega) (by omega) (by omega) ho.2) g5, tmM_eq i11 (e8 32 (by decide) (by decide) (by decide) (by decide) (by decide) (by decide) (by decide) (by decide) (by decide)) (by show h1.2.2.1 83 31 = _; rw [g1]) (e _ (by omega) (by omega) (by omega) (by omega) (by omega) (by omega) ht.2) g5, i12, by show 103 ≤ hN h1; omega, ?_⟩
  · rw [show eaS (terS S) = (rdE (lex (tpS S))).2 from rfl, ← hq]
    exact setI_self _ _ _ _
  · rw [e8 21 (by decide) (by decide) (by decide) (by decide) (by decide) (by decide) (by decide) (by decide) (by decide), e 96 (by decide) (by decide) (by decide) (by decide) (by decide) (by decide) (by omega), e 97 (by decide) (by decide) (by decide) (by decide) (by decide) (by decide) (by omega)]
    exact i5
  · rw [e8 25 (by decide) (by decide) (by decide) (by decide) (by decide) (by decide) (by decide) (by decide) (by decide)]; exact i6
  · rw [e8 26 (by decide) (by decide) (by decide) (by decide) (by decide) (by decide) (by decide) (by decide) (by decide)]; exact i7
  · rw [e8 27 (by decide) (by decide) (by decide) (by decide) (by decide) (by decide) (by decide) (by decide) (by decide)]; exact i8
  · rw [e 99 (by decide) (by decide) (by decide) (by decide) (by decide) (by decide) (by omega)]; exact i9
  · unfold kyM
    show h1.2.1 88 0 = _ ∧ h1.2.1 88 1 = _ ∧ h1.2.1 88 2 = _ ∧ h1.2.1 88 3 = _
    rw [g2 88 (by decide) (by decide)]
    exact i14
theorem wlen_w : ∀ l : List Cmd, wlen l = (wds l).length := by
  intro l
  induction l with
  | nil => rfl
  | cons c l ih =>
    show (wcm c).length + wlen l = _
    rw [ih, wds_cons, List.length_append]
theorem wdM_of {h : PH} {a : Nat} : ∀ (l : List Int) (k : Nat), (∀ j, j < l.length → h.1 a (k + j) = iZ (l.getD j 0)) → wdM h a k l := by
  intro l
  induction l with
  | nil => intro k _; trivial
  | cons v l ih =>
    intro k e
    refine ⟨e 0 (Nat.succ_pos _), ih (k + 1) (fun j hj => ?_)⟩
    have x := e (j + 1) (Nat.succ_lt_succ hj)
    rw [show k + 1 + j = k + (j + 1) by omega]
    exact x
theorem getD_mid (A B C : List Int) (j : Nat) (h : j < B.length) : (A ++ (B ++ C)).getD (A.length + j) 0 = B.getD j 0 := by
  rw [List.getD_eq_getElem?_getD, List.getElem?_append_right (by omega), Nat.add_sub_cancel_left, List.getElem?_append_left h, ← List.getD_eq_getElem?_getD]
theorem pgM_of {h : PH} {a : Nat} : ∀ (l : List Cmd) (k : Nat), (∀ j, j < (wds l).length → h.1 a (k + j) = iZ ((wds l).getD j 0)) → pgM h a k l := by
  intro l
  induction l with
  | nil => intro k _; trivial
  | cons c l ih =>
    intro k e
    refine ⟨wdM_of _ _ (fun j hj => ?_), ih _ (fun j hj => ?_)⟩
    · have x := e j (by rw [wds_cons, List.length_append]; omega)
      rw [x, wds_cons]
      exact congrArg iZ (getD_mid [] (wcm c) (wds l) j hj ▸ (by rw [List.nil_append, List.length_nil, Nat.zero_add]))
    · have x := e ((wcm c).length + j) (by rw [wds_cons, List.length_append]; omega)
      rw [← Nat.add_assoc] at x
      rw [x, wds_cons]
      have y := getD_mid (wcm c) (wds l) [] j hj
      rw [List.append_nil] at y
      rw [y]
theorem wlP_b {P : List Cmd} {a b : Nat} (h : a ≤ b) : wlP P b = wlP P a + (wds (slP P a b)).length := by
  obtain ⟨c, rfl⟩ : ∃ c, b = a + c := ⟨b - a, by omega⟩
  unfold wlP slP
  rw [List.take_add, wds_app, List.length_append, Nat.add_sub_cancel_left]
theorem wds_sl {P : List Cmd} {a b j : Nat} (hj : j < (wds (slP P a b)).length) : (wds P).getD (wlP P a + j) 0 = (wds (slP P a b)).getD j 0 := by
  have e : P = P.take a ++ (slP P a b ++ (P.drop a).drop (b - a)) := by
    unfold slP
    rw [List.take_append_drop, List.take_append_drop]
  have e2 : wds P = wds (P.take a) ++ (wds (slP P a b) ++ wds ((P.drop a).drop (b - a))) := by
    rw [← wds_app, ← wds_app, ← e]
  rw [e2]
  exact getD_mid _ _ _ _ hj
theorem wlP_le (P : List Cmd) (b : Nat) : wlP P b ≤ (wds P).length := by
  have e : wds P = wds (P.take b) ++ wds (P.drop b) := by rw [← wds_app, List.take_append_drop]
  rw [e, List.length_append]
  exact Nat.le_add_right _ _
theorem pg_sl {h : PH} {P : List Cmd} {a b : Nat} (e : ∀ j, j < (wds P).length → h.1 94 j = iZ ((wds P).getD j 0)) (hab : a ≤ b) : pgM h 94 (wlP P a) (slP P a b) := pgM_of _ _ (fun j hj => by
  have := wlP_le P b
  have := wlP_b (P := P) hab
  rw [e _ (by omega), wds_sl hj])
theorem bkM_O {h : PH} {s : Sm} (ok : smOk s) (e0 : (smE s).1 = 0) (wl : (wds (smP s)).length ≤ 1024) (r0 : h.1 93 0 = iZ (smF s).length) (r1 : h.1 93 1 = iZ (smG s).length) (r2 : h.1 93 2 = iZ (moL (smM s)).length) (r3 : ∀ j, j < (moL (smM s)).length → h.1 93 (3 + j) = iZ ((moL (smM s)).getD j 0)) (r4 : ∀ f, f < (smT s).length → h.1 93 (11 + 2 * f) = iZ (wlP (smP s) ((smT s).getD f (0, 0)).1) ∧ h.1 93 (12 + 2 * f) = iZ (wlP (smP s) ((smT s).getD f (0, 0)).2)) (r5 : ∀ g, g < (smX s).length → h.1 93 (27 + 6 * g) = iZ ((smX s).getD g gc0).1 ∧ h.1 93 (28 + 6 * g) = iZ ((smX s).getD g gc0).2.2.1 ∧ h.1 93 (29 + 6 * g) = iZ (if ((smX s).getD g gc0).2.1 = 1 then 0 else ((smX s).getD g gc0).2.2.2.1) ∧ h.1 93 (30 + 6 * g) = iZ ((smX s).getD g gc0).2.2.2.2.1 ∧ h.1 93 (31 + 6 * g) = iZ (wlP (smP s) ((smX s).getD g gc0).2.2.2.2.2.1) ∧ h.1 93 (32 + 6 * g) = iZ (wlP (smP s) ((smX s).getD g gc0).2.2.2.2.2.2)) (w : ∀ j, j < (wds (smP s)).length → h.1 94 j = iZ ((wds (smP s)).getD j 0)) : bkM h (bkO s) := by
  have okt := ok.2.2.2.2.2.1
  have okg := (ok.2.2.2.2.2.2 e0).2
  have lt : (bkO s).2.1.length = (smT s).length := List.length_map _
  have lx : (bkO s).2.2.length = (smX s).length := List.length_map _
  refine ⟨by rw [lt, ok.1]; exact r0, by rw [lx, ok.2.2.1]; exact r1, r2, r3, fun f hf => ?_, fun g hg => ?_⟩
  · rw [lt] at hf
    obtain ⟨a1, a2⟩ := r4 f hf
    have tg := okt _ (getD_mem (d := (0, 0)) hf)
    have e : (bkO s).2.1.getD f [] = slP (smP s) ((smT s).getD f (0, 0)).1 ((smT s).getD f (0, 0)).2 := mapgD _ _ (0, 0) _ _ hf
    have b1 := wlP_b (P := smP s) tg.1
    have b2 := wlP_le (smP s) ((smT s).getD f (0, 0)).2
    rw [e]
    refine ⟨wlP (smP s) ((smT s).getD f (0, 0)).1, by rw [wlen_w]; omega, a1, ?_, pg_sl w tg.1⟩
    rw [wlen_w, ← b1, show 11 + 2 * f + 1 = 12 + 2 * f by omega]
    exact a2
  · rw [lx] at hg
    obtain ⟨a1, a2, a3, a4, a5, a6⟩ := r5 g hg
    have gg := okg _ (getD_mem (d := gc0) hg)
    have e : (bkO s).2.2.getD g g0 = gsO (smP s) ((smX s).getD g gc0) := mapgD _ _ gc0 _ _ hg
    have b1 := wlP_b (P := smP s) gg.1
    have b2 := wlP_le (smP s) ((smX s).getD g gc0).2.2.2.2.2.2
    rw [e]
    refine ⟨?_, ?_, ?_, ?_, wlP (smP s) ((smX s).getD g gc0).2.2.2.2.2.1, ?_, ?_, ?_, pg_sl w gg.1⟩
    · show _ = iZ ((((smX s).getD g gc0).1.toNat : Nat) : Int)
      rw [Int.toNat_of_nonneg gg.2.2.1]
      exact a1
    · rw [show 27 + 6 * g + 1 = 28 + 6 * g by omega]; exact a2
    · rw [show 27 + 6 * g + 2 = 29 + 6 * g by omega]; exact a3
    · rw [show 27 + 6 * g + 3 = 30 + 6 * g by omega]; exact a4
    · show _ + wlen (slP (smP s) _ _) ≤ 1024
      rw [wlen_w]; omega
    · rw [show 27 + 6 * g + 4 = 31 + 6 * g by omega]; exact a5
    · rw [show 27 + 6 * g + 5 = 32 + 6 * g by omega]
      show _ = iZ (((wlP (smP s) ((smX s).getD g gc0).2.2.2.2.2.1 + wlen (slP (smP s) ((smX s).getD g gc0).2.2.2.2.2.1 ((smX s).getD g gc0).2.2.2.2.2.2) : Nat)) : Int)
      rw [wlen_w, ← b1]; exact a6

