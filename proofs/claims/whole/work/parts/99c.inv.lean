/-! The law's invariant: both sides show one state; room enough. -/
def rmH (h : PH) (n : Nat) (y : Y4) (t : Nat) : Prop := hN h + 384 ≤ 103 + n + y.1 + y.2.2.1 + 20 * t ∧ hS h + 2560 ≤ 14791 + 30 * n + 2 * y.1 + 2 * y.2.2.1 + 100 * t
def InvS (xs : Nat → Int32) (t : Nat) (h : PH) (S : Sta) (b n : Nat) (u : Q5) (y : Y4) : Prop := CI h S b n u ∧ MI h S y ∧ WSr S (30 * t) (wmS S) ∧ qN u y.2.1 ∧ qN u y.2.2.2 ∧ rmH h n y t ∧ ∀ j, h.1 0 j = xs j
def InvL (_ : Nat) (xs : Nat → Int32) (t : Nat) (h : PH) : Prop := ∃ S b n u y, InvS xs t h S b n u y
theorem inv_0 (L : Nat) (xs : Nat → Int32) : InvL L xs 0 (hIn xs) := by
  obtain ⟨n1, n2⟩ := hIn_N xs
  refine ⟨S00, 68, 64, u00, y00, CI_0 xs, MI_0 xs, WS_0, by unfold qN; decide, by unfold qN; decide, ⟨?_, ?_⟩, hI_0 xs⟩
  · rw [n1]; decide
  · rw [n2]; decide
theorem nL_b : ∀ n ∈ nL, n ≤ 5040 := by decide
theorem inv_fin {L : Nat} {xs : Nat → Int32} {t : Nat} {h : PH} (hL : L ≤ 3072) (ht : 6 * t ≤ L) (I : InvL L xs t h) : hN h ≤ 601025 ∧ hS h ≤ 7293034 := by
  obtain ⟨S, b, n, u, y, c, m, w, a1, a2, ⟨r1, r2⟩, x⟩ := I
  have n1 := nL_b n (ci_tl c).2.2.1
  have y1 := (mi_op m).2.2.2.1
  have y2 := (mi_tm m).2.2.2.1
  omega
theorem inv_scr {L : Nat} {xs : Nat → Int32} {t : Nat} {h : PH} (I : InvL L xs t h) : ∀ j, h.1 0 j = xs j := by
  obtain ⟨S, b, n, u, y, c, m, w, a1, a2, r, x⟩ := I
  exact x
/-- the rows of the reference are none of the class's growing ones -/
theorem qn_u {h : PH} {S : Sta} {b n : Nat} {u : Q5} (c : CI h S b n u) : ∀ a, 83 ≤ a → a ≤ 101 → qN u a := by
  intro a a1 a2
  have d := (ci_tl c).2.2.2.2.1
  unfold qD qO at d
  unfold qN
  omega
/-- the class answered: its new rows aren't the reference's -/
theorem qn_1 {u u1 : Q5} {N a : Nat} (q : qN u a) (f : qU u u1 N) (ha : a < N) : qN u1 a := by
  unfold qN qU at *
  omega
/-- the reference answered: its new rows aren't the class's -/
theorem qn_2 {u : Q5} {N a a1 : Nat} (d : qD u N) (q : qN u a) (f : a1 = a ∨ N ≤ a1) : qN u a1 := by
  unfold qN qD qO at *
  omega
theorem MI_gr2 {h : PH} {S : Sta} {y : Y4} {k : Nat} (I : MI h S y) : MI (grow h k) S y := by
  obtain ⟨i1, i2, i3, i4, i5, i6, i7, i8, i9, i10, i11, i12, i13, i14⟩ := I
  exact ⟨i1, i2, i3, bkM_eq (h := h) (h' := grow h k) rfl rfl i4, i5, i6, i7, i8, i9, opM_eq i10 rfl rfl rfl (Nat.le_succ _), tmM_eq i11 rfl rfl rfl (Nat.le_succ _), i12, Nat.le_succ_of_le i13, i14⟩
theorem rmH_up {h : PH} {n t : Nat} {y : Y4} (r : rmH h n y t) : rmH h n y (t + 1) := by
  unfold rmH at *
  omega
