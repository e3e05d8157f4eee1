/-! The empty state; each side's calls leave the other alone. -/
def S00 : Sta := mkS [] (-1) ([5], [], []) [] 0 (-1) 0 (fun _ => []) (fun _ => 0) []
def u00 : Q5 := (63, 64, 65, 66, 67)
def y00 : Y4 := (160, 100, 160, 101)
theorem hI_w (xs : Nat → Int32) : ∀ g, g < 6 → winC (hIn xs) g [] ∧ (hIn xs).1 (32 + 5 * g) 5 = iZ ((0 : Nat) : Int) := by
  intro g hg
  have v : ∀ j, j < ([] : List Win).length → wr (hIn xs) g j = wz (([] : List Win).getD j w0) := fun j hj => absurd hj (Nat.not_lt_zero _)
  rcases (show g = 0 ∨ g = 1 ∨ g = 2 ∨ g = 3 ∨ g = 4 ∨ g = 5 by omega) with rfl | rfl | rfl | rfl | rfl | rfl
  · exact ⟨⟨hI_32_4 xs, by decide, v⟩, hI_32_5 xs⟩
  · exact ⟨⟨hI_37_4 xs, by decide, v⟩, hI_37_5 xs⟩
  · exact ⟨⟨hI_42_4 xs, by decide, v⟩, hI_42_5 xs⟩
  · exact ⟨⟨hI_47_4 xs, by decide, v⟩, hI_47_5 xs⟩
  · exact ⟨⟨hI_52_4 xs, by decide, v⟩, hI_52_5 xs⟩
  · exact ⟨⟨hI_57_4 xs, by decide, v⟩, hI_57_5 xs⟩
theorem CI_0 (xs : Nat → Int32) : CI (hIn xs) S00 68 64 u00 := by
  have hn := (hIn_N xs).1
  refine ⟨Sh_hIn xs, .inr rfl, hIn_r_1_7 xs, hIn_r_2_4 xs, ⟨hI_4_1 xs, fun j hj => absurd hj (Nat.not_lt_zero _)⟩, hI_2_7 xs, ⟨.inl ⟨hI_68_5 xs, rfl⟩, hI_68_6 xs, hI_68_7 xs, fun f hf => absurd hf (Nat.not_lt_zero _), fun g hg => absurd hg (Nat.not_lt_zero _)⟩, ⟨hI_1_8 xs, fun j hj => absurd hj (Nat.not_lt_zero _)⟩, hI_1_9 xs, hI_1_10 xs, hI_1_11 xs, hI_w xs, ⟨hI_62_5 xs, Nat.zero_le _, by decide, ⟨hIn_r_62_0 xs, hIn_r_62_1 xs, hIn_r_62_2 xs, hIn_r_62_3 xs, hIn_r_62_4 xs⟩, ?_, fun j hj => absurd hj (Nat.not_lt_zero _)⟩, by rw [hn]; exact Nat.le_refl _⟩
  rw [hn]
  unfold u00 qD qO
  decide
theorem MI_0 (xs : Nat → Int32) : MI (hIn xs) S00 y00 := by
  have hn := (hIn_N xs).1
  refine ⟨Sh_hIn xs, ⟨hI_83_2 xs, fun j hj => absurd hj (Nat.not_lt_zero _)⟩, hI_83_11 xs, ⟨hI_93_0 xs, hI_93_1 xs, hI_93_2 xs, fun j hj => ?_, fun f hf => absurd hf (Nat.not_lt_zero _), fun g hg => absurd hg (Nat.not_lt_zero _)⟩, ⟨hI_83_21 xs, fun j hj => absurd hj (Nat.not_lt_zero _)⟩, hI_83_25 xs, hI_83_26 xs, hI_83_27 xs, fun g hg => ?_, ⟨hI_83_30 xs, by decide, by decide, by decide, hIn_r_83_29 xs, ?_, fun j hj => absurd hj (Nat.not_lt_zero _)⟩, ⟨hI_83_32 xs, by decide, by decide, by decide, hIn_r_83_31 xs, ?_, fun j hj => absurd hj (Nat.not_lt_zero _)⟩, by decide, by rw [hn]; exact Nat.le_refl _, ⟨hL_88_0 xs, hL_88_1 xs, hL_88_2 xs, hL_88_3 xs⟩⟩
  · have e : j = 0 := by
      have : (bkS S00).1.length = 1 := rfl
      omega
    subst e
    exact hI_93_3 xs
  · rcases (show g = 0 ∨ g = 1 ∨ g = 2 ∨ g = 3 ∨ g = 4 ∨ g = 5 by omega) with rfl | rfl | rfl | rfl | rfl | rfl
    · exact hI_99_0 xs
    · exact hI_99_1 xs
    · exact hI_99_2 xs
    · exact hI_99_3 xs
    · exact hI_99_4 xs
    · exact hI_99_5 xs
  · rw [hn]; unfold aO y00; decide
  · rw [hn]; unfold aO y00; decide
theorem WS_0 : WSr S00 0 (wmS S00) := by
  refine ⟨⟨by decide, by decide, fun j hj => ?_, by decide, by decide, fun g hg => absurd hg (Nat.not_lt_zero _)⟩, ⟨fun g hg => absurd hg (Nat.not_lt_zero _), fun F hF => absurd hF List.not_mem_nil, fun g hg => absurd hg (Nat.not_lt_zero _)⟩, ⟨Nat.zero_le _, fun j hj => absurd hj (Nat.not_lt_zero _)⟩, Nat.le_refl _, ⟨by decide, by decide, by decide, by decide, by decide⟩, fun g => ⟨fun z => absurd z (Nat.not_lt_zero _), fun _ => rfl⟩, ⟨?_, fun j hj => absurd hj (Nat.not_lt_zero _)⟩, Nat.zero_le _, byT_nil⟩
  · have e : j = 0 := by
      have : (bkS S00).1.length = 1 := rfl
      omega
    subst e
    exact ⟨by decide, by decide⟩
  · show 0 + lnL (fun _ => []) 6 0 ≤ 42 * 0
    rw [lnL_0]
    exact Nat.le_refl _
theorem shL_62 : ∀ t ∈ shL, t.1 ≠ 62 := by decide
/-- the reference's state stands when the class has answered -/
theorem MI_FX {h h1 : PH} {S : Sta} {y : Y4} {u u1 : Q5} {n n1 : Nat} (I : MI h S y) (f : FX pCl h h1 u u1 n n1) (hu : ∀ a, 83 ≤ a → a ≤ 101 → qN u a) (a1 : qN u y.2.1) (a2 : qN u y.2.2.2) : MI h1 S y := by
  obtain ⟨f1, f2, f3, f4, f5, f6, f7, f8⟩ := f
  obtain ⟨i1, i2, i3, i4, i5, i6, i7, i8, i9, i10, i11, i12, i13, i14⟩ := I
  have ho := i10.2.2.2.2.2.1
  have ht := i11.2.2.2.2.2.1
  unfold aO at ho ht
  have e : ∀ a, 83 ≤ a → a ≤ 101 → h1.1 a = h.1 a := fun a b1 b2 => f3 a (by unfold pCl; omega) (by omega) (hu a b1 b2) (by omega)
  have eo : h1.1 y.2.1 = h.1 y.2.1 := f3 _ (by unfold pCl; omega) (by omega) a1 ho.2
  have et : h1.1 y.2.2.2 = h.1 y.2.2.2 := f3 _ (by unfold pCl; omega) (by omega) a2 ht.2
  have e83 := e 83 (by decide) (by decide)
  refine ⟨fun t hh => ?_, ?_, by rw [e83]; exact i3, bkM_eq (e 93 (by decide) (by decide)) (e 94 (by decide) (by decide)) i4, ?_, by rw [e83]; exact i6, by rw [e83]; exact i7, by rw [e83]; exact i8, by rw [e 99 (by decide) (by decide)]; exact i9, opM_eq i10 (by rw [e83]) (f2 83 29 (by decide)) eo f4, tmM_eq i11 (by rw [e83]) (f2 83 31 (by decide)) et f4, i12, by omega, kyM_e i14 (by rw [f1])⟩
  · by_cases c : t.1 = 62
    · exact absurd c (shL_62 t hh)
    · rw [f2 _ _ c]; exact i1 t hh
  · rw [e83, e 84 (by decide) (by decide)]; exact i2
  · rw [e83, e 96 (by decide) (by decide), e 97 (by decide) (by decide)]; exact i5
