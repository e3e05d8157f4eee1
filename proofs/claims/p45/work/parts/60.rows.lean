/-! How many windows a goose can have. -/
theorem mul_gap {st a b : Int} (hs : 1 ≤ st) (ha : a % st = 0) (hb : b % st = 0) (h : a < b) : a + st ≤ b := by
  have e1 := Int.mul_ediv_add_emod a st
  have e2 := Int.mul_ediv_add_emod b st
  rw [ha, Int.add_zero] at e1
  rw [hb, Int.add_zero] at e2
  rw [← e1, ← e2] at h ⊢
  have h1 : a / st < b / st := Int.lt_of_mul_lt_mul_left h (by omega)
  have h2 : st * (a / st + 1) ≤ st * (b / st) := Int.mul_le_mul_of_nonneg_left (by omega) (by omega)
  rw [Int.mul_add, Int.mul_one] at h2
  exact h2
theorem row_len {st hi : Int} (hs : 1 ≤ st) : ∀ (W : List Win) (a : Int), a ≤ hi + st → (∀ w ∈ W, a ≤ w.1 ∧ w.1 ≤ hi ∧ w.1 % st = 0) → W.Pairwise (fun x y => x.1 < y.1) → st * (W.length : Int) ≤ hi - a + st := by
  intro W
  induction W with
  | nil => intro a h _ _; show st * 0 ≤ _; rw [Int.mul_zero]; omega
  | cons w W ih =>
    intro a h hw hp
    obtain ⟨p1, p2⟩ := List.pairwise_cons.mp hp
    obtain ⟨w1, w2, w3⟩ := hw w List.mem_cons_self
    have i := ih (w.1 + st) (by omega) (fun x hx => by
      obtain ⟨x1, x2, x3⟩ := hw x (List.mem_cons_of_mem _ hx)
      exact ⟨mul_gap hs w3 x3 (p1 x hx), x2, x3⟩) p2
    show st * ((W.length + 1 : Nat) : Int) ≤ _
    rw [show ((W.length + 1 : Nat) : Int) = (W.length : Int) + 1 from rfl, Int.mul_add, Int.mul_one]
    omega
theorem row_105 {st wd gr wm : Int} (hs : 1 ≤ st) (h7 : wd < 7 * st) (h1 : 1 ≤ wd) (hw : gr - 99 ≤ wm) {W : List Win} (hp : W.Pairwise (fun x y => x.1 < y.1)) (h : ∀ w ∈ W, w.1 ≤ gr ∧ w.1 % st = 0 ∧ w.2.1 = w.1 + wd ∧ wm < w.2.1) : W.length ≤ 105 := by
  by_cases z : W = []
  · subst z; exact Nat.zero_le _
  · obtain ⟨w, hm⟩ := List.exists_mem_of_ne_nil W z
    obtain ⟨x1, x2, x3, x4⟩ := h w hm
    have r := row_len hs W (gr - 98 - wd) (hi := gr) (by omega) (fun v hv => by
      obtain ⟨v1, v2, v3, v4⟩ := h v hv
      exact ⟨by omega, v1, v2⟩) hp
    have l : (W.length : Int) ≤ 105 := by
      by_cases c : (W.length : Int) ≤ 105
      · exact c
      · have m : st * 106 ≤ st * (W.length : Int) := Int.mul_le_mul_of_nonneg_left (by omega) (by omega)
        omega
    omega
