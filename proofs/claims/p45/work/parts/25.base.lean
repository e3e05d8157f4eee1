/-! What never changes of the references, and the class's small methods. -/
def shL : List (Nat × Nat × VR) := [(1, 0, 6, 0, 4), (1, 1, 7, 0, 2), (1, 2, 3, 0, 28), (1, 3, 20, 120, 29), (1, 4, 20, 120, 30), (1, 5, 25, 6, 31), (1, 6, 8, 0, 62), (2, 0, 9, 0, 3), (2, 1, 21, 8, 10), (2, 2, 21, 6, 11), (2, 3, 4, 0, 12), (3, 0, 6, 0, 4), (3, 1, 23, 401, 6), (3, 2, 20, 401, 7), (3, 3, 20, 401, 8), (3, 4, 21, 401, 9), (4, 0, 22, 1600, 5), (13, 0, 20, 8, 14), (13, 1, 20, 8, 15), (13, 2, 20, 8, 16), (13, 3, 24, 6, 17), (13, 4, 5, 0, 18), (17, 0, 4, 0, 22), (17, 1, 4, 0, 23), (17, 2, 4, 0, 24), (17, 3, 4, 0, 25), (17, 4, 4, 0, 26), (17, 5, 4, 0, 27), (18, 0, 23, 400, 19), (18, 1, 20, 400, 20), (18, 2, 20, 32, 21), (31, 0, 10, 0, 32), (31, 1, 10, 0, 37), (31, 2, 10, 0, 42), (31, 3, 10, 0, 47), (31, 4, 10, 0, 52), (31, 5, 10, 0, 57), (32, 0, 20, 128, 33), (32, 1, 20, 128, 34), (32, 2, 20, 128, 35), (32, 3, 20, 128, 36), (37, 0, 20, 128, 38), (37, 1, 20, 128, 39), (37, 2, 20, 128, 40), (37, 3, 20, 128, 41), (42, 0, 20, 128, 43), (42, 1, 20, 128, 44), (42, 2, 20, 128, 45), (42, 3, 20, 128, 46), (47, 0, 20, 128, 48), (47, 1, 20, 128, 49), (47, 2, 20, 128, 50), (47, 3, 20, 128, 51), (52, 0, 20, 128, 53), (52, 1, 20, 128, 54), (52, 2, 20, 128, 55), (52, 3, 20, 128, 56), (57, 0, 20, 128, 58), (57, 1, 20, 128, 59), (57, 2, 20, 128, 60), (57, 3, 20, 128, 61), (68, 0, 20, 8, 69), (68, 1, 20, 8, 70), (68, 2, 20, 8, 71), (68, 3, 24, 6, 72), (68, 4, 5, 0, 73), (72, 0, 4, 0, 77), (72, 1, 4, 0, 78), (72, 2, 4, 0, 79), (72, 3, 4, 0, 80), (72, 4, 4, 0, 81), (72, 5, 4, 0, 82), (73, 0, 23, 400, 74), (73, 1, 20, 400, 75), (73, 2, 20, 32, 76)]
/-- the references that never change -/
def Sh (h : PH) : Prop := ∀ t ∈ shL, h.2.2.1 t.1 t.2.1 = t.2.2
theorem sh_1_0 {h : PH} (s : Sh h) : h.2.2.1 1 0 = (6, 0, 4) := s (1, 0, 6, 0, 4) (by decide)
theorem sh_1_1 {h : PH} (s : Sh h) : h.2.2.1 1 1 = (7, 0, 2) := s (1, 1, 7, 0, 2) (by decide)
theorem sh_1_2 {h : PH} (s : Sh h) : h.2.2.1 1 2 = (3, 0, 28) := s (1, 2, 3, 0, 28) (by decide)
theorem sh_1_3 {h : PH} (s : Sh h) : h.2.2.1 1 3 = (20, 120, 29) := s (1, 3, 20, 120, 29) (by decide)
theorem sh_1_4 {h : PH} (s : Sh h) : h.2.2.1 1 4 = (20, 120, 30) := s (1, 4, 20, 120, 30) (by decide)
theorem sh_1_5 {h : PH} (s : Sh h) : h.2.2.1 1 5 = (25, 6, 31) := s (1, 5, 25, 6, 31) (by decide)
theorem sh_1_6 {h : PH} (s : Sh h) : h.2.2.1 1 6 = (8, 0, 62) := s (1, 6, 8, 0, 62) (by decide)
theorem sh_2_0 {h : PH} (s : Sh h) : h.2.2.1 2 0 = (9, 0, 3) := s (2, 0, 9, 0, 3) (by decide)
theorem sh_2_1 {h : PH} (s : Sh h) : h.2.2.1 2 1 = (21, 8, 10) := s (2, 1, 21, 8, 10) (by decide)
theorem sh_2_2 {h : PH} (s : Sh h) : h.2.2.1 2 2 = (21, 6, 11) := s (2, 2, 21, 6, 11) (by decide)
theorem sh_2_3 {h : PH} (s : Sh h) : h.2.2.1 2 3 = (4, 0, 12) := s (2, 3, 4, 0, 12) (by decide)
theorem sh_3_0 {h : PH} (s : Sh h) : h.2.2.1 3 0 = (6, 0, 4) := s (3, 0, 6, 0, 4) (by decide)
theorem sh_3_1 {h : PH} (s : Sh h) : h.2.2.1 3 1 = (23, 401, 6) := s (3, 1, 23, 401, 6) (by decide)
theorem sh_3_2 {h : PH} (s : Sh h) : h.2.2.1 3 2 = (20, 401, 7) := s (3, 2, 20, 401, 7) (by decide)
theorem sh_3_3 {h : PH} (s : Sh h) : h.2.2.1 3 3 = (20, 401, 8) := s (3, 3, 20, 401, 8) (by decide)
theorem sh_3_4 {h : PH} (s : Sh h) : h.2.2.1 3 4 = (21, 401, 9) := s (3, 4, 21, 401, 9) (by decide)
theorem sh_4_0 {h : PH} (s : Sh h) : h.2.2.1 4 0 = (22, 1600, 5) := s (4, 0, 22, 1600, 5) (by decide)
theorem sh_13_0 {h : PH} (s : Sh h) : h.2.2.1 13 0 = (20, 8, 14) := s (13, 0, 20, 8, 14) (by decide)
theorem sh_13_1 {h : PH} (s : Sh h) : h.2.2.1 13 1 = (20, 8, 15) := s (13, 1, 20, 8, 15) (by decide)
theorem sh_13_2 {h : PH} (s : Sh h) : h.2.2.1 13 2 = (20, 8, 16) := s (13, 2, 20, 8, 16) (by decide)
theorem sh_13_3 {h : PH} (s : Sh h) : h.2.2.1 13 3 = (24, 6, 17) := s (13, 3, 24, 6, 17) (by decide)
theorem sh_13_4 {h : PH} (s : Sh h) : h.2.2.1 13 4 = (5, 0, 18) := s (13, 4, 5, 0, 18) (by decide)
theorem sh_17_0 {h : PH} (s : Sh h) : h.2.2.1 17 0 = (4, 0, 22) := s (17, 0, 4, 0, 22) (by decide)
theorem sh_17_1 {h : PH} (s : Sh h) : h.2.2.1 17 1 = (4, 0, 23) := s (17, 1, 4, 0, 23) (by decide)
theorem sh_17_2 {h : PH} (s : Sh h) : h.2.2.1 17 2 = (4, 0, 24) := s (17, 2, 4, 0, 24) (by decide)
theorem sh_17_3 {h : PH} (s : Sh h) : h.2.2.1 17 3 = (4, 0, 25) := s (17, 3, 4, 0, 25) (by decide)
theorem sh_17_4 {h : PH} (s : Sh h) : h.2.2.1 17 4 = (4, 0, 26) := s (17, 4, 4, 0, 26) (by decide)
theorem sh_17_5 {h : PH} (s : Sh h) : h.2.2.1 17 5 = (4, 0, 27) := s (17, 5, 4, 0, 27) (by decide)
theorem sh_18_0 {h : PH} (s : Sh h) : h.2.2.1 18 0 = (23, 400, 19) := s (18, 0, 23, 400, 19) (by decide)
theorem sh_18_1 {h : PH} (s : Sh h) : h.2.2.1 18 1 = (20, 400, 20) := s (18, 1, 20, 400, 20) (by decide)
theorem sh_18_2 {h : PH} (s : Sh h) : h.2.2.1 18 2 = (20, 32, 21) := s (18, 2, 20, 32, 21) (by decide)
theorem sh_31_0 {h : PH} (s : Sh h) : h.2.2.1 31 0 = (10, 0, 32) := s (31, 0, 10, 0, 32) (by decide)
theorem sh_31_1 {h : PH} (s : Sh h) : h.2.2.1 31 1 = (10, 0, 37) := s (31, 1, 10, 0, 37) (by decide)
theorem sh_31_2 {h : PH} (s : Sh h) : h.2.2.1 31 2 = (10, 0, 42) := s (31, 2, 10, 0, 42) (by decide)
theorem sh_31_3 {h : PH} (s : Sh h) : h.2.2.1 31 3 = (10, 0, 47) := s (31, 3, 10, 0, 47) (by decide)
theorem sh_31_4 {h : PH} (s : Sh h) : h.2.2.1 31 4 = (10, 0, 52) := s (31, 4, 10, 0, 52) (by decide)
theorem sh_31_5 {h : PH} (s : Sh h) : h.2.2.1 31 5 = (10, 0, 57) := s (31, 5, 10, 0, 57) (by decide)
theorem sh_32_0 {h : PH} (s : Sh h) : h.2.2.1 32 0 = (20, 128, 33) := s (32, 0, 20, 128, 33) (by decide)
theorem sh_32_1 {h : PH} (s : Sh h) : h.2.2.1 32 1 = (20, 128, 34) := s (32, 1, 20, 128, 34) (by decide)
theorem sh_32_2 {h : PH} (s : Sh h) : h.2.2.1 32 2 = (20, 128, 35) := s (32, 2, 20, 128, 35) (by decide)
theorem sh_32_3 {h : PH} (s : Sh h) : h.2.2.1 32 3 = (20, 128, 36) := s (32, 3, 20, 128, 36) (by decide)
theorem sh_37_0 {h : PH} (s : Sh h) : h.2.2.1 37 0 = (20, 128, 38) := s (37, 0, 20, 128, 38) (by decide)
theorem sh_37_1 {h : PH} (s : Sh h) : h.2.2.1 37 1 = (20, 128, 39) := s (37, 1, 20, 128, 39) (by decide)
theorem sh_37_2 {h : PH} (s : Sh h) : h.2.2.1 37 2 = (20, 128, 40) := s (37, 2, 20, 128, 40) (by decide)
theorem sh_37_3 {h : PH} (s : Sh h) : h.2.2.1 37 3 = (20, 128, 41) := s (37, 3, 20, 128, 41) (by decide)
theorem sh_42_0 {h : PH} (s : Sh h) : h.2.2.1 42 0 = (20, 128, 43) := s (42, 0, 20, 128, 43) (by decide)
theorem sh_42_1 {h : PH} (s : Sh h) : h.2.2.1 42 1 = (20, 128, 44) := s (42, 1, 20, 128, 44) (by decide)
theorem sh_42_2 {h : PH} (s : Sh h) : h.2.2.1 42 2 = (20, 128, 45) := s (42, 2, 20, 128, 45) (by decide)
theorem sh_42_3 {h : PH} (s : Sh h) : h.2.2.1 42 3 = (20, 128, 46) := s (42, 3, 20, 128, 46) (by decide)
theorem sh_47_0 {h : PH} (s : Sh h) : h.2.2.1 47 0 = (20, 128, 48) := s (47, 0, 20, 128, 48) (by decide)
theorem sh_47_1 {h : PH} (s : Sh h) : h.2.2.1 47 1 = (20, 128, 49) := s (47, 1, 20, 128, 49) (by decide)
theorem sh_47_2 {h : PH} (s : Sh h) : h.2.2.1 47 2 = (20, 128, 50) := s (47, 2, 20, 128, 50) (by decide)
theorem sh_47_3 {h : PH} (s : Sh h) : h.2.2.1 47 3 = (20, 128, 51) := s (47, 3, 20, 128, 51) (by decide)
theorem sh_52_0 {h : PH} (s : Sh h) : h.2.2.1 52 0 = (20, 128, 53) := s (52, 0, 20, 128, 53) (by decide)
theorem sh_52_1 {h : PH} (s : Sh h) : h.2.2.1 52 1 = (20, 128, 54) := s (52, 1, 20, 128, 54) (by decide)
theorem sh_52_2 {h : PH} (s : Sh h) : h.2.2.1 52 2 = (20, 128, 55) := s (52, 2, 20, 128, 55) (by decide)
theorem sh_52_3 {h : PH} (s : Sh h) : h.2.2.1 52 3 = (20, 128, 56) := s (52, 3, 20, 128, 56) (by decide)
theorem sh_57_0 {h : PH} (s : Sh h) : h.2.2.1 57 0 = (20, 128, 58) := s (57, 0, 20, 128, 58) (by decide)
theorem sh_57_1 {h : PH} (s : Sh h) : h.2.2.1 57 1 = (20, 128, 59) := s (57, 1, 20, 128, 59) (by decide)
theorem sh_57_2 {h : PH} (s : Sh h) : h.2.2.1 57 2 = (20, 128, 60) := s (57, 2, 20, 128, 60) (by decide)
theorem sh_57_3 {h : PH} (s : Sh h) : h.2.2.1 57 3 = (20, 128, 61) := s (57, 3, 20, 128, 61) (by decide)
theorem sh_68_0 {h : PH} (s : Sh h) : h.2.2.1 68 0 = (20, 8, 69) := s (68, 0, 20, 8, 69) (by decide)
theorem sh_68_1 {h : PH} (s : Sh h) : h.2.2.1 68 1 = (20, 8, 70) := s (68, 1, 20, 8, 70) (by decide)
theorem sh_68_2 {h : PH} (s : Sh h) : h.2.2.1 68 2 = (20, 8, 71) := s (68, 2, 20, 8, 71) (by decide)
theorem sh_68_3 {h : PH} (s : Sh h) : h.2.2.1 68 3 = (24, 6, 72) := s (68, 3, 24, 6, 72) (by decide)
theorem sh_68_4 {h : PH} (s : Sh h) : h.2.2.1 68 4 = (5, 0, 73) := s (68, 4, 5, 0, 73) (by decide)
theorem sh_72_0 {h : PH} (s : Sh h) : h.2.2.1 72 0 = (4, 0, 77) := s (72, 0, 4, 0, 77) (by decide)
theorem sh_72_1 {h : PH} (s : Sh h) : h.2.2.1 72 1 = (4, 0, 78) := s (72, 1, 4, 0, 78) (by decide)
theorem sh_72_2 {h : PH} (s : Sh h) : h.2.2.1 72 2 = (4, 0, 79) := s (72, 2, 4, 0, 79) (by decide)
theorem sh_72_3 {h : PH} (s : Sh h) : h.2.2.1 72 3 = (4, 0, 80) := s (72, 3, 4, 0, 80) (by decide)
theorem sh_72_4 {h : PH} (s : Sh h) : h.2.2.1 72 4 = (4, 0, 81) := s (72, 4, 4, 0, 81) (by decide)
theorem sh_72_5 {h : PH} (s : Sh h) : h.2.2.1 72 5 = (4, 0, 82) := s (72, 5, 4, 0, 82) (by decide)
theorem sh_73_0 {h : PH} (s : Sh h) : h.2.2.1 73 0 = (23, 400, 74) := s (73, 0, 23, 400, 74) (by decide)
theorem sh_73_1 {h : PH} (s : Sh h) : h.2.2.1 73 1 = (20, 400, 75) := s (73, 1, 20, 400, 75) (by decide)
theorem sh_73_2 {h : PH} (s : Sh h) : h.2.2.1 73 2 = (20, 32, 76) := s (73, 2, 20, 32, 76) (by decide)
theorem Sh_eq {h h' : PH} (s : Sh h) (e : h'.2 = h.2) : Sh h' := by
  intro t ht
  rw [e]
  exact s t ht
theorem Sh_R {h : PH} (s : Sh h) {a k : Nat} {v : VR} (e : shL.all (fun t => !(Nat.beq t.1 a && Nat.beq t.2.1 k)) = true) : Sh (setR h a k v) := by
  intro t ht
  have h1 := List.all_eq_true.mp e t ht
  have h2 : ¬ (t.1 = a ∧ t.2.1 = k) := by
    intro z
    rw [z.1, z.2, Nat.beq_refl, Nat.beq_refl] at h1
    cases h1
  show (if t.1 = a ∧ t.2.1 = k then v else h.2.2.1 t.1 t.2.1) = _
  rw [if_neg h2]
  exact s t ht
theorem Sh_N {h : PH} (s : Sh h) {a k : Nat} {v : VR} (e : 102 < a) : Sh (setR h a k v) := by
  intro t ht
  have h1 : ∀ t ∈ shL, t.1 ≤ 102 := by decide
  have h2 : ¬ (t.1 = a ∧ t.2.1 = k) := by
    have := h1 t ht
    omega
  show (if t.1 = a ∧ t.2.1 = k then v else h.2.2.1 t.1 t.2.1) = _
  rw [if_neg h2]
  exact s t ht
theorem lt6 {g : Nat} (h : g < 6) : g = 0 ∨ g = 1 ∨ g = 2 ∨ g = 3 ∨ g = 4 ∨ g = 5 := by omega
theorem sh_w0 {h : PH} (s : Sh h) {g : Nat} (hg : g < 6) : h.2.2.1 (32 + 5 * g) 0 = (20, 128, 33 + 5 * g) := by
  rcases lt6 hg with rfl | rfl | rfl | rfl | rfl | rfl
  · exact s (32, 0, 20, 128, 33) (by decide)
  · exact s (37, 0, 20, 128, 38) (by decide)
  · exact s (42, 0, 20, 128, 43) (by decide)
  · exact s (47, 0, 20, 128, 48) (by decide)
  · exact s (52, 0, 20, 128, 53) (by decide)
  · exact s (57, 0, 20, 128, 58) (by decide)
theorem sh_w1 {h : PH} (s : Sh h) {g : Nat} (hg : g < 6) : h.2.2.1 (32 + 5 * g) 1 = (20, 128, 34 + 5 * g) := by
  rcases lt6 hg with rfl | rfl | rfl | rfl | rfl | rfl
  · exact s (32, 1, 20, 128, 34) (by decide)
  · exact s (37, 1, 20, 128, 39) (by decide)
  · exact s (42, 1, 20, 128, 44) (by decide)
  · exact s (47, 1, 20, 128, 49) (by decide)
  · exact s (52, 1, 20, 128, 54) (by decide)
  · exact s (57, 1, 20, 128, 59) (by decide)
theorem sh_w2 {h : PH} (s : Sh h) {g : Nat} (hg : g < 6) : h.2.2.1 (32 + 5 * g) 2 = (20, 128, 35 + 5 * g) := by
  rcases lt6 hg with rfl | rfl | rfl | rfl | rfl | rfl
  · exact s (32, 2, 20, 128, 35) (by decide)
  · exact s (37, 2, 20, 128, 40) (by decide)
  · exact s (42, 2, 20, 128, 45) (by decide)
  · exact s (47, 2, 20, 128, 50) (by decide)
  · exact s (52, 2, 20, 128, 55) (by decide)
  · exact s (57, 2, 20, 128, 60) (by decide)
theorem sh_w3 {h : PH} (s : Sh h) {g : Nat} (hg : g < 6) : h.2.2.1 (32 + 5 * g) 3 = (20, 128, 36 + 5 * g) := by
  rcases lt6 hg with rfl | rfl | rfl | rfl | rfl | rfl
  · exact s (32, 3, 20, 128, 36) (by decide)
  · exact s (37, 3, 20, 128, 41) (by decide)
  · exact s (42, 3, 20, 128, 46) (by decide)
  · exact s (47, 3, 20, 128, 51) (by decide)
  · exact s (52, 3, 20, 128, 56) (by decide)
  · exact s (57, 3, 20, 128, 61) (by decide)
theorem sh_31 {h : PH} (s : Sh h) {g : Nat} (hg : g < 6) : h.2.2.1 31 g = (10, 0, 32 + 5 * g) := by
  rcases lt6 hg with rfl | rfl | rfl | rfl | rfl | rfl
  · exact s (31, 0, 10, 0, 32) (by decide)
  · exact s (31, 1, 10, 0, 37) (by decide)
  · exact s (31, 2, 10, 0, 42) (by decide)
  · exact s (31, 3, 10, 0, 47) (by decide)
  · exact s (31, 4, 10, 0, 52) (by decide)
  · exact s (31, 5, 10, 0, 57) (by decide)
theorem sh_b0 {h : PH} (s : Sh h) {b : Nat} (hb : b = 13 ∨ b = 68) : h.2.2.1 b 0 = (20, 8, b + 1) := by
  rcases hb with rfl | rfl
  · exact s (13, 0, 20, 8, 14) (by decide)
  · exact s (68, 0, 20, 8, 69) (by decide)
theorem sh_b1 {h : PH} (s : Sh h) {b : Nat} (hb : b = 13 ∨ b = 68) : h.2.2.1 b 1 = (20, 8, b + 2) := by
  rcases hb with rfl | rfl
  · exact s (13, 1, 20, 8, 15) (by decide)
  · exact s (68, 1, 20, 8, 70) (by decide)
theorem sh_b2 {h : PH} (s : Sh h) {b : Nat} (hb : b = 13 ∨ b = 68) : h.2.2.1 b 2 = (20, 8, b + 3) := by
  rcases hb with rfl | rfl
  · exact s (13, 2, 20, 8, 16) (by decide)
  · exact s (68, 2, 20, 8, 71) (by decide)
theorem sh_b3 {h : PH} (s : Sh h) {b : Nat} (hb : b = 13 ∨ b = 68) : h.2.2.1 b 3 = (24, 6, b + 4) := by
  rcases hb with rfl | rfl
  · exact s (13, 3, 24, 6, 17) (by decide)
  · exact s (68, 3, 24, 6, 72) (by decide)
theorem sh_b4 {h : PH} (s : Sh h) {b : Nat} (hb : b = 13 ∨ b = 68) : h.2.2.1 b 4 = (5, 0, b + 5) := by
  rcases hb with rfl | rfl
  · exact s (13, 4, 5, 0, 18) (by decide)
  · exact s (68, 4, 5, 0, 73) (by decide)
theorem sh_p0 {h : PH} (s : Sh h) {b : Nat} (hb : b = 13 ∨ b = 68) : h.2.2.1 (b + 5) 0 = (23, 400, b + 6) := by
  rcases hb with rfl | rfl
  · exact s (18, 0, 23, 400, 19) (by decide)
  · exact s (73, 0, 23, 400, 74) (by decide)
theorem sh_p1 {h : PH} (s : Sh h) {b : Nat} (hb : b = 13 ∨ b = 68) : h.2.2.1 (b + 5) 1 = (20, 400, b + 7) := by
  rcases hb with rfl | rfl
  · exact s (18, 1, 20, 400, 20) (by decide)
  · exact s (73, 1, 20, 400, 75) (by decide)
theorem sh_p2 {h : PH} (s : Sh h) {b : Nat} (hb : b = 13 ∨ b = 68) : h.2.2.1 (b + 5) 2 = (20, 32, b + 8) := by
  rcases hb with rfl | rfl
  · exact s (18, 2, 20, 32, 21) (by decide)
  · exact s (73, 2, 20, 32, 76) (by decide)
theorem sh_bg {h : PH} (s : Sh h) {b : Nat} (hb : b = 13 ∨ b = 68) {g : Nat} (hg : g < 6) : h.2.2.1 (b + 4) g = (4, 0, b + 9 + g) := by
  rcases hb with rfl | rfl
  · rcases lt6 hg with rfl | rfl | rfl | rfl | rfl | rfl
    · exact s (17, 0, 4, 0, 22) (by decide)
    · exact s (17, 1, 4, 0, 23) (by decide)
    · exact s (17, 2, 4, 0, 24) (by decide)
    · exact s (17, 3, 4, 0, 25) (by decide)
    · exact s (17, 4, 4, 0, 26) (by decide)
    · exact s (17, 5, 4, 0, 27) (by decide)
  · rcases lt6 hg with rfl | rfl | rfl | rfl | rfl | rfl
    · exact s (72, 0, 4, 0, 77) (by decide)
    · exact s (72, 1, 4, 0, 78) (by decide)
    · exact s (72, 2, 4, 0, 79) (by decide)
    · exact s (72, 3, 4, 0, 80) (by decide)
    · exact s (72, 4, 4, 0, 81) (by decide)
    · exact s (72, 5, 4, 0, 82) (by decide)
theorem setI_self (h : PH) (a k : Nat) (v : Int32) : (setI h a k v).1 a k = v := by
  show (if a = a ∧ k = k then v else h.1 a k) = v
  rw [if_pos ⟨rfl, rfl⟩]
theorem setI_ne {h : PH} {a k b j : Nat} {v : Int32} (e : ¬ (b = a ∧ j = k)) : (setI h a k v).1 b j = h.1 b j := if_neg e
theorem setI_oth {h : PH} {a k b : Nat} {v : Int32} (e : b ≠ a) : (setI h a k v).1 b = h.1 b := by
  funext j
  exact if_neg (fun z => e z.1)
abbrev vI (x : Int32) : VV := .inl x
abbrev vL (x : Int64) : VV := .inr (.inl x)
abbrev vR (x : VR) : VV := .inr (.inr (.inr x))
abbrev vE (n : Nat) : VV := .inr (.inr (.inr (40, 0, n)))
theorem iZ_ix {z : Int} {n : Nat} (e : z = (n : Int)) (h : n < 2147483648) : (iZ z).toNatClampNeg = n := by
  rw [e, iZ_cl (by omega) (by omega)]
  omega
theorem Ev.retb {d m : Nat} {c : Cf} {x : Int32} {h : PH} {Q : Rs → PH → Prop} (hs : step m c = if x = 0 ∨ x = 1 then some (.inr (.inr (.inl (some (.inl x)), h))) else none) (e : x = 0 ∨ x = 1) (q : Q (.inl (some (.inl x))) h) : Ev d m c Q := by
  rw [if_pos e] at hs
  exact Ev.ret hs q
theorem Ev.stb {d m : Nat} {c c' : Cf} {x : Int32} {Q : Rs → PH → Prop} (e : x = 0 ∨ x = 1) (hs : step m c = if x = 0 ∨ x = 1 then some (.inl c') else none) (k : Ev d m c' Q) : Ev d m c Q := by
  rw [if_pos e] at hs
  exact Ev.st hs k
theorem Rv.mono {d m : Nat} {a : List VV} {h h1 h2 : PH} {v w : Option VV} (r : Rv d m a h v h1) (e : v = w) (e2 : h1 = h2) : Rv d m a h w h2 := by
  subst e; subst e2; exact r
theorem Rv.of {d m : Nat} {a : List VV} {h h' : PH} {v : Option VV} (r : ∀ Q : Rs → PH → Prop, Q (.inl v) h' → Rn d m a h Q) : Rv d m a h v h' := r _ ⟨rfl, rfl⟩
theorem Rn.of {d m : Nat} {a : List VV} {h h' : PH} {v : Option VV} {Q : Rs → PH → Prop} (r : Rv d m a h v h') (q : Q (.inl v) h') : Rn d m a h Q := Ev.mono r (fun _ _ e => by rw [e.1, e.2]; exact q)
theorem sp_at {d n a k : Nat} {x : Int} {v : Int32} {h : PH} (hz : x = (k : Int)) (hk : k < n) (hn : n ≤ 100000) (hv : h.1 a k = v) : Rv d 36 [.inr (.inr (.inr (20, n, a))), .inl (iZ (x))] h (some (.inl v)) h := Rv.of fun Q q => by
  refine Ev.sts 1 (c' := (1, [some (.inr (.inr (.inr (20, n, a)))), some (.inl (iZ (x)))], [.inl (iZ (x))], h)) rfl ?_
  refine Ev.brF (p := (iZ (x)) < (iZ (0))) (c1 := (16, [some (.inr (.inr (.inr (20, n, a)))), some (.inl (iZ (x)))], [], h)) (c2 := (4, [some (.inr (.inr (.inr (20, n, a)))), some (.inl (iZ (x)))], [], h)) (fun c_ => absurd ((iZ_lt ⟨by omega, by omega⟩ ⟨by omega, by omega⟩).mp c_) (by omega)) rfl ?_
  refine Ev.sts 2 (c' := (6, [some (.inr (.inr (.inr (20, n, a)))), some (.inl (iZ (x)))], [.inr (.inr (.inr (20, n, a))), .inl (iZ (x))], h)) rfl ?_
  refine Ev.gv (w := (iZ (n))) rfl (iZ_nat _) ?_
  refine Ev.brF (p := (iZ (n)) ≤ (iZ (x))) (c1 := (16, [some (.inr (.inr (.inr (20, n, a)))), some (.inl (iZ (x)))], [], h)) (c2 := (10, [some (.inr (.inr (.inr (20, n, a)))), some (.inl (iZ (x)))], [], h)) (fun c_ => absurd ((iZ_le ⟨by omega, by omega⟩ ⟨by omega, by omega⟩).mp c_) (by omega)) rfl ?_
  refine Ev.sts 2 (c' := (12, [some (.inr (.inr (.inr (20, n, a)))), some (.inl (iZ (x)))], [.inl (iZ (x)), .inr (.inr (.inr (20, n, a)))], h)) rfl ?_
  refine Ev.ldv (j := (iZ (x))) (n := n) (w := .inl (v)) (iZ_in (by omega) (by omega) (by omega)) rfl (by rw [iZ_ix (n := k) (by omega) (by omega)]; exact congrArg vI hv) ?_
  refine Ev.sts 1 (c' := (17, [some (.inr (.inr (.inr (20, n, a)))), some (.inl (iZ (x)))], [.inl (v)], h)) rfl ?_
  exact Ev.ret rfl (q)

theorem sp_at_out {d n a : Nat} {x : Int} {h : PH} (hx : -2147483648 ≤ x ∧ x < 2147483648) (hn : n ≤ 100000) (hk : ¬ (0 ≤ x ∧ x < (n : Int))) : Rv d 36 [.inr (.inr (.inr (20, n, a))), .inl (iZ (x))] h (some (.inl (iZ 0))) h := Rv.of fun Q q => by
  refine Ev.sts 1 (c' := (1, [some (.inr (.inr (.inr (20, n, a)))), some (.inl (iZ (x)))], [.inl (iZ (x))], h)) rfl ?_
  refine Ev.brc (p := (iZ (x)) < (iZ (0))) (q := ((x : Int)) < 0) (c1 := (16, [some (.inr (.inr (.inr (20, n, a)))), some (.inl (iZ (x)))], [], h)) (c2 := (4, [some (.inr (.inr (.inr (20, n, a)))), some (.inl (iZ (x)))], [], h)) rfl (iZ_lt ⟨by omega, by omega⟩ ⟨by omega, by omega⟩) (fun c0 => ?_) (fun c0 => ?_)
  · refine Ev.sts 1 (c' := (17, [some (.inr (.inr (.inr (20, n, a)))), some (.inl (iZ (x)))], [.inl (iZ (0))], h)) rfl ?_
    exact Ev.ret rfl (q)
  · refine Ev.sts 2 (c' := (6, [some (.inr (.inr (.inr (20, n, a)))), some (.inl (iZ (x)))], [.inr (.inr (.inr (20, n, a))), .inl (iZ (x))], h)) rfl ?_
    refine Ev.gv (w := (iZ (n))) rfl (iZ_nat _) ?_
    refine Ev.brc (p := (iZ (n)) ≤ (iZ (x))) (q := ((n : Int)) ≤ x) (c1 := (16, [some (.inr (.inr (.inr (20, n, a)))), some (.inl (iZ (x)))], [], h)) (c2 := (10, [some (.inr (.inr (.inr (20, n, a)))), some (.inl (iZ (x)))], [], h)) rfl (iZ_le ⟨by omega, by omega⟩ ⟨by omega, by omega⟩) (fun c1 => ?_) (fun c1 => ?_)
    · refine Ev.sts 1 (c' := (17, [some (.inr (.inr (.inr (20, n, a)))), some (.inl (iZ (x)))], [.inl (iZ (0))], h)) rfl ?_
      exact Ev.ret rfl (q)
    · exact absurd ⟨by omega, by omega⟩ hk

/-- bit f of t -/
def bitP (t f : Int32) : Prop := (t >>> (f &&& 31)) &&& 1 = 1

theorem sp_takes {d : Nat} {f t : Int32} {h : PH} {Q : Rs → PH → Prop} (k1 : bitP t f → Q (.inl (some (.inl (iZ 1)))) h) (k0 : ¬ bitP t f → Q (.inl (some (.inl (iZ 0)))) h) : Rn d 44 [.inl (f), .inl (t)] h Q := by
  refine Ev.sts 6 (c' := (6, [some (.inl (f)), some (.inl (t))], [.inl (iZ (1)), .inl (((t >>> (f &&& 31)) &&& (iZ (1))))], h)) rfl ?_
  refine Ev.br (p := ¬ ((t >>> (f &&& 31)) &&& (iZ (1))) = (iZ (1))) (c1 := (13, [some (.inl (f)), some (.inl (t))], [], h)) (c2 := (9, [some (.inl (f)), some (.inl (t))], [], h)) rfl (fun c0 => ?_) (fun c0 => ?_)
  · refine Ev.sts 1 (c' := (14, [some (.inl (f)), some (.inl (t))], [.inl (iZ (0))], h)) rfl ?_
    exact Ev.ret rfl (k0 c0)
  · refine Ev.sts 2 (c' := (14, [some (.inl (f)), some (.inl (t))], [.inl (iZ (1))], h)) rfl ?_
    exact Ev.ret rfl (k1 (Classical.not_not.mp c0))

theorem sp_isHour {d : Nat} {x : Int} {h : PH} {Q : Rs → PH → Prop} (hx : -2147483648 ≤ x ∧ x < 2147483648) (k1 : 0 ≤ x ∧ x ≤ 999 → Q (.inl (some (.inl (iZ 1)))) h) (k0 : ¬ (0 ≤ x ∧ x ≤ 999) → Q (.inl (some (.inl (iZ 0)))) h) : Rn d 75 [.inl (iZ (x))] h Q := by
  refine Ev.sts 1 (c' := (1, [some (.inl (iZ (x)))], [.inl (iZ (x))], h)) rfl ?_
  refine Ev.brc (p := (iZ (x)) < (iZ (0))) (q := ((x : Int)) < 0) (c1 := (15, [some (.inl (iZ (x)))], [], h)) (c2 := (4, [some (.inl (iZ (x)))], [], h)) rfl (iZ_lt ⟨by omega, by omega⟩ ⟨by omega, by omega⟩) (fun c0 => ?_) (fun c0 => ?_)
  · refine Ev.sts 1 (c' := (16, [some (.inl (iZ (x)))], [.inl (iZ (0))], h)) rfl ?_
    exact Ev.ret rfl (k0 (fun n => by omega))
  · refine Ev.sts 2 (c' := (8, [some (.inl (iZ (x)))], [.inl (iZ (999)), .inl (iZ (x))], h)) rfl ?_
    refine Ev.brc (p := (iZ (999)) < (iZ (x))) (q := ((999 : Int)) < x) (c1 := (15, [some (.inl (iZ (x)))], [], h)) (c2 := (11, [some (.inl (iZ (x)))], [], h)) rfl (iZ_lt ⟨by omega, by omega⟩ ⟨by omega, by omega⟩) (fun c1 => ?_) (fun c1 => ?_)
    · refine Ev.sts 1 (c' := (16, [some (.inl (iZ (x)))], [.inl (iZ (0))], h)) rfl ?_
      exact Ev.ret rfl (k0 (fun n => by omega))
    · refine Ev.sts 2 (c' := (16, [some (.inl (iZ (x)))], [.inl (iZ (1))], h)) rfl ?_
      exact Ev.ret rfl (k1 ⟨by omega, by omega⟩)

