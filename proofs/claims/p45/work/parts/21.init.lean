/-! The stream is made. -/
noncomputable def sx_1 (xs : Nat → Int32) : PH := grow (grow (h0 xs) 12) 8
noncomputable def sx_2 (xs : Nat → Int32) : PH := grow (sx_1 xs) 7
noncomputable def sx_3 (xs : Nat → Int32) : PH := grow (sx_2 xs) 2
noncomputable def sx_4 (xs : Nat → Int32) : PH := setR (grow (sx_3 xs) 1600) 4 0 (22, 1600, 5)
theorem sx_c1 (xs : Nat → Int32) (d : Nat) : Rv (d + 0) 103 [.inr (.inr (.inr (6, 0, 4)))] (sx_3 xs) none (sx_4 xs) := by
  refine Ev.sts 6 (c' := (13, [some (.inr (.inr (.inr (6, 0, 4))))], [], sx_4 xs)) rfl ?_
  exact Ev.ret rfl ⟨rfl, rfl⟩
noncomputable def sx_5 (xs : Nat → Int32) : PH := setR (grow (setR (grow (setR (grow (setR (grow (setR (sx_4 xs) 3 0 (6, 0, 4)) 401) 3 1 (23, 401, 6)) 401) 3 2 (20, 401, 7)) 401) 3 3 (20, 401, 8)) 401) 3 4 (21, 401, 9)
theorem sx_c2 (xs : Nat → Int32) (d : Nat) : Rv (d + 1) 137 [.inr (.inr (.inr (9, 0, 3)))] (sx_2 xs) none (sx_5 xs) := by
  refine Ev.sts 5 (c' := (9, [some (.inr (.inr (.inr (9, 0, 3))))], [.inr (.inr (.inr (6, 0, 4))), .inr (.inr (.inr (6, 0, 4))), .inr (.inr (.inr (9, 0, 3)))], sx_3 xs)) rfl ?_
  refine Ev.callv (a := [.inr (.inr (.inr (6, 0, 4)))]) rfl (sx_c1 xs (d + 0)) ?_
  refine Ev.sts 17 (c' := (52, [some (.inr (.inr (.inr (9, 0, 3))))], [], sx_5 xs)) rfl ?_
  exact Ev.ret rfl ⟨rfl, rfl⟩
noncomputable def sx_6 (xs : Nat → Int32) : PH := grow (setR (grow (setR (grow (setR (sx_5 xs) 2 0 (9, 0, 3)) 8) 2 1 (21, 8, 10)) 6) 2 2 (21, 6, 11)) 7
noncomputable def sx_7 (xs : Nat → Int32) : PH := setR (setI (setI (sx_6 xs) 12 2 (1)) 12 3 (1)) 12 4 (40, 0, 21)
theorem sx_c3 (xs : Nat → Int32) (d : Nat) : Rv (d + 0) 92 [.inr (.inr (.inr (4, 0, 12)))] (sx_6 xs) none (sx_7 xs) := by
  refine Ev.sts 11 (c' := (21, [some (.inr (.inr (.inr (4, 0, 12))))], [], sx_7 xs)) rfl ?_
  exact Ev.ret rfl ⟨rfl, rfl⟩
noncomputable def sx_8 (xs : Nat → Int32) : PH := grow (setR (sx_7 xs) 2 3 (4, 0, 12)) 8
noncomputable def sx_9 (xs : Nat → Int32) : PH := grow (setR (grow (setR (grow (setR (grow (setR (grow (sx_8 xs) 8) 13 0 (20, 8, 14)) 8) 13 1 (20, 8, 15)) 8) 13 2 (20, 8, 16)) 6) 13 3 (24, 6, 17)) 5
noncomputable def sx_10 (xs : Nat → Int32) : PH := setR (grow (setR (grow (setR (grow (sx_9 xs) 400) 18 0 (23, 400, 19)) 400) 18 1 (20, 400, 20)) 32) 18 2 (20, 32, 21)
theorem sx_c4 (xs : Nat → Int32) (d : Nat) : Rv (d + 0) 96 [.inr (.inr (.inr (5, 0, 18)))] (sx_9 xs) none (sx_10 xs) := by
  refine Ev.sts 14 (c' := (31, [some (.inr (.inr (.inr (5, 0, 18))))], [], sx_10 xs)) rfl ?_
  exact Ev.ret rfl ⟨rfl, rfl⟩
noncomputable def sx_11 (xs : Nat → Int32) : PH := setR (sx_10 xs) 13 4 (5, 0, 18)
noncomputable def sx_12 (xs : Nat → Int32) : PH := grow (sx_11 xs) 7
noncomputable def sx_13 (xs : Nat → Int32) : PH := setR (setI (setI (sx_12 xs) 22 2 (1)) 22 3 (1)) 22 4 (40, 0, 21)
theorem sx_c5 (xs : Nat → Int32) (d : Nat) : Rv (d + 0) 92 [.inr (.inr (.inr (4, 0, 22)))] (sx_12 xs) none (sx_13 xs) := by
  refine Ev.sts 11 (c' := (21, [some (.inr (.inr (.inr (4, 0, 22))))], [], sx_13 xs)) rfl ?_
  exact Ev.ret rfl ⟨rfl, rfl⟩
noncomputable def sx_14 (xs : Nat → Int32) : PH := setR (sx_13 xs) 17 0 (4, 0, 22)
noncomputable def sx_15 (xs : Nat → Int32) : PH := grow (sx_14 xs) 7
noncomputable def sx_16 (xs : Nat → Int32) : PH := setR (setI (setI (sx_15 xs) 23 2 (1)) 23 3 (1)) 23 4 (40, 0, 21)
theorem sx_c6 (xs : Nat → Int32) (d : Nat) : Rv (d + 0) 92 [.inr (.inr (.inr (4, 0, 23)))] (sx_15 xs) none (sx_16 xs) := by
  refine Ev.sts 11 (c' := (21, [some (.inr (.inr (.inr (4, 0, 23))))], [], sx_16 xs)) rfl ?_
  exact Ev.ret rfl ⟨rfl, rfl⟩
noncomputable def sx_17 (xs : Nat → Int32) : PH := setR (sx_16 xs) 17 1 (4, 0, 23)
noncomputable def sx_18 (xs : Nat → Int32) : PH := grow (sx_17 xs) 7
noncomputable def sx_19 (xs : Nat → Int32) : PH := setR (setI (setI (sx_18 xs) 24 2 (1)) 24 3 (1)) 24 4 (40, 0, 21)
theorem sx_c7 (xs : Nat → Int32) (d : Nat) : Rv (d + 0) 92 [.inr (.inr (.inr (4, 0, 24)))] (sx_18 xs) none (sx_19 xs) := by
  refine Ev.sts 11 (c' := (21, [some (.inr (.inr (.inr (4, 0, 24))))], [], sx_19 xs)) rfl ?_
  exact Ev.ret rfl ⟨rfl, rfl⟩
noncomputable def sx_20 (xs : Nat → Int32) : PH := setR (sx_19 xs) 17 2 (4, 0, 24)
noncomputable def sx_21 (xs : Nat → Int32) : PH := grow (sx_20 xs) 7
noncomputable def sx_22 (xs : Nat → Int32) : PH := setR (setI (setI (sx_21 xs) 25 2 (1)) 25 3 (1)) 25 4 (40, 0, 21)
theorem sx_c8 (xs : Nat → Int32) (d : Nat) : Rv (d + 0) 92 [.inr (.inr (.inr (4, 0, 25)))] (sx_21 xs) none (sx_22 xs) := by
  refine Ev.sts 11 (c' := (21, [some (.inr (.inr (.inr (4, 0, 25))))], [], sx_22 xs)) rfl ?_
  exact Ev.ret rfl ⟨rfl, rfl⟩
noncomputable def sx_23 (xs : Nat → Int32) : PH := setR (sx_22 xs) 17 3 (4, 0, 25)
noncomputable def sx_24 (xs : Nat → Int32) : PH := grow (sx_23 xs) 7
noncomputable def sx_25 (xs : Nat → Int32) : PH := setR (setI (setI (sx_24 xs) 26 2 (1)) 26 3 (1)) 26 4 (40, 0, 21)
theorem sx_c9 (xs : Nat → Int32) (d : Nat) : Rv (d + 0) 92 [.inr (.inr (.inr (4, 0, 26)))] (sx_24 xs) none (sx_25 xs) := by
  refine Ev.sts 11 (c' := (21, [some (.inr (.inr (.inr (4, 0, 26))))], [], sx_25 xs)) rfl ?_
  exact Ev.ret rfl ⟨rfl, rfl⟩
noncomputable def sx_26 (xs : Nat → Int32) : PH := setR (sx_25 xs) 17 4 (4, 0, 26)
noncomputable def sx_27 (xs : Nat → Int32) : PH := grow (sx_26 xs) 7
noncomputable def sx_28 (xs : Nat → Int32) : PH := setR (setI (setI (sx_27 xs) 27 2 (1)) 27 3 (1)) 27 4 (40, 0, 21)
theorem sx_c10 (xs : Nat → Int32) (d : Nat) : Rv (d + 0) 92 [.inr (.inr (.inr (4, 0, 27)))] (sx_27 xs) none (sx_28 xs) := by
  refine Ev.sts 11 (c' := (21, [some (.inr (.inr (.inr (4, 0, 27))))], [], sx_28 xs)) rfl ?_
  exact Ev.ret rfl ⟨rfl, rfl⟩
noncomputable def sx_29 (xs : Nat → Int32) : PH := setR (sx_28 xs) 17 5 (4, 0, 27)
theorem sx_c11 (xs : Nat → Int32) (d : Nat) : Rv (d + 1) 82 [.inr (.inr (.inr (2, 0, 13)))] (sx_8 xs) none (sx_29 xs) := by
  refine Ev.sts 21 (c' := (42, [some (.inr (.inr (.inr (2, 0, 13)))), none], [.inr (.inr (.inr (5, 0, 18))), .inr (.inr (.inr (5, 0, 18))), .inr (.inr (.inr (2, 0, 13)))], sx_9 xs)) rfl ?_
  refine Ev.callv (a := [.inr (.inr (.inr (5, 0, 18)))]) rfl (sx_c4 xs (d + 0)) ?_
  refine Ev.sts 7 (c' := (56, [some (.inr (.inr (.inr (2, 0, 13)))), some (.inl (0))], [.inl (6), .inl (0)], sx_11 xs)) rfl ?_
  refine Ev.brF (p := (6 : Int32) ≤ (0 : Int32)) (c1 := (78, [some (.inr (.inr (.inr (2, 0, 13)))), some (.inl (0))], [], sx_11 xs)) (c2 := (59, [some (.inr (.inr (.inr (2, 0, 13)))), some (.inl (0))], [], sx_11 xs)) (by decide) rfl ?_
  refine Ev.sts 5 (c' := (68, [some (.inr (.inr (.inr (2, 0, 13)))), some (.inl (0))], [.inr (.inr (.inr (4, 0, 22))), .inr (.inr (.inr (4, 0, 22))), .inl (0), .inr (.inr (.inr (24, 6, 17)))], sx_12 xs)) rfl ?_
  refine Ev.callv (a := [.inr (.inr (.inr (4, 0, 22)))]) rfl (sx_c5 xs (d + 0)) ?_
  refine Ev.sts 7 (c' := (56, [some (.inr (.inr (.inr (2, 0, 13)))), some (.inl (1))], [.inl (6), .inl (1)], sx_14 xs)) rfl ?_
  refine Ev.brF (p := (6 : Int32) ≤ (1 : Int32)) (c1 := (78, [some (.inr (.inr (.inr (2, 0, 13)))), some (.inl (1))], [], sx_14 xs)) (c2 := (59, [some (.inr (.inr (.inr (2, 0, 13)))), some (.inl (1))], [], sx_14 xs)) (by decide) rfl ?_
  refine Ev.sts 5 (c' := (68, [some (.inr (.inr (.inr (2, 0, 13)))), some (.inl (1))], [.inr (.inr (.inr (4, 0, 23))), .inr (.inr (.inr (4, 0, 23))), .inl (1), .inr (.inr (.inr (24, 6, 17)))], sx_15 xs)) rfl ?_
  refine Ev.callv (a := [.inr (.inr (.inr (4, 0, 23)))]) rfl (sx_c6 xs (d + 0)) ?_
  refine Ev.sts 7 (c' := (56, [some (.inr (.inr (.inr (2, 0, 13)))), some (.inl (2))], [.inl (6), .inl (2)], sx_17 xs)) rfl ?_
  refine Ev.brF (p := (6 : Int32) ≤ (2 : Int32)) (c1 := (78, [some (.inr (.inr (.inr (2, 0, 13)))), some (.inl (2))], [], sx_17 xs)) (c2 := (59, [some (.inr (.inr (.inr (2, 0, 13)))), some (.inl (2))], [], sx_17 xs)) (by decide) rfl ?_
  refine Ev.sts 5 (c' := (68, [some (.inr (.inr (.inr (2, 0, 13)))), some (.inl (2))], [.inr (.inr (.inr (4, 0, 24))), .inr (.inr (.inr (4, 0, 24))), .inl (2), .inr (.inr (.inr (24, 6, 17)))], sx_18 xs)) rfl ?_
  refine Ev.callv (a := [.inr (.inr (.inr (4, 0, 24)))]) rfl (sx_c7 xs (d + 0)) ?_
  refine Ev.sts 7 (c' := (56, [some (.inr (.inr (.inr (2, 0, 13)))), some (.inl (3))], [.inl (6), .inl (3)], sx_20 xs)) rfl ?_
  refine Ev.brF (p := (6 : Int32) ≤ (3 : Int32)) (c1 := (78, [some (.inr (.inr (.inr (2, 0, 13)))), some (.inl (3))], [], sx_20 xs)) (c2 := (59, [some (.inr (.inr (.inr (2, 0, 13)))), some (.inl (3))], [], sx_20 xs)) (by decide) rfl ?_
  refine Ev.sts 5 (c' := (68, [some (.inr (.inr (.inr (2, 0, 13)))), some (.inl (3))], [.inr (.inr (.inr (4, 0, 25))), .inr (.inr (.inr (4, 0, 25))), .inl (3), .inr (.inr (.inr (24, 6, 17)))], sx_21 xs)) rfl ?_
  refine Ev.callv (a := [.inr (.inr (.inr (4, 0, 25)))]) rfl (sx_c8 xs (d + 0)) ?_
  refine Ev.sts 7 (c' := (56, [some (.inr (.inr (.inr (2, 0, 13)))), some (.inl (4))], [.inl (6), .inl (4)], sx_23 xs)) rfl ?_
  refine Ev.brF (p := (6 : Int32) ≤ (4 : Int32)) (c1 := (78, [some (.inr (.inr (.inr (2, 0, 13)))), some (.inl (4))], [], sx_23 xs)) (c2 := (59, [some (.inr (.inr (.inr (2, 0, 13)))), some (.inl (4))], [], sx_23 xs)) (by decide) rfl ?_
  refine Ev.sts 5 (c' := (68, [some (.inr (.inr (.inr (2, 0, 13)))), some (.inl (4))], [.inr (.inr (.inr (4, 0, 26))), .inr (.inr (.inr (4, 0, 26))), .inl (4), .inr (.inr (.inr (24, 6, 17)))], sx_24 xs)) rfl ?_
  refine Ev.callv (a := [.inr (.inr (.inr (4, 0, 26)))]) rfl (sx_c9 xs (d + 0)) ?_
  refine Ev.sts 7 (c' := (56, [some (.inr (.inr (.inr (2, 0, 13)))), some (.inl (5))], [.inl (6), .inl (5)], sx_26 xs)) rfl ?_
  refine Ev.brF (p := (6 : Int32) ≤ (5 : Int32)) (c1 := (78, [some (.inr (.inr (.inr (2, 0, 13)))), some (.inl (5))], [], sx_26 xs)) (c2 := (59, [some (.inr (.inr (.inr (2, 0, 13)))), some (.inl (5))], [], sx_26 xs)) (by decide) rfl ?_
  refine Ev.sts 5 (c' := (68, [some (.inr (.inr (.inr (2, 0, 13)))), some (.inl (5))], [.inr (.inr (.inr (4, 0, 27))), .inr (.inr (.inr (4, 0, 27))), .inl (5), .inr (.inr (.inr (24, 6, 17)))], sx_27 xs)) rfl ?_
  refine Ev.callv (a := [.inr (.inr (.inr (4, 0, 27)))]) rfl (sx_c10 xs (d + 0)) ?_
  refine Ev.sts 7 (c' := (56, [some (.inr (.inr (.inr (2, 0, 13)))), some (.inl (6))], [.inl (6), .inl (6)], sx_29 xs)) rfl ?_
  refine Ev.brT (p := (6 : Int32) ≤ (6 : Int32)) (c1 := (78, [some (.inr (.inr (.inr (2, 0, 13)))), some (.inl (6))], [], sx_29 xs)) (c2 := (59, [some (.inr (.inr (.inr (2, 0, 13)))), some (.inl (6))], [], sx_29 xs)) (by decide) rfl ?_
  exact Ev.ret rfl ⟨rfl, rfl⟩
noncomputable def sx_30 (xs : Nat → Int32) : PH := setI (setI (setR (sx_29 xs) 2 4 (2, 0, 13)) 2 5 (0)) 2 7 (-1)
theorem sx_c12 (xs : Nat → Int32) (d : Nat) : Rv (d + 2) 109 [.inr (.inr (.inr (7, 0, 2)))] (sx_1 xs) none (sx_30 xs) := by
  refine Ev.sts 5 (c' := (9, [some (.inr (.inr (.inr (7, 0, 2))))], [.inr (.inr (.inr (9, 0, 3))), .inr (.inr (.inr (9, 0, 3))), .inr (.inr (.inr (7, 0, 2)))], sx_2 xs)) rfl ?_
  refine Ev.callv (a := [.inr (.inr (.inr (9, 0, 3)))]) rfl (sx_c2 xs (d + 0)) ?_
  refine Ev.sts 12 (c' := (36, [some (.inr (.inr (.inr (7, 0, 2))))], [.inr (.inr (.inr (4, 0, 12))), .inr (.inr (.inr (4, 0, 12))), .inr (.inr (.inr (7, 0, 2)))], sx_6 xs)) rfl ?_
  refine Ev.callv (a := [.inr (.inr (.inr (4, 0, 12)))]) rfl (sx_c3 xs (d + 1)) ?_
  refine Ev.sts 4 (c' := (47, [some (.inr (.inr (.inr (7, 0, 2))))], [.inr (.inr (.inr (2, 0, 13))), .inr (.inr (.inr (2, 0, 13))), .inr (.inr (.inr (7, 0, 2)))], sx_8 xs)) rfl ?_
  refine Ev.callv (a := [.inr (.inr (.inr (2, 0, 13)))]) rfl (sx_c11 xs (d + 0)) ?_
  refine Ev.sts 7 (c' := (63, [some (.inr (.inr (.inr (7, 0, 2))))], [], sx_30 xs)) rfl ?_
  exact Ev.ret rfl ⟨rfl, rfl⟩
noncomputable def sx_31 (xs : Nat → Int32) : PH := grow (setR (setR (sx_30 xs) 1 1 (7, 0, 2)) 1 0 (6, 0, 4)) 5
theorem sx_c13 (xs : Nat → Int32) (d : Nat) : Rv (d + 0) 90 [.inr (.inr (.inr (3, 0, 28)))] (sx_31 xs) none (sx_31 xs) := by
  refine Ev.sts 2 (c' := (4, [some (.inr (.inr (.inr (3, 0, 28))))], [], sx_31 xs)) rfl ?_
  exact Ev.ret rfl ⟨rfl, rfl⟩
noncomputable def sx_32 (xs : Nat → Int32) : PH := setR (grow (setR (grow (setR (grow (setR (sx_31 xs) 1 2 (3, 0, 28)) 120) 1 3 (20, 120, 29)) 120) 1 4 (20, 120, 30)) 6) 1 5 (25, 6, 31)
noncomputable def sx_33 (xs : Nat → Int32) : PH := grow (sx_32 xs) 6
noncomputable def sx_34 (xs : Nat → Int32) : PH := setR (grow (setR (grow (setR (grow (setR (grow (sx_33 xs) 128) 32 0 (20, 128, 33)) 128) 32 1 (20, 128, 34)) 128) 32 2 (20, 128, 35)) 128) 32 3 (20, 128, 36)
theorem sx_c14 (xs : Nat → Int32) (d : Nat) : Rv (d + 0) 150 [.inr (.inr (.inr (10, 0, 32)))] (sx_33 xs) none (sx_34 xs) := by
  refine Ev.sts 18 (c' := (40, [some (.inr (.inr (.inr (10, 0, 32))))], [], sx_34 xs)) rfl ?_
  exact Ev.ret rfl ⟨rfl, rfl⟩
noncomputable def sx_35 (xs : Nat → Int32) : PH := setR (sx_34 xs) 31 0 (10, 0, 32)
noncomputable def sx_36 (xs : Nat → Int32) : PH := grow (sx_35 xs) 6
noncomputable def sx_37 (xs : Nat → Int32) : PH := setR (grow (setR (grow (setR (grow (setR (grow (sx_36 xs) 128) 37 0 (20, 128, 38)) 128) 37 1 (20, 128, 39)) 128) 37 2 (20, 128, 40)) 128) 37 3 (20, 128, 41)
theorem sx_c15 (xs : Nat → Int32) (d : Nat) : Rv (d + 0) 150 [.inr (.inr (.inr (10, 0, 37)))] (sx_36 xs) none (sx_37 xs) := by
  refine Ev.sts 18 (c' := (40, [some (.inr (.inr (.inr (10, 0, 37))))], [], sx_37 xs)) rfl ?_
  exact Ev.ret rfl ⟨rfl, rfl⟩
noncomputable def sx_38 (xs : Nat → Int32) : PH := setR (sx_37 xs) 31 1 (10, 0, 37)
noncomputable def sx_39 (xs : Nat → Int32) : PH := grow (sx_38 xs) 6
noncomputable def sx_40 (xs : Nat → Int32) : PH := setR (grow (setR (grow (setR (grow (setR (grow (sx_39 xs) 128) 42 0 (20, 128, 43)) 128) 42 1 (20, 128, 44)) 128) 42 2 (20, 128, 45)) 128) 42 3 (20, 128, 46)
theorem sx_c16 (xs : Nat → Int32) (d : Nat) : Rv (d + 0) 150 [.inr (.inr (.inr (10, 0, 42)))] (sx_39 xs) none (sx_40 xs) := by
  refine Ev.sts 18 (c' := (40, [some (.inr (.inr (.inr (10, 0, 42))))], [], sx_40 xs)) rfl ?_
  exact Ev.ret rfl ⟨rfl, rfl⟩
noncomputable def sx_41 (xs : Nat → Int32) : PH := setR (sx_40 xs) 31 2 (10, 0, 42)
noncomputable def sx_42 (xs : Nat → Int32) : PH := grow (sx_41 xs) 6
noncomputable def sx_43 (xs : Nat → Int32) : PH := setR (grow (setR (grow (setR (grow (setR (grow (sx_42 xs) 128) 47 0 (20, 128, 48)) 128) 47 1 (20, 128, 49)) 128) 47 2 (20, 128, 50)) 128) 47 3 (20, 128, 51)
theorem sx_c17 (xs : Nat → Int32) (d : Nat) : Rv (d + 0) 150 [.inr (.inr (.inr (10, 0, 47)))] (sx_42 xs) none (sx_43 xs) := by
  refine Ev.sts 18 (c' := (40, [some (.inr (.inr (.inr (10, 0, 47))))], [], sx_43 xs)) rfl ?_
  exact Ev.ret rfl ⟨rfl, rfl⟩
noncomputable def sx_44 (xs : Nat → Int32) : PH := setR (sx_43 xs) 31 3 (10, 0, 47)
noncomputable def sx_45 (xs : Nat → Int32) : PH := grow (sx_44 xs) 6
noncomputable def sx_46 (xs : Nat → Int32) : PH := setR (grow (setR (grow (setR (grow (setR (grow (sx_45 xs) 128) 52 0 (20, 128, 53)) 128) 52 1 (20, 128, 54)) 128) 52 2 (20, 128, 55)) 128) 52 3 (20, 128, 56)
theorem sx_c18 (xs : Nat → Int32) (d : Nat) : Rv (d + 0) 150 [.inr (.inr (.inr (10, 0, 52)))] (sx_45 xs) none (sx_46 xs) := by
  refine Ev.sts 18 (c' := (40, [some (.inr (.inr (.inr (10, 0, 52))))], [], sx_46 xs)) rfl ?_
  exact Ev.ret rfl ⟨rfl, rfl⟩
noncomputable def sx_47 (xs : Nat → Int32) : PH := setR (sx_46 xs) 31 4 (10, 0, 52)
noncomputable def sx_48 (xs : Nat → Int32) : PH := grow (sx_47 xs) 6
noncomputable def sx_49 (xs : Nat → Int32) : PH := setR (grow (setR (grow (setR (grow (setR (grow (sx_48 xs) 128) 57 0 (20, 128, 58)) 128) 57 1 (20, 128, 59)) 128) 57 2 (20, 128, 60)) 128) 57 3 (20, 128, 61)
theorem sx_c19 (xs : Nat → Int32) (d : Nat) : Rv (d + 0) 150 [.inr (.inr (.inr (10, 0, 57)))] (sx_48 xs) none (sx_49 xs) := by
  refine Ev.sts 18 (c' := (40, [some (.inr (.inr (.inr (10, 0, 57))))], [], sx_49 xs)) rfl ?_
  exact Ev.ret rfl ⟨rfl, rfl⟩
noncomputable def sx_50 (xs : Nat → Int32) : PH := setR (sx_49 xs) 31 5 (10, 0, 57)
noncomputable def sx_51 (xs : Nat → Int32) : PH := grow (sx_50 xs) 6
noncomputable def sx_52 (xs : Nat → Int32) : PH := setR (grow (setR (grow (setR (grow (setR (grow (setR (grow (sx_51 xs) 64) 62 0 (20, 64, 63)) 64) 62 1 (20, 64, 64)) 64) 62 2 (20, 64, 65)) 64) 62 3 (20, 64, 66)) 64) 62 4 (20, 64, 67)
theorem sx_c20 (xs : Nat → Int32) (d : Nat) : Rv (d + 0) 134 [.inr (.inr (.inr (8, 0, 62)))] (sx_51 xs) none (sx_52 xs) := by
  refine Ev.sts 22 (c' := (44, [some (.inr (.inr (.inr (8, 0, 62))))], [], sx_52 xs)) rfl ?_
  exact Ev.ret rfl ⟨rfl, rfl⟩
noncomputable def sx_53 (xs : Nat → Int32) : PH := grow (setR (sx_52 xs) 1 6 (8, 0, 62)) 8
noncomputable def sx_54 (xs : Nat → Int32) : PH := grow (setR (grow (setR (grow (setR (grow (setR (grow (sx_53 xs) 8) 68 0 (20, 8, 69)) 8) 68 1 (20, 8, 70)) 8) 68 2 (20, 8, 71)) 6) 68 3 (24, 6, 72)) 5
noncomputable def sx_55 (xs : Nat → Int32) : PH := setR (grow (setR (grow (setR (grow (sx_54 xs) 400) 73 0 (23, 400, 74)) 400) 73 1 (20, 400, 75)) 32) 73 2 (20, 32, 76)
theorem sx_c21 (xs : Nat → Int32) (d : Nat) : Rv (d + 0) 96 [.inr (.inr (.inr (5, 0, 73)))] (sx_54 xs) none (sx_55 xs) := by
  refine Ev.sts 14 (c' := (31, [some (.inr (.inr (.inr (5, 0, 73))))], [], sx_55 xs)) rfl ?_
  exact Ev.ret rfl ⟨rfl, rfl⟩
noncomputable def sx_56 (xs : Nat → Int32) : PH := setR (sx_55 xs) 68 4 (5, 0, 73)
noncomputable def sx_57 (xs : Nat → Int32) : PH := grow (sx_56 xs) 7
noncomputable def sx_58 (xs : Nat → Int32) : PH := setR (setI (setI (sx_57 xs) 77 2 (1)) 77 3 (1)) 77 4 (40, 0, 21)
theorem sx_c22 (xs : Nat → Int32) (d : Nat) : Rv (d + 0) 92 [.inr (.inr (.inr (4, 0, 77)))] (sx_57 xs) none (sx_58 xs) := by
  refine Ev.sts 11 (c' := (21, [some (.inr (.inr (.inr (4, 0, 77))))], [], sx_58 xs)) rfl ?_
  exact Ev.ret rfl ⟨rfl, rfl⟩
noncomputable def sx_59 (xs : Nat → Int32) : PH := setR (sx_58 xs) 72 0 (4, 0, 77)
noncomputable def sx_60 (xs : Nat → Int32) : PH := grow (sx_59 xs) 7
noncomputable def sx_61 (xs : Nat → Int32) : PH := setR (setI (setI (sx_60 xs) 78 2 (1)) 78 3 (1)) 78 4 (40, 0, 21)
theorem sx_c23 (xs : Nat → Int32) (d : Nat) : Rv (d + 0) 92 [.inr (.inr (.inr (4, 0, 78)))] (sx_60 xs) none (sx_61 xs) := by
  refine Ev.sts 11 (c' := (21, [some (.inr (.inr (.inr (4, 0, 78))))], [], sx_61 xs)) rfl ?_
  exact Ev.ret rfl ⟨rfl, rfl⟩
noncomputable def sx_62 (xs : Nat → Int32) : PH := setR (sx_61 xs) 72 1 (4, 0, 78)
noncomputable def sx_63 (xs : Nat → Int32) : PH := grow (sx_62 xs) 7
noncomputable def sx_64 (xs : Nat → Int32) : PH := setR (setI (setI (sx_63 xs) 79 2 (1)) 79 3 (1)) 79 4 (40, 0, 21)
theorem sx_c24 (xs : Nat → Int32) (d : Nat) : Rv (d + 0) 92 [.inr (.inr (.inr (4, 0, 79)))] (sx_63 xs) none (sx_64 xs) := by
  refine Ev.sts 11 (c' := (21, [some (.inr (.inr (.inr (4, 0, 79))))], [], sx_64 xs)) rfl ?_
  exact Ev.ret rfl ⟨rfl, rfl⟩
noncomputable def sx_65 (xs : Nat → Int32) : PH := setR (sx_64 xs) 72 2 (4, 0, 79)
noncomputable def sx_66 (xs : Nat → Int32) : PH := grow (sx_65 xs) 7
noncomputable def sx_67 (xs : Nat → Int32) : PH := setR (setI (setI (sx_66 xs) 80 2 (1)) 80 3 (1)) 80 4 (40, 0, 21)
theorem sx_c25 (xs : Nat → Int32) (d : Nat) : Rv (d + 0) 92 [.inr (.inr (.inr (4, 0, 80)))] (sx_66 xs) none (sx_67 xs) := by
  refine Ev.sts 11 (c' := (21, [some (.inr (.inr (.inr (4, 0, 80))))], [], sx_67 xs)) rfl ?_
  exact Ev.ret rfl ⟨rfl, rfl⟩
noncomputable def sx_68 (xs : Nat → Int32) : PH := setR (sx_67 xs) 72 3 (4, 0, 80)
noncomputable def sx_69 (xs : Nat → Int32) : PH := grow (sx_68 xs) 7
noncomputable def sx_70 (xs : Nat → Int32) : PH := setR (setI (setI (sx_69 xs) 81 2 (1)) 81 3 (1)) 81 4 (40, 0, 21)
theorem sx_c26 (xs : Nat → Int32) (d : Nat) : Rv (d + 0) 92 [.inr (.inr (.inr (4, 0, 81)))] (sx_69 xs) none (sx_70 xs) := by
  refine Ev.sts 11 (c' := (21, [some (.inr (.inr (.inr (4, 0, 81))))], [], sx_70 xs)) rfl ?_
  exact Ev.ret rfl ⟨rfl, rfl⟩
noncomputable def sx_71 (xs : Nat → Int32) : PH := setR (sx_70 xs) 72 4 (4, 0, 81)
noncomputable def sx_72 (xs : Nat → Int32) : PH := grow (sx_71 xs) 7
noncomputable def sx_73 (xs : Nat → Int32) : PH := setR (setI (setI (sx_72 xs) 82 2 (1)) 82 3 (1)) 82 4 (40, 0, 21)
theorem sx_c27 (xs : Nat → Int32) (d : Nat) : Rv (d + 0) 92 [.inr (.inr (.inr (4, 0, 82)))] (sx_72 xs) none (sx_73 xs) := by
  refine Ev.sts 11 (c' := (21, [some (.inr (.inr (.inr (4, 0, 82))))], [], sx_73 xs)) rfl ?_
  exact Ev.ret rfl ⟨rfl, rfl⟩
noncomputable def sx_74 (xs : Nat → Int32) : PH := setR (sx_73 xs) 72 5 (4, 0, 82)
theorem sx_c28 (xs : Nat → Int32) (d : Nat) : Rv (d + 1) 82 [.inr (.inr (.inr (2, 0, 68)))] (sx_53 xs) none (sx_74 xs) := by
  refine Ev.sts 21 (c' := (42, [some (.inr (.inr (.inr (2, 0, 68)))), none], [.inr (.inr (.inr (5, 0, 73))), .inr (.inr (.inr (5, 0, 73))), .inr (.inr (.inr (2, 0, 68)))], sx_54 xs)) rfl ?_
  refine Ev.callv (a := [.inr (.inr (.inr (5, 0, 73)))]) rfl (sx_c21 xs (d + 0)) ?_
  refine Ev.sts 7 (c' := (56, [some (.inr (.inr (.inr (2, 0, 68)))), some (.inl (0))], [.inl (6), .inl (0)], sx_56 xs)) rfl ?_
  refine Ev.brF (p := (6 : Int32) ≤ (0 : Int32)) (c1 := (78, [some (.inr (.inr (.inr (2, 0, 68)))), some (.inl (0))], [], sx_56 xs)) (c2 := (59, [some (.inr (.inr (.inr (2, 0, 68)))), some (.inl (0))], [], sx_56 xs)) (by decide) rfl ?_
  refine Ev.sts 5 (c' := (68, [some (.inr (.inr (.inr (2, 0, 68)))), some (.inl (0))], [.inr (.inr (.inr (4, 0, 77))), .inr (.inr (.inr (4, 0, 77))), .inl (0), .inr (.inr (.inr (24, 6, 72)))], sx_57 xs)) rfl ?_
  refine Ev.callv (a := [.inr (.inr (.inr (4, 0, 77)))]) rfl (sx_c22 xs (d + 0)) ?_
  refine Ev.sts 7 (c' := (56, [some (.inr (.inr (.inr (2, 0, 68)))), some (.inl (1))], [.inl (6), .inl (1)], sx_59 xs)) rfl ?_
  refine Ev.brF (p := (6 : Int32) ≤ (1 : Int32)) (c1 := (78, [some (.inr (.inr (.inr (2, 0, 68)))), some (.inl (1))], [], sx_59 xs)) (c2 := (59, [some (.inr (.inr (.inr (2, 0, 68)))), some (.inl (1))], [], sx_59 xs)) (by decide) rfl ?_
  refine Ev.sts 5 (c' := (68, [some (.inr (.inr (.inr (2, 0, 68)))), some (.inl (1))], [.inr (.inr (.inr (4, 0, 78))), .inr (.inr (.inr (4, 0, 78))), .inl (1), .inr (.inr (.inr (24, 6, 72)))], sx_60 xs)) rfl ?_
  refine Ev.callv (a := [.inr (.inr (.inr (4, 0, 78)))]) rfl (sx_c23 xs (d + 0)) ?_
  refine Ev.sts 7 (c' := (56, [some (.inr (.inr (.inr (2, 0, 68)))), some (.inl (2))], [.inl (6), .inl (2)], sx_62 xs)) rfl ?_
  refine Ev.brF (p := (6 : Int32) ≤ (2 : Int32)) (c1 := (78, [some (.inr (.inr (.inr (2, 0, 68)))), some (.inl (2))], [], sx_62 xs)) (c2 := (59, [some (.inr (.inr (.inr (2, 0, 68)))), some (.inl (2))], [], sx_62 xs)) (by decide) rfl ?_
  refine Ev.sts 5 (c' := (68, [some (.inr (.inr (.inr (2, 0, 68)))), some (.inl (2))], [.inr (.inr (.inr (4, 0, 79))), .inr (.inr (.inr (4, 0, 79))), .inl (2), .inr (.inr (.inr (24, 6, 72)))], sx_63 xs)) rfl ?_
  refine Ev.callv (a := [.inr (.inr (.inr (4, 0, 79)))]) rfl (sx_c24 xs (d + 0)) ?_
  refine Ev.sts 7 (c' := (56, [some (.inr (.inr (.inr (2, 0, 68)))), some (.inl (3))], [.inl (6), .inl (3)], sx_65 xs)) rfl ?_
  refine Ev.brF (p := (6 : Int32) ≤ (3 : Int32)) (c1 := (78, [some (.inr (.inr (.inr (2, 0, 68)))), some (.inl (3))], [], sx_65 xs)) (c2 := (59, [some (.inr (.inr (.inr (2, 0, 68)))), some (.inl (3))], [], sx_65 xs)) (by decide) rfl ?_
  refine Ev.sts 5 (c' := (68, [some (.inr (.inr (.inr (2, 0, 68)))), some (.inl (3))], [.inr (.inr (.inr (4, 0, 80))), .inr (.inr (.inr (4, 0, 80))), .inl (3), .inr (.inr (.inr (24, 6, 72)))], sx_66 xs)) rfl ?_
  refine Ev.callv (a := [.inr (.inr (.inr (4, 0, 80)))]) rfl (sx_c25 xs (d + 0)) ?_
  refine Ev.sts 7 (c' := (56, [some (.inr (.inr (.inr (2, 0, 68)))), some (.inl (4))], [.inl (6), .inl (4)], sx_68 xs)) rfl ?_
  refine Ev.brF (p := (6 : Int32) ≤ (4 : Int32)) (c1 := (78, [some (.inr (.inr (.inr (2, 0, 68)))), some (.inl (4))], [], sx_68 xs)) (c2 := (59, [some (.inr (.inr (.inr (2, 0, 68)))), some (.inl (4))], [], sx_68 xs)) (by decide) rfl ?_
  refine Ev.sts 5 (c' := (68, [some (.inr (.inr (.inr (2, 0, 68)))), some (.inl (4))], [.inr (.inr (.inr (4, 0, 81))), .inr (.inr (.inr (4, 0, 81))), .inl (4), .inr (.inr (.inr (24, 6, 72)))], sx_69 xs)) rfl ?_
  refine Ev.callv (a := [.inr (.inr (.inr (4, 0, 81)))]) rfl (sx_c26 xs (d + 0)) ?_
  refine Ev.sts 7 (c' := (56, [some (.inr (.inr (.inr (2, 0, 68)))), some (.inl (5))], [.inl (6), .inl (5)], sx_71 xs)) rfl ?_
  refine Ev.brF (p := (6 : Int32) ≤ (5 : Int32)) (c1 := (78, [some (.inr (.inr (.inr (2, 0, 68)))), some (.inl (5))], [], sx_71 xs)) (c2 := (59, [some (.inr (.inr (.inr (2, 0, 68)))), some (.inl (5))], [], sx_71 xs)) (by decide) rfl ?_
  refine Ev.sts 5 (c' := (68, [some (.inr (.inr (.inr (2, 0, 68)))), some (.inl (5))], [.inr (.inr (.inr (4, 0, 82))), .inr (.inr (.inr (4, 0, 82))), .inl (5), .inr (.inr (.inr (24, 6, 72)))], sx_72 xs)) rfl ?_
  refine Ev.callv (a := [.inr (.inr (.inr (4, 0, 82)))]) rfl (sx_c27 xs (d + 0)) ?_
  refine Ev.sts 7 (c' := (56, [some (.inr (.inr (.inr (2, 0, 68)))), some (.inl (6))], [.inl (6), .inl (6)], sx_74 xs)) rfl ?_
  refine Ev.brT (p := (6 : Int32) ≤ (6 : Int32)) (c1 := (78, [some (.inr (.inr (.inr (2, 0, 68)))), some (.inl (6))], [], sx_74 xs)) (c2 := (59, [some (.inr (.inr (.inr (2, 0, 68)))), some (.inl (6))], [], sx_74 xs)) (by decide) rfl ?_
  exact Ev.ret rfl ⟨rfl, rfl⟩
noncomputable def sx_75 (xs : Nat → Int32) : PH := setI (setR (sx_74 xs) 1 7 (2, 0, 68)) 1 10 (-1)
theorem sx_c29 (xs : Nat → Int32) (d : Nat) : Rv (d + 3) 32 [.inr (.inr (.inr (1, 0, 1)))] (grow (h0 xs) 12) none (sx_75 xs) := by
  refine Ev.sts 5 (c' := (9, [some (.inr (.inr (.inr (1, 0, 1)))), none], [.inr (.inr (.inr (7, 0, 2))), .inr (.inr (.inr (7, 0, 2))), .inr (.inr (.inr (1, 0, 1)))], sx_1 xs)) rfl ?_
  refine Ev.callv (a := [.inr (.inr (.inr (7, 0, 2)))]) rfl (sx_c12 xs (d + 0)) ?_
  refine Ev.sts 10 (c' := (34, [some (.inr (.inr (.inr (1, 0, 1)))), none], [.inr (.inr (.inr (3, 0, 28))), .inr (.inr (.inr (3, 0, 28))), .inr (.inr (.inr (1, 0, 1)))], sx_31 xs)) rfl ?_
  refine Ev.callv (a := [.inr (.inr (.inr (3, 0, 28)))]) rfl (sx_c13 xs (d + 2)) ?_
  refine Ev.sts 19 (c' := (73, [some (.inr (.inr (.inr (1, 0, 1)))), some (.inl (0))], [.inl (6), .inl (0)], sx_32 xs)) rfl ?_
  refine Ev.brF (p := (6 : Int32) ≤ (0 : Int32)) (c1 := (95, [some (.inr (.inr (.inr (1, 0, 1)))), some (.inl (0))], [], sx_32 xs)) (c2 := (76, [some (.inr (.inr (.inr (1, 0, 1)))), some (.inl (0))], [], sx_32 xs)) (by decide) rfl ?_
  refine Ev.sts 5 (c' := (85, [some (.inr (.inr (.inr (1, 0, 1)))), some (.inl (0))], [.inr (.inr (.inr (10, 0, 32))), .inr (.inr (.inr (10, 0, 32))), .inl (0), .inr (.inr (.inr (25, 6, 31)))], sx_33 xs)) rfl ?_
  refine Ev.callv (a := [.inr (.inr (.inr (10, 0, 32)))]) rfl (sx_c14 xs (d + 2)) ?_
  refine Ev.sts 7 (c' := (73, [some (.inr (.inr (.inr (1, 0, 1)))), some (.inl (1))], [.inl (6), .inl (1)], sx_35 xs)) rfl ?_
  refine Ev.brF (p := (6 : Int32) ≤ (1 : Int32)) (c1 := (95, [some (.inr (.inr (.inr (1, 0, 1)))), some (.inl (1))], [], sx_35 xs)) (c2 := (76, [some (.inr (.inr (.inr (1, 0, 1)))), some (.inl (1))], [], sx_35 xs)) (by decide) rfl ?_
  refine Ev.sts 5 (c' := (85, [some (.inr (.inr (.inr (1, 0, 1)))), some (.inl (1))], [.inr (.inr (.inr (10, 0, 37))), .inr (.inr (.inr (10, 0, 37))), .inl (1), .inr (.inr (.inr (25, 6, 31)))], sx_36 xs)) rfl ?_
  refine Ev.callv (a := [.inr (.inr (.inr (10, 0, 37)))]) rfl (sx_c15 xs (d + 2)) ?_
  refine Ev.sts 7 (c' := (73, [some (.inr (.inr (.inr (1, 0, 1)))), some (.inl (2))], [.inl (6), .inl (2)], sx_38 xs)) rfl ?_
  refine Ev.brF (p := (6 : Int32) ≤ (2 : Int32)) (c1 := (95, [some (.inr (.inr (.inr (1, 0, 1)))), some (.inl (2))], [], sx_38 xs)) (c2 := (76, [some (.inr (.inr (.inr (1, 0, 1)))), some (.inl (2))], [], sx_38 xs)) (by decide) rfl ?_
  refine Ev.sts 5 (c' := (85, [some (.inr (.inr (.inr (1, 0, 1)))), some (.inl (2))], [.inr (.inr (.inr (10, 0, 42))), .inr (.inr (.inr (10, 0, 42))), .inl (2), .inr (.inr (.inr (25, 6, 31)))], sx_39 xs)) rfl ?_
  refine Ev.callv (a := [.inr (.inr (.inr (10, 0, 42)))]) rfl (sx_c16 xs (d + 2)) ?_
  refine Ev.sts 7 (c' := (73, [some (.inr (.inr (.inr (1, 0, 1)))), some (.inl (3))], [.inl (6), .inl (3)], sx_41 xs)) rfl ?_
  refine Ev.brF (p := (6 : Int32) ≤ (3 : Int32)) (c1 := (95, [some (.inr (.inr (.inr (1, 0, 1)))), some (.inl (3))], [], sx_41 xs)) (c2 := (76, [some (.inr (.inr (.inr (1, 0, 1)))), some (.inl (3))], [], sx_41 xs)) (by decide) rfl ?_
  refine Ev.sts 5 (c' := (85, [some (.inr (.inr (.inr (1, 0, 1)))), some (.inl (3))], [.inr (.inr (.inr (10, 0, 47))), .inr (.inr (.inr (10, 0, 47))), .inl (3), .inr (.inr (.inr (25, 6, 31)))], sx_42 xs)) rfl ?_
  refine Ev.callv (a := [.inr (.inr (.inr (10, 0, 47)))]) rfl (sx_c17 xs (d + 2)) ?_
  refine Ev.sts 7 (c' := (73, [some (.inr (.inr (.inr (1, 0, 1)))), some (.inl (4))], [.inl (6), .inl (4)], sx_44 xs)) rfl ?_
  refine Ev.brF (p := (6 : Int32) ≤ (4 : Int32)) (c1 := (95, [some (.inr (.inr (.inr (1, 0, 1)))), some (.inl (4))], [], sx_44 xs)) (c2 := (76, [some (.inr (.inr (.inr (1, 0, 1)))), some (.inl (4))], [], sx_44 xs)) (by decide) rfl ?_
  refine Ev.sts 5 (c' := (85, [some (.inr (.inr (.inr (1, 0, 1)))), some (.inl (4))], [.inr (.inr (.inr (10, 0, 52))), .inr (.inr (.inr (10, 0, 52))), .inl (4), .inr (.inr (.inr (25, 6, 31)))], sx_45 xs)) rfl ?_
  refine Ev.callv (a := [.inr (.inr (.inr (10, 0, 52)))]) rfl (sx_c18 xs (d + 2)) ?_
  refine Ev.sts 7 (c' := (73, [some (.inr (.inr (.inr (1, 0, 1)))), some (.inl (5))], [.inl (6), .inl (5)], sx_47 xs)) rfl ?_
  refine Ev.brF (p := (6 : Int32) ≤ (5 : Int32)) (c1 := (95, [some (.inr (.inr (.inr (1, 0, 1)))), some (.inl (5))], [], sx_47 xs)) (c2 := (76, [some (.inr (.inr (.inr (1, 0, 1)))), some (.inl (5))], [], sx_47 xs)) (by decide) rfl ?_
  refine Ev.sts 5 (c' := (85, [some (.inr (.inr (.inr (1, 0, 1)))), some (.inl (5))], [.inr (.inr (.inr (10, 0, 57))), .inr (.inr (.inr (10, 0, 57))), .inl (5), .inr (.inr (.inr (25, 6, 31)))], sx_48 xs)) rfl ?_
  refine Ev.callv (a := [.inr (.inr (.inr (10, 0, 57)))]) rfl (sx_c19 xs (d + 2)) ?_
  refine Ev.sts 7 (c' := (73, [some (.inr (.inr (.inr (1, 0, 1)))), some (.inl (6))], [.inl (6), .inl (6)], sx_50 xs)) rfl ?_
  refine Ev.brT (p := (6 : Int32) ≤ (6 : Int32)) (c1 := (95, [some (.inr (.inr (.inr (1, 0, 1)))), some (.inl (6))], [], sx_50 xs)) (c2 := (76, [some (.inr (.inr (.inr (1, 0, 1)))), some (.inl (6))], [], sx_50 xs)) (by decide) rfl ?_
  refine Ev.sts 3 (c' := (100, [some (.inr (.inr (.inr (1, 0, 1)))), some (.inl (6))], [.inr (.inr (.inr (8, 0, 62))), .inr (.inr (.inr (8, 0, 62))), .inr (.inr (.inr (1, 0, 1)))], sx_51 xs)) rfl ?_
  refine Ev.callv (a := [.inr (.inr (.inr (8, 0, 62)))]) rfl (sx_c20 xs (d + 2)) ?_
  refine Ev.sts 4 (c' := (111, [some (.inr (.inr (.inr (1, 0, 1)))), some (.inl (6))], [.inr (.inr (.inr (2, 0, 68))), .inr (.inr (.inr (2, 0, 68))), .inr (.inr (.inr (1, 0, 1)))], sx_53 xs)) rfl ?_
  refine Ev.callv (a := [.inr (.inr (.inr (2, 0, 68)))]) rfl (sx_c28 xs (d + 1)) ?_
  refine Ev.sts 4 (c' := (122, [some (.inr (.inr (.inr (1, 0, 1)))), some (.inl (6))], [], sx_75 xs)) rfl ?_
  exact Ev.ret rfl ⟨rfl, rfl⟩
