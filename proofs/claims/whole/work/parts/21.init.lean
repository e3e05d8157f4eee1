/-! The two objects are made. -/
noncomputable def sx_1 (xs : Nat → Int32) : PH := grow (grow (h0 xs) 12) 8
noncomputable def sx_2 (xs : Nat → Int32) : PH := grow (sx_1 xs) 7
noncomputable def sx_3 (xs : Nat → Int32) : PH := grow (sx_2 xs) 2
noncomputable def sx_4 (xs : Nat → Int32) : PH := setR (grow (sx_3 xs) 1600) 4 0 (22, 1600, 5)
theorem sx_c1 (xs : Nat → Int32) (d : Nat) : Rv (d + 0) 108 [.inr (.inr (.inr (6, 0, 4)))] (sx_3 xs) none (sx_4 xs) := by
  refine Ev.sts 6 (c' := (13, [some (.inr (.inr (.inr (6, 0, 4))))], [], sx_4 xs)) rfl ?_
  exact Ev.ret rfl ⟨rfl, rfl⟩
noncomputable def sx_5 (xs : Nat → Int32) : PH := setR (grow (setR (grow (setR (grow (setR (grow (setR (sx_4 xs) 3 0 (6, 0, 4)) 401) 3 1 (23, 401, 6)) 401) 3 2 (20, 401, 7)) 401) 3 3 (20, 401, 8)) 401) 3 4 (21, 401, 9)
theorem sx_c2 (xs : Nat → Int32) (d : Nat) : Rv (d + 1) 142 [.inr (.inr (.inr (9, 0, 3)))] (sx_2 xs) none (sx_5 xs) := by
  refine Ev.sts 5 (c' := (9, [some (.inr (.inr (.inr (9, 0, 3))))], [.inr (.inr (.inr (6, 0, 4))), .inr (.inr (.inr (6, 0, 4))), .inr (.inr (.inr (9, 0, 3)))], sx_3 xs)) rfl ?_
  refine Ev.callv (a := [.inr (.inr (.inr (6, 0, 4)))]) rfl (sx_c1 xs (d + 0)) ?_
  refine Ev.sts 17 (c' := (52, [some (.inr (.inr (.inr (9, 0, 3))))], [], sx_5 xs)) rfl ?_
  exact Ev.ret rfl ⟨rfl, rfl⟩
noncomputable def sx_6 (xs : Nat → Int32) : PH := grow (setR (grow (setR (grow (setR (sx_5 xs) 2 0 (9, 0, 3)) 8) 2 1 (21, 8, 10)) 6) 2 2 (21, 6, 11)) 7
noncomputable def sx_7 (xs : Nat → Int32) : PH := setR (setI (setI (sx_6 xs) 12 2 (1)) 12 3 (1)) 12 4 (40, 0, 21)
theorem sx_c3 (xs : Nat → Int32) (d : Nat) : Rv (d + 0) 97 [.inr (.inr (.inr (4, 0, 12)))] (sx_6 xs) none (sx_7 xs) := by
  refine Ev.sts 11 (c' := (21, [some (.inr (.inr (.inr (4, 0, 12))))], [], sx_7 xs)) rfl ?_
  exact Ev.ret rfl ⟨rfl, rfl⟩
noncomputable def sx_8 (xs : Nat → Int32) : PH := grow (setR (sx_7 xs) 2 3 (4, 0, 12)) 8
noncomputable def sx_9 (xs : Nat → Int32) : PH := grow (setR (grow (setR (grow (setR (grow (setR (grow (sx_8 xs) 8) 13 0 (20, 8, 14)) 8) 13 1 (20, 8, 15)) 8) 13 2 (20, 8, 16)) 6) 13 3 (24, 6, 17)) 5
noncomputable def sx_10 (xs : Nat → Int32) : PH := setR (grow (setR (grow (setR (grow (sx_9 xs) 400) 18 0 (23, 400, 19)) 400) 18 1 (20, 400, 20)) 32) 18 2 (20, 32, 21)
theorem sx_c4 (xs : Nat → Int32) (d : Nat) : Rv (d + 0) 101 [.inr (.inr (.inr (5, 0, 18)))] (sx_9 xs) none (sx_10 xs) := by
  refine Ev.sts 14 (c' := (31, [some (.inr (.inr (.inr (5, 0, 18))))], [], sx_10 xs)) rfl ?_
  exact Ev.ret rfl ⟨rfl, rfl⟩
noncomputable def sx_11 (xs : Nat → Int32) : PH := setR (sx_10 xs) 13 4 (5, 0, 18)
noncomputable def sx_12 (xs : Nat → Int32) : PH := grow (sx_11 xs) 7
noncomputable def sx_13 (xs : Nat → Int32) : PH := setR (setI (setI (sx_12 xs) 22 2 (1)) 22 3 (1)) 22 4 (40, 0, 21)
theorem sx_c5 (xs : Nat → Int32) (d : Nat) : Rv (d + 0) 97 [.inr (.inr (.inr (4, 0, 22)))] (sx_12 xs) none (sx_13 xs) := by
  refine Ev.sts 11 (c' := (21, [some (.inr (.inr (.inr (4, 0, 22))))], [], sx_13 xs)) rfl ?_
  exact Ev.ret rfl ⟨rfl, rfl⟩
noncomputable def sx_14 (xs : Nat → Int32) : PH := setR (sx_13 xs) 17 0 (4, 0, 22)
noncomputable def sx_15 (xs : Nat → Int32) : PH := grow (sx_14 xs) 7
noncomputable def sx_16 (xs : Nat → Int32) : PH := setR (setI (setI (sx_15 xs) 23 2 (1)) 23 3 (1)) 23 4 (40, 0, 21)
theorem sx_c6 (xs : Nat → Int32) (d : Nat) : Rv (d + 0) 97 [.inr (.inr (.inr (4, 0, 23)))] (sx_15 xs) none (sx_16 xs) := by
  refine Ev.sts 11 (c' := (21, [some (.inr (.inr (.inr (4, 0, 23))))], [], sx_16 xs)) rfl ?_
  exact Ev.ret rfl ⟨rfl, rfl⟩
noncomputable def sx_17 (xs : Nat → Int32) : PH := setR (sx_16 xs) 17 1 (4, 0, 23)
noncomputable def sx_18 (xs : Nat → Int32) : PH := grow (sx_17 xs) 7
noncomputable def sx_19 (xs : Nat → Int32) : PH := setR (setI (setI (sx_18 xs) 24 2 (1)) 24 3 (1)) 24 4 (40, 0, 21)
theorem sx_c7 (xs : Nat → Int32) (d : Nat) : Rv (d + 0) 97 [.inr (.inr (.inr (4, 0, 24)))] (sx_18 xs) none (sx_19 xs) := by
  refine Ev.sts 11 (c' := (21, [some (.inr (.inr (.inr (4, 0, 24))))], [], sx_19 xs)) rfl ?_
  exact Ev.ret rfl ⟨rfl, rfl⟩
noncomputable def sx_20 (xs : Nat → Int32) : PH := setR (sx_19 xs) 17 2 (4, 0, 24)
noncomputable def sx_21 (xs : Nat → Int32) : PH := grow (sx_20 xs) 7
noncomputable def sx_22 (xs : Nat → Int32) : PH := setR (setI (setI (sx_21 xs) 25 2 (1)) 25 3 (1)) 25 4 (40, 0, 21)
theorem sx_c8 (xs : Nat → Int32) (d : Nat) : Rv (d + 0) 97 [.inr (.inr (.inr (4, 0, 25)))] (sx_21 xs) none (sx_22 xs) := by
  refine Ev.sts 11 (c' := (21, [some (.inr (.inr (.inr (4, 0, 25))))], [], sx_22 xs)) rfl ?_
  exact Ev.ret rfl ⟨rfl, rfl⟩
noncomputable def sx_23 (xs : Nat → Int32) : PH := setR (sx_22 xs) 17 3 (4, 0, 25)
noncomputable def sx_24 (xs : Nat → Int32) : PH := grow (sx_23 xs) 7
noncomputable def sx_25 (xs : Nat → Int32) : PH := setR (setI (setI (sx_24 xs) 26 2 (1)) 26 3 (1)) 26 4 (40, 0, 21)
theorem sx_c9 (xs : Nat → Int32) (d : Nat) : Rv (d + 0) 97 [.inr (.inr (.inr (4, 0, 26)))] (sx_24 xs) none (sx_25 xs) := by
  refine Ev.sts 11 (c' := (21, [some (.inr (.inr (.inr (4, 0, 26))))], [], sx_25 xs)) rfl ?_
  exact Ev.ret rfl ⟨rfl, rfl⟩
noncomputable def sx_26 (xs : Nat → Int32) : PH := setR (sx_25 xs) 17 4 (4, 0, 26)
noncomputable def sx_27 (xs : Nat → Int32) : PH := grow (sx_26 xs) 7
noncomputable def sx_28 (xs : Nat → Int32) : PH := setR (setI (setI (sx_27 xs) 27 2 (1)) 27 3 (1)) 27 4 (40, 0, 21)
theorem sx_c10 (xs : Nat → Int32) (d : Nat) : Rv (d + 0) 97 [.inr (.inr (.inr (4, 0, 27)))] (sx_27 xs) none (sx_28 xs) := by
  refine Ev.sts 11 (c' := (21, [some (.inr (.inr (.inr (4, 0, 27))))], [], sx_28 xs)) rfl ?_
  exact Ev.ret rfl ⟨rfl, rfl⟩
noncomputable def sx_29 (xs : Nat → Int32) : PH := setR (sx_28 xs) 17 5 (4, 0, 27)
theorem sx_c11 (xs : Nat → Int32) (d : Nat) : Rv (d + 1) 87 [.inr (.inr (.inr (2, 0, 13)))] (sx_8 xs) none (sx_29 xs) := by
  refine Ev.sts 21 (c' := (42, [some (.inr (.inr (.inr (2, 0, 13)))), none], [.inr (.inr (.inr (5, 0, 18))), .inr (.inr (.inr (5, 0, 18))), .inr (.inr (.inr (2, 0, 13)))], sx_9 xs)) rfl ?_
  refine Ev.callv (a := [.inr (.inr (.inr (5, 0, 18)))]) rfl (sx_c4 xs (d + 0)) ?_
  refine Ev.sts 7 (c' := (56, [some (.inr (.inr (.inr (2, 0, 13)))), some (.inl (0))], [.inl (6), .inl (0)], sx_11 xs)) rfl ?_
  refine Ev.brF (p := (6 : Int32) ≤ (0 : Int32)) (c1 := (78, [some (.inr (.inr (.inr (2, 0, 13)))), some (.inl (0))], [], sx_11 xs)) (c2 := (59, [some (.inr (.inr (.inr (2, 0, 13)))), some (.inl (0))], [], sx_11 xs)) (by decide) rfl ?_
  refine Ev.sts 5 (c' := (68, [some (.inr (.inr (.inr (2, 0, 13)))), some (.inl (0))], [.inr (.inr (.inr (4, 0, 22))), .inr (.inr (.inr (4, 0, 22))), .inl (0), .inr (.inr (.inr (24, 6, 17)))], sx_12 xs)) rfl ?_
  refine Ev.callv (a := [.inr (.inr (.inr (4, 0, 22)))]) rfl (sx_c5 xs (d + 0)) ?_
  refine Ev.sts 7 (c' := (56, [some (.inr (.inr (.inr (2, 0, 13)))), some (.inl (1))], [.inl (6), .inl (1)], sx_14 xs)) rfl ?_
  refine Ev.brF (p := (6 : Int32) ≤ (1 : Int32)) (c1 := (78, [some (.inr (.inr (.inr (2, 0, 13)))), some (.inl (1))], [], sx_14 xs)) (c2 := (59, [some (.inr (.inr (.inr (2, 0, 13)))), some (.inl (1))], [], sx_14 xs)) (by decide) rfl ?_
  refine Ev.sts 5 (c' := (68, [some (.inr (.inr (.inr (2, 0, 13)))), some (.inl (1))], [.inr (.inr (.inr (4, 0, 23))), .inr (.inr (.inr (4, 0, 23))), .inl (1), .inr (.inr (.inr (24, 6, 17)))], sx_15 xs)) rfl ?_
  refine Ev.callv (a := [.inr (.inr (.inr (4, 0, 23)))]) rfl (sx_c6 xs (d + 0)) ?_
  refine Ev.sts 7 (c' := (56, [some (.inr (.inr (.inr (2, 0, 13)))), some (.inl (2))], [.inl (6), .inl (2)], sx_17 xs)) rfl ?_
  refine Ev.brF (p := (6 : Int32) ≤ (2 : Int32)) (c1 := (78, [some (.inr (.inr (.inr (2, 0, 13)))), some (.inl (2))], [], sx_17 xs)) (c2 := (59, [some (.inr (.inr (.inr (2, 0, 13)))), some (.inl (2))], [], sx_17 xs)) (by decide) rfl ?_
  refine Ev.sts 5 (c' := (68, [some (.inr (.inr (.inr (2, 0, 13)))), some (.inl (2))], [.inr (.inr (.inr (4, 0, 24))), .inr (.inr (.inr (4, 0, 24))), .inl (2), .inr (.inr (.inr (24, 6, 17)))], sx_18 xs)) rfl ?_
  refine Ev.callv (a := [.inr (.inr (.inr (4, 0, 24)))]) rfl (sx_c7 xs (d + 0)) ?_
  refine Ev.sts 7 (c' := (56, [some (.inr (.inr (.inr (2, 0, 13)))), some (.inl (3))], [.inl (6), .inl (3)], sx_20 xs)) rfl ?_
  refine Ev.brF (p := (6 : Int32) ≤ (3 : Int32)) (c1 := (78, [some (.inr (.inr (.inr (2, 0, 13)))), some (.inl (3))], [], sx_20 xs)) (c2 := (59, [some (.inr (.inr (.inr (2, 0, 13)))), some (.inl (3))], [], sx_20 xs)) (by decide) rfl ?_
  refine Ev.sts 5 (c' := (68, [some (.inr (.inr (.inr (2, 0, 13)))), some (.inl (3))], [.inr (.inr (.inr (4, 0, 25))), .inr (.inr (.inr (4, 0, 25))), .inl (3), .inr (.inr (.inr (24, 6, 17)))], sx_21 xs)) rfl ?_
  refine Ev.callv (a := [.inr (.inr (.inr (4, 0, 25)))]) rfl (sx_c8 xs (d + 0)) ?_
  refine Ev.sts 7 (c' := (56, [some (.inr (.inr (.inr (2, 0, 13)))), some (.inl (4))], [.inl (6), .inl (4)], sx_23 xs)) rfl ?_
  refine Ev.brF (p := (6 : Int32) ≤ (4 : Int32)) (c1 := (78, [some (.inr (.inr (.inr (2, 0, 13)))), some (.inl (4))], [], sx_23 xs)) (c2 := (59, [some (.inr (.inr (.inr (2, 0, 13)))), some (.inl (4))], [], sx_23 xs)) (by decide) rfl ?_
  refine Ev.sts 5 (c' := (68, [some (.inr (.inr (.inr (2, 0, 13)))), some (.inl (4))], [.inr (.inr (.inr (4, 0, 26))), .inr (.inr (.inr (4, 0, 26))), .inl (4), .inr (.inr (.inr (24, 6, 17)))], sx_24 xs)) rfl ?_
  refine Ev.callv (a := [.inr (.inr (.inr (4, 0, 26)))]) rfl (sx_c9 xs (d + 0)) ?_
  refine Ev.sts 7 (c' := (56, [some (.inr (.inr (.inr (2, 0, 13)))), some (.inl (5))], [.inl (6), .inl (5)], sx_26 xs)) rfl ?_
  refine Ev.brF (p := (6 : Int32) ≤ (5 : Int32)) (c1 := (78, [some (.inr (.inr (.inr (2, 0, 13)))), some (.inl (5))], [], sx_26 xs)) (c2 := (59, [some (.inr (.inr (.inr (2, 0, 13)))), some (.inl (5))], [], sx_26 xs)) (by decide) rfl ?_
  refine Ev.sts 5 (c' := (68, [some (.inr (.inr (.inr (2, 0, 13)))), some (.inl (5))], [.inr (.inr (.inr (4, 0, 27))), .inr (.inr (.inr (4, 0, 27))), .inl (5), .inr (.inr (.inr (24, 6, 17)))], sx_27 xs)) rfl ?_
  refine Ev.callv (a := [.inr (.inr (.inr (4, 0, 27)))]) rfl (sx_c10 xs (d + 0)) ?_
  refine Ev.sts 7 (c' := (56, [some (.inr (.inr (.inr (2, 0, 13)))), some (.inl (6))], [.inl (6), .inl (6)], sx_29 xs)) rfl ?_
  refine Ev.brT (p := (6 : Int32) ≤ (6 : Int32)) (c1 := (78, [some (.inr (.inr (.inr (2, 0, 13)))), some (.inl (6))], [], sx_29 xs)) (c2 := (59, [some (.inr (.inr (.inr (2, 0, 13)))), some (.inl (6))], [], sx_29 xs)) (by decide) rfl ?_
  exact Ev.ret rfl ⟨rfl, rfl⟩
noncomputable def sx_30 (xs : Nat → Int32) : PH := setI (setI (setR (sx_29 xs) 2 4 (2, 0, 13)) 2 5 (0)) 2 7 (-1)
theorem sx_c12 (xs : Nat → Int32) (d : Nat) : Rv (d + 2) 114 [.inr (.inr (.inr (7, 0, 2)))] (sx_1 xs) none (sx_30 xs) := by
  refine Ev.sts 5 (c' := (9, [some (.inr (.inr (.inr (7, 0, 2))))], [.inr (.inr (.inr (9, 0, 3))), .inr (.inr (.inr (9, 0, 3))), .inr (.inr (.inr (7, 0, 2)))], sx_2 xs)) rfl ?_
  refine Ev.callv (a := [.inr (.inr (.inr (9, 0, 3)))]) rfl (sx_c2 xs (d + 0)) ?_
  refine Ev.sts 12 (c' := (36, [some (.inr (.inr (.inr (7, 0, 2))))], [.inr (.inr (.inr (4, 0, 12))), .inr (.inr (.inr (4, 0, 12))), .inr (.inr (.inr (7, 0, 2)))], sx_6 xs)) rfl ?_
  refine Ev.callv (a := [.inr (.inr (.inr (4, 0, 12)))]) rfl (sx_c3 xs (d + 1)) ?_
  refine Ev.sts 4 (c' := (47, [some (.inr (.inr (.inr (7, 0, 2))))], [.inr (.inr (.inr (2, 0, 13))), .inr (.inr (.inr (2, 0, 13))), .inr (.inr (.inr (7, 0, 2)))], sx_8 xs)) rfl ?_
  refine Ev.callv (a := [.inr (.inr (.inr (2, 0, 13)))]) rfl (sx_c11 xs (d + 0)) ?_
  refine Ev.sts 7 (c' := (63, [some (.inr (.inr (.inr (7, 0, 2))))], [], sx_30 xs)) rfl ?_
  exact Ev.ret rfl ⟨rfl, rfl⟩
noncomputable def sx_31 (xs : Nat → Int32) : PH := grow (setR (setR (sx_30 xs) 1 1 (7, 0, 2)) 1 0 (6, 0, 4)) 5
theorem sx_c13 (xs : Nat → Int32) (d : Nat) : Rv (d + 0) 95 [.inr (.inr (.inr (3, 0, 28)))] (sx_31 xs) none (sx_31 xs) := by
  refine Ev.sts 2 (c' := (4, [some (.inr (.inr (.inr (3, 0, 28))))], [], sx_31 xs)) rfl ?_
  exact Ev.ret rfl ⟨rfl, rfl⟩
noncomputable def sx_32 (xs : Nat → Int32) : PH := setR (grow (setR (grow (setR (grow (setR (sx_31 xs) 1 2 (3, 0, 28)) 120) 1 3 (20, 120, 29)) 120) 1 4 (20, 120, 30)) 6) 1 5 (25, 6, 31)
noncomputable def sx_33 (xs : Nat → Int32) : PH := grow (sx_32 xs) 6
noncomputable def sx_34 (xs : Nat → Int32) : PH := setR (grow (setR (grow (setR (grow (setR (grow (sx_33 xs) 128) 32 0 (20, 128, 33)) 128) 32 1 (20, 128, 34)) 128) 32 2 (20, 128, 35)) 128) 32 3 (20, 128, 36)
theorem sx_c14 (xs : Nat → Int32) (d : Nat) : Rv (d + 0) 155 [.inr (.inr (.inr (10, 0, 32)))] (sx_33 xs) none (sx_34 xs) := by
  refine Ev.sts 18 (c' := (40, [some (.inr (.inr (.inr (10, 0, 32))))], [], sx_34 xs)) rfl ?_
  exact Ev.ret rfl ⟨rfl, rfl⟩
noncomputable def sx_35 (xs : Nat → Int32) : PH := setR (sx_34 xs) 31 0 (10, 0, 32)
noncomputable def sx_36 (xs : Nat → Int32) : PH := grow (sx_35 xs) 6
noncomputable def sx_37 (xs : Nat → Int32) : PH := setR (grow (setR (grow (setR (grow (setR (grow (sx_36 xs) 128) 37 0 (20, 128, 38)) 128) 37 1 (20, 128, 39)) 128) 37 2 (20, 128, 40)) 128) 37 3 (20, 128, 41)
theorem sx_c15 (xs : Nat → Int32) (d : Nat) : Rv (d + 0) 155 [.inr (.inr (.inr (10, 0, 37)))] (sx_36 xs) none (sx_37 xs) := by
  refine Ev.sts 18 (c' := (40, [some (.inr (.inr (.inr (10, 0, 37))))], [], sx_37 xs)) rfl ?_
  exact Ev.ret rfl ⟨rfl, rfl⟩
noncomputable def sx_38 (xs : Nat → Int32) : PH := setR (sx_37 xs) 31 1 (10, 0, 37)
noncomputable def sx_39 (xs : Nat → Int32) : PH := grow (sx_38 xs) 6
noncomputable def sx_40 (xs : Nat → Int32) : PH := setR (grow (setR (grow (setR (grow (setR (grow (sx_39 xs) 128) 42 0 (20, 128, 43)) 128) 42 1 (20, 128, 44)) 128) 42 2 (20, 128, 45)) 128) 42 3 (20, 128, 46)
theorem sx_c16 (xs : Nat → Int32) (d : Nat) : Rv (d + 0) 155 [.inr (.inr (.inr (10, 0, 42)))] (sx_39 xs) none (sx_40 xs) := by
  refine Ev.sts 18 (c' := (40, [some (.inr (.inr (.inr (10, 0, 42))))], [], sx_40 xs)) rfl ?_
  exact Ev.ret rfl ⟨rfl, rfl⟩
noncomputable def sx_41 (xs : Nat → Int32) : PH := setR (sx_40 xs) 31 2 (10, 0, 42)
noncomputable def sx_42 (xs : Nat → Int32) : PH := grow (sx_41 xs) 6
noncomputable def sx_43 (xs : Nat → Int32) : PH := setR (grow (setR (grow (setR (grow (setR (grow (sx_42 xs) 128) 47 0 (20, 128, 48)) 128) 47 1 (20, 128, 49)) 128) 47 2 (20, 128, 50)) 128) 47 3 (20, 128, 51)
theorem sx_c17 (xs : Nat → Int32) (d : Nat) : Rv (d + 0) 155 [.inr (.inr (.inr (10, 0, 47)))] (sx_42 xs) none (sx_43 xs) := by
  refine Ev.sts 18 (c' := (40, [some (.inr (.inr (.inr (10, 0, 47))))], [], sx_43 xs)) rfl ?_
  exact Ev.ret rfl ⟨rfl, rfl⟩
noncomputable def sx_44 (xs : Nat → Int32) : PH := setR (sx_43 xs) 31 3 (10, 0, 47)
noncomputable def sx_45 (xs : Nat → Int32) : PH := grow (sx_44 xs) 6
noncomputable def sx_46 (xs : Nat → Int32) : PH := setR (grow (setR (grow (setR (grow (setR (grow (sx_45 xs) 128) 52 0 (20, 128, 53)) 128) 52 1 (20, 128, 54)) 128) 52 2 (20, 128, 55)) 128) 52 3 (20, 128, 56)
theorem sx_c18 (xs : Nat → Int32) (d : Nat) : Rv (d + 0) 155 [.inr (.inr (.inr (10, 0, 52)))] (sx_45 xs) none (sx_46 xs) := by
  refine Ev.sts 18 (c' := (40, [some (.inr (.inr (.inr (10, 0, 52))))], [], sx_46 xs)) rfl ?_
  exact Ev.ret rfl ⟨rfl, rfl⟩
noncomputable def sx_47 (xs : Nat → Int32) : PH := setR (sx_46 xs) 31 4 (10, 0, 52)
noncomputable def sx_48 (xs : Nat → Int32) : PH := grow (sx_47 xs) 6
noncomputable def sx_49 (xs : Nat → Int32) : PH := setR (grow (setR (grow (setR (grow (setR (grow (sx_48 xs) 128) 57 0 (20, 128, 58)) 128) 57 1 (20, 128, 59)) 128) 57 2 (20, 128, 60)) 128) 57 3 (20, 128, 61)
theorem sx_c19 (xs : Nat → Int32) (d : Nat) : Rv (d + 0) 155 [.inr (.inr (.inr (10, 0, 57)))] (sx_48 xs) none (sx_49 xs) := by
  refine Ev.sts 18 (c' := (40, [some (.inr (.inr (.inr (10, 0, 57))))], [], sx_49 xs)) rfl ?_
  exact Ev.ret rfl ⟨rfl, rfl⟩
noncomputable def sx_50 (xs : Nat → Int32) : PH := setR (sx_49 xs) 31 5 (10, 0, 57)
noncomputable def sx_51 (xs : Nat → Int32) : PH := grow (sx_50 xs) 6
noncomputable def sx_52 (xs : Nat → Int32) : PH := setR (grow (setR (grow (setR (grow (setR (grow (setR (grow (sx_51 xs) 64) 62 0 (20, 64, 63)) 64) 62 1 (20, 64, 64)) 64) 62 2 (20, 64, 65)) 64) 62 3 (20, 64, 66)) 64) 62 4 (20, 64, 67)
theorem sx_c20 (xs : Nat → Int32) (d : Nat) : Rv (d + 0) 139 [.inr (.inr (.inr (8, 0, 62)))] (sx_51 xs) none (sx_52 xs) := by
  refine Ev.sts 22 (c' := (44, [some (.inr (.inr (.inr (8, 0, 62))))], [], sx_52 xs)) rfl ?_
  exact Ev.ret rfl ⟨rfl, rfl⟩
noncomputable def sx_53 (xs : Nat → Int32) : PH := grow (setR (sx_52 xs) 1 6 (8, 0, 62)) 8
noncomputable def sx_54 (xs : Nat → Int32) : PH := grow (setR (grow (setR (grow (setR (grow (setR (grow (sx_53 xs) 8) 68 0 (20, 8, 69)) 8) 68 1 (20, 8, 70)) 8) 68 2 (20, 8, 71)) 6) 68 3 (24, 6, 72)) 5
noncomputable def sx_55 (xs : Nat → Int32) : PH := setR (grow (setR (grow (setR (grow (sx_54 xs) 400) 73 0 (23, 400, 74)) 400) 73 1 (20, 400, 75)) 32) 73 2 (20, 32, 76)
theorem sx_c21 (xs : Nat → Int32) (d : Nat) : Rv (d + 0) 101 [.inr (.inr (.inr (5, 0, 73)))] (sx_54 xs) none (sx_55 xs) := by
  refine Ev.sts 14 (c' := (31, [some (.inr (.inr (.inr (5, 0, 73))))], [], sx_55 xs)) rfl ?_
  exact Ev.ret rfl ⟨rfl, rfl⟩
noncomputable def sx_56 (xs : Nat → Int32) : PH := setR (sx_55 xs) 68 4 (5, 0, 73)
noncomputable def sx_57 (xs : Nat → Int32) : PH := grow (sx_56 xs) 7
noncomputable def sx_58 (xs : Nat → Int32) : PH := setR (setI (setI (sx_57 xs) 77 2 (1)) 77 3 (1)) 77 4 (40, 0, 21)
theorem sx_c22 (xs : Nat → Int32) (d : Nat) : Rv (d + 0) 97 [.inr (.inr (.inr (4, 0, 77)))] (sx_57 xs) none (sx_58 xs) := by
  refine Ev.sts 11 (c' := (21, [some (.inr (.inr (.inr (4, 0, 77))))], [], sx_58 xs)) rfl ?_
  exact Ev.ret rfl ⟨rfl, rfl⟩
noncomputable def sx_59 (xs : Nat → Int32) : PH := setR (sx_58 xs) 72 0 (4, 0, 77)
noncomputable def sx_60 (xs : Nat → Int32) : PH := grow (sx_59 xs) 7
noncomputable def sx_61 (xs : Nat → Int32) : PH := setR (setI (setI (sx_60 xs) 78 2 (1)) 78 3 (1)) 78 4 (40, 0, 21)
theorem sx_c23 (xs : Nat → Int32) (d : Nat) : Rv (d + 0) 97 [.inr (.inr (.inr (4, 0, 78)))] (sx_60 xs) none (sx_61 xs) := by
  refine Ev.sts 11 (c' := (21, [some (.inr (.inr (.inr (4, 0, 78))))], [], sx_61 xs)) rfl ?_
  exact Ev.ret rfl ⟨rfl, rfl⟩
noncomputable def sx_62 (xs : Nat → Int32) : PH := setR (sx_61 xs) 72 1 (4, 0, 78)
noncomputable def sx_63 (xs : Nat → Int32) : PH := grow (sx_62 xs) 7
noncomputable def sx_64 (xs : Nat → Int32) : PH := setR (setI (setI (sx_63 xs) 79 2 (1)) 79 3 (1)) 79 4 (40, 0, 21)
theorem sx_c24 (xs : Nat → Int32) (d : Nat) : Rv (d + 0) 97 [.inr (.inr (.inr (4, 0, 79)))] (sx_63 xs) none (sx_64 xs) := by
  refine Ev.sts 11 (c' := (21, [some (.inr (.inr (.inr (4, 0, 79))))], [], sx_64 xs)) rfl ?_
  exact Ev.ret rfl ⟨rfl, rfl⟩
noncomputable def sx_65 (xs : Nat → Int32) : PH := setR (sx_64 xs) 72 2 (4, 0, 79)
noncomputable def sx_66 (xs : Nat → Int32) : PH := grow (sx_65 xs) 7
noncomputable def sx_67 (xs : Nat → Int32) : PH := setR (setI (setI (sx_66 xs) 80 2 (1)) 80 3 (1)) 80 4 (40, 0, 21)
theorem sx_c25 (xs : Nat → Int32) (d : Nat) : Rv (d + 0) 97 [.inr (.inr (.inr (4, 0, 80)))] (sx_66 xs) none (sx_67 xs) := by
  refine Ev.sts 11 (c' := (21, [some (.inr (.inr (.inr (4, 0, 80))))], [], sx_67 xs)) rfl ?_
  exact Ev.ret rfl ⟨rfl, rfl⟩
noncomputable def sx_68 (xs : Nat → Int32) : PH := setR (sx_67 xs) 72 3 (4, 0, 80)
noncomputable def sx_69 (xs : Nat → Int32) : PH := grow (sx_68 xs) 7
noncomputable def sx_70 (xs : Nat → Int32) : PH := setR (setI (setI (sx_69 xs) 81 2 (1)) 81 3 (1)) 81 4 (40, 0, 21)
theorem sx_c26 (xs : Nat → Int32) (d : Nat) : Rv (d + 0) 97 [.inr (.inr (.inr (4, 0, 81)))] (sx_69 xs) none (sx_70 xs) := by
  refine Ev.sts 11 (c' := (21, [some (.inr (.inr (.inr (4, 0, 81))))], [], sx_70 xs)) rfl ?_
  exact Ev.ret rfl ⟨rfl, rfl⟩
noncomputable def sx_71 (xs : Nat → Int32) : PH := setR (sx_70 xs) 72 4 (4, 0, 81)
noncomputable def sx_72 (xs : Nat → Int32) : PH := grow (sx_71 xs) 7
noncomputable def sx_73 (xs : Nat → Int32) : PH := setR (setI (setI (sx_72 xs) 82 2 (1)) 82 3 (1)) 82 4 (40, 0, 21)
theorem sx_c27 (xs : Nat → Int32) (d : Nat) : Rv (d + 0) 97 [.inr (.inr (.inr (4, 0, 82)))] (sx_72 xs) none (sx_73 xs) := by
  refine Ev.sts 11 (c' := (21, [some (.inr (.inr (.inr (4, 0, 82))))], [], sx_73 xs)) rfl ?_
  exact Ev.ret rfl ⟨rfl, rfl⟩
noncomputable def sx_74 (xs : Nat → Int32) : PH := setR (sx_73 xs) 72 5 (4, 0, 82)
theorem sx_c28 (xs : Nat → Int32) (d : Nat) : Rv (d + 1) 87 [.inr (.inr (.inr (2, 0, 68)))] (sx_53 xs) none (sx_74 xs) := by
  refine Ev.sts 21 (c' := (42, [some (.inr (.inr (.inr (2, 0, 68)))), none], [.inr (.inr (.inr (5, 0, 73))), .inr (.inr (.inr (5, 0, 73))), .inr (.inr (.inr (2, 0, 68)))], sx_54 xs)) rfl ?_
  refine Ev.callv (a := [.inr (.inr (.inr (5, 0, 73)))]) rfl (sx_c21 xs (d + 0)) ?_
  refine Ev.sts 7 (c' := (56, [some (.inr (.inr (.inr (2, 0, 68)))), some (.inl (0))], [.inl (6), .inl (0)], sx_56 xs)) rfl ?_
  refine Ev.brF (p := (6 : Int32) ≤ (0 : Int32)) (c1 := (78, [some (.inr (.inr (.inr (2, 0, 68)))), some (.inl (0))], [], sx_56 xs)) (c2 := (59, [some (.inr (.inr (.inr (2, 0, 68)))), some (.inl (0))], [], sx_56 xs)) (by decide) rfl ?_
  refine Ev.sts 5 (c' := (68, [some (.inr (.inr (.inr (2, 0, 68)))), some (.inl (0))], [.inr (.inr (.inr (4, 0, 77))), .inr (.inr (.inr (4, 0, 77))), .inl (0), .inr (.inr (.inr (24, 6, 72)))], sx_57 xs)) rfl ?_
  refine Ev.callv (a := [.inr (.inr (.inr (4, 0, 77)))]) rfl (sx_c22 xs (d + 0)) ?_
  refine Ev.sts 7 (c' := (56, [some (.inr (.inr (.inr (2, 0, 68)))), some (.inl (1))], [.inl (6), .inl (1)], sx_59 xs)) rfl ?_
  refine Ev.brF (p := (6 : Int32) ≤ (1 : Int32)) (c1 := (78, [some (.inr (.inr (.inr (2, 0, 68)))), some (.inl (1))], [], sx_59 xs)) (c2 := (59, [some (.inr (.inr (.inr (2, 0, 68)))), some (.inl (1))], [], sx_59 xs)) (by decide) rfl ?_
  refine Ev.sts 5 (c' := (68, [some (.inr (.inr (.inr (2, 0, 68)))), some (.inl (1))], [.inr (.inr (.inr (4, 0, 78))), .inr (.inr (.inr (4, 0, 78))), .inl (1), .inr (.inr (.inr (24, 6, 72)))], sx_60 xs)) rfl ?_
  refine Ev.callv (a := [.inr (.inr (.inr (4, 0, 78)))]) rfl (sx_c23 xs (d + 0)) ?_
  refine Ev.sts 7 (c' := (56, [some (.inr (.inr (.inr (2, 0, 68)))), some (.inl (2))], [.inl (6), .inl (2)], sx_62 xs)) rfl ?_
  refine Ev.brF (p := (6 : Int32) ≤ (2 : Int32)) (c1 := (78, [some (.inr (.inr (.inr (2, 0, 68)))), some (.inl (2))], [], sx_62 xs)) (c2 := (59, [some (.inr (.inr (.inr (2, 0, 68)))), some (.inl (2))], [], sx_62 xs)) (by decide) rfl ?_
  refine Ev.sts 5 (c' := (68, [some (.inr (.inr (.inr (2, 0, 68)))), some (.inl (2))], [.inr (.inr (.inr (4, 0, 79))), .inr (.inr (.inr (4, 0, 79))), .inl (2), .inr (.inr (.inr (24, 6, 72)))], sx_63 xs)) rfl ?_
  refine Ev.callv (a := [.inr (.inr (.inr (4, 0, 79)))]) rfl (sx_c24 xs (d + 0)) ?_
  refine Ev.sts 7 (c' := (56, [some (.inr (.inr (.inr (2, 0, 68)))), some (.inl (3))], [.inl (6), .inl (3)], sx_65 xs)) rfl ?_
  refine Ev.brF (p := (6 : Int32) ≤ (3 : Int32)) (c1 := (78, [some (.inr (.inr (.inr (2, 0, 68)))), some (.inl (3))], [], sx_65 xs)) (c2 := (59, [some (.inr (.inr (.inr (2, 0, 68)))), some (.inl (3))], [], sx_65 xs)) (by decide) rfl ?_
  refine Ev.sts 5 (c' := (68, [some (.inr (.inr (.inr (2, 0, 68)))), some (.inl (3))], [.inr (.inr (.inr (4, 0, 80))), .inr (.inr (.inr (4, 0, 80))), .inl (3), .inr (.inr (.inr (24, 6, 72)))], sx_66 xs)) rfl ?_
  refine Ev.callv (a := [.inr (.inr (.inr (4, 0, 80)))]) rfl (sx_c25 xs (d + 0)) ?_
  refine Ev.sts 7 (c' := (56, [some (.inr (.inr (.inr (2, 0, 68)))), some (.inl (4))], [.inl (6), .inl (4)], sx_68 xs)) rfl ?_
  refine Ev.brF (p := (6 : Int32) ≤ (4 : Int32)) (c1 := (78, [some (.inr (.inr (.inr (2, 0, 68)))), some (.inl (4))], [], sx_68 xs)) (c2 := (59, [some (.inr (.inr (.inr (2, 0, 68)))), some (.inl (4))], [], sx_68 xs)) (by decide) rfl ?_
  refine Ev.sts 5 (c' := (68, [some (.inr (.inr (.inr (2, 0, 68)))), some (.inl (4))], [.inr (.inr (.inr (4, 0, 81))), .inr (.inr (.inr (4, 0, 81))), .inl (4), .inr (.inr (.inr (24, 6, 72)))], sx_69 xs)) rfl ?_
  refine Ev.callv (a := [.inr (.inr (.inr (4, 0, 81)))]) rfl (sx_c26 xs (d + 0)) ?_
  refine Ev.sts 7 (c' := (56, [some (.inr (.inr (.inr (2, 0, 68)))), some (.inl (5))], [.inl (6), .inl (5)], sx_71 xs)) rfl ?_
  refine Ev.brF (p := (6 : Int32) ≤ (5 : Int32)) (c1 := (78, [some (.inr (.inr (.inr (2, 0, 68)))), some (.inl (5))], [], sx_71 xs)) (c2 := (59, [some (.inr (.inr (.inr (2, 0, 68)))), some (.inl (5))], [], sx_71 xs)) (by decide) rfl ?_
  refine Ev.sts 5 (c' := (68, [some (.inr (.inr (.inr (2, 0, 68)))), some (.inl (5))], [.inr (.inr (.inr (4, 0, 82))), .inr (.inr (.inr (4, 0, 82))), .inl (5), .inr (.inr (.inr (24, 6, 72)))], sx_72 xs)) rfl ?_
  refine Ev.callv (a := [.inr (.inr (.inr (4, 0, 82)))]) rfl (sx_c27 xs (d + 0)) ?_
  refine Ev.sts 7 (c' := (56, [some (.inr (.inr (.inr (2, 0, 68)))), some (.inl (6))], [.inl (6), .inl (6)], sx_74 xs)) rfl ?_
  refine Ev.brT (p := (6 : Int32) ≤ (6 : Int32)) (c1 := (78, [some (.inr (.inr (.inr (2, 0, 68)))), some (.inl (6))], [], sx_74 xs)) (c2 := (59, [some (.inr (.inr (.inr (2, 0, 68)))), some (.inl (6))], [], sx_74 xs)) (by decide) rfl ?_
  exact Ev.ret rfl ⟨rfl, rfl⟩
noncomputable def sx_75 (xs : Nat → Int32) : PH := setI (setR (sx_74 xs) 1 7 (2, 0, 68)) 1 10 (-1)
theorem sx_c29 (xs : Nat → Int32) (d : Nat) : Rv (d + 3) 26 [.inr (.inr (.inr (1, 0, 1)))] (grow (h0 xs) 12) none (sx_75 xs) := by
  refine Ev.sts 5 (c' := (9, [some (.inr (.inr (.inr (1, 0, 1)))), none], [.inr (.inr (.inr (7, 0, 2))), .inr (.inr (.inr (7, 0, 2))), .inr (.inr (.inr (1, 0, 1)))], sx_1 xs)) rfl ?_
  refine Ev.callv (a := [.inr (.inr (.inr (7, 0, 2)))]) rfl (sx_c12 xs (d + 0)) ?_
  refine Ev.sts 10 (c' := (34, [some (.inr (.inr (.inr (1, 0, 1)))), none], [.inr (.inr (.inr (3, 0, 28))), .inr (.inr (.inr (3, 0, 28))), .inr (.inr (.inr (1, 0, 1)))], sx_31 xs)) rfl ?_
  refine Ev.callv (a := [.inr (.inr (.inr (3, 0, 28)))]) rfl (sx_c13 xs (d + 2)) ?_
  refine Ev.sts 19 (c' := (73, [some (.inr (.inr (.inr (1, 0, 1)))), some (.inl (0))], [.inl (6), .inl (0)], sx_32 xs)) rfl ?_
  refine Ev.brF (p := (6 : Int32) ≤ (0 : Int32)) (c1 := (95, [some (.inr (.inr (.inr (1, 0, 1)))), some (.inl (0))], [], sx_32 xs)) (c2 := (76, [some (.inr (.inr (.inr (1, 0, 1)))), some (.inl (0))], [], sx_32 xs)) (by decide) rfl ?_
  refine Ev.sts 5 (c' := (85, [some (.inr (.inr (.inr (1, 0, 1)))), some (.inl (0))], [.inr (.inr (.inr (10, 0, 32))), .inr (.inr (.inr (10, 0, 32))), .inl (0), .inr (.inr (.inr (25, 6, 31)))], sx_33 xs)) rfl ?_
  refine Ev.callv (a := [.inr (.inr (.inr (10, 0, 32)))]) rfl (sx_c14 xs (d + 2)) ?_
  refine Ev.sts 7 (c' := (73, [some (.inr (.inr (.inr (1, 0, 1)))), some (.inl (1))], [.inl (6), .inl (1)], sx_35 xs)) rfl ?_
  refine Ev.brF (p := (6 : Int32) ≤ (1 : Int32)) (c1 := (95, [some (.inr (.inr (.inr (1, 0, 1)))), some (.inl (1))], [], sx_35 xs)) (c2 := (76, [some (.inr (.inr (.inr (1, 0, 1)))), some (.inl (1))], [], sx_35 xs)) (by decide) rfl ?_
  refine Ev.sts 5 (c' := (85, [some (.inr (.inr (.inr (1, 0, 1)))), some (.inl (1))], [.inr (.inr (.inr (10, 0, 37))), .inr (.inr (.inr (10, 0, 37))), .inl (1), .inr (.inr (.inr (25, 6, 31)))], sx_36 xs)) rfl ?_
  refine Ev.callv (a := [.inr (.inr (.inr (10, 0, 37)))]) rfl (sx_c15 xs (d + 2)) ?_
  refine Ev.sts 7 (c' := (73, [some (.inr (.inr (.inr (1, 0, 1)))), some (.inl (2))], [.inl (6), .inl (2)], sx_38 xs)) rfl ?_
  refine Ev.brF (p := (6 : Int32) ≤ (2 : Int32)) (c1 := (95, [some (.inr (.inr (.inr (1, 0, 1)))), some (.inl (2))], [], sx_38 xs)) (c2 := (76, [some (.inr (.inr (.inr (1, 0, 1)))), some (.inl (2))], [], sx_38 xs)) (by decide) rfl ?_
  refine Ev.sts 5 (c' := (85, [some (.inr (.inr (.inr (1, 0, 1)))), some (.inl (2))], [.inr (.inr (.inr (10, 0, 42))), .inr (.inr (.inr (10, 0, 42))), .inl (2), .inr (.inr (.inr (25, 6, 31)))], sx_39 xs)) rfl ?_
  refine Ev.callv (a := [.inr (.inr (.inr (10, 0, 42)))]) rfl (sx_c16 xs (d + 2)) ?_
  refine Ev.sts 7 (c' := (73, [some (.inr (.inr (.inr (1, 0, 1)))), some (.inl (3))], [.inl (6), .inl (3)], sx_41 xs)) rfl ?_
  refine Ev.brF (p := (6 : Int32) ≤ (3 : Int32)) (c1 := (95, [some (.inr (.inr (.inr (1, 0, 1)))), some (.inl (3))], [], sx_41 xs)) (c2 := (76, [some (.inr (.inr (.inr (1, 0, 1)))), some (.inl (3))], [], sx_41 xs)) (by decide) rfl ?_
  refine Ev.sts 5 (c' := (85, [some (.inr (.inr (.inr (1, 0, 1)))), some (.inl (3))], [.inr (.inr (.inr (10, 0, 47))), .inr (.inr (.inr (10, 0, 47))), .inl (3), .inr (.inr (.inr (25, 6, 31)))], sx_42 xs)) rfl ?_
  refine Ev.callv (a := [.inr (.inr (.inr (10, 0, 47)))]) rfl (sx_c17 xs (d + 2)) ?_
  refine Ev.sts 7 (c' := (73, [some (.inr (.inr (.inr (1, 0, 1)))), some (.inl (4))], [.inl (6), .inl (4)], sx_44 xs)) rfl ?_
  refine Ev.brF (p := (6 : Int32) ≤ (4 : Int32)) (c1 := (95, [some (.inr (.inr (.inr (1, 0, 1)))), some (.inl (4))], [], sx_44 xs)) (c2 := (76, [some (.inr (.inr (.inr (1, 0, 1)))), some (.inl (4))], [], sx_44 xs)) (by decide) rfl ?_
  refine Ev.sts 5 (c' := (85, [some (.inr (.inr (.inr (1, 0, 1)))), some (.inl (4))], [.inr (.inr (.inr (10, 0, 52))), .inr (.inr (.inr (10, 0, 52))), .inl (4), .inr (.inr (.inr (25, 6, 31)))], sx_45 xs)) rfl ?_
  refine Ev.callv (a := [.inr (.inr (.inr (10, 0, 52)))]) rfl (sx_c18 xs (d + 2)) ?_
  refine Ev.sts 7 (c' := (73, [some (.inr (.inr (.inr (1, 0, 1)))), some (.inl (5))], [.inl (6), .inl (5)], sx_47 xs)) rfl ?_
  refine Ev.brF (p := (6 : Int32) ≤ (5 : Int32)) (c1 := (95, [some (.inr (.inr (.inr (1, 0, 1)))), some (.inl (5))], [], sx_47 xs)) (c2 := (76, [some (.inr (.inr (.inr (1, 0, 1)))), some (.inl (5))], [], sx_47 xs)) (by decide) rfl ?_
  refine Ev.sts 5 (c' := (85, [some (.inr (.inr (.inr (1, 0, 1)))), some (.inl (5))], [.inr (.inr (.inr (10, 0, 57))), .inr (.inr (.inr (10, 0, 57))), .inl (5), .inr (.inr (.inr (25, 6, 31)))], sx_48 xs)) rfl ?_
  refine Ev.callv (a := [.inr (.inr (.inr (10, 0, 57)))]) rfl (sx_c19 xs (d + 2)) ?_
  refine Ev.sts 7 (c' := (73, [some (.inr (.inr (.inr (1, 0, 1)))), some (.inl (6))], [.inl (6), .inl (6)], sx_50 xs)) rfl ?_
  refine Ev.brT (p := (6 : Int32) ≤ (6 : Int32)) (c1 := (95, [some (.inr (.inr (.inr (1, 0, 1)))), some (.inl (6))], [], sx_50 xs)) (c2 := (76, [some (.inr (.inr (.inr (1, 0, 1)))), some (.inl (6))], [], sx_50 xs)) (by decide) rfl ?_
  refine Ev.sts 3 (c' := (100, [some (.inr (.inr (.inr (1, 0, 1)))), some (.inl (6))], [.inr (.inr (.inr (8, 0, 62))), .inr (.inr (.inr (8, 0, 62))), .inr (.inr (.inr (1, 0, 1)))], sx_51 xs)) rfl ?_
  refine Ev.callv (a := [.inr (.inr (.inr (8, 0, 62)))]) rfl (sx_c20 xs (d + 2)) ?_
  refine Ev.sts 4 (c' := (111, [some (.inr (.inr (.inr (1, 0, 1)))), some (.inl (6))], [.inr (.inr (.inr (2, 0, 68))), .inr (.inr (.inr (2, 0, 68))), .inr (.inr (.inr (1, 0, 1)))], sx_53 xs)) rfl ?_
  refine Ev.callv (a := [.inr (.inr (.inr (2, 0, 68)))]) rfl (sx_c28 xs (d + 1)) ?_
  refine Ev.sts 4 (c' := (122, [some (.inr (.inr (.inr (1, 0, 1)))), some (.inl (6))], [], sx_75 xs)) rfl ?_
  exact Ev.ret rfl ⟨rfl, rfl⟩
noncomputable def sx_76 (xs : Nat → Int32) : PH := grow (setR (grow (setR (grow (setR (grow (setR (grow (grow (sx_75 xs) 33) 1600) 83 1 (22, 1600, 84)) 402) 83 3 (20, 402, 85)) 402) 83 4 (21, 402, 86)) 402) 83 5 (20, 402, 87)) 4
theorem sx_c30 (xs : Nat → Int32) (d : Nat) : Rv (d + 0) 280 [.inr (.inr (.inr (43, 0, 35)))] (sx_76 xs) (some (.inl (0))) (sx_76 xs) := by
  refine Ev.sts 1 (c' := (3, [some (.inr (.inr (.inr (43, 0, 35))))], [.inl (1)], sx_76 xs)) rfl ?_
  refine Ev.brF (p := (1 : Int32) = (0 : Int32)) (c1 := (13, [some (.inr (.inr (.inr (43, 0, 35))))], [], sx_76 xs)) (c2 := (6, [some (.inr (.inr (.inr (43, 0, 35))))], [], sx_76 xs)) (by decide) rfl ?_
  refine Ev.sts 3 (c' := (14, [some (.inr (.inr (.inr (43, 0, 35))))], [.inl (0)], sx_76 xs)) rfl ?_
  exact Ev.ret rfl ⟨rfl, rfl⟩
theorem sx_c31 (xs : Nat → Int32) (d : Nat) : Rv (d + 1) 279 [.inr (.inr (.inr (43, 0, 35)))] (sx_76 xs) (some (.inl (4))) (sx_76 xs) := by
  refine Ev.sts 4 (c' := (6, [some (.inr (.inr (.inr (43, 0, 35))))], [.inr (.inr (.inr (43, 0, 35))), .inl (4)], sx_76 xs)) rfl ?_
  refine Ev.callv (a := [.inr (.inr (.inr (43, 0, 35)))]) rfl (sx_c30 xs (d + 0)) ?_
  refine Ev.sts 1 (c' := (10, [some (.inr (.inr (.inr (43, 0, 35))))], [.inl (4)], sx_76 xs)) rfl ?_
  exact Ev.ret rfl ⟨rfl, rfl⟩
theorem sx_c32 (xs : Nat → Int32) (d : Nat) : Rv (d + 0) 282 [.inr (.inr (.inr (43, 0, 35)))] (sx_76 xs) (some (.inl (1))) (sx_76 xs) := by
  refine Ev.sts 1 (c' := (3, [some (.inr (.inr (.inr (43, 0, 35))))], [.inl (1)], sx_76 xs)) rfl ?_
  refine Ev.brF (p := (1 : Int32) = (0 : Int32)) (c1 := (17, [some (.inr (.inr (.inr (43, 0, 35))))], [], sx_76 xs)) (c2 := (6, [some (.inr (.inr (.inr (43, 0, 35))))], [], sx_76 xs)) (by decide) rfl ?_
  refine Ev.sts 2 (c' := (10, [some (.inr (.inr (.inr (43, 0, 35))))], [.inl (0)], sx_76 xs)) rfl ?_
  refine Ev.brF (p := ¬ (0 : Int32) = (0 : Int32)) (c1 := (17, [some (.inr (.inr (.inr (43, 0, 35))))], [], sx_76 xs)) (c2 := (13, [some (.inr (.inr (.inr (43, 0, 35))))], [], sx_76 xs)) (by decide) rfl ?_
  refine Ev.sts 2 (c' := (18, [some (.inr (.inr (.inr (43, 0, 35))))], [.inl (1)], sx_76 xs)) rfl ?_
  exact Ev.ret rfl ⟨rfl, rfl⟩
theorem sx_c33 (xs : Nat → Int32) (d : Nat) : Rv (d + 0) 290 [.inl (0), .inl (4), .inr (.inr (.inr (46, 0, 0)))] (sx_76 xs) (some (.inl (0))) (sx_76 xs) := by
  refine Ev.sts 1 (c' := (1, [some (.inl (0)), some (.inl (4)), some (.inr (.inr (.inr (46, 0, 0))))], [.inl (0)], sx_76 xs)) rfl ?_
  refine Ev.brF (p := (0 : Int32) < (0 : Int32)) (c1 := (9, [some (.inl (0)), some (.inl (4)), some (.inr (.inr (.inr (46, 0, 0))))], [], sx_76 xs)) (c2 := (4, [some (.inl (0)), some (.inl (4)), some (.inr (.inr (.inr (46, 0, 0))))], [], sx_76 xs)) (by decide) rfl ?_
  refine Ev.sts 2 (c' := (6, [some (.inl (0)), some (.inl (4)), some (.inr (.inr (.inr (46, 0, 0))))], [.inl (4), .inl (0)], sx_76 xs)) rfl ?_
  refine Ev.brT (p := (0 : Int32) < (4 : Int32)) (c1 := (16, [some (.inl (0)), some (.inl (4)), some (.inr (.inr (.inr (46, 0, 0))))], [], sx_76 xs)) (c2 := (9, [some (.inl (0)), some (.inl (4)), some (.inr (.inr (.inr (46, 0, 0))))], [], sx_76 xs)) (by decide) rfl ?_
  refine Ev.sts 1 (c' := (17, [some (.inl (0)), some (.inl (4)), some (.inr (.inr (.inr (46, 0, 0))))], [.inl (0)], sx_76 xs)) rfl ?_
  exact Ev.ret rfl ⟨rfl, rfl⟩
theorem sx_c34 (xs : Nat → Int32) (d : Nat) : Rv (d + 1) 283 [.inl (0), .inl (4)] (sx_76 xs) none (sx_76 xs) := by
  refine Ev.sts 3 (c' := (5, [some (.inl (0)), some (.inl (4))], [.inr (.inr (.inr (46, 0, 0))), .inl (4), .inl (0)], sx_76 xs)) rfl ?_
  refine Ev.callv (a := [.inl (0), .inl (4), .inr (.inr (.inr (46, 0, 0)))]) rfl (sx_c33 xs (d + 0)) ?_
  refine Ev.sts 1 (c' := (9, [some (.inl (0)), some (.inl (4))], [], sx_76 xs)) rfl ?_
  exact Ev.ret rfl ⟨rfl, rfl⟩
theorem sx_c35 (xs : Nat → Int32) (d : Nat) : Rv (d + 2) 286 [.inr (.inr (.inr (44, 4, 35))), .inl (0)] (sx_76 xs) (some (.inl (104))) (sx_76 xs) := by
  refine Ev.sts 3 (c' := (3, [some (.inr (.inr (.inr (44, 4, 35)))), some (.inl (0))], [.inl (4), .inl (0)], sx_76 xs)) rfl ?_
  refine Ev.callv (a := [.inl (0), .inl (4)]) rfl (sx_c34 xs (d + 0)) ?_
  refine Ev.sts 6 (c' := (14, [some (.inr (.inr (.inr (44, 4, 35)))), some (.inl (0))], [.inl (104)], sx_76 xs)) rfl ?_
  exact Ev.ret rfl ⟨rfl, rfl⟩
theorem sx_c36 (xs : Nat → Int32) (d : Nat) : Rv (d + 3) 281 [.inr (.inr (.inr (43, 0, 35))), .inl (0)] (sx_76 xs) (some (.inl (104))) (sx_76 xs) := by
  refine Ev.sts 1 (c' := (1, [some (.inr (.inr (.inr (43, 0, 35)))), some (.inl (0))], [.inr (.inr (.inr (43, 0, 35)))], sx_76 xs)) rfl ?_
  refine Ev.callv (a := [.inr (.inr (.inr (43, 0, 35)))]) rfl (sx_c32 xs (d + 2)) ?_
  refine Ev.brF (p := (1 : Int32) = (0 : Int32)) (c1 := (16, [some (.inr (.inr (.inr (43, 0, 35)))), some (.inl (0))], [], sx_76 xs)) (c2 := (7, [some (.inr (.inr (.inr (43, 0, 35)))), some (.inl (0))], [], sx_76 xs)) (by decide) rfl ?_
  refine Ev.sts 3 (c' := (12, [some (.inr (.inr (.inr (43, 0, 35)))), some (.inl (0))], [.inl (0), .inr (.inr (.inr (44, 4, 35)))], sx_76 xs)) rfl ?_
  refine Ev.callv (a := [.inr (.inr (.inr (44, 4, 35))), .inl (0)]) rfl (sx_c35 xs (d + 0)) ?_
  exact Ev.ret rfl ⟨rfl, rfl⟩
theorem sx_c37 (xs : Nat → Int32) (d : Nat) : Rv (d + 0) 280 [.inr (.inr (.inr (43, 0, 35)))] (sx_76 xs) (some (.inl (0))) (sx_76 xs) := by
  refine Ev.sts 1 (c' := (3, [some (.inr (.inr (.inr (43, 0, 35))))], [.inl (1)], sx_76 xs)) rfl ?_
  refine Ev.brF (p := (1 : Int32) = (0 : Int32)) (c1 := (13, [some (.inr (.inr (.inr (43, 0, 35))))], [], sx_76 xs)) (c2 := (6, [some (.inr (.inr (.inr (43, 0, 35))))], [], sx_76 xs)) (by decide) rfl ?_
  refine Ev.sts 3 (c' := (14, [some (.inr (.inr (.inr (43, 0, 35))))], [.inl (0)], sx_76 xs)) rfl ?_
  exact Ev.ret rfl ⟨rfl, rfl⟩
theorem sx_c38 (xs : Nat → Int32) (d : Nat) : Rv (d + 1) 279 [.inr (.inr (.inr (43, 0, 35)))] (sx_76 xs) (some (.inl (4))) (sx_76 xs) := by
  refine Ev.sts 4 (c' := (6, [some (.inr (.inr (.inr (43, 0, 35))))], [.inr (.inr (.inr (43, 0, 35))), .inl (4)], sx_76 xs)) rfl ?_
  refine Ev.callv (a := [.inr (.inr (.inr (43, 0, 35)))]) rfl (sx_c37 xs (d + 0)) ?_
  refine Ev.sts 1 (c' := (10, [some (.inr (.inr (.inr (43, 0, 35))))], [.inl (4)], sx_76 xs)) rfl ?_
  exact Ev.ret rfl ⟨rfl, rfl⟩
theorem sx_c39 (xs : Nat → Int32) (d : Nat) : Rv (d + 0) 282 [.inr (.inr (.inr (43, 0, 35)))] (sx_76 xs) (some (.inl (1))) (sx_76 xs) := by
  refine Ev.sts 1 (c' := (3, [some (.inr (.inr (.inr (43, 0, 35))))], [.inl (1)], sx_76 xs)) rfl ?_
  refine Ev.brF (p := (1 : Int32) = (0 : Int32)) (c1 := (17, [some (.inr (.inr (.inr (43, 0, 35))))], [], sx_76 xs)) (c2 := (6, [some (.inr (.inr (.inr (43, 0, 35))))], [], sx_76 xs)) (by decide) rfl ?_
  refine Ev.sts 2 (c' := (10, [some (.inr (.inr (.inr (43, 0, 35))))], [.inl (0)], sx_76 xs)) rfl ?_
  refine Ev.brF (p := ¬ (0 : Int32) = (0 : Int32)) (c1 := (17, [some (.inr (.inr (.inr (43, 0, 35))))], [], sx_76 xs)) (c2 := (13, [some (.inr (.inr (.inr (43, 0, 35))))], [], sx_76 xs)) (by decide) rfl ?_
  refine Ev.sts 2 (c' := (18, [some (.inr (.inr (.inr (43, 0, 35))))], [.inl (1)], sx_76 xs)) rfl ?_
  exact Ev.ret rfl ⟨rfl, rfl⟩
theorem sx_c40 (xs : Nat → Int32) (d : Nat) : Rv (d + 0) 290 [.inl (1), .inl (4), .inr (.inr (.inr (46, 0, 0)))] (sx_76 xs) (some (.inl (1))) (sx_76 xs) := by
  refine Ev.sts 1 (c' := (1, [some (.inl (1)), some (.inl (4)), some (.inr (.inr (.inr (46, 0, 0))))], [.inl (1)], sx_76 xs)) rfl ?_
  refine Ev.brF (p := (1 : Int32) < (0 : Int32)) (c1 := (9, [some (.inl (1)), some (.inl (4)), some (.inr (.inr (.inr (46, 0, 0))))], [], sx_76 xs)) (c2 := (4, [some (.inl (1)), some (.inl (4)), some (.inr (.inr (.inr (46, 0, 0))))], [], sx_76 xs)) (by decide) rfl ?_
  refine Ev.sts 2 (c' := (6, [some (.inl (1)), some (.inl (4)), some (.inr (.inr (.inr (46, 0, 0))))], [.inl (4), .inl (1)], sx_76 xs)) rfl ?_
  refine Ev.brT (p := (1 : Int32) < (4 : Int32)) (c1 := (16, [some (.inl (1)), some (.inl (4)), some (.inr (.inr (.inr (46, 0, 0))))], [], sx_76 xs)) (c2 := (9, [some (.inl (1)), some (.inl (4)), some (.inr (.inr (.inr (46, 0, 0))))], [], sx_76 xs)) (by decide) rfl ?_
  refine Ev.sts 1 (c' := (17, [some (.inl (1)), some (.inl (4)), some (.inr (.inr (.inr (46, 0, 0))))], [.inl (1)], sx_76 xs)) rfl ?_
  exact Ev.ret rfl ⟨rfl, rfl⟩
theorem sx_c41 (xs : Nat → Int32) (d : Nat) : Rv (d + 1) 283 [.inl (1), .inl (4)] (sx_76 xs) none (sx_76 xs) := by
  refine Ev.sts 3 (c' := (5, [some (.inl (1)), some (.inl (4))], [.inr (.inr (.inr (46, 0, 0))), .inl (4), .inl (1)], sx_76 xs)) rfl ?_
  refine Ev.callv (a := [.inl (1), .inl (4), .inr (.inr (.inr (46, 0, 0)))]) rfl (sx_c40 xs (d + 0)) ?_
  refine Ev.sts 1 (c' := (9, [some (.inl (1)), some (.inl (4))], [], sx_76 xs)) rfl ?_
  exact Ev.ret rfl ⟨rfl, rfl⟩
theorem sx_c42 (xs : Nat → Int32) (d : Nat) : Rv (d + 2) 286 [.inr (.inr (.inr (44, 4, 35))), .inl (1)] (sx_76 xs) (some (.inl (111))) (sx_76 xs) := by
  refine Ev.sts 3 (c' := (3, [some (.inr (.inr (.inr (44, 4, 35)))), some (.inl (1))], [.inl (4), .inl (1)], sx_76 xs)) rfl ?_
  refine Ev.callv (a := [.inl (1), .inl (4)]) rfl (sx_c41 xs (d + 0)) ?_
  refine Ev.sts 6 (c' := (14, [some (.inr (.inr (.inr (44, 4, 35)))), some (.inl (1))], [.inl (111)], sx_76 xs)) rfl ?_
  exact Ev.ret rfl ⟨rfl, rfl⟩
theorem sx_c43 (xs : Nat → Int32) (d : Nat) : Rv (d + 3) 281 [.inr (.inr (.inr (43, 0, 35))), .inl (1)] (sx_76 xs) (some (.inl (111))) (sx_76 xs) := by
  refine Ev.sts 1 (c' := (1, [some (.inr (.inr (.inr (43, 0, 35)))), some (.inl (1))], [.inr (.inr (.inr (43, 0, 35)))], sx_76 xs)) rfl ?_
  refine Ev.callv (a := [.inr (.inr (.inr (43, 0, 35)))]) rfl (sx_c39 xs (d + 2)) ?_
  refine Ev.brF (p := (1 : Int32) = (0 : Int32)) (c1 := (16, [some (.inr (.inr (.inr (43, 0, 35)))), some (.inl (1))], [], sx_76 xs)) (c2 := (7, [some (.inr (.inr (.inr (43, 0, 35)))), some (.inl (1))], [], sx_76 xs)) (by decide) rfl ?_
  refine Ev.sts 3 (c' := (12, [some (.inr (.inr (.inr (43, 0, 35)))), some (.inl (1))], [.inl (1), .inr (.inr (.inr (44, 4, 35)))], sx_76 xs)) rfl ?_
  refine Ev.callv (a := [.inr (.inr (.inr (44, 4, 35))), .inl (1)]) rfl (sx_c42 xs (d + 0)) ?_
  exact Ev.ret rfl ⟨rfl, rfl⟩
theorem sx_c44 (xs : Nat → Int32) (d : Nat) : Rv (d + 0) 280 [.inr (.inr (.inr (43, 0, 35)))] (sx_76 xs) (some (.inl (0))) (sx_76 xs) := by
  refine Ev.sts 1 (c' := (3, [some (.inr (.inr (.inr (43, 0, 35))))], [.inl (1)], sx_76 xs)) rfl ?_
  refine Ev.brF (p := (1 : Int32) = (0 : Int32)) (c1 := (13, [some (.inr (.inr (.inr (43, 0, 35))))], [], sx_76 xs)) (c2 := (6, [some (.inr (.inr (.inr (43, 0, 35))))], [], sx_76 xs)) (by decide) rfl ?_
  refine Ev.sts 3 (c' := (14, [some (.inr (.inr (.inr (43, 0, 35))))], [.inl (0)], sx_76 xs)) rfl ?_
  exact Ev.ret rfl ⟨rfl, rfl⟩
theorem sx_c45 (xs : Nat → Int32) (d : Nat) : Rv (d + 1) 279 [.inr (.inr (.inr (43, 0, 35)))] (sx_76 xs) (some (.inl (4))) (sx_76 xs) := by
  refine Ev.sts 4 (c' := (6, [some (.inr (.inr (.inr (43, 0, 35))))], [.inr (.inr (.inr (43, 0, 35))), .inl (4)], sx_76 xs)) rfl ?_
  refine Ev.callv (a := [.inr (.inr (.inr (43, 0, 35)))]) rfl (sx_c44 xs (d + 0)) ?_
  refine Ev.sts 1 (c' := (10, [some (.inr (.inr (.inr (43, 0, 35))))], [.inl (4)], sx_76 xs)) rfl ?_
  exact Ev.ret rfl ⟨rfl, rfl⟩
theorem sx_c46 (xs : Nat → Int32) (d : Nat) : Rv (d + 0) 282 [.inr (.inr (.inr (43, 0, 35)))] (sx_76 xs) (some (.inl (1))) (sx_76 xs) := by
  refine Ev.sts 1 (c' := (3, [some (.inr (.inr (.inr (43, 0, 35))))], [.inl (1)], sx_76 xs)) rfl ?_
  refine Ev.brF (p := (1 : Int32) = (0 : Int32)) (c1 := (17, [some (.inr (.inr (.inr (43, 0, 35))))], [], sx_76 xs)) (c2 := (6, [some (.inr (.inr (.inr (43, 0, 35))))], [], sx_76 xs)) (by decide) rfl ?_
  refine Ev.sts 2 (c' := (10, [some (.inr (.inr (.inr (43, 0, 35))))], [.inl (0)], sx_76 xs)) rfl ?_
  refine Ev.brF (p := ¬ (0 : Int32) = (0 : Int32)) (c1 := (17, [some (.inr (.inr (.inr (43, 0, 35))))], [], sx_76 xs)) (c2 := (13, [some (.inr (.inr (.inr (43, 0, 35))))], [], sx_76 xs)) (by decide) rfl ?_
  refine Ev.sts 2 (c' := (18, [some (.inr (.inr (.inr (43, 0, 35))))], [.inl (1)], sx_76 xs)) rfl ?_
  exact Ev.ret rfl ⟨rfl, rfl⟩
theorem sx_c47 (xs : Nat → Int32) (d : Nat) : Rv (d + 0) 290 [.inl (2), .inl (4), .inr (.inr (.inr (46, 0, 0)))] (sx_76 xs) (some (.inl (2))) (sx_76 xs) := by
  refine Ev.sts 1 (c' := (1, [some (.inl (2)), some (.inl (4)), some (.inr (.inr (.inr (46, 0, 0))))], [.inl (2)], sx_76 xs)) rfl ?_
  refine Ev.brF (p := (2 : Int32) < (0 : Int32)) (c1 := (9, [some (.inl (2)), some (.inl (4)), some (.inr (.inr (.inr (46, 0, 0))))], [], sx_76 xs)) (c2 := (4, [some (.inl (2)), some (.inl (4)), some (.inr (.inr (.inr (46, 0, 0))))], [], sx_76 xs)) (by decide) rfl ?_
  refine Ev.sts 2 (c' := (6, [some (.inl (2)), some (.inl (4)), some (.inr (.inr (.inr (46, 0, 0))))], [.inl (4), .inl (2)], sx_76 xs)) rfl ?_
  refine Ev.brT (p := (2 : Int32) < (4 : Int32)) (c1 := (16, [some (.inl (2)), some (.inl (4)), some (.inr (.inr (.inr (46, 0, 0))))], [], sx_76 xs)) (c2 := (9, [some (.inl (2)), some (.inl (4)), some (.inr (.inr (.inr (46, 0, 0))))], [], sx_76 xs)) (by decide) rfl ?_
  refine Ev.sts 1 (c' := (17, [some (.inl (2)), some (.inl (4)), some (.inr (.inr (.inr (46, 0, 0))))], [.inl (2)], sx_76 xs)) rfl ?_
  exact Ev.ret rfl ⟨rfl, rfl⟩
theorem sx_c48 (xs : Nat → Int32) (d : Nat) : Rv (d + 1) 283 [.inl (2), .inl (4)] (sx_76 xs) none (sx_76 xs) := by
  refine Ev.sts 3 (c' := (5, [some (.inl (2)), some (.inl (4))], [.inr (.inr (.inr (46, 0, 0))), .inl (4), .inl (2)], sx_76 xs)) rfl ?_
  refine Ev.callv (a := [.inl (2), .inl (4), .inr (.inr (.inr (46, 0, 0)))]) rfl (sx_c47 xs (d + 0)) ?_
  refine Ev.sts 1 (c' := (9, [some (.inl (2)), some (.inl (4))], [], sx_76 xs)) rfl ?_
  exact Ev.ret rfl ⟨rfl, rfl⟩
theorem sx_c49 (xs : Nat → Int32) (d : Nat) : Rv (d + 2) 286 [.inr (.inr (.inr (44, 4, 35))), .inl (2)] (sx_76 xs) (some (.inl (117))) (sx_76 xs) := by
  refine Ev.sts 3 (c' := (3, [some (.inr (.inr (.inr (44, 4, 35)))), some (.inl (2))], [.inl (4), .inl (2)], sx_76 xs)) rfl ?_
  refine Ev.callv (a := [.inl (2), .inl (4)]) rfl (sx_c48 xs (d + 0)) ?_
  refine Ev.sts 6 (c' := (14, [some (.inr (.inr (.inr (44, 4, 35)))), some (.inl (2))], [.inl (117)], sx_76 xs)) rfl ?_
  exact Ev.ret rfl ⟨rfl, rfl⟩
theorem sx_c50 (xs : Nat → Int32) (d : Nat) : Rv (d + 3) 281 [.inr (.inr (.inr (43, 0, 35))), .inl (2)] (sx_76 xs) (some (.inl (117))) (sx_76 xs) := by
  refine Ev.sts 1 (c' := (1, [some (.inr (.inr (.inr (43, 0, 35)))), some (.inl (2))], [.inr (.inr (.inr (43, 0, 35)))], sx_76 xs)) rfl ?_
  refine Ev.callv (a := [.inr (.inr (.inr (43, 0, 35)))]) rfl (sx_c46 xs (d + 2)) ?_
  refine Ev.brF (p := (1 : Int32) = (0 : Int32)) (c1 := (16, [some (.inr (.inr (.inr (43, 0, 35)))), some (.inl (2))], [], sx_76 xs)) (c2 := (7, [some (.inr (.inr (.inr (43, 0, 35)))), some (.inl (2))], [], sx_76 xs)) (by decide) rfl ?_
  refine Ev.sts 3 (c' := (12, [some (.inr (.inr (.inr (43, 0, 35)))), some (.inl (2))], [.inl (2), .inr (.inr (.inr (44, 4, 35)))], sx_76 xs)) rfl ?_
  refine Ev.callv (a := [.inr (.inr (.inr (44, 4, 35))), .inl (2)]) rfl (sx_c49 xs (d + 0)) ?_
  exact Ev.ret rfl ⟨rfl, rfl⟩
theorem sx_c51 (xs : Nat → Int32) (d : Nat) : Rv (d + 0) 280 [.inr (.inr (.inr (43, 0, 35)))] (sx_76 xs) (some (.inl (0))) (sx_76 xs) := by
  refine Ev.sts 1 (c' := (3, [some (.inr (.inr (.inr (43, 0, 35))))], [.inl (1)], sx_76 xs)) rfl ?_
  refine Ev.brF (p := (1 : Int32) = (0 : Int32)) (c1 := (13, [some (.inr (.inr (.inr (43, 0, 35))))], [], sx_76 xs)) (c2 := (6, [some (.inr (.inr (.inr (43, 0, 35))))], [], sx_76 xs)) (by decide) rfl ?_
  refine Ev.sts 3 (c' := (14, [some (.inr (.inr (.inr (43, 0, 35))))], [.inl (0)], sx_76 xs)) rfl ?_
  exact Ev.ret rfl ⟨rfl, rfl⟩
theorem sx_c52 (xs : Nat → Int32) (d : Nat) : Rv (d + 1) 279 [.inr (.inr (.inr (43, 0, 35)))] (sx_76 xs) (some (.inl (4))) (sx_76 xs) := by
  refine Ev.sts 4 (c' := (6, [some (.inr (.inr (.inr (43, 0, 35))))], [.inr (.inr (.inr (43, 0, 35))), .inl (4)], sx_76 xs)) rfl ?_
  refine Ev.callv (a := [.inr (.inr (.inr (43, 0, 35)))]) rfl (sx_c51 xs (d + 0)) ?_
  refine Ev.sts 1 (c' := (10, [some (.inr (.inr (.inr (43, 0, 35))))], [.inl (4)], sx_76 xs)) rfl ?_
  exact Ev.ret rfl ⟨rfl, rfl⟩
theorem sx_c53 (xs : Nat → Int32) (d : Nat) : Rv (d + 0) 282 [.inr (.inr (.inr (43, 0, 35)))] (sx_76 xs) (some (.inl (1))) (sx_76 xs) := by
  refine Ev.sts 1 (c' := (3, [some (.inr (.inr (.inr (43, 0, 35))))], [.inl (1)], sx_76 xs)) rfl ?_
  refine Ev.brF (p := (1 : Int32) = (0 : Int32)) (c1 := (17, [some (.inr (.inr (.inr (43, 0, 35))))], [], sx_76 xs)) (c2 := (6, [some (.inr (.inr (.inr (43, 0, 35))))], [], sx_76 xs)) (by decide) rfl ?_
  refine Ev.sts 2 (c' := (10, [some (.inr (.inr (.inr (43, 0, 35))))], [.inl (0)], sx_76 xs)) rfl ?_
  refine Ev.brF (p := ¬ (0 : Int32) = (0 : Int32)) (c1 := (17, [some (.inr (.inr (.inr (43, 0, 35))))], [], sx_76 xs)) (c2 := (13, [some (.inr (.inr (.inr (43, 0, 35))))], [], sx_76 xs)) (by decide) rfl ?_
  refine Ev.sts 2 (c' := (18, [some (.inr (.inr (.inr (43, 0, 35))))], [.inl (1)], sx_76 xs)) rfl ?_
  exact Ev.ret rfl ⟨rfl, rfl⟩
theorem sx_c54 (xs : Nat → Int32) (d : Nat) : Rv (d + 0) 290 [.inl (3), .inl (4), .inr (.inr (.inr (46, 0, 0)))] (sx_76 xs) (some (.inl (3))) (sx_76 xs) := by
  refine Ev.sts 1 (c' := (1, [some (.inl (3)), some (.inl (4)), some (.inr (.inr (.inr (46, 0, 0))))], [.inl (3)], sx_76 xs)) rfl ?_
  refine Ev.brF (p := (3 : Int32) < (0 : Int32)) (c1 := (9, [some (.inl (3)), some (.inl (4)), some (.inr (.inr (.inr (46, 0, 0))))], [], sx_76 xs)) (c2 := (4, [some (.inl (3)), some (.inl (4)), some (.inr (.inr (.inr (46, 0, 0))))], [], sx_76 xs)) (by decide) rfl ?_
  refine Ev.sts 2 (c' := (6, [some (.inl (3)), some (.inl (4)), some (.inr (.inr (.inr (46, 0, 0))))], [.inl (4), .inl (3)], sx_76 xs)) rfl ?_
  refine Ev.brT (p := (3 : Int32) < (4 : Int32)) (c1 := (16, [some (.inl (3)), some (.inl (4)), some (.inr (.inr (.inr (46, 0, 0))))], [], sx_76 xs)) (c2 := (9, [some (.inl (3)), some (.inl (4)), some (.inr (.inr (.inr (46, 0, 0))))], [], sx_76 xs)) (by decide) rfl ?_
  refine Ev.sts 1 (c' := (17, [some (.inl (3)), some (.inl (4)), some (.inr (.inr (.inr (46, 0, 0))))], [.inl (3)], sx_76 xs)) rfl ?_
  exact Ev.ret rfl ⟨rfl, rfl⟩
theorem sx_c55 (xs : Nat → Int32) (d : Nat) : Rv (d + 1) 283 [.inl (3), .inl (4)] (sx_76 xs) none (sx_76 xs) := by
  refine Ev.sts 3 (c' := (5, [some (.inl (3)), some (.inl (4))], [.inr (.inr (.inr (46, 0, 0))), .inl (4), .inl (3)], sx_76 xs)) rfl ?_
  refine Ev.callv (a := [.inl (3), .inl (4), .inr (.inr (.inr (46, 0, 0)))]) rfl (sx_c54 xs (d + 0)) ?_
  refine Ev.sts 1 (c' := (9, [some (.inl (3)), some (.inl (4))], [], sx_76 xs)) rfl ?_
  exact Ev.ret rfl ⟨rfl, rfl⟩
theorem sx_c56 (xs : Nat → Int32) (d : Nat) : Rv (d + 2) 286 [.inr (.inr (.inr (44, 4, 35))), .inl (3)] (sx_76 xs) (some (.inl (114))) (sx_76 xs) := by
  refine Ev.sts 3 (c' := (3, [some (.inr (.inr (.inr (44, 4, 35)))), some (.inl (3))], [.inl (4), .inl (3)], sx_76 xs)) rfl ?_
  refine Ev.callv (a := [.inl (3), .inl (4)]) rfl (sx_c55 xs (d + 0)) ?_
  refine Ev.sts 6 (c' := (14, [some (.inr (.inr (.inr (44, 4, 35)))), some (.inl (3))], [.inl (114)], sx_76 xs)) rfl ?_
  exact Ev.ret rfl ⟨rfl, rfl⟩
theorem sx_c57 (xs : Nat → Int32) (d : Nat) : Rv (d + 3) 281 [.inr (.inr (.inr (43, 0, 35))), .inl (3)] (sx_76 xs) (some (.inl (114))) (sx_76 xs) := by
  refine Ev.sts 1 (c' := (1, [some (.inr (.inr (.inr (43, 0, 35)))), some (.inl (3))], [.inr (.inr (.inr (43, 0, 35)))], sx_76 xs)) rfl ?_
  refine Ev.callv (a := [.inr (.inr (.inr (43, 0, 35)))]) rfl (sx_c53 xs (d + 2)) ?_
  refine Ev.brF (p := (1 : Int32) = (0 : Int32)) (c1 := (16, [some (.inr (.inr (.inr (43, 0, 35)))), some (.inl (3))], [], sx_76 xs)) (c2 := (7, [some (.inr (.inr (.inr (43, 0, 35)))), some (.inl (3))], [], sx_76 xs)) (by decide) rfl ?_
  refine Ev.sts 3 (c' := (12, [some (.inr (.inr (.inr (43, 0, 35)))), some (.inl (3))], [.inl (3), .inr (.inr (.inr (44, 4, 35)))], sx_76 xs)) rfl ?_
  refine Ev.callv (a := [.inr (.inr (.inr (44, 4, 35))), .inl (3)]) rfl (sx_c56 xs (d + 0)) ?_
  exact Ev.ret rfl ⟨rfl, rfl⟩
theorem sx_c58 (xs : Nat → Int32) (d : Nat) : Rv (d + 0) 280 [.inr (.inr (.inr (43, 0, 35)))] (sx_76 xs) (some (.inl (0))) (sx_76 xs) := by
  refine Ev.sts 1 (c' := (3, [some (.inr (.inr (.inr (43, 0, 35))))], [.inl (1)], sx_76 xs)) rfl ?_
  refine Ev.brF (p := (1 : Int32) = (0 : Int32)) (c1 := (13, [some (.inr (.inr (.inr (43, 0, 35))))], [], sx_76 xs)) (c2 := (6, [some (.inr (.inr (.inr (43, 0, 35))))], [], sx_76 xs)) (by decide) rfl ?_
  refine Ev.sts 3 (c' := (14, [some (.inr (.inr (.inr (43, 0, 35))))], [.inl (0)], sx_76 xs)) rfl ?_
  exact Ev.ret rfl ⟨rfl, rfl⟩
theorem sx_c59 (xs : Nat → Int32) (d : Nat) : Rv (d + 1) 279 [.inr (.inr (.inr (43, 0, 35)))] (sx_76 xs) (some (.inl (4))) (sx_76 xs) := by
  refine Ev.sts 4 (c' := (6, [some (.inr (.inr (.inr (43, 0, 35))))], [.inr (.inr (.inr (43, 0, 35))), .inl (4)], sx_76 xs)) rfl ?_
  refine Ev.callv (a := [.inr (.inr (.inr (43, 0, 35)))]) rfl (sx_c58 xs (d + 0)) ?_
  refine Ev.sts 1 (c' := (10, [some (.inr (.inr (.inr (43, 0, 35))))], [.inl (4)], sx_76 xs)) rfl ?_
  exact Ev.ret rfl ⟨rfl, rfl⟩
theorem sx_c60 (xs : Nat → Int32) (d : Nat) : Rv (d + 4) 168 [.inr (.inr (.inr (43, 0, 35)))] (sx_76 xs) (some (.inr (.inl (278194)))) (sx_76 xs) := by
  refine Ev.sts 6 (c' := (6, [some (.inr (.inr (.inr (43, 0, 35)))), some (.inr (.inl (0))), none, some (.inl (0))], [.inr (.inr (.inr (43, 0, 35))), .inl (0)], sx_76 xs)) rfl ?_
  refine Ev.callv (a := [.inr (.inr (.inr (43, 0, 35)))]) rfl (sx_c31 xs (d + 2)) ?_
  refine Ev.brF (p := (4 : Int32) ≤ (0 : Int32)) (c1 := (34, [some (.inr (.inr (.inr (43, 0, 35)))), some (.inr (.inl (0))), none, some (.inl (0))], [], sx_76 xs)) (c2 := (12, [some (.inr (.inr (.inr (43, 0, 35)))), some (.inr (.inl (0))), none, some (.inl (0))], [], sx_76 xs)) (by decide) rfl ?_
  refine Ev.sts 5 (c' := (17, [some (.inr (.inr (.inr (43, 0, 35)))), some (.inr (.inl (0))), none, some (.inl (0))], [.inl (0), .inr (.inr (.inr (43, 0, 35))), .inr (.inl (0))], sx_76 xs)) rfl ?_
  refine Ev.callv (a := [.inr (.inr (.inr (43, 0, 35))), .inl (0)]) rfl (sx_c36 xs (d + 0)) ?_
  refine Ev.sts 11 (c' := (6, [some (.inr (.inr (.inr (43, 0, 35)))), some (.inr (.inl (8))), none, some (.inl (1))], [.inr (.inr (.inr (43, 0, 35))), .inl (1)], sx_76 xs)) rfl ?_
  refine Ev.callv (a := [.inr (.inr (.inr (43, 0, 35)))]) rfl (sx_c38 xs (d + 2)) ?_
  refine Ev.brF (p := (4 : Int32) ≤ (1 : Int32)) (c1 := (34, [some (.inr (.inr (.inr (43, 0, 35)))), some (.inr (.inl (8))), none, some (.inl (1))], [], sx_76 xs)) (c2 := (12, [some (.inr (.inr (.inr (43, 0, 35)))), some (.inr (.inl (8))), none, some (.inl (1))], [], sx_76 xs)) (by decide) rfl ?_
  refine Ev.sts 5 (c' := (17, [some (.inr (.inr (.inr (43, 0, 35)))), some (.inr (.inl (8))), none, some (.inl (1))], [.inl (1), .inr (.inr (.inr (43, 0, 35))), .inr (.inl (256))], sx_76 xs)) rfl ?_
  refine Ev.callv (a := [.inr (.inr (.inr (43, 0, 35))), .inl (1)]) rfl (sx_c43 xs (d + 0)) ?_
  refine Ev.sts 11 (c' := (6, [some (.inr (.inr (.inr (43, 0, 35)))), some (.inr (.inl (271))), none, some (.inl (2))], [.inr (.inr (.inr (43, 0, 35))), .inl (2)], sx_76 xs)) rfl ?_
  refine Ev.callv (a := [.inr (.inr (.inr (43, 0, 35)))]) rfl (sx_c45 xs (d + 2)) ?_
  refine Ev.brF (p := (4 : Int32) ≤ (2 : Int32)) (c1 := (34, [some (.inr (.inr (.inr (43, 0, 35)))), some (.inr (.inl (271))), none, some (.inl (2))], [], sx_76 xs)) (c2 := (12, [some (.inr (.inr (.inr (43, 0, 35)))), some (.inr (.inl (271))), none, some (.inl (2))], [], sx_76 xs)) (by decide) rfl ?_
  refine Ev.sts 5 (c' := (17, [some (.inr (.inr (.inr (43, 0, 35)))), some (.inr (.inl (271))), none, some (.inl (2))], [.inl (2), .inr (.inr (.inr (43, 0, 35))), .inr (.inl (8672))], sx_76 xs)) rfl ?_
  refine Ev.callv (a := [.inr (.inr (.inr (43, 0, 35))), .inl (2)]) rfl (sx_c50 xs (d + 0)) ?_
  refine Ev.sts 11 (c' := (6, [some (.inr (.inr (.inr (43, 0, 35)))), some (.inr (.inl (8693))), none, some (.inl (3))], [.inr (.inr (.inr (43, 0, 35))), .inl (3)], sx_76 xs)) rfl ?_
  refine Ev.callv (a := [.inr (.inr (.inr (43, 0, 35)))]) rfl (sx_c52 xs (d + 2)) ?_
  refine Ev.brF (p := (4 : Int32) ≤ (3 : Int32)) (c1 := (34, [some (.inr (.inr (.inr (43, 0, 35)))), some (.inr (.inl (8693))), none, some (.inl (3))], [], sx_76 xs)) (c2 := (12, [some (.inr (.inr (.inr (43, 0, 35)))), some (.inr (.inl (8693))), none, some (.inl (3))], [], sx_76 xs)) (by decide) rfl ?_
  refine Ev.sts 5 (c' := (17, [some (.inr (.inr (.inr (43, 0, 35)))), some (.inr (.inl (8693))), none, some (.inl (3))], [.inl (3), .inr (.inr (.inr (43, 0, 35))), .inr (.inl (278176))], sx_76 xs)) rfl ?_
  refine Ev.callv (a := [.inr (.inr (.inr (43, 0, 35))), .inl (3)]) rfl (sx_c57 xs (d + 0)) ?_
  refine Ev.sts 11 (c' := (6, [some (.inr (.inr (.inr (43, 0, 35)))), some (.inr (.inl (278194))), none, some (.inl (4))], [.inr (.inr (.inr (43, 0, 35))), .inl (4)], sx_76 xs)) rfl ?_
  refine Ev.callv (a := [.inr (.inr (.inr (43, 0, 35)))]) rfl (sx_c59 xs (d + 2)) ?_
  refine Ev.brT (p := (4 : Int32) ≤ (4 : Int32)) (c1 := (34, [some (.inr (.inr (.inr (43, 0, 35)))), some (.inr (.inl (278194))), none, some (.inl (4))], [], sx_76 xs)) (c2 := (12, [some (.inr (.inr (.inr (43, 0, 35)))), some (.inr (.inl (278194))), none, some (.inl (4))], [], sx_76 xs)) (by decide) rfl ?_
  refine Ev.sts 1 (c' := (35, [some (.inr (.inr (.inr (43, 0, 35)))), some (.inr (.inl (278194))), none, some (.inl (4))], [.inr (.inl (278194))], sx_76 xs)) rfl ?_
  exact Ev.ret rfl ⟨rfl, rfl⟩
noncomputable def sx_77 (xs : Nat → Int32) : PH := setL (sx_76 xs) 88 0 (278194)
theorem sx_c61 (xs : Nat → Int32) (d : Nat) : Rv (d + 0) 280 [.inr (.inr (.inr (43, 0, 36)))] (sx_77 xs) (some (.inl (0))) (sx_77 xs) := by
  refine Ev.sts 1 (c' := (3, [some (.inr (.inr (.inr (43, 0, 36))))], [.inl (1)], sx_77 xs)) rfl ?_
  refine Ev.brF (p := (1 : Int32) = (0 : Int32)) (c1 := (13, [some (.inr (.inr (.inr (43, 0, 36))))], [], sx_77 xs)) (c2 := (6, [some (.inr (.inr (.inr (43, 0, 36))))], [], sx_77 xs)) (by decide) rfl ?_
  refine Ev.sts 3 (c' := (14, [some (.inr (.inr (.inr (43, 0, 36))))], [.inl (0)], sx_77 xs)) rfl ?_
  exact Ev.ret rfl ⟨rfl, rfl⟩
theorem sx_c62 (xs : Nat → Int32) (d : Nat) : Rv (d + 1) 279 [.inr (.inr (.inr (43, 0, 36)))] (sx_77 xs) (some (.inl (4))) (sx_77 xs) := by
  refine Ev.sts 4 (c' := (6, [some (.inr (.inr (.inr (43, 0, 36))))], [.inr (.inr (.inr (43, 0, 36))), .inl (4)], sx_77 xs)) rfl ?_
  refine Ev.callv (a := [.inr (.inr (.inr (43, 0, 36)))]) rfl (sx_c61 xs (d + 0)) ?_
  refine Ev.sts 1 (c' := (10, [some (.inr (.inr (.inr (43, 0, 36))))], [.inl (4)], sx_77 xs)) rfl ?_
  exact Ev.ret rfl ⟨rfl, rfl⟩
theorem sx_c63 (xs : Nat → Int32) (d : Nat) : Rv (d + 0) 282 [.inr (.inr (.inr (43, 0, 36)))] (sx_77 xs) (some (.inl (1))) (sx_77 xs) := by
  refine Ev.sts 1 (c' := (3, [some (.inr (.inr (.inr (43, 0, 36))))], [.inl (1)], sx_77 xs)) rfl ?_
  refine Ev.brF (p := (1 : Int32) = (0 : Int32)) (c1 := (17, [some (.inr (.inr (.inr (43, 0, 36))))], [], sx_77 xs)) (c2 := (6, [some (.inr (.inr (.inr (43, 0, 36))))], [], sx_77 xs)) (by decide) rfl ?_
  refine Ev.sts 2 (c' := (10, [some (.inr (.inr (.inr (43, 0, 36))))], [.inl (0)], sx_77 xs)) rfl ?_
  refine Ev.brF (p := ¬ (0 : Int32) = (0 : Int32)) (c1 := (17, [some (.inr (.inr (.inr (43, 0, 36))))], [], sx_77 xs)) (c2 := (13, [some (.inr (.inr (.inr (43, 0, 36))))], [], sx_77 xs)) (by decide) rfl ?_
  refine Ev.sts 2 (c' := (18, [some (.inr (.inr (.inr (43, 0, 36))))], [.inl (1)], sx_77 xs)) rfl ?_
  exact Ev.ret rfl ⟨rfl, rfl⟩
theorem sx_c64 (xs : Nat → Int32) (d : Nat) : Rv (d + 0) 290 [.inl (0), .inl (4), .inr (.inr (.inr (46, 0, 0)))] (sx_77 xs) (some (.inl (0))) (sx_77 xs) := by
  refine Ev.sts 1 (c' := (1, [some (.inl (0)), some (.inl (4)), some (.inr (.inr (.inr (46, 0, 0))))], [.inl (0)], sx_77 xs)) rfl ?_
  refine Ev.brF (p := (0 : Int32) < (0 : Int32)) (c1 := (9, [some (.inl (0)), some (.inl (4)), some (.inr (.inr (.inr (46, 0, 0))))], [], sx_77 xs)) (c2 := (4, [some (.inl (0)), some (.inl (4)), some (.inr (.inr (.inr (46, 0, 0))))], [], sx_77 xs)) (by decide) rfl ?_
  refine Ev.sts 2 (c' := (6, [some (.inl (0)), some (.inl (4)), some (.inr (.inr (.inr (46, 0, 0))))], [.inl (4), .inl (0)], sx_77 xs)) rfl ?_
  refine Ev.brT (p := (0 : Int32) < (4 : Int32)) (c1 := (16, [some (.inl (0)), some (.inl (4)), some (.inr (.inr (.inr (46, 0, 0))))], [], sx_77 xs)) (c2 := (9, [some (.inl (0)), some (.inl (4)), some (.inr (.inr (.inr (46, 0, 0))))], [], sx_77 xs)) (by decide) rfl ?_
  refine Ev.sts 1 (c' := (17, [some (.inl (0)), some (.inl (4)), some (.inr (.inr (.inr (46, 0, 0))))], [.inl (0)], sx_77 xs)) rfl ?_
  exact Ev.ret rfl ⟨rfl, rfl⟩
theorem sx_c65 (xs : Nat → Int32) (d : Nat) : Rv (d + 1) 283 [.inl (0), .inl (4)] (sx_77 xs) none (sx_77 xs) := by
  refine Ev.sts 3 (c' := (5, [some (.inl (0)), some (.inl (4))], [.inr (.inr (.inr (46, 0, 0))), .inl (4), .inl (0)], sx_77 xs)) rfl ?_
  refine Ev.callv (a := [.inl (0), .inl (4), .inr (.inr (.inr (46, 0, 0)))]) rfl (sx_c64 xs (d + 0)) ?_
  refine Ev.sts 1 (c' := (9, [some (.inl (0)), some (.inl (4))], [], sx_77 xs)) rfl ?_
  exact Ev.ret rfl ⟨rfl, rfl⟩
theorem sx_c66 (xs : Nat → Int32) (d : Nat) : Rv (d + 2) 286 [.inr (.inr (.inr (44, 4, 36))), .inl (0)] (sx_77 xs) (some (.inl (107))) (sx_77 xs) := by
  refine Ev.sts 3 (c' := (3, [some (.inr (.inr (.inr (44, 4, 36)))), some (.inl (0))], [.inl (4), .inl (0)], sx_77 xs)) rfl ?_
  refine Ev.callv (a := [.inl (0), .inl (4)]) rfl (sx_c65 xs (d + 0)) ?_
  refine Ev.sts 6 (c' := (14, [some (.inr (.inr (.inr (44, 4, 36)))), some (.inl (0))], [.inl (107)], sx_77 xs)) rfl ?_
  exact Ev.ret rfl ⟨rfl, rfl⟩
theorem sx_c67 (xs : Nat → Int32) (d : Nat) : Rv (d + 3) 281 [.inr (.inr (.inr (43, 0, 36))), .inl (0)] (sx_77 xs) (some (.inl (107))) (sx_77 xs) := by
  refine Ev.sts 1 (c' := (1, [some (.inr (.inr (.inr (43, 0, 36)))), some (.inl (0))], [.inr (.inr (.inr (43, 0, 36)))], sx_77 xs)) rfl ?_
  refine Ev.callv (a := [.inr (.inr (.inr (43, 0, 36)))]) rfl (sx_c63 xs (d + 2)) ?_
  refine Ev.brF (p := (1 : Int32) = (0 : Int32)) (c1 := (16, [some (.inr (.inr (.inr (43, 0, 36)))), some (.inl (0))], [], sx_77 xs)) (c2 := (7, [some (.inr (.inr (.inr (43, 0, 36)))), some (.inl (0))], [], sx_77 xs)) (by decide) rfl ?_
  refine Ev.sts 3 (c' := (12, [some (.inr (.inr (.inr (43, 0, 36)))), some (.inl (0))], [.inl (0), .inr (.inr (.inr (44, 4, 36)))], sx_77 xs)) rfl ?_
  refine Ev.callv (a := [.inr (.inr (.inr (44, 4, 36))), .inl (0)]) rfl (sx_c66 xs (d + 0)) ?_
  exact Ev.ret rfl ⟨rfl, rfl⟩
theorem sx_c68 (xs : Nat → Int32) (d : Nat) : Rv (d + 0) 280 [.inr (.inr (.inr (43, 0, 36)))] (sx_77 xs) (some (.inl (0))) (sx_77 xs) := by
  refine Ev.sts 1 (c' := (3, [some (.inr (.inr (.inr (43, 0, 36))))], [.inl (1)], sx_77 xs)) rfl ?_
  refine Ev.brF (p := (1 : Int32) = (0 : Int32)) (c1 := (13, [some (.inr (.inr (.inr (43, 0, 36))))], [], sx_77 xs)) (c2 := (6, [some (.inr (.inr (.inr (43, 0, 36))))], [], sx_77 xs)) (by decide) rfl ?_
  refine Ev.sts 3 (c' := (14, [some (.inr (.inr (.inr (43, 0, 36))))], [.inl (0)], sx_77 xs)) rfl ?_
  exact Ev.ret rfl ⟨rfl, rfl⟩
theorem sx_c69 (xs : Nat → Int32) (d : Nat) : Rv (d + 1) 279 [.inr (.inr (.inr (43, 0, 36)))] (sx_77 xs) (some (.inl (4))) (sx_77 xs) := by
  refine Ev.sts 4 (c' := (6, [some (.inr (.inr (.inr (43, 0, 36))))], [.inr (.inr (.inr (43, 0, 36))), .inl (4)], sx_77 xs)) rfl ?_
  refine Ev.callv (a := [.inr (.inr (.inr (43, 0, 36)))]) rfl (sx_c68 xs (d + 0)) ?_
  refine Ev.sts 1 (c' := (10, [some (.inr (.inr (.inr (43, 0, 36))))], [.inl (4)], sx_77 xs)) rfl ?_
  exact Ev.ret rfl ⟨rfl, rfl⟩
theorem sx_c70 (xs : Nat → Int32) (d : Nat) : Rv (d + 0) 282 [.inr (.inr (.inr (43, 0, 36)))] (sx_77 xs) (some (.inl (1))) (sx_77 xs) := by
  refine Ev.sts 1 (c' := (3, [some (.inr (.inr (.inr (43, 0, 36))))], [.inl (1)], sx_77 xs)) rfl ?_
  refine Ev.brF (p := (1 : Int32) = (0 : Int32)) (c1 := (17, [some (.inr (.inr (.inr (43, 0, 36))))], [], sx_77 xs)) (c2 := (6, [some (.inr (.inr (.inr (43, 0, 36))))], [], sx_77 xs)) (by decide) rfl ?_
  refine Ev.sts 2 (c' := (10, [some (.inr (.inr (.inr (43, 0, 36))))], [.inl (0)], sx_77 xs)) rfl ?_
  refine Ev.brF (p := ¬ (0 : Int32) = (0 : Int32)) (c1 := (17, [some (.inr (.inr (.inr (43, 0, 36))))], [], sx_77 xs)) (c2 := (13, [some (.inr (.inr (.inr (43, 0, 36))))], [], sx_77 xs)) (by decide) rfl ?_
  refine Ev.sts 2 (c' := (18, [some (.inr (.inr (.inr (43, 0, 36))))], [.inl (1)], sx_77 xs)) rfl ?_
  exact Ev.ret rfl ⟨rfl, rfl⟩
theorem sx_c71 (xs : Nat → Int32) (d : Nat) : Rv (d + 0) 290 [.inl (1), .inl (4), .inr (.inr (.inr (46, 0, 0)))] (sx_77 xs) (some (.inl (1))) (sx_77 xs) := by
  refine Ev.sts 1 (c' := (1, [some (.inl (1)), some (.inl (4)), some (.inr (.inr (.inr (46, 0, 0))))], [.inl (1)], sx_77 xs)) rfl ?_
  refine Ev.brF (p := (1 : Int32) < (0 : Int32)) (c1 := (9, [some (.inl (1)), some (.inl (4)), some (.inr (.inr (.inr (46, 0, 0))))], [], sx_77 xs)) (c2 := (4, [some (.inl (1)), some (.inl (4)), some (.inr (.inr (.inr (46, 0, 0))))], [], sx_77 xs)) (by decide) rfl ?_
  refine Ev.sts 2 (c' := (6, [some (.inl (1)), some (.inl (4)), some (.inr (.inr (.inr (46, 0, 0))))], [.inl (4), .inl (1)], sx_77 xs)) rfl ?_
  refine Ev.brT (p := (1 : Int32) < (4 : Int32)) (c1 := (16, [some (.inl (1)), some (.inl (4)), some (.inr (.inr (.inr (46, 0, 0))))], [], sx_77 xs)) (c2 := (9, [some (.inl (1)), some (.inl (4)), some (.inr (.inr (.inr (46, 0, 0))))], [], sx_77 xs)) (by decide) rfl ?_
  refine Ev.sts 1 (c' := (17, [some (.inl (1)), some (.inl (4)), some (.inr (.inr (.inr (46, 0, 0))))], [.inl (1)], sx_77 xs)) rfl ?_
  exact Ev.ret rfl ⟨rfl, rfl⟩
theorem sx_c72 (xs : Nat → Int32) (d : Nat) : Rv (d + 1) 283 [.inl (1), .inl (4)] (sx_77 xs) none (sx_77 xs) := by
  refine Ev.sts 3 (c' := (5, [some (.inl (1)), some (.inl (4))], [.inr (.inr (.inr (46, 0, 0))), .inl (4), .inl (1)], sx_77 xs)) rfl ?_
  refine Ev.callv (a := [.inl (1), .inl (4), .inr (.inr (.inr (46, 0, 0)))]) rfl (sx_c71 xs (d + 0)) ?_
  refine Ev.sts 1 (c' := (9, [some (.inl (1)), some (.inl (4))], [], sx_77 xs)) rfl ?_
  exact Ev.ret rfl ⟨rfl, rfl⟩
theorem sx_c73 (xs : Nat → Int32) (d : Nat) : Rv (d + 2) 286 [.inr (.inr (.inr (44, 4, 36))), .inl (1)] (sx_77 xs) (some (.inl (105))) (sx_77 xs) := by
  refine Ev.sts 3 (c' := (3, [some (.inr (.inr (.inr (44, 4, 36)))), some (.inl (1))], [.inl (4), .inl (1)], sx_77 xs)) rfl ?_
  refine Ev.callv (a := [.inl (1), .inl (4)]) rfl (sx_c72 xs (d + 0)) ?_
  refine Ev.sts 6 (c' := (14, [some (.inr (.inr (.inr (44, 4, 36)))), some (.inl (1))], [.inl (105)], sx_77 xs)) rfl ?_
  exact Ev.ret rfl ⟨rfl, rfl⟩
theorem sx_c74 (xs : Nat → Int32) (d : Nat) : Rv (d + 3) 281 [.inr (.inr (.inr (43, 0, 36))), .inl (1)] (sx_77 xs) (some (.inl (105))) (sx_77 xs) := by
  refine Ev.sts 1 (c' := (1, [some (.inr (.inr (.inr (43, 0, 36)))), some (.inl (1))], [.inr (.inr (.inr (43, 0, 36)))], sx_77 xs)) rfl ?_
  refine Ev.callv (a := [.inr (.inr (.inr (43, 0, 36)))]) rfl (sx_c70 xs (d + 2)) ?_
  refine Ev.brF (p := (1 : Int32) = (0 : Int32)) (c1 := (16, [some (.inr (.inr (.inr (43, 0, 36)))), some (.inl (1))], [], sx_77 xs)) (c2 := (7, [some (.inr (.inr (.inr (43, 0, 36)))), some (.inl (1))], [], sx_77 xs)) (by decide) rfl ?_
  refine Ev.sts 3 (c' := (12, [some (.inr (.inr (.inr (43, 0, 36)))), some (.inl (1))], [.inl (1), .inr (.inr (.inr (44, 4, 36)))], sx_77 xs)) rfl ?_
  refine Ev.callv (a := [.inr (.inr (.inr (44, 4, 36))), .inl (1)]) rfl (sx_c73 xs (d + 0)) ?_
  exact Ev.ret rfl ⟨rfl, rfl⟩
theorem sx_c75 (xs : Nat → Int32) (d : Nat) : Rv (d + 0) 280 [.inr (.inr (.inr (43, 0, 36)))] (sx_77 xs) (some (.inl (0))) (sx_77 xs) := by
  refine Ev.sts 1 (c' := (3, [some (.inr (.inr (.inr (43, 0, 36))))], [.inl (1)], sx_77 xs)) rfl ?_
  refine Ev.brF (p := (1 : Int32) = (0 : Int32)) (c1 := (13, [some (.inr (.inr (.inr (43, 0, 36))))], [], sx_77 xs)) (c2 := (6, [some (.inr (.inr (.inr (43, 0, 36))))], [], sx_77 xs)) (by decide) rfl ?_
  refine Ev.sts 3 (c' := (14, [some (.inr (.inr (.inr (43, 0, 36))))], [.inl (0)], sx_77 xs)) rfl ?_
  exact Ev.ret rfl ⟨rfl, rfl⟩
theorem sx_c76 (xs : Nat → Int32) (d : Nat) : Rv (d + 1) 279 [.inr (.inr (.inr (43, 0, 36)))] (sx_77 xs) (some (.inl (4))) (sx_77 xs) := by
  refine Ev.sts 4 (c' := (6, [some (.inr (.inr (.inr (43, 0, 36))))], [.inr (.inr (.inr (43, 0, 36))), .inl (4)], sx_77 xs)) rfl ?_
  refine Ev.callv (a := [.inr (.inr (.inr (43, 0, 36)))]) rfl (sx_c75 xs (d + 0)) ?_
  refine Ev.sts 1 (c' := (10, [some (.inr (.inr (.inr (43, 0, 36))))], [.inl (4)], sx_77 xs)) rfl ?_
  exact Ev.ret rfl ⟨rfl, rfl⟩
theorem sx_c77 (xs : Nat → Int32) (d : Nat) : Rv (d + 0) 282 [.inr (.inr (.inr (43, 0, 36)))] (sx_77 xs) (some (.inl (1))) (sx_77 xs) := by
  refine Ev.sts 1 (c' := (3, [some (.inr (.inr (.inr (43, 0, 36))))], [.inl (1)], sx_77 xs)) rfl ?_
  refine Ev.brF (p := (1 : Int32) = (0 : Int32)) (c1 := (17, [some (.inr (.inr (.inr (43, 0, 36))))], [], sx_77 xs)) (c2 := (6, [some (.inr (.inr (.inr (43, 0, 36))))], [], sx_77 xs)) (by decide) rfl ?_
  refine Ev.sts 2 (c' := (10, [some (.inr (.inr (.inr (43, 0, 36))))], [.inl (0)], sx_77 xs)) rfl ?_
  refine Ev.brF (p := ¬ (0 : Int32) = (0 : Int32)) (c1 := (17, [some (.inr (.inr (.inr (43, 0, 36))))], [], sx_77 xs)) (c2 := (13, [some (.inr (.inr (.inr (43, 0, 36))))], [], sx_77 xs)) (by decide) rfl ?_
  refine Ev.sts 2 (c' := (18, [some (.inr (.inr (.inr (43, 0, 36))))], [.inl (1)], sx_77 xs)) rfl ?_
  exact Ev.ret rfl ⟨rfl, rfl⟩
theorem sx_c78 (xs : Nat → Int32) (d : Nat) : Rv (d + 0) 290 [.inl (2), .inl (4), .inr (.inr (.inr (46, 0, 0)))] (sx_77 xs) (some (.inl (2))) (sx_77 xs) := by
  refine Ev.sts 1 (c' := (1, [some (.inl (2)), some (.inl (4)), some (.inr (.inr (.inr (46, 0, 0))))], [.inl (2)], sx_77 xs)) rfl ?_
  refine Ev.brF (p := (2 : Int32) < (0 : Int32)) (c1 := (9, [some (.inl (2)), some (.inl (4)), some (.inr (.inr (.inr (46, 0, 0))))], [], sx_77 xs)) (c2 := (4, [some (.inl (2)), some (.inl (4)), some (.inr (.inr (.inr (46, 0, 0))))], [], sx_77 xs)) (by decide) rfl ?_
  refine Ev.sts 2 (c' := (6, [some (.inl (2)), some (.inl (4)), some (.inr (.inr (.inr (46, 0, 0))))], [.inl (4), .inl (2)], sx_77 xs)) rfl ?_
  refine Ev.brT (p := (2 : Int32) < (4 : Int32)) (c1 := (16, [some (.inl (2)), some (.inl (4)), some (.inr (.inr (.inr (46, 0, 0))))], [], sx_77 xs)) (c2 := (9, [some (.inl (2)), some (.inl (4)), some (.inr (.inr (.inr (46, 0, 0))))], [], sx_77 xs)) (by decide) rfl ?_
  refine Ev.sts 1 (c' := (17, [some (.inl (2)), some (.inl (4)), some (.inr (.inr (.inr (46, 0, 0))))], [.inl (2)], sx_77 xs)) rfl ?_
  exact Ev.ret rfl ⟨rfl, rfl⟩
theorem sx_c79 (xs : Nat → Int32) (d : Nat) : Rv (d + 1) 283 [.inl (2), .inl (4)] (sx_77 xs) none (sx_77 xs) := by
  refine Ev.sts 3 (c' := (5, [some (.inl (2)), some (.inl (4))], [.inr (.inr (.inr (46, 0, 0))), .inl (4), .inl (2)], sx_77 xs)) rfl ?_
  refine Ev.callv (a := [.inl (2), .inl (4), .inr (.inr (.inr (46, 0, 0)))]) rfl (sx_c78 xs (d + 0)) ?_
  refine Ev.sts 1 (c' := (9, [some (.inl (2)), some (.inl (4))], [], sx_77 xs)) rfl ?_
  exact Ev.ret rfl ⟨rfl, rfl⟩
theorem sx_c80 (xs : Nat → Int32) (d : Nat) : Rv (d + 2) 286 [.inr (.inr (.inr (44, 4, 36))), .inl (2)] (sx_77 xs) (some (.inl (110))) (sx_77 xs) := by
  refine Ev.sts 3 (c' := (3, [some (.inr (.inr (.inr (44, 4, 36)))), some (.inl (2))], [.inl (4), .inl (2)], sx_77 xs)) rfl ?_
  refine Ev.callv (a := [.inl (2), .inl (4)]) rfl (sx_c79 xs (d + 0)) ?_
  refine Ev.sts 6 (c' := (14, [some (.inr (.inr (.inr (44, 4, 36)))), some (.inl (2))], [.inl (110)], sx_77 xs)) rfl ?_
  exact Ev.ret rfl ⟨rfl, rfl⟩
theorem sx_c81 (xs : Nat → Int32) (d : Nat) : Rv (d + 3) 281 [.inr (.inr (.inr (43, 0, 36))), .inl (2)] (sx_77 xs) (some (.inl (110))) (sx_77 xs) := by
  refine Ev.sts 1 (c' := (1, [some (.inr (.inr (.inr (43, 0, 36)))), some (.inl (2))], [.inr (.inr (.inr (43, 0, 36)))], sx_77 xs)) rfl ?_
  refine Ev.callv (a := [.inr (.inr (.inr (43, 0, 36)))]) rfl (sx_c77 xs (d + 2)) ?_
  refine Ev.brF (p := (1 : Int32) = (0 : Int32)) (c1 := (16, [some (.inr (.inr (.inr (43, 0, 36)))), some (.inl (2))], [], sx_77 xs)) (c2 := (7, [some (.inr (.inr (.inr (43, 0, 36)))), some (.inl (2))], [], sx_77 xs)) (by decide) rfl ?_
  refine Ev.sts 3 (c' := (12, [some (.inr (.inr (.inr (43, 0, 36)))), some (.inl (2))], [.inl (2), .inr (.inr (.inr (44, 4, 36)))], sx_77 xs)) rfl ?_
  refine Ev.callv (a := [.inr (.inr (.inr (44, 4, 36))), .inl (2)]) rfl (sx_c80 xs (d + 0)) ?_
  exact Ev.ret rfl ⟨rfl, rfl⟩
theorem sx_c82 (xs : Nat → Int32) (d : Nat) : Rv (d + 0) 280 [.inr (.inr (.inr (43, 0, 36)))] (sx_77 xs) (some (.inl (0))) (sx_77 xs) := by
  refine Ev.sts 1 (c' := (3, [some (.inr (.inr (.inr (43, 0, 36))))], [.inl (1)], sx_77 xs)) rfl ?_
  refine Ev.brF (p := (1 : Int32) = (0 : Int32)) (c1 := (13, [some (.inr (.inr (.inr (43, 0, 36))))], [], sx_77 xs)) (c2 := (6, [some (.inr (.inr (.inr (43, 0, 36))))], [], sx_77 xs)) (by decide) rfl ?_
  refine Ev.sts 3 (c' := (14, [some (.inr (.inr (.inr (43, 0, 36))))], [.inl (0)], sx_77 xs)) rfl ?_
  exact Ev.ret rfl ⟨rfl, rfl⟩
theorem sx_c83 (xs : Nat → Int32) (d : Nat) : Rv (d + 1) 279 [.inr (.inr (.inr (43, 0, 36)))] (sx_77 xs) (some (.inl (4))) (sx_77 xs) := by
  refine Ev.sts 4 (c' := (6, [some (.inr (.inr (.inr (43, 0, 36))))], [.inr (.inr (.inr (43, 0, 36))), .inl (4)], sx_77 xs)) rfl ?_
  refine Ev.callv (a := [.inr (.inr (.inr (43, 0, 36)))]) rfl (sx_c82 xs (d + 0)) ?_
  refine Ev.sts 1 (c' := (10, [some (.inr (.inr (.inr (43, 0, 36))))], [.inl (4)], sx_77 xs)) rfl ?_
  exact Ev.ret rfl ⟨rfl, rfl⟩
theorem sx_c84 (xs : Nat → Int32) (d : Nat) : Rv (d + 0) 282 [.inr (.inr (.inr (43, 0, 36)))] (sx_77 xs) (some (.inl (1))) (sx_77 xs) := by
  refine Ev.sts 1 (c' := (3, [some (.inr (.inr (.inr (43, 0, 36))))], [.inl (1)], sx_77 xs)) rfl ?_
  refine Ev.brF (p := (1 : Int32) = (0 : Int32)) (c1 := (17, [some (.inr (.inr (.inr (43, 0, 36))))], [], sx_77 xs)) (c2 := (6, [some (.inr (.inr (.inr (43, 0, 36))))], [], sx_77 xs)) (by decide) rfl ?_
  refine Ev.sts 2 (c' := (10, [some (.inr (.inr (.inr (43, 0, 36))))], [.inl (0)], sx_77 xs)) rfl ?_
  refine Ev.brF (p := ¬ (0 : Int32) = (0 : Int32)) (c1 := (17, [some (.inr (.inr (.inr (43, 0, 36))))], [], sx_77 xs)) (c2 := (13, [some (.inr (.inr (.inr (43, 0, 36))))], [], sx_77 xs)) (by decide) rfl ?_
  refine Ev.sts 2 (c' := (18, [some (.inr (.inr (.inr (43, 0, 36))))], [.inl (1)], sx_77 xs)) rfl ?_
  exact Ev.ret rfl ⟨rfl, rfl⟩
theorem sx_c85 (xs : Nat → Int32) (d : Nat) : Rv (d + 0) 290 [.inl (3), .inl (4), .inr (.inr (.inr (46, 0, 0)))] (sx_77 xs) (some (.inl (3))) (sx_77 xs) := by
  refine Ev.sts 1 (c' := (1, [some (.inl (3)), some (.inl (4)), some (.inr (.inr (.inr (46, 0, 0))))], [.inl (3)], sx_77 xs)) rfl ?_
  refine Ev.brF (p := (3 : Int32) < (0 : Int32)) (c1 := (9, [some (.inl (3)), some (.inl (4)), some (.inr (.inr (.inr (46, 0, 0))))], [], sx_77 xs)) (c2 := (4, [some (.inl (3)), some (.inl (4)), some (.inr (.inr (.inr (46, 0, 0))))], [], sx_77 xs)) (by decide) rfl ?_
  refine Ev.sts 2 (c' := (6, [some (.inl (3)), some (.inl (4)), some (.inr (.inr (.inr (46, 0, 0))))], [.inl (4), .inl (3)], sx_77 xs)) rfl ?_
  refine Ev.brT (p := (3 : Int32) < (4 : Int32)) (c1 := (16, [some (.inl (3)), some (.inl (4)), some (.inr (.inr (.inr (46, 0, 0))))], [], sx_77 xs)) (c2 := (9, [some (.inl (3)), some (.inl (4)), some (.inr (.inr (.inr (46, 0, 0))))], [], sx_77 xs)) (by decide) rfl ?_
  refine Ev.sts 1 (c' := (17, [some (.inl (3)), some (.inl (4)), some (.inr (.inr (.inr (46, 0, 0))))], [.inl (3)], sx_77 xs)) rfl ?_
  exact Ev.ret rfl ⟨rfl, rfl⟩
theorem sx_c86 (xs : Nat → Int32) (d : Nat) : Rv (d + 1) 283 [.inl (3), .inl (4)] (sx_77 xs) none (sx_77 xs) := by
  refine Ev.sts 3 (c' := (5, [some (.inl (3)), some (.inl (4))], [.inr (.inr (.inr (46, 0, 0))), .inl (4), .inl (3)], sx_77 xs)) rfl ?_
  refine Ev.callv (a := [.inl (3), .inl (4), .inr (.inr (.inr (46, 0, 0)))]) rfl (sx_c85 xs (d + 0)) ?_
  refine Ev.sts 1 (c' := (9, [some (.inl (3)), some (.inl (4))], [], sx_77 xs)) rfl ?_
  exact Ev.ret rfl ⟨rfl, rfl⟩
theorem sx_c87 (xs : Nat → Int32) (d : Nat) : Rv (d + 2) 286 [.inr (.inr (.inr (44, 4, 36))), .inl (3)] (sx_77 xs) (some (.inl (100))) (sx_77 xs) := by
  refine Ev.sts 3 (c' := (3, [some (.inr (.inr (.inr (44, 4, 36)))), some (.inl (3))], [.inl (4), .inl (3)], sx_77 xs)) rfl ?_
  refine Ev.callv (a := [.inl (3), .inl (4)]) rfl (sx_c86 xs (d + 0)) ?_
  refine Ev.sts 6 (c' := (14, [some (.inr (.inr (.inr (44, 4, 36)))), some (.inl (3))], [.inl (100)], sx_77 xs)) rfl ?_
  exact Ev.ret rfl ⟨rfl, rfl⟩
theorem sx_c88 (xs : Nat → Int32) (d : Nat) : Rv (d + 3) 281 [.inr (.inr (.inr (43, 0, 36))), .inl (3)] (sx_77 xs) (some (.inl (100))) (sx_77 xs) := by
  refine Ev.sts 1 (c' := (1, [some (.inr (.inr (.inr (43, 0, 36)))), some (.inl (3))], [.inr (.inr (.inr (43, 0, 36)))], sx_77 xs)) rfl ?_
  refine Ev.callv (a := [.inr (.inr (.inr (43, 0, 36)))]) rfl (sx_c84 xs (d + 2)) ?_
  refine Ev.brF (p := (1 : Int32) = (0 : Int32)) (c1 := (16, [some (.inr (.inr (.inr (43, 0, 36)))), some (.inl (3))], [], sx_77 xs)) (c2 := (7, [some (.inr (.inr (.inr (43, 0, 36)))), some (.inl (3))], [], sx_77 xs)) (by decide) rfl ?_
  refine Ev.sts 3 (c' := (12, [some (.inr (.inr (.inr (43, 0, 36)))), some (.inl (3))], [.inl (3), .inr (.inr (.inr (44, 4, 36)))], sx_77 xs)) rfl ?_
  refine Ev.callv (a := [.inr (.inr (.inr (44, 4, 36))), .inl (3)]) rfl (sx_c87 xs (d + 0)) ?_
  exact Ev.ret rfl ⟨rfl, rfl⟩
theorem sx_c89 (xs : Nat → Int32) (d : Nat) : Rv (d + 0) 280 [.inr (.inr (.inr (43, 0, 36)))] (sx_77 xs) (some (.inl (0))) (sx_77 xs) := by
  refine Ev.sts 1 (c' := (3, [some (.inr (.inr (.inr (43, 0, 36))))], [.inl (1)], sx_77 xs)) rfl ?_
  refine Ev.brF (p := (1 : Int32) = (0 : Int32)) (c1 := (13, [some (.inr (.inr (.inr (43, 0, 36))))], [], sx_77 xs)) (c2 := (6, [some (.inr (.inr (.inr (43, 0, 36))))], [], sx_77 xs)) (by decide) rfl ?_
  refine Ev.sts 3 (c' := (14, [some (.inr (.inr (.inr (43, 0, 36))))], [.inl (0)], sx_77 xs)) rfl ?_
  exact Ev.ret rfl ⟨rfl, rfl⟩
theorem sx_c90 (xs : Nat → Int32) (d : Nat) : Rv (d + 1) 279 [.inr (.inr (.inr (43, 0, 36)))] (sx_77 xs) (some (.inl (4))) (sx_77 xs) := by
  refine Ev.sts 4 (c' := (6, [some (.inr (.inr (.inr (43, 0, 36))))], [.inr (.inr (.inr (43, 0, 36))), .inl (4)], sx_77 xs)) rfl ?_
  refine Ev.callv (a := [.inr (.inr (.inr (43, 0, 36)))]) rfl (sx_c89 xs (d + 0)) ?_
  refine Ev.sts 1 (c' := (10, [some (.inr (.inr (.inr (43, 0, 36))))], [.inl (4)], sx_77 xs)) rfl ?_
  exact Ev.ret rfl ⟨rfl, rfl⟩
theorem sx_c91 (xs : Nat → Int32) (d : Nat) : Rv (d + 4) 168 [.inr (.inr (.inr (43, 0, 36)))] (sx_77 xs) (some (.inr (.inl (370116)))) (sx_77 xs) := by
  refine Ev.sts 6 (c' := (6, [some (.inr (.inr (.inr (43, 0, 36)))), some (.inr (.inl (0))), none, some (.inl (0))], [.inr (.inr (.inr (43, 0, 36))), .inl (0)], sx_77 xs)) rfl ?_
  refine Ev.callv (a := [.inr (.inr (.inr (43, 0, 36)))]) rfl (sx_c62 xs (d + 2)) ?_
  refine Ev.brF (p := (4 : Int32) ≤ (0 : Int32)) (c1 := (34, [some (.inr (.inr (.inr (43, 0, 36)))), some (.inr (.inl (0))), none, some (.inl (0))], [], sx_77 xs)) (c2 := (12, [some (.inr (.inr (.inr (43, 0, 36)))), some (.inr (.inl (0))), none, some (.inl (0))], [], sx_77 xs)) (by decide) rfl ?_
  refine Ev.sts 5 (c' := (17, [some (.inr (.inr (.inr (43, 0, 36)))), some (.inr (.inl (0))), none, some (.inl (0))], [.inl (0), .inr (.inr (.inr (43, 0, 36))), .inr (.inl (0))], sx_77 xs)) rfl ?_
  refine Ev.callv (a := [.inr (.inr (.inr (43, 0, 36))), .inl (0)]) rfl (sx_c67 xs (d + 0)) ?_
  refine Ev.sts 11 (c' := (6, [some (.inr (.inr (.inr (43, 0, 36)))), some (.inr (.inl (11))), none, some (.inl (1))], [.inr (.inr (.inr (43, 0, 36))), .inl (1)], sx_77 xs)) rfl ?_
  refine Ev.callv (a := [.inr (.inr (.inr (43, 0, 36)))]) rfl (sx_c69 xs (d + 2)) ?_
  refine Ev.brF (p := (4 : Int32) ≤ (1 : Int32)) (c1 := (34, [some (.inr (.inr (.inr (43, 0, 36)))), some (.inr (.inl (11))), none, some (.inl (1))], [], sx_77 xs)) (c2 := (12, [some (.inr (.inr (.inr (43, 0, 36)))), some (.inr (.inl (11))), none, some (.inl (1))], [], sx_77 xs)) (by decide) rfl ?_
  refine Ev.sts 5 (c' := (17, [some (.inr (.inr (.inr (43, 0, 36)))), some (.inr (.inl (11))), none, some (.inl (1))], [.inl (1), .inr (.inr (.inr (43, 0, 36))), .inr (.inl (352))], sx_77 xs)) rfl ?_
  refine Ev.callv (a := [.inr (.inr (.inr (43, 0, 36))), .inl (1)]) rfl (sx_c74 xs (d + 0)) ?_
  refine Ev.sts 11 (c' := (6, [some (.inr (.inr (.inr (43, 0, 36)))), some (.inr (.inl (361))), none, some (.inl (2))], [.inr (.inr (.inr (43, 0, 36))), .inl (2)], sx_77 xs)) rfl ?_
  refine Ev.callv (a := [.inr (.inr (.inr (43, 0, 36)))]) rfl (sx_c76 xs (d + 2)) ?_
  refine Ev.brF (p := (4 : Int32) ≤ (2 : Int32)) (c1 := (34, [some (.inr (.inr (.inr (43, 0, 36)))), some (.inr (.inl (361))), none, some (.inl (2))], [], sx_77 xs)) (c2 := (12, [some (.inr (.inr (.inr (43, 0, 36)))), some (.inr (.inl (361))), none, some (.inl (2))], [], sx_77 xs)) (by decide) rfl ?_
  refine Ev.sts 5 (c' := (17, [some (.inr (.inr (.inr (43, 0, 36)))), some (.inr (.inl (361))), none, some (.inl (2))], [.inl (2), .inr (.inr (.inr (43, 0, 36))), .inr (.inl (11552))], sx_77 xs)) rfl ?_
  refine Ev.callv (a := [.inr (.inr (.inr (43, 0, 36))), .inl (2)]) rfl (sx_c81 xs (d + 0)) ?_
  refine Ev.sts 11 (c' := (6, [some (.inr (.inr (.inr (43, 0, 36)))), some (.inr (.inl (11566))), none, some (.inl (3))], [.inr (.inr (.inr (43, 0, 36))), .inl (3)], sx_77 xs)) rfl ?_
  refine Ev.callv (a := [.inr (.inr (.inr (43, 0, 36)))]) rfl (sx_c83 xs (d + 2)) ?_
  refine Ev.brF (p := (4 : Int32) ≤ (3 : Int32)) (c1 := (34, [some (.inr (.inr (.inr (43, 0, 36)))), some (.inr (.inl (11566))), none, some (.inl (3))], [], sx_77 xs)) (c2 := (12, [some (.inr (.inr (.inr (43, 0, 36)))), some (.inr (.inl (11566))), none, some (.inl (3))], [], sx_77 xs)) (by decide) rfl ?_
  refine Ev.sts 5 (c' := (17, [some (.inr (.inr (.inr (43, 0, 36)))), some (.inr (.inl (11566))), none, some (.inl (3))], [.inl (3), .inr (.inr (.inr (43, 0, 36))), .inr (.inl (370112))], sx_77 xs)) rfl ?_
  refine Ev.callv (a := [.inr (.inr (.inr (43, 0, 36))), .inl (3)]) rfl (sx_c88 xs (d + 0)) ?_
  refine Ev.sts 11 (c' := (6, [some (.inr (.inr (.inr (43, 0, 36)))), some (.inr (.inl (370116))), none, some (.inl (4))], [.inr (.inr (.inr (43, 0, 36))), .inl (4)], sx_77 xs)) rfl ?_
  refine Ev.callv (a := [.inr (.inr (.inr (43, 0, 36)))]) rfl (sx_c90 xs (d + 2)) ?_
  refine Ev.brT (p := (4 : Int32) ≤ (4 : Int32)) (c1 := (34, [some (.inr (.inr (.inr (43, 0, 36)))), some (.inr (.inl (370116))), none, some (.inl (4))], [], sx_77 xs)) (c2 := (12, [some (.inr (.inr (.inr (43, 0, 36)))), some (.inr (.inl (370116))), none, some (.inl (4))], [], sx_77 xs)) (by decide) rfl ?_
  refine Ev.sts 1 (c' := (35, [some (.inr (.inr (.inr (43, 0, 36)))), some (.inr (.inl (370116))), none, some (.inl (4))], [.inr (.inl (370116))], sx_77 xs)) rfl ?_
  exact Ev.ret rfl ⟨rfl, rfl⟩
noncomputable def sx_78 (xs : Nat → Int32) : PH := setL (sx_77 xs) 88 1 (370116)
theorem sx_c92 (xs : Nat → Int32) (d : Nat) : Rv (d + 0) 280 [.inr (.inr (.inr (43, 0, 37)))] (sx_78 xs) (some (.inl (0))) (sx_78 xs) := by
  refine Ev.sts 1 (c' := (3, [some (.inr (.inr (.inr (43, 0, 37))))], [.inl (1)], sx_78 xs)) rfl ?_
  refine Ev.brF (p := (1 : Int32) = (0 : Int32)) (c1 := (13, [some (.inr (.inr (.inr (43, 0, 37))))], [], sx_78 xs)) (c2 := (6, [some (.inr (.inr (.inr (43, 0, 37))))], [], sx_78 xs)) (by decide) rfl ?_
  refine Ev.sts 3 (c' := (14, [some (.inr (.inr (.inr (43, 0, 37))))], [.inl (0)], sx_78 xs)) rfl ?_
  exact Ev.ret rfl ⟨rfl, rfl⟩
theorem sx_c93 (xs : Nat → Int32) (d : Nat) : Rv (d + 1) 279 [.inr (.inr (.inr (43, 0, 37)))] (sx_78 xs) (some (.inl (6))) (sx_78 xs) := by
  refine Ev.sts 4 (c' := (6, [some (.inr (.inr (.inr (43, 0, 37))))], [.inr (.inr (.inr (43, 0, 37))), .inl (6)], sx_78 xs)) rfl ?_
  refine Ev.callv (a := [.inr (.inr (.inr (43, 0, 37)))]) rfl (sx_c92 xs (d + 0)) ?_
  refine Ev.sts 1 (c' := (10, [some (.inr (.inr (.inr (43, 0, 37))))], [.inl (6)], sx_78 xs)) rfl ?_
  exact Ev.ret rfl ⟨rfl, rfl⟩
theorem sx_c94 (xs : Nat → Int32) (d : Nat) : Rv (d + 0) 282 [.inr (.inr (.inr (43, 0, 37)))] (sx_78 xs) (some (.inl (1))) (sx_78 xs) := by
  refine Ev.sts 1 (c' := (3, [some (.inr (.inr (.inr (43, 0, 37))))], [.inl (1)], sx_78 xs)) rfl ?_
  refine Ev.brF (p := (1 : Int32) = (0 : Int32)) (c1 := (17, [some (.inr (.inr (.inr (43, 0, 37))))], [], sx_78 xs)) (c2 := (6, [some (.inr (.inr (.inr (43, 0, 37))))], [], sx_78 xs)) (by decide) rfl ?_
  refine Ev.sts 2 (c' := (10, [some (.inr (.inr (.inr (43, 0, 37))))], [.inl (0)], sx_78 xs)) rfl ?_
  refine Ev.brF (p := ¬ (0 : Int32) = (0 : Int32)) (c1 := (17, [some (.inr (.inr (.inr (43, 0, 37))))], [], sx_78 xs)) (c2 := (13, [some (.inr (.inr (.inr (43, 0, 37))))], [], sx_78 xs)) (by decide) rfl ?_
  refine Ev.sts 2 (c' := (18, [some (.inr (.inr (.inr (43, 0, 37))))], [.inl (1)], sx_78 xs)) rfl ?_
  exact Ev.ret rfl ⟨rfl, rfl⟩
theorem sx_c95 (xs : Nat → Int32) (d : Nat) : Rv (d + 0) 290 [.inl (0), .inl (6), .inr (.inr (.inr (46, 0, 0)))] (sx_78 xs) (some (.inl (0))) (sx_78 xs) := by
  refine Ev.sts 1 (c' := (1, [some (.inl (0)), some (.inl (6)), some (.inr (.inr (.inr (46, 0, 0))))], [.inl (0)], sx_78 xs)) rfl ?_
  refine Ev.brF (p := (0 : Int32) < (0 : Int32)) (c1 := (9, [some (.inl (0)), some (.inl (6)), some (.inr (.inr (.inr (46, 0, 0))))], [], sx_78 xs)) (c2 := (4, [some (.inl (0)), some (.inl (6)), some (.inr (.inr (.inr (46, 0, 0))))], [], sx_78 xs)) (by decide) rfl ?_
  refine Ev.sts 2 (c' := (6, [some (.inl (0)), some (.inl (6)), some (.inr (.inr (.inr (46, 0, 0))))], [.inl (6), .inl (0)], sx_78 xs)) rfl ?_
  refine Ev.brT (p := (0 : Int32) < (6 : Int32)) (c1 := (16, [some (.inl (0)), some (.inl (6)), some (.inr (.inr (.inr (46, 0, 0))))], [], sx_78 xs)) (c2 := (9, [some (.inl (0)), some (.inl (6)), some (.inr (.inr (.inr (46, 0, 0))))], [], sx_78 xs)) (by decide) rfl ?_
  refine Ev.sts 1 (c' := (17, [some (.inl (0)), some (.inl (6)), some (.inr (.inr (.inr (46, 0, 0))))], [.inl (0)], sx_78 xs)) rfl ?_
  exact Ev.ret rfl ⟨rfl, rfl⟩
theorem sx_c96 (xs : Nat → Int32) (d : Nat) : Rv (d + 1) 283 [.inl (0), .inl (6)] (sx_78 xs) none (sx_78 xs) := by
  refine Ev.sts 3 (c' := (5, [some (.inl (0)), some (.inl (6))], [.inr (.inr (.inr (46, 0, 0))), .inl (6), .inl (0)], sx_78 xs)) rfl ?_
  refine Ev.callv (a := [.inl (0), .inl (6), .inr (.inr (.inr (46, 0, 0)))]) rfl (sx_c95 xs (d + 0)) ?_
  refine Ev.sts 1 (c' := (9, [some (.inl (0)), some (.inl (6))], [], sx_78 xs)) rfl ?_
  exact Ev.ret rfl ⟨rfl, rfl⟩
theorem sx_c97 (xs : Nat → Int32) (d : Nat) : Rv (d + 2) 286 [.inr (.inr (.inr (44, 6, 37))), .inl (0)] (sx_78 xs) (some (.inl (119))) (sx_78 xs) := by
  refine Ev.sts 3 (c' := (3, [some (.inr (.inr (.inr (44, 6, 37)))), some (.inl (0))], [.inl (6), .inl (0)], sx_78 xs)) rfl ?_
  refine Ev.callv (a := [.inl (0), .inl (6)]) rfl (sx_c96 xs (d + 0)) ?_
  refine Ev.sts 6 (c' := (14, [some (.inr (.inr (.inr (44, 6, 37)))), some (.inl (0))], [.inl (119)], sx_78 xs)) rfl ?_
  exact Ev.ret rfl ⟨rfl, rfl⟩
theorem sx_c98 (xs : Nat → Int32) (d : Nat) : Rv (d + 3) 281 [.inr (.inr (.inr (43, 0, 37))), .inl (0)] (sx_78 xs) (some (.inl (119))) (sx_78 xs) := by
  refine Ev.sts 1 (c' := (1, [some (.inr (.inr (.inr (43, 0, 37)))), some (.inl (0))], [.inr (.inr (.inr (43, 0, 37)))], sx_78 xs)) rfl ?_
  refine Ev.callv (a := [.inr (.inr (.inr (43, 0, 37)))]) rfl (sx_c94 xs (d + 2)) ?_
  refine Ev.brF (p := (1 : Int32) = (0 : Int32)) (c1 := (16, [some (.inr (.inr (.inr (43, 0, 37)))), some (.inl (0))], [], sx_78 xs)) (c2 := (7, [some (.inr (.inr (.inr (43, 0, 37)))), some (.inl (0))], [], sx_78 xs)) (by decide) rfl ?_
  refine Ev.sts 3 (c' := (12, [some (.inr (.inr (.inr (43, 0, 37)))), some (.inl (0))], [.inl (0), .inr (.inr (.inr (44, 6, 37)))], sx_78 xs)) rfl ?_
  refine Ev.callv (a := [.inr (.inr (.inr (44, 6, 37))), .inl (0)]) rfl (sx_c97 xs (d + 0)) ?_
  exact Ev.ret rfl ⟨rfl, rfl⟩
theorem sx_c99 (xs : Nat → Int32) (d : Nat) : Rv (d + 0) 280 [.inr (.inr (.inr (43, 0, 37)))] (sx_78 xs) (some (.inl (0))) (sx_78 xs) := by
  refine Ev.sts 1 (c' := (3, [some (.inr (.inr (.inr (43, 0, 37))))], [.inl (1)], sx_78 xs)) rfl ?_
  refine Ev.brF (p := (1 : Int32) = (0 : Int32)) (c1 := (13, [some (.inr (.inr (.inr (43, 0, 37))))], [], sx_78 xs)) (c2 := (6, [some (.inr (.inr (.inr (43, 0, 37))))], [], sx_78 xs)) (by decide) rfl ?_
  refine Ev.sts 3 (c' := (14, [some (.inr (.inr (.inr (43, 0, 37))))], [.inl (0)], sx_78 xs)) rfl ?_
  exact Ev.ret rfl ⟨rfl, rfl⟩
theorem sx_c100 (xs : Nat → Int32) (d : Nat) : Rv (d + 1) 279 [.inr (.inr (.inr (43, 0, 37)))] (sx_78 xs) (some (.inl (6))) (sx_78 xs) := by
  refine Ev.sts 4 (c' := (6, [some (.inr (.inr (.inr (43, 0, 37))))], [.inr (.inr (.inr (43, 0, 37))), .inl (6)], sx_78 xs)) rfl ?_
  refine Ev.callv (a := [.inr (.inr (.inr (43, 0, 37)))]) rfl (sx_c99 xs (d + 0)) ?_
  refine Ev.sts 1 (c' := (10, [some (.inr (.inr (.inr (43, 0, 37))))], [.inl (6)], sx_78 xs)) rfl ?_
  exact Ev.ret rfl ⟨rfl, rfl⟩
theorem sx_c101 (xs : Nat → Int32) (d : Nat) : Rv (d + 0) 282 [.inr (.inr (.inr (43, 0, 37)))] (sx_78 xs) (some (.inl (1))) (sx_78 xs) := by
  refine Ev.sts 1 (c' := (3, [some (.inr (.inr (.inr (43, 0, 37))))], [.inl (1)], sx_78 xs)) rfl ?_
  refine Ev.brF (p := (1 : Int32) = (0 : Int32)) (c1 := (17, [some (.inr (.inr (.inr (43, 0, 37))))], [], sx_78 xs)) (c2 := (6, [some (.inr (.inr (.inr (43, 0, 37))))], [], sx_78 xs)) (by decide) rfl ?_
  refine Ev.sts 2 (c' := (10, [some (.inr (.inr (.inr (43, 0, 37))))], [.inl (0)], sx_78 xs)) rfl ?_
  refine Ev.brF (p := ¬ (0 : Int32) = (0 : Int32)) (c1 := (17, [some (.inr (.inr (.inr (43, 0, 37))))], [], sx_78 xs)) (c2 := (13, [some (.inr (.inr (.inr (43, 0, 37))))], [], sx_78 xs)) (by decide) rfl ?_
  refine Ev.sts 2 (c' := (18, [some (.inr (.inr (.inr (43, 0, 37))))], [.inl (1)], sx_78 xs)) rfl ?_
  exact Ev.ret rfl ⟨rfl, rfl⟩
theorem sx_c102 (xs : Nat → Int32) (d : Nat) : Rv (d + 0) 290 [.inl (1), .inl (6), .inr (.inr (.inr (46, 0, 0)))] (sx_78 xs) (some (.inl (1))) (sx_78 xs) := by
  refine Ev.sts 1 (c' := (1, [some (.inl (1)), some (.inl (6)), some (.inr (.inr (.inr (46, 0, 0))))], [.inl (1)], sx_78 xs)) rfl ?_
  refine Ev.brF (p := (1 : Int32) < (0 : Int32)) (c1 := (9, [some (.inl (1)), some (.inl (6)), some (.inr (.inr (.inr (46, 0, 0))))], [], sx_78 xs)) (c2 := (4, [some (.inl (1)), some (.inl (6)), some (.inr (.inr (.inr (46, 0, 0))))], [], sx_78 xs)) (by decide) rfl ?_
  refine Ev.sts 2 (c' := (6, [some (.inl (1)), some (.inl (6)), some (.inr (.inr (.inr (46, 0, 0))))], [.inl (6), .inl (1)], sx_78 xs)) rfl ?_
  refine Ev.brT (p := (1 : Int32) < (6 : Int32)) (c1 := (16, [some (.inl (1)), some (.inl (6)), some (.inr (.inr (.inr (46, 0, 0))))], [], sx_78 xs)) (c2 := (9, [some (.inl (1)), some (.inl (6)), some (.inr (.inr (.inr (46, 0, 0))))], [], sx_78 xs)) (by decide) rfl ?_
  refine Ev.sts 1 (c' := (17, [some (.inl (1)), some (.inl (6)), some (.inr (.inr (.inr (46, 0, 0))))], [.inl (1)], sx_78 xs)) rfl ?_
  exact Ev.ret rfl ⟨rfl, rfl⟩
theorem sx_c103 (xs : Nat → Int32) (d : Nat) : Rv (d + 1) 283 [.inl (1), .inl (6)] (sx_78 xs) none (sx_78 xs) := by
  refine Ev.sts 3 (c' := (5, [some (.inl (1)), some (.inl (6))], [.inr (.inr (.inr (46, 0, 0))), .inl (6), .inl (1)], sx_78 xs)) rfl ?_
  refine Ev.callv (a := [.inl (1), .inl (6), .inr (.inr (.inr (46, 0, 0)))]) rfl (sx_c102 xs (d + 0)) ?_
  refine Ev.sts 1 (c' := (9, [some (.inl (1)), some (.inl (6))], [], sx_78 xs)) rfl ?_
  exact Ev.ret rfl ⟨rfl, rfl⟩
theorem sx_c104 (xs : Nat → Int32) (d : Nat) : Rv (d + 2) 286 [.inr (.inr (.inr (44, 6, 37))), .inl (1)] (sx_78 xs) (some (.inl (101))) (sx_78 xs) := by
  refine Ev.sts 3 (c' := (3, [some (.inr (.inr (.inr (44, 6, 37)))), some (.inl (1))], [.inl (6), .inl (1)], sx_78 xs)) rfl ?_
  refine Ev.callv (a := [.inl (1), .inl (6)]) rfl (sx_c103 xs (d + 0)) ?_
  refine Ev.sts 6 (c' := (14, [some (.inr (.inr (.inr (44, 6, 37)))), some (.inl (1))], [.inl (101)], sx_78 xs)) rfl ?_
  exact Ev.ret rfl ⟨rfl, rfl⟩
theorem sx_c105 (xs : Nat → Int32) (d : Nat) : Rv (d + 3) 281 [.inr (.inr (.inr (43, 0, 37))), .inl (1)] (sx_78 xs) (some (.inl (101))) (sx_78 xs) := by
  refine Ev.sts 1 (c' := (1, [some (.inr (.inr (.inr (43, 0, 37)))), some (.inl (1))], [.inr (.inr (.inr (43, 0, 37)))], sx_78 xs)) rfl ?_
  refine Ev.callv (a := [.inr (.inr (.inr (43, 0, 37)))]) rfl (sx_c101 xs (d + 2)) ?_
  refine Ev.brF (p := (1 : Int32) = (0 : Int32)) (c1 := (16, [some (.inr (.inr (.inr (43, 0, 37)))), some (.inl (1))], [], sx_78 xs)) (c2 := (7, [some (.inr (.inr (.inr (43, 0, 37)))), some (.inl (1))], [], sx_78 xs)) (by decide) rfl ?_
  refine Ev.sts 3 (c' := (12, [some (.inr (.inr (.inr (43, 0, 37)))), some (.inl (1))], [.inl (1), .inr (.inr (.inr (44, 6, 37)))], sx_78 xs)) rfl ?_
  refine Ev.callv (a := [.inr (.inr (.inr (44, 6, 37))), .inl (1)]) rfl (sx_c104 xs (d + 0)) ?_
  exact Ev.ret rfl ⟨rfl, rfl⟩
theorem sx_c106 (xs : Nat → Int32) (d : Nat) : Rv (d + 0) 280 [.inr (.inr (.inr (43, 0, 37)))] (sx_78 xs) (some (.inl (0))) (sx_78 xs) := by
  refine Ev.sts 1 (c' := (3, [some (.inr (.inr (.inr (43, 0, 37))))], [.inl (1)], sx_78 xs)) rfl ?_
  refine Ev.brF (p := (1 : Int32) = (0 : Int32)) (c1 := (13, [some (.inr (.inr (.inr (43, 0, 37))))], [], sx_78 xs)) (c2 := (6, [some (.inr (.inr (.inr (43, 0, 37))))], [], sx_78 xs)) (by decide) rfl ?_
  refine Ev.sts 3 (c' := (14, [some (.inr (.inr (.inr (43, 0, 37))))], [.inl (0)], sx_78 xs)) rfl ?_
  exact Ev.ret rfl ⟨rfl, rfl⟩
theorem sx_c107 (xs : Nat → Int32) (d : Nat) : Rv (d + 1) 279 [.inr (.inr (.inr (43, 0, 37)))] (sx_78 xs) (some (.inl (6))) (sx_78 xs) := by
  refine Ev.sts 4 (c' := (6, [some (.inr (.inr (.inr (43, 0, 37))))], [.inr (.inr (.inr (43, 0, 37))), .inl (6)], sx_78 xs)) rfl ?_
  refine Ev.callv (a := [.inr (.inr (.inr (43, 0, 37)))]) rfl (sx_c106 xs (d + 0)) ?_
  refine Ev.sts 1 (c' := (10, [some (.inr (.inr (.inr (43, 0, 37))))], [.inl (6)], sx_78 xs)) rfl ?_
  exact Ev.ret rfl ⟨rfl, rfl⟩
theorem sx_c108 (xs : Nat → Int32) (d : Nat) : Rv (d + 0) 282 [.inr (.inr (.inr (43, 0, 37)))] (sx_78 xs) (some (.inl (1))) (sx_78 xs) := by
  refine Ev.sts 1 (c' := (3, [some (.inr (.inr (.inr (43, 0, 37))))], [.inl (1)], sx_78 xs)) rfl ?_
  refine Ev.brF (p := (1 : Int32) = (0 : Int32)) (c1 := (17, [some (.inr (.inr (.inr (43, 0, 37))))], [], sx_78 xs)) (c2 := (6, [some (.inr (.inr (.inr (43, 0, 37))))], [], sx_78 xs)) (by decide) rfl ?_
  refine Ev.sts 2 (c' := (10, [some (.inr (.inr (.inr (43, 0, 37))))], [.inl (0)], sx_78 xs)) rfl ?_
  refine Ev.brF (p := ¬ (0 : Int32) = (0 : Int32)) (c1 := (17, [some (.inr (.inr (.inr (43, 0, 37))))], [], sx_78 xs)) (c2 := (13, [some (.inr (.inr (.inr (43, 0, 37))))], [], sx_78 xs)) (by decide) rfl ?_
  refine Ev.sts 2 (c' := (18, [some (.inr (.inr (.inr (43, 0, 37))))], [.inl (1)], sx_78 xs)) rfl ?_
  exact Ev.ret rfl ⟨rfl, rfl⟩
theorem sx_c109 (xs : Nat → Int32) (d : Nat) : Rv (d + 0) 290 [.inl (2), .inl (6), .inr (.inr (.inr (46, 0, 0)))] (sx_78 xs) (some (.inl (2))) (sx_78 xs) := by
  refine Ev.sts 1 (c' := (1, [some (.inl (2)), some (.inl (6)), some (.inr (.inr (.inr (46, 0, 0))))], [.inl (2)], sx_78 xs)) rfl ?_
  refine Ev.brF (p := (2 : Int32) < (0 : Int32)) (c1 := (9, [some (.inl (2)), some (.inl (6)), some (.inr (.inr (.inr (46, 0, 0))))], [], sx_78 xs)) (c2 := (4, [some (.inl (2)), some (.inl (6)), some (.inr (.inr (.inr (46, 0, 0))))], [], sx_78 xs)) (by decide) rfl ?_
  refine Ev.sts 2 (c' := (6, [some (.inl (2)), some (.inl (6)), some (.inr (.inr (.inr (46, 0, 0))))], [.inl (6), .inl (2)], sx_78 xs)) rfl ?_
  refine Ev.brT (p := (2 : Int32) < (6 : Int32)) (c1 := (16, [some (.inl (2)), some (.inl (6)), some (.inr (.inr (.inr (46, 0, 0))))], [], sx_78 xs)) (c2 := (9, [some (.inl (2)), some (.inl (6)), some (.inr (.inr (.inr (46, 0, 0))))], [], sx_78 xs)) (by decide) rfl ?_
  refine Ev.sts 1 (c' := (17, [some (.inl (2)), some (.inl (6)), some (.inr (.inr (.inr (46, 0, 0))))], [.inl (2)], sx_78 xs)) rfl ?_
  exact Ev.ret rfl ⟨rfl, rfl⟩
theorem sx_c110 (xs : Nat → Int32) (d : Nat) : Rv (d + 1) 283 [.inl (2), .inl (6)] (sx_78 xs) none (sx_78 xs) := by
  refine Ev.sts 3 (c' := (5, [some (.inl (2)), some (.inl (6))], [.inr (.inr (.inr (46, 0, 0))), .inl (6), .inl (2)], sx_78 xs)) rfl ?_
  refine Ev.callv (a := [.inl (2), .inl (6), .inr (.inr (.inr (46, 0, 0)))]) rfl (sx_c109 xs (d + 0)) ?_
  refine Ev.sts 1 (c' := (9, [some (.inl (2)), some (.inl (6))], [], sx_78 xs)) rfl ?_
  exact Ev.ret rfl ⟨rfl, rfl⟩
theorem sx_c111 (xs : Nat → Int32) (d : Nat) : Rv (d + 2) 286 [.inr (.inr (.inr (44, 6, 37))), .inl (2)] (sx_78 xs) (some (.inl (105))) (sx_78 xs) := by
  refine Ev.sts 3 (c' := (3, [some (.inr (.inr (.inr (44, 6, 37)))), some (.inl (2))], [.inl (6), .inl (2)], sx_78 xs)) rfl ?_
  refine Ev.callv (a := [.inl (2), .inl (6)]) rfl (sx_c110 xs (d + 0)) ?_
  refine Ev.sts 6 (c' := (14, [some (.inr (.inr (.inr (44, 6, 37)))), some (.inl (2))], [.inl (105)], sx_78 xs)) rfl ?_
  exact Ev.ret rfl ⟨rfl, rfl⟩
theorem sx_c112 (xs : Nat → Int32) (d : Nat) : Rv (d + 3) 281 [.inr (.inr (.inr (43, 0, 37))), .inl (2)] (sx_78 xs) (some (.inl (105))) (sx_78 xs) := by
  refine Ev.sts 1 (c' := (1, [some (.inr (.inr (.inr (43, 0, 37)))), some (.inl (2))], [.inr (.inr (.inr (43, 0, 37)))], sx_78 xs)) rfl ?_
  refine Ev.callv (a := [.inr (.inr (.inr (43, 0, 37)))]) rfl (sx_c108 xs (d + 2)) ?_
  refine Ev.brF (p := (1 : Int32) = (0 : Int32)) (c1 := (16, [some (.inr (.inr (.inr (43, 0, 37)))), some (.inl (2))], [], sx_78 xs)) (c2 := (7, [some (.inr (.inr (.inr (43, 0, 37)))), some (.inl (2))], [], sx_78 xs)) (by decide) rfl ?_
  refine Ev.sts 3 (c' := (12, [some (.inr (.inr (.inr (43, 0, 37)))), some (.inl (2))], [.inl (2), .inr (.inr (.inr (44, 6, 37)))], sx_78 xs)) rfl ?_
  refine Ev.callv (a := [.inr (.inr (.inr (44, 6, 37))), .inl (2)]) rfl (sx_c111 xs (d + 0)) ?_
  exact Ev.ret rfl ⟨rfl, rfl⟩
theorem sx_c113 (xs : Nat → Int32) (d : Nat) : Rv (d + 0) 280 [.inr (.inr (.inr (43, 0, 37)))] (sx_78 xs) (some (.inl (0))) (sx_78 xs) := by
  refine Ev.sts 1 (c' := (3, [some (.inr (.inr (.inr (43, 0, 37))))], [.inl (1)], sx_78 xs)) rfl ?_
  refine Ev.brF (p := (1 : Int32) = (0 : Int32)) (c1 := (13, [some (.inr (.inr (.inr (43, 0, 37))))], [], sx_78 xs)) (c2 := (6, [some (.inr (.inr (.inr (43, 0, 37))))], [], sx_78 xs)) (by decide) rfl ?_
  refine Ev.sts 3 (c' := (14, [some (.inr (.inr (.inr (43, 0, 37))))], [.inl (0)], sx_78 xs)) rfl ?_
  exact Ev.ret rfl ⟨rfl, rfl⟩
theorem sx_c114 (xs : Nat → Int32) (d : Nat) : Rv (d + 1) 279 [.inr (.inr (.inr (43, 0, 37)))] (sx_78 xs) (some (.inl (6))) (sx_78 xs) := by
  refine Ev.sts 4 (c' := (6, [some (.inr (.inr (.inr (43, 0, 37))))], [.inr (.inr (.inr (43, 0, 37))), .inl (6)], sx_78 xs)) rfl ?_
  refine Ev.callv (a := [.inr (.inr (.inr (43, 0, 37)))]) rfl (sx_c113 xs (d + 0)) ?_
  refine Ev.sts 1 (c' := (10, [some (.inr (.inr (.inr (43, 0, 37))))], [.inl (6)], sx_78 xs)) rfl ?_
  exact Ev.ret rfl ⟨rfl, rfl⟩
theorem sx_c115 (xs : Nat → Int32) (d : Nat) : Rv (d + 0) 282 [.inr (.inr (.inr (43, 0, 37)))] (sx_78 xs) (some (.inl (1))) (sx_78 xs) := by
  refine Ev.sts 1 (c' := (3, [some (.inr (.inr (.inr (43, 0, 37))))], [.inl (1)], sx_78 xs)) rfl ?_
  refine Ev.brF (p := (1 : Int32) = (0 : Int32)) (c1 := (17, [some (.inr (.inr (.inr (43, 0, 37))))], [], sx_78 xs)) (c2 := (6, [some (.inr (.inr (.inr (43, 0, 37))))], [], sx_78 xs)) (by decide) rfl ?_
  refine Ev.sts 2 (c' := (10, [some (.inr (.inr (.inr (43, 0, 37))))], [.inl (0)], sx_78 xs)) rfl ?_
  refine Ev.brF (p := ¬ (0 : Int32) = (0 : Int32)) (c1 := (17, [some (.inr (.inr (.inr (43, 0, 37))))], [], sx_78 xs)) (c2 := (13, [some (.inr (.inr (.inr (43, 0, 37))))], [], sx_78 xs)) (by decide) rfl ?_
  refine Ev.sts 2 (c' := (18, [some (.inr (.inr (.inr (43, 0, 37))))], [.inl (1)], sx_78 xs)) rfl ?_
  exact Ev.ret rfl ⟨rfl, rfl⟩
theorem sx_c116 (xs : Nat → Int32) (d : Nat) : Rv (d + 0) 290 [.inl (3), .inl (6), .inr (.inr (.inr (46, 0, 0)))] (sx_78 xs) (some (.inl (3))) (sx_78 xs) := by
  refine Ev.sts 1 (c' := (1, [some (.inl (3)), some (.inl (6)), some (.inr (.inr (.inr (46, 0, 0))))], [.inl (3)], sx_78 xs)) rfl ?_
  refine Ev.brF (p := (3 : Int32) < (0 : Int32)) (c1 := (9, [some (.inl (3)), some (.inl (6)), some (.inr (.inr (.inr (46, 0, 0))))], [], sx_78 xs)) (c2 := (4, [some (.inl (3)), some (.inl (6)), some (.inr (.inr (.inr (46, 0, 0))))], [], sx_78 xs)) (by decide) rfl ?_
  refine Ev.sts 2 (c' := (6, [some (.inl (3)), some (.inl (6)), some (.inr (.inr (.inr (46, 0, 0))))], [.inl (6), .inl (3)], sx_78 xs)) rfl ?_
  refine Ev.brT (p := (3 : Int32) < (6 : Int32)) (c1 := (16, [some (.inl (3)), some (.inl (6)), some (.inr (.inr (.inr (46, 0, 0))))], [], sx_78 xs)) (c2 := (9, [some (.inl (3)), some (.inl (6)), some (.inr (.inr (.inr (46, 0, 0))))], [], sx_78 xs)) (by decide) rfl ?_
  refine Ev.sts 1 (c' := (17, [some (.inl (3)), some (.inl (6)), some (.inr (.inr (.inr (46, 0, 0))))], [.inl (3)], sx_78 xs)) rfl ?_
  exact Ev.ret rfl ⟨rfl, rfl⟩
theorem sx_c117 (xs : Nat → Int32) (d : Nat) : Rv (d + 1) 283 [.inl (3), .inl (6)] (sx_78 xs) none (sx_78 xs) := by
  refine Ev.sts 3 (c' := (5, [some (.inl (3)), some (.inl (6))], [.inr (.inr (.inr (46, 0, 0))), .inl (6), .inl (3)], sx_78 xs)) rfl ?_
  refine Ev.callv (a := [.inl (3), .inl (6), .inr (.inr (.inr (46, 0, 0)))]) rfl (sx_c116 xs (d + 0)) ?_
  refine Ev.sts 1 (c' := (9, [some (.inl (3)), some (.inl (6))], [], sx_78 xs)) rfl ?_
  exact Ev.ret rfl ⟨rfl, rfl⟩
theorem sx_c118 (xs : Nat → Int32) (d : Nat) : Rv (d + 2) 286 [.inr (.inr (.inr (44, 6, 37))), .inl (3)] (sx_78 xs) (some (.inl (103))) (sx_78 xs) := by
  refine Ev.sts 3 (c' := (3, [some (.inr (.inr (.inr (44, 6, 37)))), some (.inl (3))], [.inl (6), .inl (3)], sx_78 xs)) rfl ?_
  refine Ev.callv (a := [.inl (3), .inl (6)]) rfl (sx_c117 xs (d + 0)) ?_
  refine Ev.sts 6 (c' := (14, [some (.inr (.inr (.inr (44, 6, 37)))), some (.inl (3))], [.inl (103)], sx_78 xs)) rfl ?_
  exact Ev.ret rfl ⟨rfl, rfl⟩
theorem sx_c119 (xs : Nat → Int32) (d : Nat) : Rv (d + 3) 281 [.inr (.inr (.inr (43, 0, 37))), .inl (3)] (sx_78 xs) (some (.inl (103))) (sx_78 xs) := by
  refine Ev.sts 1 (c' := (1, [some (.inr (.inr (.inr (43, 0, 37)))), some (.inl (3))], [.inr (.inr (.inr (43, 0, 37)))], sx_78 xs)) rfl ?_
  refine Ev.callv (a := [.inr (.inr (.inr (43, 0, 37)))]) rfl (sx_c115 xs (d + 2)) ?_
  refine Ev.brF (p := (1 : Int32) = (0 : Int32)) (c1 := (16, [some (.inr (.inr (.inr (43, 0, 37)))), some (.inl (3))], [], sx_78 xs)) (c2 := (7, [some (.inr (.inr (.inr (43, 0, 37)))), some (.inl (3))], [], sx_78 xs)) (by decide) rfl ?_
  refine Ev.sts 3 (c' := (12, [some (.inr (.inr (.inr (43, 0, 37)))), some (.inl (3))], [.inl (3), .inr (.inr (.inr (44, 6, 37)))], sx_78 xs)) rfl ?_
  refine Ev.callv (a := [.inr (.inr (.inr (44, 6, 37))), .inl (3)]) rfl (sx_c118 xs (d + 0)) ?_
  exact Ev.ret rfl ⟨rfl, rfl⟩
theorem sx_c120 (xs : Nat → Int32) (d : Nat) : Rv (d + 0) 280 [.inr (.inr (.inr (43, 0, 37)))] (sx_78 xs) (some (.inl (0))) (sx_78 xs) := by
  refine Ev.sts 1 (c' := (3, [some (.inr (.inr (.inr (43, 0, 37))))], [.inl (1)], sx_78 xs)) rfl ?_
  refine Ev.brF (p := (1 : Int32) = (0 : Int32)) (c1 := (13, [some (.inr (.inr (.inr (43, 0, 37))))], [], sx_78 xs)) (c2 := (6, [some (.inr (.inr (.inr (43, 0, 37))))], [], sx_78 xs)) (by decide) rfl ?_
  refine Ev.sts 3 (c' := (14, [some (.inr (.inr (.inr (43, 0, 37))))], [.inl (0)], sx_78 xs)) rfl ?_
  exact Ev.ret rfl ⟨rfl, rfl⟩
theorem sx_c121 (xs : Nat → Int32) (d : Nat) : Rv (d + 1) 279 [.inr (.inr (.inr (43, 0, 37)))] (sx_78 xs) (some (.inl (6))) (sx_78 xs) := by
  refine Ev.sts 4 (c' := (6, [some (.inr (.inr (.inr (43, 0, 37))))], [.inr (.inr (.inr (43, 0, 37))), .inl (6)], sx_78 xs)) rfl ?_
  refine Ev.callv (a := [.inr (.inr (.inr (43, 0, 37)))]) rfl (sx_c120 xs (d + 0)) ?_
  refine Ev.sts 1 (c' := (10, [some (.inr (.inr (.inr (43, 0, 37))))], [.inl (6)], sx_78 xs)) rfl ?_
  exact Ev.ret rfl ⟨rfl, rfl⟩
theorem sx_c122 (xs : Nat → Int32) (d : Nat) : Rv (d + 0) 282 [.inr (.inr (.inr (43, 0, 37)))] (sx_78 xs) (some (.inl (1))) (sx_78 xs) := by
  refine Ev.sts 1 (c' := (3, [some (.inr (.inr (.inr (43, 0, 37))))], [.inl (1)], sx_78 xs)) rfl ?_
  refine Ev.brF (p := (1 : Int32) = (0 : Int32)) (c1 := (17, [some (.inr (.inr (.inr (43, 0, 37))))], [], sx_78 xs)) (c2 := (6, [some (.inr (.inr (.inr (43, 0, 37))))], [], sx_78 xs)) (by decide) rfl ?_
  refine Ev.sts 2 (c' := (10, [some (.inr (.inr (.inr (43, 0, 37))))], [.inl (0)], sx_78 xs)) rfl ?_
  refine Ev.brF (p := ¬ (0 : Int32) = (0 : Int32)) (c1 := (17, [some (.inr (.inr (.inr (43, 0, 37))))], [], sx_78 xs)) (c2 := (13, [some (.inr (.inr (.inr (43, 0, 37))))], [], sx_78 xs)) (by decide) rfl ?_
  refine Ev.sts 2 (c' := (18, [some (.inr (.inr (.inr (43, 0, 37))))], [.inl (1)], sx_78 xs)) rfl ?_
  exact Ev.ret rfl ⟨rfl, rfl⟩
theorem sx_c123 (xs : Nat → Int32) (d : Nat) : Rv (d + 0) 290 [.inl (4), .inl (6), .inr (.inr (.inr (46, 0, 0)))] (sx_78 xs) (some (.inl (4))) (sx_78 xs) := by
  refine Ev.sts 1 (c' := (1, [some (.inl (4)), some (.inl (6)), some (.inr (.inr (.inr (46, 0, 0))))], [.inl (4)], sx_78 xs)) rfl ?_
  refine Ev.brF (p := (4 : Int32) < (0 : Int32)) (c1 := (9, [some (.inl (4)), some (.inl (6)), some (.inr (.inr (.inr (46, 0, 0))))], [], sx_78 xs)) (c2 := (4, [some (.inl (4)), some (.inl (6)), some (.inr (.inr (.inr (46, 0, 0))))], [], sx_78 xs)) (by decide) rfl ?_
  refine Ev.sts 2 (c' := (6, [some (.inl (4)), some (.inl (6)), some (.inr (.inr (.inr (46, 0, 0))))], [.inl (6), .inl (4)], sx_78 xs)) rfl ?_
  refine Ev.brT (p := (4 : Int32) < (6 : Int32)) (c1 := (16, [some (.inl (4)), some (.inl (6)), some (.inr (.inr (.inr (46, 0, 0))))], [], sx_78 xs)) (c2 := (9, [some (.inl (4)), some (.inl (6)), some (.inr (.inr (.inr (46, 0, 0))))], [], sx_78 xs)) (by decide) rfl ?_
  refine Ev.sts 1 (c' := (17, [some (.inl (4)), some (.inl (6)), some (.inr (.inr (.inr (46, 0, 0))))], [.inl (4)], sx_78 xs)) rfl ?_
  exact Ev.ret rfl ⟨rfl, rfl⟩
theorem sx_c124 (xs : Nat → Int32) (d : Nat) : Rv (d + 1) 283 [.inl (4), .inl (6)] (sx_78 xs) none (sx_78 xs) := by
  refine Ev.sts 3 (c' := (5, [some (.inl (4)), some (.inl (6))], [.inr (.inr (.inr (46, 0, 0))), .inl (6), .inl (4)], sx_78 xs)) rfl ?_
  refine Ev.callv (a := [.inl (4), .inl (6), .inr (.inr (.inr (46, 0, 0)))]) rfl (sx_c123 xs (d + 0)) ?_
  refine Ev.sts 1 (c' := (9, [some (.inl (4)), some (.inl (6))], [], sx_78 xs)) rfl ?_
  exact Ev.ret rfl ⟨rfl, rfl⟩
theorem sx_c125 (xs : Nat → Int32) (d : Nat) : Rv (d + 2) 286 [.inr (.inr (.inr (44, 6, 37))), .inl (4)] (sx_78 xs) (some (.inl (104))) (sx_78 xs) := by
  refine Ev.sts 3 (c' := (3, [some (.inr (.inr (.inr (44, 6, 37)))), some (.inl (4))], [.inl (6), .inl (4)], sx_78 xs)) rfl ?_
  refine Ev.callv (a := [.inl (4), .inl (6)]) rfl (sx_c124 xs (d + 0)) ?_
  refine Ev.sts 6 (c' := (14, [some (.inr (.inr (.inr (44, 6, 37)))), some (.inl (4))], [.inl (104)], sx_78 xs)) rfl ?_
  exact Ev.ret rfl ⟨rfl, rfl⟩
theorem sx_c126 (xs : Nat → Int32) (d : Nat) : Rv (d + 3) 281 [.inr (.inr (.inr (43, 0, 37))), .inl (4)] (sx_78 xs) (some (.inl (104))) (sx_78 xs) := by
  refine Ev.sts 1 (c' := (1, [some (.inr (.inr (.inr (43, 0, 37)))), some (.inl (4))], [.inr (.inr (.inr (43, 0, 37)))], sx_78 xs)) rfl ?_
  refine Ev.callv (a := [.inr (.inr (.inr (43, 0, 37)))]) rfl (sx_c122 xs (d + 2)) ?_
  refine Ev.brF (p := (1 : Int32) = (0 : Int32)) (c1 := (16, [some (.inr (.inr (.inr (43, 0, 37)))), some (.inl (4))], [], sx_78 xs)) (c2 := (7, [some (.inr (.inr (.inr (43, 0, 37)))), some (.inl (4))], [], sx_78 xs)) (by decide) rfl ?_
  refine Ev.sts 3 (c' := (12, [some (.inr (.inr (.inr (43, 0, 37)))), some (.inl (4))], [.inl (4), .inr (.inr (.inr (44, 6, 37)))], sx_78 xs)) rfl ?_
  refine Ev.callv (a := [.inr (.inr (.inr (44, 6, 37))), .inl (4)]) rfl (sx_c125 xs (d + 0)) ?_
  exact Ev.ret rfl ⟨rfl, rfl⟩
theorem sx_c127 (xs : Nat → Int32) (d : Nat) : Rv (d + 0) 280 [.inr (.inr (.inr (43, 0, 37)))] (sx_78 xs) (some (.inl (0))) (sx_78 xs) := by
  refine Ev.sts 1 (c' := (3, [some (.inr (.inr (.inr (43, 0, 37))))], [.inl (1)], sx_78 xs)) rfl ?_
  refine Ev.brF (p := (1 : Int32) = (0 : Int32)) (c1 := (13, [some (.inr (.inr (.inr (43, 0, 37))))], [], sx_78 xs)) (c2 := (6, [some (.inr (.inr (.inr (43, 0, 37))))], [], sx_78 xs)) (by decide) rfl ?_
  refine Ev.sts 3 (c' := (14, [some (.inr (.inr (.inr (43, 0, 37))))], [.inl (0)], sx_78 xs)) rfl ?_
  exact Ev.ret rfl ⟨rfl, rfl⟩
theorem sx_c128 (xs : Nat → Int32) (d : Nat) : Rv (d + 1) 279 [.inr (.inr (.inr (43, 0, 37)))] (sx_78 xs) (some (.inl (6))) (sx_78 xs) := by
  refine Ev.sts 4 (c' := (6, [some (.inr (.inr (.inr (43, 0, 37))))], [.inr (.inr (.inr (43, 0, 37))), .inl (6)], sx_78 xs)) rfl ?_
  refine Ev.callv (a := [.inr (.inr (.inr (43, 0, 37)))]) rfl (sx_c127 xs (d + 0)) ?_
  refine Ev.sts 1 (c' := (10, [some (.inr (.inr (.inr (43, 0, 37))))], [.inl (6)], sx_78 xs)) rfl ?_
  exact Ev.ret rfl ⟨rfl, rfl⟩
theorem sx_c129 (xs : Nat → Int32) (d : Nat) : Rv (d + 0) 282 [.inr (.inr (.inr (43, 0, 37)))] (sx_78 xs) (some (.inl (1))) (sx_78 xs) := by
  refine Ev.sts 1 (c' := (3, [some (.inr (.inr (.inr (43, 0, 37))))], [.inl (1)], sx_78 xs)) rfl ?_
  refine Ev.brF (p := (1 : Int32) = (0 : Int32)) (c1 := (17, [some (.inr (.inr (.inr (43, 0, 37))))], [], sx_78 xs)) (c2 := (6, [some (.inr (.inr (.inr (43, 0, 37))))], [], sx_78 xs)) (by decide) rfl ?_
  refine Ev.sts 2 (c' := (10, [some (.inr (.inr (.inr (43, 0, 37))))], [.inl (0)], sx_78 xs)) rfl ?_
  refine Ev.brF (p := ¬ (0 : Int32) = (0 : Int32)) (c1 := (17, [some (.inr (.inr (.inr (43, 0, 37))))], [], sx_78 xs)) (c2 := (13, [some (.inr (.inr (.inr (43, 0, 37))))], [], sx_78 xs)) (by decide) rfl ?_
  refine Ev.sts 2 (c' := (18, [some (.inr (.inr (.inr (43, 0, 37))))], [.inl (1)], sx_78 xs)) rfl ?_
  exact Ev.ret rfl ⟨rfl, rfl⟩
theorem sx_c130 (xs : Nat → Int32) (d : Nat) : Rv (d + 0) 290 [.inl (5), .inl (6), .inr (.inr (.inr (46, 0, 0)))] (sx_78 xs) (some (.inl (5))) (sx_78 xs) := by
  refine Ev.sts 1 (c' := (1, [some (.inl (5)), some (.inl (6)), some (.inr (.inr (.inr (46, 0, 0))))], [.inl (5)], sx_78 xs)) rfl ?_
  refine Ev.brF (p := (5 : Int32) < (0 : Int32)) (c1 := (9, [some (.inl (5)), some (.inl (6)), some (.inr (.inr (.inr (46, 0, 0))))], [], sx_78 xs)) (c2 := (4, [some (.inl (5)), some (.inl (6)), some (.inr (.inr (.inr (46, 0, 0))))], [], sx_78 xs)) (by decide) rfl ?_
  refine Ev.sts 2 (c' := (6, [some (.inl (5)), some (.inl (6)), some (.inr (.inr (.inr (46, 0, 0))))], [.inl (6), .inl (5)], sx_78 xs)) rfl ?_
  refine Ev.brT (p := (5 : Int32) < (6 : Int32)) (c1 := (16, [some (.inl (5)), some (.inl (6)), some (.inr (.inr (.inr (46, 0, 0))))], [], sx_78 xs)) (c2 := (9, [some (.inl (5)), some (.inl (6)), some (.inr (.inr (.inr (46, 0, 0))))], [], sx_78 xs)) (by decide) rfl ?_
  refine Ev.sts 1 (c' := (17, [some (.inl (5)), some (.inl (6)), some (.inr (.inr (.inr (46, 0, 0))))], [.inl (5)], sx_78 xs)) rfl ?_
  exact Ev.ret rfl ⟨rfl, rfl⟩
theorem sx_c131 (xs : Nat → Int32) (d : Nat) : Rv (d + 1) 283 [.inl (5), .inl (6)] (sx_78 xs) none (sx_78 xs) := by
  refine Ev.sts 3 (c' := (5, [some (.inl (5)), some (.inl (6))], [.inr (.inr (.inr (46, 0, 0))), .inl (6), .inl (5)], sx_78 xs)) rfl ?_
  refine Ev.callv (a := [.inl (5), .inl (6), .inr (.inr (.inr (46, 0, 0)))]) rfl (sx_c130 xs (d + 0)) ?_
  refine Ev.sts 1 (c' := (9, [some (.inl (5)), some (.inl (6))], [], sx_78 xs)) rfl ?_
  exact Ev.ret rfl ⟨rfl, rfl⟩
theorem sx_c132 (xs : Nat → Int32) (d : Nat) : Rv (d + 2) 286 [.inr (.inr (.inr (44, 6, 37))), .inl (5)] (sx_78 xs) (some (.inl (116))) (sx_78 xs) := by
  refine Ev.sts 3 (c' := (3, [some (.inr (.inr (.inr (44, 6, 37)))), some (.inl (5))], [.inl (6), .inl (5)], sx_78 xs)) rfl ?_
  refine Ev.callv (a := [.inl (5), .inl (6)]) rfl (sx_c131 xs (d + 0)) ?_
  refine Ev.sts 6 (c' := (14, [some (.inr (.inr (.inr (44, 6, 37)))), some (.inl (5))], [.inl (116)], sx_78 xs)) rfl ?_
  exact Ev.ret rfl ⟨rfl, rfl⟩
theorem sx_c133 (xs : Nat → Int32) (d : Nat) : Rv (d + 3) 281 [.inr (.inr (.inr (43, 0, 37))), .inl (5)] (sx_78 xs) (some (.inl (116))) (sx_78 xs) := by
  refine Ev.sts 1 (c' := (1, [some (.inr (.inr (.inr (43, 0, 37)))), some (.inl (5))], [.inr (.inr (.inr (43, 0, 37)))], sx_78 xs)) rfl ?_
  refine Ev.callv (a := [.inr (.inr (.inr (43, 0, 37)))]) rfl (sx_c129 xs (d + 2)) ?_
  refine Ev.brF (p := (1 : Int32) = (0 : Int32)) (c1 := (16, [some (.inr (.inr (.inr (43, 0, 37)))), some (.inl (5))], [], sx_78 xs)) (c2 := (7, [some (.inr (.inr (.inr (43, 0, 37)))), some (.inl (5))], [], sx_78 xs)) (by decide) rfl ?_
  refine Ev.sts 3 (c' := (12, [some (.inr (.inr (.inr (43, 0, 37)))), some (.inl (5))], [.inl (5), .inr (.inr (.inr (44, 6, 37)))], sx_78 xs)) rfl ?_
  refine Ev.callv (a := [.inr (.inr (.inr (44, 6, 37))), .inl (5)]) rfl (sx_c132 xs (d + 0)) ?_
  exact Ev.ret rfl ⟨rfl, rfl⟩
theorem sx_c134 (xs : Nat → Int32) (d : Nat) : Rv (d + 0) 280 [.inr (.inr (.inr (43, 0, 37)))] (sx_78 xs) (some (.inl (0))) (sx_78 xs) := by
  refine Ev.sts 1 (c' := (3, [some (.inr (.inr (.inr (43, 0, 37))))], [.inl (1)], sx_78 xs)) rfl ?_
  refine Ev.brF (p := (1 : Int32) = (0 : Int32)) (c1 := (13, [some (.inr (.inr (.inr (43, 0, 37))))], [], sx_78 xs)) (c2 := (6, [some (.inr (.inr (.inr (43, 0, 37))))], [], sx_78 xs)) (by decide) rfl ?_
  refine Ev.sts 3 (c' := (14, [some (.inr (.inr (.inr (43, 0, 37))))], [.inl (0)], sx_78 xs)) rfl ?_
  exact Ev.ret rfl ⟨rfl, rfl⟩
theorem sx_c135 (xs : Nat → Int32) (d : Nat) : Rv (d + 1) 279 [.inr (.inr (.inr (43, 0, 37)))] (sx_78 xs) (some (.inl (6))) (sx_78 xs) := by
  refine Ev.sts 4 (c' := (6, [some (.inr (.inr (.inr (43, 0, 37))))], [.inr (.inr (.inr (43, 0, 37))), .inl (6)], sx_78 xs)) rfl ?_
  refine Ev.callv (a := [.inr (.inr (.inr (43, 0, 37)))]) rfl (sx_c134 xs (d + 0)) ?_
  refine Ev.sts 1 (c' := (10, [some (.inr (.inr (.inr (43, 0, 37))))], [.inl (6)], sx_78 xs)) rfl ?_
  exact Ev.ret rfl ⟨rfl, rfl⟩
theorem sx_c136 (xs : Nat → Int32) (d : Nat) : Rv (d + 4) 168 [.inr (.inr (.inr (43, 0, 37)))] (sx_78 xs) (some (.inr (.inl (777297172)))) (sx_78 xs) := by
  refine Ev.sts 6 (c' := (6, [some (.inr (.inr (.inr (43, 0, 37)))), some (.inr (.inl (0))), none, some (.inl (0))], [.inr (.inr (.inr (43, 0, 37))), .inl (0)], sx_78 xs)) rfl ?_
  refine Ev.callv (a := [.inr (.inr (.inr (43, 0, 37)))]) rfl (sx_c93 xs (d + 2)) ?_
  refine Ev.brF (p := (6 : Int32) ≤ (0 : Int32)) (c1 := (34, [some (.inr (.inr (.inr (43, 0, 37)))), some (.inr (.inl (0))), none, some (.inl (0))], [], sx_78 xs)) (c2 := (12, [some (.inr (.inr (.inr (43, 0, 37)))), some (.inr (.inl (0))), none, some (.inl (0))], [], sx_78 xs)) (by decide) rfl ?_
  refine Ev.sts 5 (c' := (17, [some (.inr (.inr (.inr (43, 0, 37)))), some (.inr (.inl (0))), none, some (.inl (0))], [.inl (0), .inr (.inr (.inr (43, 0, 37))), .inr (.inl (0))], sx_78 xs)) rfl ?_
  refine Ev.callv (a := [.inr (.inr (.inr (43, 0, 37))), .inl (0)]) rfl (sx_c98 xs (d + 0)) ?_
  refine Ev.sts 11 (c' := (6, [some (.inr (.inr (.inr (43, 0, 37)))), some (.inr (.inl (23))), none, some (.inl (1))], [.inr (.inr (.inr (43, 0, 37))), .inl (1)], sx_78 xs)) rfl ?_
  refine Ev.callv (a := [.inr (.inr (.inr (43, 0, 37)))]) rfl (sx_c100 xs (d + 2)) ?_
  refine Ev.brF (p := (6 : Int32) ≤ (1 : Int32)) (c1 := (34, [some (.inr (.inr (.inr (43, 0, 37)))), some (.inr (.inl (23))), none, some (.inl (1))], [], sx_78 xs)) (c2 := (12, [some (.inr (.inr (.inr (43, 0, 37)))), some (.inr (.inl (23))), none, some (.inl (1))], [], sx_78 xs)) (by decide) rfl ?_
  refine Ev.sts 5 (c' := (17, [some (.inr (.inr (.inr (43, 0, 37)))), some (.inr (.inl (23))), none, some (.inl (1))], [.inl (1), .inr (.inr (.inr (43, 0, 37))), .inr (.inl (736))], sx_78 xs)) rfl ?_
  refine Ev.callv (a := [.inr (.inr (.inr (43, 0, 37))), .inl (1)]) rfl (sx_c105 xs (d + 0)) ?_
  refine Ev.sts 11 (c' := (6, [some (.inr (.inr (.inr (43, 0, 37)))), some (.inr (.inl (741))), none, some (.inl (2))], [.inr (.inr (.inr (43, 0, 37))), .inl (2)], sx_78 xs)) rfl ?_
  refine Ev.callv (a := [.inr (.inr (.inr (43, 0, 37)))]) rfl (sx_c107 xs (d + 2)) ?_
  refine Ev.brF (p := (6 : Int32) ≤ (2 : Int32)) (c1 := (34, [some (.inr (.inr (.inr (43, 0, 37)))), some (.inr (.inl (741))), none, some (.inl (2))], [], sx_78 xs)) (c2 := (12, [some (.inr (.inr (.inr (43, 0, 37)))), some (.inr (.inl (741))), none, some (.inl (2))], [], sx_78 xs)) (by decide) rfl ?_
  refine Ev.sts 5 (c' := (17, [some (.inr (.inr (.inr (43, 0, 37)))), some (.inr (.inl (741))), none, some (.inl (2))], [.inl (2), .inr (.inr (.inr (43, 0, 37))), .inr (.inl (23712))], sx_78 xs)) rfl ?_
  refine Ev.callv (a := [.inr (.inr (.inr (43, 0, 37))), .inl (2)]) rfl (sx_c112 xs (d + 0)) ?_
  refine Ev.sts 11 (c' := (6, [some (.inr (.inr (.inr (43, 0, 37)))), some (.inr (.inl (23721))), none, some (.inl (3))], [.inr (.inr (.inr (43, 0, 37))), .inl (3)], sx_78 xs)) rfl ?_
  refine Ev.callv (a := [.inr (.inr (.inr (43, 0, 37)))]) rfl (sx_c114 xs (d + 2)) ?_
  refine Ev.brF (p := (6 : Int32) ≤ (3 : Int32)) (c1 := (34, [some (.inr (.inr (.inr (43, 0, 37)))), some (.inr (.inl (23721))), none, some (.inl (3))], [], sx_78 xs)) (c2 := (12, [some (.inr (.inr (.inr (43, 0, 37)))), some (.inr (.inl (23721))), none, some (.inl (3))], [], sx_78 xs)) (by decide) rfl ?_
  refine Ev.sts 5 (c' := (17, [some (.inr (.inr (.inr (43, 0, 37)))), some (.inr (.inl (23721))), none, some (.inl (3))], [.inl (3), .inr (.inr (.inr (43, 0, 37))), .inr (.inl (759072))], sx_78 xs)) rfl ?_
  refine Ev.callv (a := [.inr (.inr (.inr (43, 0, 37))), .inl (3)]) rfl (sx_c119 xs (d + 0)) ?_
  refine Ev.sts 11 (c' := (6, [some (.inr (.inr (.inr (43, 0, 37)))), some (.inr (.inl (759079))), none, some (.inl (4))], [.inr (.inr (.inr (43, 0, 37))), .inl (4)], sx_78 xs)) rfl ?_
  refine Ev.callv (a := [.inr (.inr (.inr (43, 0, 37)))]) rfl (sx_c121 xs (d + 2)) ?_
  refine Ev.brF (p := (6 : Int32) ≤ (4 : Int32)) (c1 := (34, [some (.inr (.inr (.inr (43, 0, 37)))), some (.inr (.inl (759079))), none, some (.inl (4))], [], sx_78 xs)) (c2 := (12, [some (.inr (.inr (.inr (43, 0, 37)))), some (.inr (.inl (759079))), none, some (.inl (4))], [], sx_78 xs)) (by decide) rfl ?_
  refine Ev.sts 5 (c' := (17, [some (.inr (.inr (.inr (43, 0, 37)))), some (.inr (.inl (759079))), none, some (.inl (4))], [.inl (4), .inr (.inr (.inr (43, 0, 37))), .inr (.inl (24290528))], sx_78 xs)) rfl ?_
  refine Ev.callv (a := [.inr (.inr (.inr (43, 0, 37))), .inl (4)]) rfl (sx_c126 xs (d + 0)) ?_
  refine Ev.sts 11 (c' := (6, [some (.inr (.inr (.inr (43, 0, 37)))), some (.inr (.inl (24290536))), none, some (.inl (5))], [.inr (.inr (.inr (43, 0, 37))), .inl (5)], sx_78 xs)) rfl ?_
  refine Ev.callv (a := [.inr (.inr (.inr (43, 0, 37)))]) rfl (sx_c128 xs (d + 2)) ?_
  refine Ev.brF (p := (6 : Int32) ≤ (5 : Int32)) (c1 := (34, [some (.inr (.inr (.inr (43, 0, 37)))), some (.inr (.inl (24290536))), none, some (.inl (5))], [], sx_78 xs)) (c2 := (12, [some (.inr (.inr (.inr (43, 0, 37)))), some (.inr (.inl (24290536))), none, some (.inl (5))], [], sx_78 xs)) (by decide) rfl ?_
  refine Ev.sts 5 (c' := (17, [some (.inr (.inr (.inr (43, 0, 37)))), some (.inr (.inl (24290536))), none, some (.inl (5))], [.inl (5), .inr (.inr (.inr (43, 0, 37))), .inr (.inl (777297152))], sx_78 xs)) rfl ?_
  refine Ev.callv (a := [.inr (.inr (.inr (43, 0, 37))), .inl (5)]) rfl (sx_c133 xs (d + 0)) ?_
  refine Ev.sts 11 (c' := (6, [some (.inr (.inr (.inr (43, 0, 37)))), some (.inr (.inl (777297172))), none, some (.inl (6))], [.inr (.inr (.inr (43, 0, 37))), .inl (6)], sx_78 xs)) rfl ?_
  refine Ev.callv (a := [.inr (.inr (.inr (43, 0, 37)))]) rfl (sx_c135 xs (d + 2)) ?_
  refine Ev.brT (p := (6 : Int32) ≤ (6 : Int32)) (c1 := (34, [some (.inr (.inr (.inr (43, 0, 37)))), some (.inr (.inl (777297172))), none, some (.inl (6))], [], sx_78 xs)) (c2 := (12, [some (.inr (.inr (.inr (43, 0, 37)))), some (.inr (.inl (777297172))), none, some (.inl (6))], [], sx_78 xs)) (by decide) rfl ?_
  refine Ev.sts 1 (c' := (35, [some (.inr (.inr (.inr (43, 0, 37)))), some (.inr (.inl (777297172))), none, some (.inl (6))], [.inr (.inl (777297172))], sx_78 xs)) rfl ?_
  exact Ev.ret rfl ⟨rfl, rfl⟩
noncomputable def sx_79 (xs : Nat → Int32) : PH := setL (sx_78 xs) 88 2 (777297172)
theorem sx_c137 (xs : Nat → Int32) (d : Nat) : Rv (d + 0) 280 [.inr (.inr (.inr (43, 0, 38)))] (sx_79 xs) (some (.inl (0))) (sx_79 xs) := by
  refine Ev.sts 1 (c' := (3, [some (.inr (.inr (.inr (43, 0, 38))))], [.inl (1)], sx_79 xs)) rfl ?_
  refine Ev.brF (p := (1 : Int32) = (0 : Int32)) (c1 := (13, [some (.inr (.inr (.inr (43, 0, 38))))], [], sx_79 xs)) (c2 := (6, [some (.inr (.inr (.inr (43, 0, 38))))], [], sx_79 xs)) (by decide) rfl ?_
  refine Ev.sts 3 (c' := (14, [some (.inr (.inr (.inr (43, 0, 38))))], [.inl (0)], sx_79 xs)) rfl ?_
  exact Ev.ret rfl ⟨rfl, rfl⟩
theorem sx_c138 (xs : Nat → Int32) (d : Nat) : Rv (d + 1) 279 [.inr (.inr (.inr (43, 0, 38)))] (sx_79 xs) (some (.inl (4))) (sx_79 xs) := by
  refine Ev.sts 4 (c' := (6, [some (.inr (.inr (.inr (43, 0, 38))))], [.inr (.inr (.inr (43, 0, 38))), .inl (4)], sx_79 xs)) rfl ?_
  refine Ev.callv (a := [.inr (.inr (.inr (43, 0, 38)))]) rfl (sx_c137 xs (d + 0)) ?_
  refine Ev.sts 1 (c' := (10, [some (.inr (.inr (.inr (43, 0, 38))))], [.inl (4)], sx_79 xs)) rfl ?_
  exact Ev.ret rfl ⟨rfl, rfl⟩
theorem sx_c139 (xs : Nat → Int32) (d : Nat) : Rv (d + 0) 282 [.inr (.inr (.inr (43, 0, 38)))] (sx_79 xs) (some (.inl (1))) (sx_79 xs) := by
  refine Ev.sts 1 (c' := (3, [some (.inr (.inr (.inr (43, 0, 38))))], [.inl (1)], sx_79 xs)) rfl ?_
  refine Ev.brF (p := (1 : Int32) = (0 : Int32)) (c1 := (17, [some (.inr (.inr (.inr (43, 0, 38))))], [], sx_79 xs)) (c2 := (6, [some (.inr (.inr (.inr (43, 0, 38))))], [], sx_79 xs)) (by decide) rfl ?_
  refine Ev.sts 2 (c' := (10, [some (.inr (.inr (.inr (43, 0, 38))))], [.inl (0)], sx_79 xs)) rfl ?_
  refine Ev.brF (p := ¬ (0 : Int32) = (0 : Int32)) (c1 := (17, [some (.inr (.inr (.inr (43, 0, 38))))], [], sx_79 xs)) (c2 := (13, [some (.inr (.inr (.inr (43, 0, 38))))], [], sx_79 xs)) (by decide) rfl ?_
  refine Ev.sts 2 (c' := (18, [some (.inr (.inr (.inr (43, 0, 38))))], [.inl (1)], sx_79 xs)) rfl ?_
  exact Ev.ret rfl ⟨rfl, rfl⟩
theorem sx_c140 (xs : Nat → Int32) (d : Nat) : Rv (d + 0) 290 [.inl (0), .inl (4), .inr (.inr (.inr (46, 0, 0)))] (sx_79 xs) (some (.inl (0))) (sx_79 xs) := by
  refine Ev.sts 1 (c' := (1, [some (.inl (0)), some (.inl (4)), some (.inr (.inr (.inr (46, 0, 0))))], [.inl (0)], sx_79 xs)) rfl ?_
  refine Ev.brF (p := (0 : Int32) < (0 : Int32)) (c1 := (9, [some (.inl (0)), some (.inl (4)), some (.inr (.inr (.inr (46, 0, 0))))], [], sx_79 xs)) (c2 := (4, [some (.inl (0)), some (.inl (4)), some (.inr (.inr (.inr (46, 0, 0))))], [], sx_79 xs)) (by decide) rfl ?_
  refine Ev.sts 2 (c' := (6, [some (.inl (0)), some (.inl (4)), some (.inr (.inr (.inr (46, 0, 0))))], [.inl (4), .inl (0)], sx_79 xs)) rfl ?_
  refine Ev.brT (p := (0 : Int32) < (4 : Int32)) (c1 := (16, [some (.inl (0)), some (.inl (4)), some (.inr (.inr (.inr (46, 0, 0))))], [], sx_79 xs)) (c2 := (9, [some (.inl (0)), some (.inl (4)), some (.inr (.inr (.inr (46, 0, 0))))], [], sx_79 xs)) (by decide) rfl ?_
  refine Ev.sts 1 (c' := (17, [some (.inl (0)), some (.inl (4)), some (.inr (.inr (.inr (46, 0, 0))))], [.inl (0)], sx_79 xs)) rfl ?_
  exact Ev.ret rfl ⟨rfl, rfl⟩
theorem sx_c141 (xs : Nat → Int32) (d : Nat) : Rv (d + 1) 283 [.inl (0), .inl (4)] (sx_79 xs) none (sx_79 xs) := by
  refine Ev.sts 3 (c' := (5, [some (.inl (0)), some (.inl (4))], [.inr (.inr (.inr (46, 0, 0))), .inl (4), .inl (0)], sx_79 xs)) rfl ?_
  refine Ev.callv (a := [.inl (0), .inl (4), .inr (.inr (.inr (46, 0, 0)))]) rfl (sx_c140 xs (d + 0)) ?_
  refine Ev.sts 1 (c' := (9, [some (.inl (0)), some (.inl (4))], [], sx_79 xs)) rfl ?_
  exact Ev.ret rfl ⟨rfl, rfl⟩
theorem sx_c142 (xs : Nat → Int32) (d : Nat) : Rv (d + 2) 286 [.inr (.inr (.inr (44, 4, 38))), .inl (0)] (sx_79 xs) (some (.inl (119))) (sx_79 xs) := by
  refine Ev.sts 3 (c' := (3, [some (.inr (.inr (.inr (44, 4, 38)))), some (.inl (0))], [.inl (4), .inl (0)], sx_79 xs)) rfl ?_
  refine Ev.callv (a := [.inl (0), .inl (4)]) rfl (sx_c141 xs (d + 0)) ?_
  refine Ev.sts 6 (c' := (14, [some (.inr (.inr (.inr (44, 4, 38)))), some (.inl (0))], [.inl (119)], sx_79 xs)) rfl ?_
  exact Ev.ret rfl ⟨rfl, rfl⟩
theorem sx_c143 (xs : Nat → Int32) (d : Nat) : Rv (d + 3) 281 [.inr (.inr (.inr (43, 0, 38))), .inl (0)] (sx_79 xs) (some (.inl (119))) (sx_79 xs) := by
  refine Ev.sts 1 (c' := (1, [some (.inr (.inr (.inr (43, 0, 38)))), some (.inl (0))], [.inr (.inr (.inr (43, 0, 38)))], sx_79 xs)) rfl ?_
  refine Ev.callv (a := [.inr (.inr (.inr (43, 0, 38)))]) rfl (sx_c139 xs (d + 2)) ?_
  refine Ev.brF (p := (1 : Int32) = (0 : Int32)) (c1 := (16, [some (.inr (.inr (.inr (43, 0, 38)))), some (.inl (0))], [], sx_79 xs)) (c2 := (7, [some (.inr (.inr (.inr (43, 0, 38)))), some (.inl (0))], [], sx_79 xs)) (by decide) rfl ?_
  refine Ev.sts 3 (c' := (12, [some (.inr (.inr (.inr (43, 0, 38)))), some (.inl (0))], [.inl (0), .inr (.inr (.inr (44, 4, 38)))], sx_79 xs)) rfl ?_
  refine Ev.callv (a := [.inr (.inr (.inr (44, 4, 38))), .inl (0)]) rfl (sx_c142 xs (d + 0)) ?_
  exact Ev.ret rfl ⟨rfl, rfl⟩
theorem sx_c144 (xs : Nat → Int32) (d : Nat) : Rv (d + 0) 280 [.inr (.inr (.inr (43, 0, 38)))] (sx_79 xs) (some (.inl (0))) (sx_79 xs) := by
  refine Ev.sts 1 (c' := (3, [some (.inr (.inr (.inr (43, 0, 38))))], [.inl (1)], sx_79 xs)) rfl ?_
  refine Ev.brF (p := (1 : Int32) = (0 : Int32)) (c1 := (13, [some (.inr (.inr (.inr (43, 0, 38))))], [], sx_79 xs)) (c2 := (6, [some (.inr (.inr (.inr (43, 0, 38))))], [], sx_79 xs)) (by decide) rfl ?_
  refine Ev.sts 3 (c' := (14, [some (.inr (.inr (.inr (43, 0, 38))))], [.inl (0)], sx_79 xs)) rfl ?_
  exact Ev.ret rfl ⟨rfl, rfl⟩
theorem sx_c145 (xs : Nat → Int32) (d : Nat) : Rv (d + 1) 279 [.inr (.inr (.inr (43, 0, 38)))] (sx_79 xs) (some (.inl (4))) (sx_79 xs) := by
  refine Ev.sts 4 (c' := (6, [some (.inr (.inr (.inr (43, 0, 38))))], [.inr (.inr (.inr (43, 0, 38))), .inl (4)], sx_79 xs)) rfl ?_
  refine Ev.callv (a := [.inr (.inr (.inr (43, 0, 38)))]) rfl (sx_c144 xs (d + 0)) ?_
  refine Ev.sts 1 (c' := (10, [some (.inr (.inr (.inr (43, 0, 38))))], [.inl (4)], sx_79 xs)) rfl ?_
  exact Ev.ret rfl ⟨rfl, rfl⟩
theorem sx_c146 (xs : Nat → Int32) (d : Nat) : Rv (d + 0) 282 [.inr (.inr (.inr (43, 0, 38)))] (sx_79 xs) (some (.inl (1))) (sx_79 xs) := by
  refine Ev.sts 1 (c' := (3, [some (.inr (.inr (.inr (43, 0, 38))))], [.inl (1)], sx_79 xs)) rfl ?_
  refine Ev.brF (p := (1 : Int32) = (0 : Int32)) (c1 := (17, [some (.inr (.inr (.inr (43, 0, 38))))], [], sx_79 xs)) (c2 := (6, [some (.inr (.inr (.inr (43, 0, 38))))], [], sx_79 xs)) (by decide) rfl ?_
  refine Ev.sts 2 (c' := (10, [some (.inr (.inr (.inr (43, 0, 38))))], [.inl (0)], sx_79 xs)) rfl ?_
  refine Ev.brF (p := ¬ (0 : Int32) = (0 : Int32)) (c1 := (17, [some (.inr (.inr (.inr (43, 0, 38))))], [], sx_79 xs)) (c2 := (13, [some (.inr (.inr (.inr (43, 0, 38))))], [], sx_79 xs)) (by decide) rfl ?_
  refine Ev.sts 2 (c' := (18, [some (.inr (.inr (.inr (43, 0, 38))))], [.inl (1)], sx_79 xs)) rfl ?_
  exact Ev.ret rfl ⟨rfl, rfl⟩
theorem sx_c147 (xs : Nat → Int32) (d : Nat) : Rv (d + 0) 290 [.inl (1), .inl (4), .inr (.inr (.inr (46, 0, 0)))] (sx_79 xs) (some (.inl (1))) (sx_79 xs) := by
  refine Ev.sts 1 (c' := (1, [some (.inl (1)), some (.inl (4)), some (.inr (.inr (.inr (46, 0, 0))))], [.inl (1)], sx_79 xs)) rfl ?_
  refine Ev.brF (p := (1 : Int32) < (0 : Int32)) (c1 := (9, [some (.inl (1)), some (.inl (4)), some (.inr (.inr (.inr (46, 0, 0))))], [], sx_79 xs)) (c2 := (4, [some (.inl (1)), some (.inl (4)), some (.inr (.inr (.inr (46, 0, 0))))], [], sx_79 xs)) (by decide) rfl ?_
  refine Ev.sts 2 (c' := (6, [some (.inl (1)), some (.inl (4)), some (.inr (.inr (.inr (46, 0, 0))))], [.inl (4), .inl (1)], sx_79 xs)) rfl ?_
  refine Ev.brT (p := (1 : Int32) < (4 : Int32)) (c1 := (16, [some (.inl (1)), some (.inl (4)), some (.inr (.inr (.inr (46, 0, 0))))], [], sx_79 xs)) (c2 := (9, [some (.inl (1)), some (.inl (4)), some (.inr (.inr (.inr (46, 0, 0))))], [], sx_79 xs)) (by decide) rfl ?_
  refine Ev.sts 1 (c' := (17, [some (.inl (1)), some (.inl (4)), some (.inr (.inr (.inr (46, 0, 0))))], [.inl (1)], sx_79 xs)) rfl ?_
  exact Ev.ret rfl ⟨rfl, rfl⟩
theorem sx_c148 (xs : Nat → Int32) (d : Nat) : Rv (d + 1) 283 [.inl (1), .inl (4)] (sx_79 xs) none (sx_79 xs) := by
  refine Ev.sts 3 (c' := (5, [some (.inl (1)), some (.inl (4))], [.inr (.inr (.inr (46, 0, 0))), .inl (4), .inl (1)], sx_79 xs)) rfl ?_
  refine Ev.callv (a := [.inl (1), .inl (4), .inr (.inr (.inr (46, 0, 0)))]) rfl (sx_c147 xs (d + 0)) ?_
  refine Ev.sts 1 (c' := (9, [some (.inl (1)), some (.inl (4))], [], sx_79 xs)) rfl ?_
  exact Ev.ret rfl ⟨rfl, rfl⟩
theorem sx_c149 (xs : Nat → Int32) (d : Nat) : Rv (d + 2) 286 [.inr (.inr (.inr (44, 4, 38))), .inl (1)] (sx_79 xs) (some (.inl (105))) (sx_79 xs) := by
  refine Ev.sts 3 (c' := (3, [some (.inr (.inr (.inr (44, 4, 38)))), some (.inl (1))], [.inl (4), .inl (1)], sx_79 xs)) rfl ?_
  refine Ev.callv (a := [.inl (1), .inl (4)]) rfl (sx_c148 xs (d + 0)) ?_
  refine Ev.sts 6 (c' := (14, [some (.inr (.inr (.inr (44, 4, 38)))), some (.inl (1))], [.inl (105)], sx_79 xs)) rfl ?_
  exact Ev.ret rfl ⟨rfl, rfl⟩
theorem sx_c150 (xs : Nat → Int32) (d : Nat) : Rv (d + 3) 281 [.inr (.inr (.inr (43, 0, 38))), .inl (1)] (sx_79 xs) (some (.inl (105))) (sx_79 xs) := by
  refine Ev.sts 1 (c' := (1, [some (.inr (.inr (.inr (43, 0, 38)))), some (.inl (1))], [.inr (.inr (.inr (43, 0, 38)))], sx_79 xs)) rfl ?_
  refine Ev.callv (a := [.inr (.inr (.inr (43, 0, 38)))]) rfl (sx_c146 xs (d + 2)) ?_
  refine Ev.brF (p := (1 : Int32) = (0 : Int32)) (c1 := (16, [some (.inr (.inr (.inr (43, 0, 38)))), some (.inl (1))], [], sx_79 xs)) (c2 := (7, [some (.inr (.inr (.inr (43, 0, 38)))), some (.inl (1))], [], sx_79 xs)) (by decide) rfl ?_
  refine Ev.sts 3 (c' := (12, [some (.inr (.inr (.inr (43, 0, 38)))), some (.inl (1))], [.inl (1), .inr (.inr (.inr (44, 4, 38)))], sx_79 xs)) rfl ?_
  refine Ev.callv (a := [.inr (.inr (.inr (44, 4, 38))), .inl (1)]) rfl (sx_c149 xs (d + 0)) ?_
  exact Ev.ret rfl ⟨rfl, rfl⟩
theorem sx_c151 (xs : Nat → Int32) (d : Nat) : Rv (d + 0) 280 [.inr (.inr (.inr (43, 0, 38)))] (sx_79 xs) (some (.inl (0))) (sx_79 xs) := by
  refine Ev.sts 1 (c' := (3, [some (.inr (.inr (.inr (43, 0, 38))))], [.inl (1)], sx_79 xs)) rfl ?_
  refine Ev.brF (p := (1 : Int32) = (0 : Int32)) (c1 := (13, [some (.inr (.inr (.inr (43, 0, 38))))], [], sx_79 xs)) (c2 := (6, [some (.inr (.inr (.inr (43, 0, 38))))], [], sx_79 xs)) (by decide) rfl ?_
  refine Ev.sts 3 (c' := (14, [some (.inr (.inr (.inr (43, 0, 38))))], [.inl (0)], sx_79 xs)) rfl ?_
  exact Ev.ret rfl ⟨rfl, rfl⟩
theorem sx_c152 (xs : Nat → Int32) (d : Nat) : Rv (d + 1) 279 [.inr (.inr (.inr (43, 0, 38)))] (sx_79 xs) (some (.inl (4))) (sx_79 xs) := by
  refine Ev.sts 4 (c' := (6, [some (.inr (.inr (.inr (43, 0, 38))))], [.inr (.inr (.inr (43, 0, 38))), .inl (4)], sx_79 xs)) rfl ?_
  refine Ev.callv (a := [.inr (.inr (.inr (43, 0, 38)))]) rfl (sx_c151 xs (d + 0)) ?_
  refine Ev.sts 1 (c' := (10, [some (.inr (.inr (.inr (43, 0, 38))))], [.inl (4)], sx_79 xs)) rfl ?_
  exact Ev.ret rfl ⟨rfl, rfl⟩
theorem sx_c153 (xs : Nat → Int32) (d : Nat) : Rv (d + 0) 282 [.inr (.inr (.inr (43, 0, 38)))] (sx_79 xs) (some (.inl (1))) (sx_79 xs) := by
  refine Ev.sts 1 (c' := (3, [some (.inr (.inr (.inr (43, 0, 38))))], [.inl (1)], sx_79 xs)) rfl ?_
  refine Ev.brF (p := (1 : Int32) = (0 : Int32)) (c1 := (17, [some (.inr (.inr (.inr (43, 0, 38))))], [], sx_79 xs)) (c2 := (6, [some (.inr (.inr (.inr (43, 0, 38))))], [], sx_79 xs)) (by decide) rfl ?_
  refine Ev.sts 2 (c' := (10, [some (.inr (.inr (.inr (43, 0, 38))))], [.inl (0)], sx_79 xs)) rfl ?_
  refine Ev.brF (p := ¬ (0 : Int32) = (0 : Int32)) (c1 := (17, [some (.inr (.inr (.inr (43, 0, 38))))], [], sx_79 xs)) (c2 := (13, [some (.inr (.inr (.inr (43, 0, 38))))], [], sx_79 xs)) (by decide) rfl ?_
  refine Ev.sts 2 (c' := (18, [some (.inr (.inr (.inr (43, 0, 38))))], [.inl (1)], sx_79 xs)) rfl ?_
  exact Ev.ret rfl ⟨rfl, rfl⟩
theorem sx_c154 (xs : Nat → Int32) (d : Nat) : Rv (d + 0) 290 [.inl (2), .inl (4), .inr (.inr (.inr (46, 0, 0)))] (sx_79 xs) (some (.inl (2))) (sx_79 xs) := by
  refine Ev.sts 1 (c' := (1, [some (.inl (2)), some (.inl (4)), some (.inr (.inr (.inr (46, 0, 0))))], [.inl (2)], sx_79 xs)) rfl ?_
  refine Ev.brF (p := (2 : Int32) < (0 : Int32)) (c1 := (9, [some (.inl (2)), some (.inl (4)), some (.inr (.inr (.inr (46, 0, 0))))], [], sx_79 xs)) (c2 := (4, [some (.inl (2)), some (.inl (4)), some (.inr (.inr (.inr (46, 0, 0))))], [], sx_79 xs)) (by decide) rfl ?_
  refine Ev.sts 2 (c' := (6, [some (.inl (2)), some (.inl (4)), some (.inr (.inr (.inr (46, 0, 0))))], [.inl (4), .inl (2)], sx_79 xs)) rfl ?_
  refine Ev.brT (p := (2 : Int32) < (4 : Int32)) (c1 := (16, [some (.inl (2)), some (.inl (4)), some (.inr (.inr (.inr (46, 0, 0))))], [], sx_79 xs)) (c2 := (9, [some (.inl (2)), some (.inl (4)), some (.inr (.inr (.inr (46, 0, 0))))], [], sx_79 xs)) (by decide) rfl ?_
  refine Ev.sts 1 (c' := (17, [some (.inl (2)), some (.inl (4)), some (.inr (.inr (.inr (46, 0, 0))))], [.inl (2)], sx_79 xs)) rfl ?_
  exact Ev.ret rfl ⟨rfl, rfl⟩
theorem sx_c155 (xs : Nat → Int32) (d : Nat) : Rv (d + 1) 283 [.inl (2), .inl (4)] (sx_79 xs) none (sx_79 xs) := by
  refine Ev.sts 3 (c' := (5, [some (.inl (2)), some (.inl (4))], [.inr (.inr (.inr (46, 0, 0))), .inl (4), .inl (2)], sx_79 xs)) rfl ?_
  refine Ev.callv (a := [.inl (2), .inl (4), .inr (.inr (.inr (46, 0, 0)))]) rfl (sx_c154 xs (d + 0)) ?_
  refine Ev.sts 1 (c' := (9, [some (.inl (2)), some (.inl (4))], [], sx_79 xs)) rfl ?_
  exact Ev.ret rfl ⟨rfl, rfl⟩
theorem sx_c156 (xs : Nat → Int32) (d : Nat) : Rv (d + 2) 286 [.inr (.inr (.inr (44, 4, 38))), .inl (2)] (sx_79 xs) (some (.inl (110))) (sx_79 xs) := by
  refine Ev.sts 3 (c' := (3, [some (.inr (.inr (.inr (44, 4, 38)))), some (.inl (2))], [.inl (4), .inl (2)], sx_79 xs)) rfl ?_
  refine Ev.callv (a := [.inl (2), .inl (4)]) rfl (sx_c155 xs (d + 0)) ?_
  refine Ev.sts 6 (c' := (14, [some (.inr (.inr (.inr (44, 4, 38)))), some (.inl (2))], [.inl (110)], sx_79 xs)) rfl ?_
  exact Ev.ret rfl ⟨rfl, rfl⟩
theorem sx_c157 (xs : Nat → Int32) (d : Nat) : Rv (d + 3) 281 [.inr (.inr (.inr (43, 0, 38))), .inl (2)] (sx_79 xs) (some (.inl (110))) (sx_79 xs) := by
  refine Ev.sts 1 (c' := (1, [some (.inr (.inr (.inr (43, 0, 38)))), some (.inl (2))], [.inr (.inr (.inr (43, 0, 38)))], sx_79 xs)) rfl ?_
  refine Ev.callv (a := [.inr (.inr (.inr (43, 0, 38)))]) rfl (sx_c153 xs (d + 2)) ?_
  refine Ev.brF (p := (1 : Int32) = (0 : Int32)) (c1 := (16, [some (.inr (.inr (.inr (43, 0, 38)))), some (.inl (2))], [], sx_79 xs)) (c2 := (7, [some (.inr (.inr (.inr (43, 0, 38)))), some (.inl (2))], [], sx_79 xs)) (by decide) rfl ?_
  refine Ev.sts 3 (c' := (12, [some (.inr (.inr (.inr (43, 0, 38)))), some (.inl (2))], [.inl (2), .inr (.inr (.inr (44, 4, 38)))], sx_79 xs)) rfl ?_
  refine Ev.callv (a := [.inr (.inr (.inr (44, 4, 38))), .inl (2)]) rfl (sx_c156 xs (d + 0)) ?_
  exact Ev.ret rfl ⟨rfl, rfl⟩
theorem sx_c158 (xs : Nat → Int32) (d : Nat) : Rv (d + 0) 280 [.inr (.inr (.inr (43, 0, 38)))] (sx_79 xs) (some (.inl (0))) (sx_79 xs) := by
  refine Ev.sts 1 (c' := (3, [some (.inr (.inr (.inr (43, 0, 38))))], [.inl (1)], sx_79 xs)) rfl ?_
  refine Ev.brF (p := (1 : Int32) = (0 : Int32)) (c1 := (13, [some (.inr (.inr (.inr (43, 0, 38))))], [], sx_79 xs)) (c2 := (6, [some (.inr (.inr (.inr (43, 0, 38))))], [], sx_79 xs)) (by decide) rfl ?_
  refine Ev.sts 3 (c' := (14, [some (.inr (.inr (.inr (43, 0, 38))))], [.inl (0)], sx_79 xs)) rfl ?_
  exact Ev.ret rfl ⟨rfl, rfl⟩
theorem sx_c159 (xs : Nat → Int32) (d : Nat) : Rv (d + 1) 279 [.inr (.inr (.inr (43, 0, 38)))] (sx_79 xs) (some (.inl (4))) (sx_79 xs) := by
  refine Ev.sts 4 (c' := (6, [some (.inr (.inr (.inr (43, 0, 38))))], [.inr (.inr (.inr (43, 0, 38))), .inl (4)], sx_79 xs)) rfl ?_
  refine Ev.callv (a := [.inr (.inr (.inr (43, 0, 38)))]) rfl (sx_c158 xs (d + 0)) ?_
  refine Ev.sts 1 (c' := (10, [some (.inr (.inr (.inr (43, 0, 38))))], [.inl (4)], sx_79 xs)) rfl ?_
  exact Ev.ret rfl ⟨rfl, rfl⟩
theorem sx_c160 (xs : Nat → Int32) (d : Nat) : Rv (d + 0) 282 [.inr (.inr (.inr (43, 0, 38)))] (sx_79 xs) (some (.inl (1))) (sx_79 xs) := by
  refine Ev.sts 1 (c' := (3, [some (.inr (.inr (.inr (43, 0, 38))))], [.inl (1)], sx_79 xs)) rfl ?_
  refine Ev.brF (p := (1 : Int32) = (0 : Int32)) (c1 := (17, [some (.inr (.inr (.inr (43, 0, 38))))], [], sx_79 xs)) (c2 := (6, [some (.inr (.inr (.inr (43, 0, 38))))], [], sx_79 xs)) (by decide) rfl ?_
  refine Ev.sts 2 (c' := (10, [some (.inr (.inr (.inr (43, 0, 38))))], [.inl (0)], sx_79 xs)) rfl ?_
  refine Ev.brF (p := ¬ (0 : Int32) = (0 : Int32)) (c1 := (17, [some (.inr (.inr (.inr (43, 0, 38))))], [], sx_79 xs)) (c2 := (13, [some (.inr (.inr (.inr (43, 0, 38))))], [], sx_79 xs)) (by decide) rfl ?_
  refine Ev.sts 2 (c' := (18, [some (.inr (.inr (.inr (43, 0, 38))))], [.inl (1)], sx_79 xs)) rfl ?_
  exact Ev.ret rfl ⟨rfl, rfl⟩
theorem sx_c161 (xs : Nat → Int32) (d : Nat) : Rv (d + 0) 290 [.inl (3), .inl (4), .inr (.inr (.inr (46, 0, 0)))] (sx_79 xs) (some (.inl (3))) (sx_79 xs) := by
  refine Ev.sts 1 (c' := (1, [some (.inl (3)), some (.inl (4)), some (.inr (.inr (.inr (46, 0, 0))))], [.inl (3)], sx_79 xs)) rfl ?_
  refine Ev.brF (p := (3 : Int32) < (0 : Int32)) (c1 := (9, [some (.inl (3)), some (.inl (4)), some (.inr (.inr (.inr (46, 0, 0))))], [], sx_79 xs)) (c2 := (4, [some (.inl (3)), some (.inl (4)), some (.inr (.inr (.inr (46, 0, 0))))], [], sx_79 xs)) (by decide) rfl ?_
  refine Ev.sts 2 (c' := (6, [some (.inl (3)), some (.inl (4)), some (.inr (.inr (.inr (46, 0, 0))))], [.inl (4), .inl (3)], sx_79 xs)) rfl ?_
  refine Ev.brT (p := (3 : Int32) < (4 : Int32)) (c1 := (16, [some (.inl (3)), some (.inl (4)), some (.inr (.inr (.inr (46, 0, 0))))], [], sx_79 xs)) (c2 := (9, [some (.inl (3)), some (.inl (4)), some (.inr (.inr (.inr (46, 0, 0))))], [], sx_79 xs)) (by decide) rfl ?_
  refine Ev.sts 1 (c' := (17, [some (.inl (3)), some (.inl (4)), some (.inr (.inr (.inr (46, 0, 0))))], [.inl (3)], sx_79 xs)) rfl ?_
  exact Ev.ret rfl ⟨rfl, rfl⟩
theorem sx_c162 (xs : Nat → Int32) (d : Nat) : Rv (d + 1) 283 [.inl (3), .inl (4)] (sx_79 xs) none (sx_79 xs) := by
  refine Ev.sts 3 (c' := (5, [some (.inl (3)), some (.inl (4))], [.inr (.inr (.inr (46, 0, 0))), .inl (4), .inl (3)], sx_79 xs)) rfl ?_
  refine Ev.callv (a := [.inl (3), .inl (4), .inr (.inr (.inr (46, 0, 0)))]) rfl (sx_c161 xs (d + 0)) ?_
  refine Ev.sts 1 (c' := (9, [some (.inl (3)), some (.inl (4))], [], sx_79 xs)) rfl ?_
  exact Ev.ret rfl ⟨rfl, rfl⟩
theorem sx_c163 (xs : Nat → Int32) (d : Nat) : Rv (d + 2) 286 [.inr (.inr (.inr (44, 4, 38))), .inl (3)] (sx_79 xs) (some (.inl (103))) (sx_79 xs) := by
  refine Ev.sts 3 (c' := (3, [some (.inr (.inr (.inr (44, 4, 38)))), some (.inl (3))], [.inl (4), .inl (3)], sx_79 xs)) rfl ?_
  refine Ev.callv (a := [.inl (3), .inl (4)]) rfl (sx_c162 xs (d + 0)) ?_
  refine Ev.sts 6 (c' := (14, [some (.inr (.inr (.inr (44, 4, 38)))), some (.inl (3))], [.inl (103)], sx_79 xs)) rfl ?_
  exact Ev.ret rfl ⟨rfl, rfl⟩
theorem sx_c164 (xs : Nat → Int32) (d : Nat) : Rv (d + 3) 281 [.inr (.inr (.inr (43, 0, 38))), .inl (3)] (sx_79 xs) (some (.inl (103))) (sx_79 xs) := by
  refine Ev.sts 1 (c' := (1, [some (.inr (.inr (.inr (43, 0, 38)))), some (.inl (3))], [.inr (.inr (.inr (43, 0, 38)))], sx_79 xs)) rfl ?_
  refine Ev.callv (a := [.inr (.inr (.inr (43, 0, 38)))]) rfl (sx_c160 xs (d + 2)) ?_
  refine Ev.brF (p := (1 : Int32) = (0 : Int32)) (c1 := (16, [some (.inr (.inr (.inr (43, 0, 38)))), some (.inl (3))], [], sx_79 xs)) (c2 := (7, [some (.inr (.inr (.inr (43, 0, 38)))), some (.inl (3))], [], sx_79 xs)) (by decide) rfl ?_
  refine Ev.sts 3 (c' := (12, [some (.inr (.inr (.inr (43, 0, 38)))), some (.inl (3))], [.inl (3), .inr (.inr (.inr (44, 4, 38)))], sx_79 xs)) rfl ?_
  refine Ev.callv (a := [.inr (.inr (.inr (44, 4, 38))), .inl (3)]) rfl (sx_c163 xs (d + 0)) ?_
  exact Ev.ret rfl ⟨rfl, rfl⟩
theorem sx_c165 (xs : Nat → Int32) (d : Nat) : Rv (d + 0) 280 [.inr (.inr (.inr (43, 0, 38)))] (sx_79 xs) (some (.inl (0))) (sx_79 xs) := by
  refine Ev.sts 1 (c' := (3, [some (.inr (.inr (.inr (43, 0, 38))))], [.inl (1)], sx_79 xs)) rfl ?_
  refine Ev.brF (p := (1 : Int32) = (0 : Int32)) (c1 := (13, [some (.inr (.inr (.inr (43, 0, 38))))], [], sx_79 xs)) (c2 := (6, [some (.inr (.inr (.inr (43, 0, 38))))], [], sx_79 xs)) (by decide) rfl ?_
  refine Ev.sts 3 (c' := (14, [some (.inr (.inr (.inr (43, 0, 38))))], [.inl (0)], sx_79 xs)) rfl ?_
  exact Ev.ret rfl ⟨rfl, rfl⟩
theorem sx_c166 (xs : Nat → Int32) (d : Nat) : Rv (d + 1) 279 [.inr (.inr (.inr (43, 0, 38)))] (sx_79 xs) (some (.inl (4))) (sx_79 xs) := by
  refine Ev.sts 4 (c' := (6, [some (.inr (.inr (.inr (43, 0, 38))))], [.inr (.inr (.inr (43, 0, 38))), .inl (4)], sx_79 xs)) rfl ?_
  refine Ev.callv (a := [.inr (.inr (.inr (43, 0, 38)))]) rfl (sx_c165 xs (d + 0)) ?_
  refine Ev.sts 1 (c' := (10, [some (.inr (.inr (.inr (43, 0, 38))))], [.inl (4)], sx_79 xs)) rfl ?_
  exact Ev.ret rfl ⟨rfl, rfl⟩
theorem sx_c167 (xs : Nat → Int32) (d : Nat) : Rv (d + 4) 168 [.inr (.inr (.inr (43, 0, 38)))] (sx_79 xs) (some (.inr (.inl (763335)))) (sx_79 xs) := by
  refine Ev.sts 6 (c' := (6, [some (.inr (.inr (.inr (43, 0, 38)))), some (.inr (.inl (0))), none, some (.inl (0))], [.inr (.inr (.inr (43, 0, 38))), .inl (0)], sx_79 xs)) rfl ?_
  refine Ev.callv (a := [.inr (.inr (.inr (43, 0, 38)))]) rfl (sx_c138 xs (d + 2)) ?_
  refine Ev.brF (p := (4 : Int32) ≤ (0 : Int32)) (c1 := (34, [some (.inr (.inr (.inr (43, 0, 38)))), some (.inr (.inl (0))), none, some (.inl (0))], [], sx_79 xs)) (c2 := (12, [some (.inr (.inr (.inr (43, 0, 38)))), some (.inr (.inl (0))), none, some (.inl (0))], [], sx_79 xs)) (by decide) rfl ?_
  refine Ev.sts 5 (c' := (17, [some (.inr (.inr (.inr (43, 0, 38)))), some (.inr (.inl (0))), none, some (.inl (0))], [.inl (0), .inr (.inr (.inr (43, 0, 38))), .inr (.inl (0))], sx_79 xs)) rfl ?_
  refine Ev.callv (a := [.inr (.inr (.inr (43, 0, 38))), .inl (0)]) rfl (sx_c143 xs (d + 0)) ?_
  refine Ev.sts 11 (c' := (6, [some (.inr (.inr (.inr (43, 0, 38)))), some (.inr (.inl (23))), none, some (.inl (1))], [.inr (.inr (.inr (43, 0, 38))), .inl (1)], sx_79 xs)) rfl ?_
  refine Ev.callv (a := [.inr (.inr (.inr (43, 0, 38)))]) rfl (sx_c145 xs (d + 2)) ?_
  refine Ev.brF (p := (4 : Int32) ≤ (1 : Int32)) (c1 := (34, [some (.inr (.inr (.inr (43, 0, 38)))), some (.inr (.inl (23))), none, some (.inl (1))], [], sx_79 xs)) (c2 := (12, [some (.inr (.inr (.inr (43, 0, 38)))), some (.inr (.inl (23))), none, some (.inl (1))], [], sx_79 xs)) (by decide) rfl ?_
  refine Ev.sts 5 (c' := (17, [some (.inr (.inr (.inr (43, 0, 38)))), some (.inr (.inl (23))), none, some (.inl (1))], [.inl (1), .inr (.inr (.inr (43, 0, 38))), .inr (.inl (736))], sx_79 xs)) rfl ?_
  refine Ev.callv (a := [.inr (.inr (.inr (43, 0, 38))), .inl (1)]) rfl (sx_c150 xs (d + 0)) ?_
  refine Ev.sts 11 (c' := (6, [some (.inr (.inr (.inr (43, 0, 38)))), some (.inr (.inl (745))), none, some (.inl (2))], [.inr (.inr (.inr (43, 0, 38))), .inl (2)], sx_79 xs)) rfl ?_
  refine Ev.callv (a := [.inr (.inr (.inr (43, 0, 38)))]) rfl (sx_c152 xs (d + 2)) ?_
  refine Ev.brF (p := (4 : Int32) ≤ (2 : Int32)) (c1 := (34, [some (.inr (.inr (.inr (43, 0, 38)))), some (.inr (.inl (745))), none, some (.inl (2))], [], sx_79 xs)) (c2 := (12, [some (.inr (.inr (.inr (43, 0, 38)))), some (.inr (.inl (745))), none, some (.inl (2))], [], sx_79 xs)) (by decide) rfl ?_
  refine Ev.sts 5 (c' := (17, [some (.inr (.inr (.inr (43, 0, 38)))), some (.inr (.inl (745))), none, some (.inl (2))], [.inl (2), .inr (.inr (.inr (43, 0, 38))), .inr (.inl (23840))], sx_79 xs)) rfl ?_
  refine Ev.callv (a := [.inr (.inr (.inr (43, 0, 38))), .inl (2)]) rfl (sx_c157 xs (d + 0)) ?_
  refine Ev.sts 11 (c' := (6, [some (.inr (.inr (.inr (43, 0, 38)))), some (.inr (.inl (23854))), none, some (.inl (3))], [.inr (.inr (.inr (43, 0, 38))), .inl (3)], sx_79 xs)) rfl ?_
  refine Ev.callv (a := [.inr (.inr (.inr (43, 0, 38)))]) rfl (sx_c159 xs (d + 2)) ?_
  refine Ev.brF (p := (4 : Int32) ≤ (3 : Int32)) (c1 := (34, [some (.inr (.inr (.inr (43, 0, 38)))), some (.inr (.inl (23854))), none, some (.inl (3))], [], sx_79 xs)) (c2 := (12, [some (.inr (.inr (.inr (43, 0, 38)))), some (.inr (.inl (23854))), none, some (.inl (3))], [], sx_79 xs)) (by decide) rfl ?_
  refine Ev.sts 5 (c' := (17, [some (.inr (.inr (.inr (43, 0, 38)))), some (.inr (.inl (23854))), none, some (.inl (3))], [.inl (3), .inr (.inr (.inr (43, 0, 38))), .inr (.inl (763328))], sx_79 xs)) rfl ?_
  refine Ev.callv (a := [.inr (.inr (.inr (43, 0, 38))), .inl (3)]) rfl (sx_c164 xs (d + 0)) ?_
  refine Ev.sts 11 (c' := (6, [some (.inr (.inr (.inr (43, 0, 38)))), some (.inr (.inl (763335))), none, some (.inl (4))], [.inr (.inr (.inr (43, 0, 38))), .inl (4)], sx_79 xs)) rfl ?_
  refine Ev.callv (a := [.inr (.inr (.inr (43, 0, 38)))]) rfl (sx_c166 xs (d + 2)) ?_
  refine Ev.brT (p := (4 : Int32) ≤ (4 : Int32)) (c1 := (34, [some (.inr (.inr (.inr (43, 0, 38)))), some (.inr (.inl (763335))), none, some (.inl (4))], [], sx_79 xs)) (c2 := (12, [some (.inr (.inr (.inr (43, 0, 38)))), some (.inr (.inl (763335))), none, some (.inl (4))], [], sx_79 xs)) (by decide) rfl ?_
  refine Ev.sts 1 (c' := (35, [some (.inr (.inr (.inr (43, 0, 38)))), some (.inr (.inl (763335))), none, some (.inl (4))], [.inr (.inl (763335))], sx_79 xs)) rfl ?_
  exact Ev.ret rfl ⟨rfl, rfl⟩
noncomputable def sx_80 (xs : Nat → Int32) : PH := setR (grow (setR (grow (setR (grow (setI (setR (grow (setR (grow (setR (grow (setR (grow (setR (grow (setR (grow (setR (grow (setR (grow (setR (grow (setR (grow (setI (setR (setL (sx_79 xs) 88 3 (763335)) 83 6 (21, 4, 88)) 83 11 (-1)) 14) 83 12 (21, 14, 89)) 14) 83 13 (20, 14, 90)) 1024) 83 15 (20, 1024, 91)) 64) 83 17 (20, 64, 92)) 64) 83 18 (20, 64, 93)) 1024) 83 19 (20, 1024, 94)) 400) 83 20 (20, 400, 95)) 120) 83 22 (20, 120, 96)) 120) 83 23 (20, 120, 97)) 4) 83 24 (20, 4, 98)) 83 26 (-1)) 6) 83 28 (20, 6, 99)) 160) 83 29 (20, 160, 100)) 160) 83 31 (20, 160, 101)
noncomputable def sx_81 (xs : Nat → Int32) : PH := setI (sx_80 xs) 93 0 (0)
noncomputable def sx_82 (xs : Nat → Int32) : PH := setI (sx_81 xs) 93 1 (0)
noncomputable def sx_83 (xs : Nat → Int32) : PH := setI (sx_82 xs) 93 2 (0)
noncomputable def sx_84 (xs : Nat → Int32) : PH := setI (sx_83 xs) 93 3 (0)
noncomputable def sx_85 (xs : Nat → Int32) : PH := setI (sx_84 xs) 93 4 (0)
noncomputable def sx_86 (xs : Nat → Int32) : PH := setI (sx_85 xs) 93 5 (0)
noncomputable def sx_87 (xs : Nat → Int32) : PH := setI (sx_86 xs) 93 6 (0)
noncomputable def sx_88 (xs : Nat → Int32) : PH := setI (sx_87 xs) 93 7 (0)
noncomputable def sx_89 (xs : Nat → Int32) : PH := setI (sx_88 xs) 93 8 (0)
noncomputable def sx_90 (xs : Nat → Int32) : PH := setI (sx_89 xs) 93 9 (0)
noncomputable def sx_91 (xs : Nat → Int32) : PH := setI (sx_90 xs) 93 10 (0)
noncomputable def sx_92 (xs : Nat → Int32) : PH := setI (sx_91 xs) 93 11 (0)
noncomputable def sx_93 (xs : Nat → Int32) : PH := setI (sx_92 xs) 93 12 (0)
noncomputable def sx_94 (xs : Nat → Int32) : PH := setI (sx_93 xs) 93 13 (0)
noncomputable def sx_95 (xs : Nat → Int32) : PH := setI (sx_94 xs) 93 14 (0)
noncomputable def sx_96 (xs : Nat → Int32) : PH := setI (sx_95 xs) 93 15 (0)
noncomputable def sx_97 (xs : Nat → Int32) : PH := setI (sx_96 xs) 93 16 (0)
noncomputable def sx_98 (xs : Nat → Int32) : PH := setI (sx_97 xs) 93 17 (0)
noncomputable def sx_99 (xs : Nat → Int32) : PH := setI (sx_98 xs) 93 18 (0)
noncomputable def sx_100 (xs : Nat → Int32) : PH := setI (sx_99 xs) 93 19 (0)
noncomputable def sx_101 (xs : Nat → Int32) : PH := setI (sx_100 xs) 93 20 (0)
noncomputable def sx_102 (xs : Nat → Int32) : PH := setI (sx_101 xs) 93 21 (0)
noncomputable def sx_103 (xs : Nat → Int32) : PH := setI (sx_102 xs) 93 22 (0)
noncomputable def sx_104 (xs : Nat → Int32) : PH := setI (sx_103 xs) 93 23 (0)
noncomputable def sx_105 (xs : Nat → Int32) : PH := setI (sx_104 xs) 93 24 (0)
noncomputable def sx_106 (xs : Nat → Int32) : PH := setI (sx_105 xs) 93 25 (0)
noncomputable def sx_107 (xs : Nat → Int32) : PH := setI (sx_106 xs) 93 26 (0)
noncomputable def sx_108 (xs : Nat → Int32) : PH := setI (sx_107 xs) 93 27 (0)
noncomputable def sx_109 (xs : Nat → Int32) : PH := setI (sx_108 xs) 93 28 (0)
noncomputable def sx_110 (xs : Nat → Int32) : PH := setI (sx_109 xs) 93 29 (0)
noncomputable def sx_111 (xs : Nat → Int32) : PH := setI (sx_110 xs) 93 30 (0)
noncomputable def sx_112 (xs : Nat → Int32) : PH := setI (sx_111 xs) 93 31 (0)
noncomputable def sx_113 (xs : Nat → Int32) : PH := setI (sx_112 xs) 93 32 (0)
noncomputable def sx_114 (xs : Nat → Int32) : PH := setI (sx_113 xs) 93 33 (0)
noncomputable def sx_115 (xs : Nat → Int32) : PH := setI (sx_114 xs) 93 34 (0)
noncomputable def sx_116 (xs : Nat → Int32) : PH := setI (sx_115 xs) 93 35 (0)
noncomputable def sx_117 (xs : Nat → Int32) : PH := setI (sx_116 xs) 93 36 (0)
noncomputable def sx_118 (xs : Nat → Int32) : PH := setI (sx_117 xs) 93 37 (0)
noncomputable def sx_119 (xs : Nat → Int32) : PH := setI (sx_118 xs) 93 38 (0)
noncomputable def sx_120 (xs : Nat → Int32) : PH := setI (sx_119 xs) 93 39 (0)
noncomputable def sx_121 (xs : Nat → Int32) : PH := setI (sx_120 xs) 93 40 (0)
noncomputable def sx_122 (xs : Nat → Int32) : PH := setI (sx_121 xs) 93 41 (0)
noncomputable def sx_123 (xs : Nat → Int32) : PH := setI (sx_122 xs) 93 42 (0)
noncomputable def sx_124 (xs : Nat → Int32) : PH := setI (sx_123 xs) 93 43 (0)
noncomputable def sx_125 (xs : Nat → Int32) : PH := setI (sx_124 xs) 93 44 (0)
noncomputable def sx_126 (xs : Nat → Int32) : PH := setI (sx_125 xs) 93 45 (0)
noncomputable def sx_127 (xs : Nat → Int32) : PH := setI (sx_126 xs) 93 46 (0)
noncomputable def sx_128 (xs : Nat → Int32) : PH := setI (sx_127 xs) 93 47 (0)
noncomputable def sx_129 (xs : Nat → Int32) : PH := setI (sx_128 xs) 93 48 (0)
noncomputable def sx_130 (xs : Nat → Int32) : PH := setI (sx_129 xs) 93 49 (0)
noncomputable def sx_131 (xs : Nat → Int32) : PH := setI (sx_130 xs) 93 50 (0)
noncomputable def sx_132 (xs : Nat → Int32) : PH := setI (sx_131 xs) 93 51 (0)
noncomputable def sx_133 (xs : Nat → Int32) : PH := setI (sx_132 xs) 93 52 (0)
noncomputable def sx_134 (xs : Nat → Int32) : PH := setI (sx_133 xs) 93 53 (0)
noncomputable def sx_135 (xs : Nat → Int32) : PH := setI (sx_134 xs) 93 54 (0)
noncomputable def sx_136 (xs : Nat → Int32) : PH := setI (sx_135 xs) 93 55 (0)
noncomputable def sx_137 (xs : Nat → Int32) : PH := setI (sx_136 xs) 93 56 (0)
noncomputable def sx_138 (xs : Nat → Int32) : PH := setI (sx_137 xs) 93 57 (0)
noncomputable def sx_139 (xs : Nat → Int32) : PH := setI (sx_138 xs) 93 58 (0)
noncomputable def sx_140 (xs : Nat → Int32) : PH := setI (sx_139 xs) 93 59 (0)
noncomputable def sx_141 (xs : Nat → Int32) : PH := setI (sx_140 xs) 93 60 (0)
noncomputable def sx_142 (xs : Nat → Int32) : PH := setI (sx_141 xs) 93 61 (0)
noncomputable def sx_143 (xs : Nat → Int32) : PH := setI (sx_142 xs) 93 62 (0)
noncomputable def sx_144 (xs : Nat → Int32) : PH := setI (sx_143 xs) 93 63 (0)
noncomputable def sx_145 (xs : Nat → Int32) : PH := setI (setI (sx_144 xs) 93 2 (1)) 93 3 (5)
noncomputable def sx_146 (xs : Nat → Int32) : PH := setI (setI (setI (setI (setI (setI (sx_145 xs) 83 21 (0)) 83 25 (0)) 83 26 (-1)) 83 27 (0)) 83 30 (0)) 83 32 (0)
noncomputable def sx_147 (xs : Nat → Int32) : PH := setI (sx_146 xs) 99 0 (0)
noncomputable def sx_148 (xs : Nat → Int32) : PH := setI (sx_147 xs) 99 1 (0)
noncomputable def sx_149 (xs : Nat → Int32) : PH := setI (sx_148 xs) 99 2 (0)
noncomputable def sx_150 (xs : Nat → Int32) : PH := setI (sx_149 xs) 99 3 (0)
noncomputable def sx_151 (xs : Nat → Int32) : PH := setI (sx_150 xs) 99 4 (0)
noncomputable def sx_152 (xs : Nat → Int32) : PH := setI (sx_151 xs) 99 5 (0)
theorem sx_c168 (xs : Nat → Int32) (d : Nat) : Rv (d + 0) 170 [.inr (.inr (.inr (11, 0, 83)))] (sx_145 xs) none (sx_152 xs) := by
  refine Ev.sts 22 (c' := (35, [some (.inr (.inr (.inr (11, 0, 83)))), some (.inl (0))], [.inl (6), .inl (0)], sx_146 xs)) rfl ?_
  refine Ev.brF (p := (6 : Int32) ≤ (0 : Int32)) (c1 := (51, [some (.inr (.inr (.inr (11, 0, 83)))), some (.inl (0))], [], sx_146 xs)) (c2 := (38, [some (.inr (.inr (.inr (11, 0, 83)))), some (.inl (0))], [], sx_146 xs)) (by decide) rfl ?_
  refine Ev.sts 9 (c' := (35, [some (.inr (.inr (.inr (11, 0, 83)))), some (.inl (1))], [.inl (6), .inl (1)], sx_147 xs)) rfl ?_
  refine Ev.brF (p := (6 : Int32) ≤ (1 : Int32)) (c1 := (51, [some (.inr (.inr (.inr (11, 0, 83)))), some (.inl (1))], [], sx_147 xs)) (c2 := (38, [some (.inr (.inr (.inr (11, 0, 83)))), some (.inl (1))], [], sx_147 xs)) (by decide) rfl ?_
  refine Ev.sts 9 (c' := (35, [some (.inr (.inr (.inr (11, 0, 83)))), some (.inl (2))], [.inl (6), .inl (2)], sx_148 xs)) rfl ?_
  refine Ev.brF (p := (6 : Int32) ≤ (2 : Int32)) (c1 := (51, [some (.inr (.inr (.inr (11, 0, 83)))), some (.inl (2))], [], sx_148 xs)) (c2 := (38, [some (.inr (.inr (.inr (11, 0, 83)))), some (.inl (2))], [], sx_148 xs)) (by decide) rfl ?_
  refine Ev.sts 9 (c' := (35, [some (.inr (.inr (.inr (11, 0, 83)))), some (.inl (3))], [.inl (6), .inl (3)], sx_149 xs)) rfl ?_
  refine Ev.brF (p := (6 : Int32) ≤ (3 : Int32)) (c1 := (51, [some (.inr (.inr (.inr (11, 0, 83)))), some (.inl (3))], [], sx_149 xs)) (c2 := (38, [some (.inr (.inr (.inr (11, 0, 83)))), some (.inl (3))], [], sx_149 xs)) (by decide) rfl ?_
  refine Ev.sts 9 (c' := (35, [some (.inr (.inr (.inr (11, 0, 83)))), some (.inl (4))], [.inl (6), .inl (4)], sx_150 xs)) rfl ?_
  refine Ev.brF (p := (6 : Int32) ≤ (4 : Int32)) (c1 := (51, [some (.inr (.inr (.inr (11, 0, 83)))), some (.inl (4))], [], sx_150 xs)) (c2 := (38, [some (.inr (.inr (.inr (11, 0, 83)))), some (.inl (4))], [], sx_150 xs)) (by decide) rfl ?_
  refine Ev.sts 9 (c' := (35, [some (.inr (.inr (.inr (11, 0, 83)))), some (.inl (5))], [.inl (6), .inl (5)], sx_151 xs)) rfl ?_
  refine Ev.brF (p := (6 : Int32) ≤ (5 : Int32)) (c1 := (51, [some (.inr (.inr (.inr (11, 0, 83)))), some (.inl (5))], [], sx_151 xs)) (c2 := (38, [some (.inr (.inr (.inr (11, 0, 83)))), some (.inl (5))], [], sx_151 xs)) (by decide) rfl ?_
  refine Ev.sts 9 (c' := (35, [some (.inr (.inr (.inr (11, 0, 83)))), some (.inl (6))], [.inl (6), .inl (6)], sx_152 xs)) rfl ?_
  refine Ev.brT (p := (6 : Int32) ≤ (6 : Int32)) (c1 := (51, [some (.inr (.inr (.inr (11, 0, 83)))), some (.inl (6))], [], sx_152 xs)) (c2 := (38, [some (.inr (.inr (.inr (11, 0, 83)))), some (.inl (6))], [], sx_152 xs)) (by decide) rfl ?_
  exact Ev.ret rfl ⟨rfl, rfl⟩
theorem sx_c169 (xs : Nat → Int32) (d : Nat) : Rv (d + 1) 169 [.inr (.inr (.inr (11, 0, 83)))] (sx_80 xs) none (sx_152 xs) := by
  refine Ev.sts 6 (c' := (8, [some (.inr (.inr (.inr (11, 0, 83)))), some (.inl (0))], [.inl (64), .inl (0)], sx_80 xs)) rfl ?_
  refine Ev.brF (p := (64 : Int32) ≤ (0 : Int32)) (c1 := (24, [some (.inr (.inr (.inr (11, 0, 83)))), some (.inl (0))], [], sx_80 xs)) (c2 := (11, [some (.inr (.inr (.inr (11, 0, 83)))), some (.inl (0))], [], sx_80 xs)) (by decide) rfl ?_
  refine Ev.sts 11 (c' := (8, [some (.inr (.inr (.inr (11, 0, 83)))), some (.inl (1))], [.inl (64), .inl (1)], sx_81 xs)) rfl ?_
  refine Ev.brF (p := (64 : Int32) ≤ (1 : Int32)) (c1 := (24, [some (.inr (.inr (.inr (11, 0, 83)))), some (.inl (1))], [], sx_81 xs)) (c2 := (11, [some (.inr (.inr (.inr (11, 0, 83)))), some (.inl (1))], [], sx_81 xs)) (by decide) rfl ?_
  refine Ev.sts 11 (c' := (8, [some (.inr (.inr (.inr (11, 0, 83)))), some (.inl (2))], [.inl (64), .inl (2)], sx_82 xs)) rfl ?_
  refine Ev.brF (p := (64 : Int32) ≤ (2 : Int32)) (c1 := (24, [some (.inr (.inr (.inr (11, 0, 83)))), some (.inl (2))], [], sx_82 xs)) (c2 := (11, [some (.inr (.inr (.inr (11, 0, 83)))), some (.inl (2))], [], sx_82 xs)) (by decide) rfl ?_
  refine Ev.sts 11 (c' := (8, [some (.inr (.inr (.inr (11, 0, 83)))), some (.inl (3))], [.inl (64), .inl (3)], sx_83 xs)) rfl ?_
  refine Ev.brF (p := (64 : Int32) ≤ (3 : Int32)) (c1 := (24, [some (.inr (.inr (.inr (11, 0, 83)))), some (.inl (3))], [], sx_83 xs)) (c2 := (11, [some (.inr (.inr (.inr (11, 0, 83)))), some (.inl (3))], [], sx_83 xs)) (by decide) rfl ?_
  refine Ev.sts 11 (c' := (8, [some (.inr (.inr (.inr (11, 0, 83)))), some (.inl (4))], [.inl (64), .inl (4)], sx_84 xs)) rfl ?_
  refine Ev.brF (p := (64 : Int32) ≤ (4 : Int32)) (c1 := (24, [some (.inr (.inr (.inr (11, 0, 83)))), some (.inl (4))], [], sx_84 xs)) (c2 := (11, [some (.inr (.inr (.inr (11, 0, 83)))), some (.inl (4))], [], sx_84 xs)) (by decide) rfl ?_
  refine Ev.sts 11 (c' := (8, [some (.inr (.inr (.inr (11, 0, 83)))), some (.inl (5))], [.inl (64), .inl (5)], sx_85 xs)) rfl ?_
  refine Ev.brF (p := (64 : Int32) ≤ (5 : Int32)) (c1 := (24, [some (.inr (.inr (.inr (11, 0, 83)))), some (.inl (5))], [], sx_85 xs)) (c2 := (11, [some (.inr (.inr (.inr (11, 0, 83)))), some (.inl (5))], [], sx_85 xs)) (by decide) rfl ?_
  refine Ev.sts 11 (c' := (8, [some (.inr (.inr (.inr (11, 0, 83)))), some (.inl (6))], [.inl (64), .inl (6)], sx_86 xs)) rfl ?_
  refine Ev.brF (p := (64 : Int32) ≤ (6 : Int32)) (c1 := (24, [some (.inr (.inr (.inr (11, 0, 83)))), some (.inl (6))], [], sx_86 xs)) (c2 := (11, [some (.inr (.inr (.inr (11, 0, 83)))), some (.inl (6))], [], sx_86 xs)) (by decide) rfl ?_
  refine Ev.sts 11 (c' := (8, [some (.inr (.inr (.inr (11, 0, 83)))), some (.inl (7))], [.inl (64), .inl (7)], sx_87 xs)) rfl ?_
  refine Ev.brF (p := (64 : Int32) ≤ (7 : Int32)) (c1 := (24, [some (.inr (.inr (.inr (11, 0, 83)))), some (.inl (7))], [], sx_87 xs)) (c2 := (11, [some (.inr (.inr (.inr (11, 0, 83)))), some (.inl (7))], [], sx_87 xs)) (by decide) rfl ?_
  refine Ev.sts 11 (c' := (8, [some (.inr (.inr (.inr (11, 0, 83)))), some (.inl (8))], [.inl (64), .inl (8)], sx_88 xs)) rfl ?_
  refine Ev.brF (p := (64 : Int32) ≤ (8 : Int32)) (c1 := (24, [some (.inr (.inr (.inr (11, 0, 83)))), some (.inl (8))], [], sx_88 xs)) (c2 := (11, [some (.inr (.inr (.inr (11, 0, 83)))), some (.inl (8))], [], sx_88 xs)) (by decide) rfl ?_
  refine Ev.sts 11 (c' := (8, [some (.inr (.inr (.inr (11, 0, 83)))), some (.inl (9))], [.inl (64), .inl (9)], sx_89 xs)) rfl ?_
  refine Ev.brF (p := (64 : Int32) ≤ (9 : Int32)) (c1 := (24, [some (.inr (.inr (.inr (11, 0, 83)))), some (.inl (9))], [], sx_89 xs)) (c2 := (11, [some (.inr (.inr (.inr (11, 0, 83)))), some (.inl (9))], [], sx_89 xs)) (by decide) rfl ?_
  refine Ev.sts 11 (c' := (8, [some (.inr (.inr (.inr (11, 0, 83)))), some (.inl (10))], [.inl (64), .inl (10)], sx_90 xs)) rfl ?_
  refine Ev.brF (p := (64 : Int32) ≤ (10 : Int32)) (c1 := (24, [some (.inr (.inr (.inr (11, 0, 83)))), some (.inl (10))], [], sx_90 xs)) (c2 := (11, [some (.inr (.inr (.inr (11, 0, 83)))), some (.inl (10))], [], sx_90 xs)) (by decide) rfl ?_
  refine Ev.sts 11 (c' := (8, [some (.inr (.inr (.inr (11, 0, 83)))), some (.inl (11))], [.inl (64), .inl (11)], sx_91 xs)) rfl ?_
  refine Ev.brF (p := (64 : Int32) ≤ (11 : Int32)) (c1 := (24, [some (.inr (.inr (.inr (11, 0, 83)))), some (.inl (11))], [], sx_91 xs)) (c2 := (11, [some (.inr (.inr (.inr (11, 0, 83)))), some (.inl (11))], [], sx_91 xs)) (by decide) rfl ?_
  refine Ev.sts 11 (c' := (8, [some (.inr (.inr (.inr (11, 0, 83)))), some (.inl (12))], [.inl (64), .inl (12)], sx_92 xs)) rfl ?_
  refine Ev.brF (p := (64 : Int32) ≤ (12 : Int32)) (c1 := (24, [some (.inr (.inr (.inr (11, 0, 83)))), some (.inl (12))], [], sx_92 xs)) (c2 := (11, [some (.inr (.inr (.inr (11, 0, 83)))), some (.inl (12))], [], sx_92 xs)) (by decide) rfl ?_
  refine Ev.sts 11 (c' := (8, [some (.inr (.inr (.inr (11, 0, 83)))), some (.inl (13))], [.inl (64), .inl (13)], sx_93 xs)) rfl ?_
  refine Ev.brF (p := (64 : Int32) ≤ (13 : Int32)) (c1 := (24, [some (.inr (.inr (.inr (11, 0, 83)))), some (.inl (13))], [], sx_93 xs)) (c2 := (11, [some (.inr (.inr (.inr (11, 0, 83)))), some (.inl (13))], [], sx_93 xs)) (by decide) rfl ?_
  refine Ev.sts 11 (c' := (8, [some (.inr (.inr (.inr (11, 0, 83)))), some (.inl (14))], [.inl (64), .inl (14)], sx_94 xs)) rfl ?_
  refine Ev.brF (p := (64 : Int32) ≤ (14 : Int32)) (c1 := (24, [some (.inr (.inr (.inr (11, 0, 83)))), some (.inl (14))], [], sx_94 xs)) (c2 := (11, [some (.inr (.inr (.inr (11, 0, 83)))), some (.inl (14))], [], sx_94 xs)) (by decide) rfl ?_
  refine Ev.sts 11 (c' := (8, [some (.inr (.inr (.inr (11, 0, 83)))), some (.inl (15))], [.inl (64), .inl (15)], sx_95 xs)) rfl ?_
  refine Ev.brF (p := (64 : Int32) ≤ (15 : Int32)) (c1 := (24, [some (.inr (.inr (.inr (11, 0, 83)))), some (.inl (15))], [], sx_95 xs)) (c2 := (11, [some (.inr (.inr (.inr (11, 0, 83)))), some (.inl (15))], [], sx_95 xs)) (by decide) rfl ?_
  refine Ev.sts 11 (c' := (8, [some (.inr (.inr (.inr (11, 0, 83)))), some (.inl (16))], [.inl (64), .inl (16)], sx_96 xs)) rfl ?_
  refine Ev.brF (p := (64 : Int32) ≤ (16 : Int32)) (c1 := (24, [some (.inr (.inr (.inr (11, 0, 83)))), some (.inl (16))], [], sx_96 xs)) (c2 := (11, [some (.inr (.inr (.inr (11, 0, 83)))), some (.inl (16))], [], sx_96 xs)) (by decide) rfl ?_
  refine Ev.sts 11 (c' := (8, [some (.inr (.inr (.inr (11, 0, 83)))), some (.inl (17))], [.inl (64), .inl (17)], sx_97 xs)) rfl ?_
  refine Ev.brF (p := (64 : Int32) ≤ (17 : Int32)) (c1 := (24, [some (.inr (.inr (.inr (11, 0, 83)))), some (.inl (17))], [], sx_97 xs)) (c2 := (11, [some (.inr (.inr (.inr (11, 0, 83)))), some (.inl (17))], [], sx_97 xs)) (by decide) rfl ?_
  refine Ev.sts 11 (c' := (8, [some (.inr (.inr (.inr (11, 0, 83)))), some (.inl (18))], [.inl (64), .inl (18)], sx_98 xs)) rfl ?_
  refine Ev.brF (p := (64 : Int32) ≤ (18 : Int32)) (c1 := (24, [some (.inr (.inr (.inr (11, 0, 83)))), some (.inl (18))], [], sx_98 xs)) (c2 := (11, [some (.inr (.inr (.inr (11, 0, 83)))), some (.inl (18))], [], sx_98 xs)) (by decide) rfl ?_
  refine Ev.sts 11 (c' := (8, [some (.inr (.inr (.inr (11, 0, 83)))), some (.inl (19))], [.inl (64), .inl (19)], sx_99 xs)) rfl ?_
  refine Ev.brF (p := (64 : Int32) ≤ (19 : Int32)) (c1 := (24, [some (.inr (.inr (.inr (11, 0, 83)))), some (.inl (19))], [], sx_99 xs)) (c2 := (11, [some (.inr (.inr (.inr (11, 0, 83)))), some (.inl (19))], [], sx_99 xs)) (by decide) rfl ?_
  refine Ev.sts 11 (c' := (8, [some (.inr (.inr (.inr (11, 0, 83)))), some (.inl (20))], [.inl (64), .inl (20)], sx_100 xs)) rfl ?_
  refine Ev.brF (p := (64 : Int32) ≤ (20 : Int32)) (c1 := (24, [some (.inr (.inr (.inr (11, 0, 83)))), some (.inl (20))], [], sx_100 xs)) (c2 := (11, [some (.inr (.inr (.inr (11, 0, 83)))), some (.inl (20))], [], sx_100 xs)) (by decide) rfl ?_
  refine Ev.sts 11 (c' := (8, [some (.inr (.inr (.inr (11, 0, 83)))), some (.inl (21))], [.inl (64), .inl (21)], sx_101 xs)) rfl ?_
  refine Ev.brF (p := (64 : Int32) ≤ (21 : Int32)) (c1 := (24, [some (.inr (.inr (.inr (11, 0, 83)))), some (.inl (21))], [], sx_101 xs)) (c2 := (11, [some (.inr (.inr (.inr (11, 0, 83)))), some (.inl (21))], [], sx_101 xs)) (by decide) rfl ?_
  refine Ev.sts 11 (c' := (8, [some (.inr (.inr (.inr (11, 0, 83)))), some (.inl (22))], [.inl (64), .inl (22)], sx_102 xs)) rfl ?_
  refine Ev.brF (p := (64 : Int32) ≤ (22 : Int32)) (c1 := (24, [some (.inr (.inr (.inr (11, 0, 83)))), some (.inl (22))], [], sx_102 xs)) (c2 := (11, [some (.inr (.inr (.inr (11, 0, 83)))), some (.inl (22))], [], sx_102 xs)) (by decide) rfl ?_
  refine Ev.sts 11 (c' := (8, [some (.inr (.inr (.inr (11, 0, 83)))), some (.inl (23))], [.inl (64), .inl (23)], sx_103 xs)) rfl ?_
  refine Ev.brF (p := (64 : Int32) ≤ (23 : Int32)) (c1 := (24, [some (.inr (.inr (.inr (11, 0, 83)))), some (.inl (23))], [], sx_103 xs)) (c2 := (11, [some (.inr (.inr (.inr (11, 0, 83)))), some (.inl (23))], [], sx_103 xs)) (by decide) rfl ?_
  refine Ev.sts 11 (c' := (8, [some (.inr (.inr (.inr (11, 0, 83)))), some (.inl (24))], [.inl (64), .inl (24)], sx_104 xs)) rfl ?_
  refine Ev.brF (p := (64 : Int32) ≤ (24 : Int32)) (c1 := (24, [some (.inr (.inr (.inr (11, 0, 83)))), some (.inl (24))], [], sx_104 xs)) (c2 := (11, [some (.inr (.inr (.inr (11, 0, 83)))), some (.inl (24))], [], sx_104 xs)) (by decide) rfl ?_
  refine Ev.sts 11 (c' := (8, [some (.inr (.inr (.inr (11, 0, 83)))), some (.inl (25))], [.inl (64), .inl (25)], sx_105 xs)) rfl ?_
  refine Ev.brF (p := (64 : Int32) ≤ (25 : Int32)) (c1 := (24, [some (.inr (.inr (.inr (11, 0, 83)))), some (.inl (25))], [], sx_105 xs)) (c2 := (11, [some (.inr (.inr (.inr (11, 0, 83)))), some (.inl (25))], [], sx_105 xs)) (by decide) rfl ?_
  refine Ev.sts 11 (c' := (8, [some (.inr (.inr (.inr (11, 0, 83)))), some (.inl (26))], [.inl (64), .inl (26)], sx_106 xs)) rfl ?_
  refine Ev.brF (p := (64 : Int32) ≤ (26 : Int32)) (c1 := (24, [some (.inr (.inr (.inr (11, 0, 83)))), some (.inl (26))], [], sx_106 xs)) (c2 := (11, [some (.inr (.inr (.inr (11, 0, 83)))), some (.inl (26))], [], sx_106 xs)) (by decide) rfl ?_
  refine Ev.sts 11 (c' := (8, [some (.inr (.inr (.inr (11, 0, 83)))), some (.inl (27))], [.inl (64), .inl (27)], sx_107 xs)) rfl ?_
  refine Ev.brF (p := (64 : Int32) ≤ (27 : Int32)) (c1 := (24, [some (.inr (.inr (.inr (11, 0, 83)))), some (.inl (27))], [], sx_107 xs)) (c2 := (11, [some (.inr (.inr (.inr (11, 0, 83)))), some (.inl (27))], [], sx_107 xs)) (by decide) rfl ?_
  refine Ev.sts 11 (c' := (8, [some (.inr (.inr (.inr (11, 0, 83)))), some (.inl (28))], [.inl (64), .inl (28)], sx_108 xs)) rfl ?_
  refine Ev.brF (p := (64 : Int32) ≤ (28 : Int32)) (c1 := (24, [some (.inr (.inr (.inr (11, 0, 83)))), some (.inl (28))], [], sx_108 xs)) (c2 := (11, [some (.inr (.inr (.inr (11, 0, 83)))), some (.inl (28))], [], sx_108 xs)) (by decide) rfl ?_
  refine Ev.sts 11 (c' := (8, [some (.inr (.inr (.inr (11, 0, 83)))), some (.inl (29))], [.inl (64), .inl (29)], sx_109 xs)) rfl ?_
  refine Ev.brF (p := (64 : Int32) ≤ (29 : Int32)) (c1 := (24, [some (.inr (.inr (.inr (11, 0, 83)))), some (.inl (29))], [], sx_109 xs)) (c2 := (11, [some (.inr (.inr (.inr (11, 0, 83)))), some (.inl (29))], [], sx_109 xs)) (by decide) rfl ?_
  refine Ev.sts 11 (c' := (8, [some (.inr (.inr (.inr (11, 0, 83)))), some (.inl (30))], [.inl (64), .inl (30)], sx_110 xs)) rfl ?_
  refine Ev.brF (p := (64 : Int32) ≤ (30 : Int32)) (c1 := (24, [some (.inr (.inr (.inr (11, 0, 83)))), some (.inl (30))], [], sx_110 xs)) (c2 := (11, [some (.inr (.inr (.inr (11, 0, 83)))), some (.inl (30))], [], sx_110 xs)) (by decide) rfl ?_
  refine Ev.sts 11 (c' := (8, [some (.inr (.inr (.inr (11, 0, 83)))), some (.inl (31))], [.inl (64), .inl (31)], sx_111 xs)) rfl ?_
  refine Ev.brF (p := (64 : Int32) ≤ (31 : Int32)) (c1 := (24, [some (.inr (.inr (.inr (11, 0, 83)))), some (.inl (31))], [], sx_111 xs)) (c2 := (11, [some (.inr (.inr (.inr (11, 0, 83)))), some (.inl (31))], [], sx_111 xs)) (by decide) rfl ?_
  refine Ev.sts 11 (c' := (8, [some (.inr (.inr (.inr (11, 0, 83)))), some (.inl (32))], [.inl (64), .inl (32)], sx_112 xs)) rfl ?_
  refine Ev.brF (p := (64 : Int32) ≤ (32 : Int32)) (c1 := (24, [some (.inr (.inr (.inr (11, 0, 83)))), some (.inl (32))], [], sx_112 xs)) (c2 := (11, [some (.inr (.inr (.inr (11, 0, 83)))), some (.inl (32))], [], sx_112 xs)) (by decide) rfl ?_
  refine Ev.sts 11 (c' := (8, [some (.inr (.inr (.inr (11, 0, 83)))), some (.inl (33))], [.inl (64), .inl (33)], sx_113 xs)) rfl ?_
  refine Ev.brF (p := (64 : Int32) ≤ (33 : Int32)) (c1 := (24, [some (.inr (.inr (.inr (11, 0, 83)))), some (.inl (33))], [], sx_113 xs)) (c2 := (11, [some (.inr (.inr (.inr (11, 0, 83)))), some (.inl (33))], [], sx_113 xs)) (by decide) rfl ?_
  refine Ev.sts 11 (c' := (8, [some (.inr (.inr (.inr (11, 0, 83)))), some (.inl (34))], [.inl (64), .inl (34)], sx_114 xs)) rfl ?_
  refine Ev.brF (p := (64 : Int32) ≤ (34 : Int32)) (c1 := (24, [some (.inr (.inr (.inr (11, 0, 83)))), some (.inl (34))], [], sx_114 xs)) (c2 := (11, [some (.inr (.inr (.inr (11, 0, 83)))), some (.inl (34))], [], sx_114 xs)) (by decide) rfl ?_
  refine Ev.sts 11 (c' := (8, [some (.inr (.inr (.inr (11, 0, 83)))), some (.inl (35))], [.inl (64), .inl (35)], sx_115 xs)) rfl ?_
  refine Ev.brF (p := (64 : Int32) ≤ (35 : Int32)) (c1 := (24, [some (.inr (.inr (.inr (11, 0, 83)))), some (.inl (35))], [], sx_115 xs)) (c2 := (11, [some (.inr (.inr (.inr (11, 0, 83)))), some (.inl (35))], [], sx_115 xs)) (by decide) rfl ?_
  refine Ev.sts 11 (c' := (8, [some (.inr (.inr (.inr (11, 0, 83)))), some (.inl (36))], [.inl (64), .inl (36)], sx_116 xs)) rfl ?_
  refine Ev.brF (p := (64 : Int32) ≤ (36 : Int32)) (c1 := (24, [some (.inr (.inr (.inr (11, 0, 83)))), some (.inl (36))], [], sx_116 xs)) (c2 := (11, [some (.inr (.inr (.inr (11, 0, 83)))), some (.inl (36))], [], sx_116 xs)) (by decide) rfl ?_
  refine Ev.sts 11 (c' := (8, [some (.inr (.inr (.inr (11, 0, 83)))), some (.inl (37))], [.inl (64), .inl (37)], sx_117 xs)) rfl ?_
  refine Ev.brF (p := (64 : Int32) ≤ (37 : Int32)) (c1 := (24, [some (.inr (.inr (.inr (11, 0, 83)))), some (.inl (37))], [], sx_117 xs)) (c2 := (11, [some (.inr (.inr (.inr (11, 0, 83)))), some (.inl (37))], [], sx_117 xs)) (by decide) rfl ?_
  refine Ev.sts 11 (c' := (8, [some (.inr (.inr (.inr (11, 0, 83)))), some (.inl (38))], [.inl (64), .inl (38)], sx_118 xs)) rfl ?_
  refine Ev.brF (p := (64 : Int32) ≤ (38 : Int32)) (c1 := (24, [some (.inr (.inr (.inr (11, 0, 83)))), some (.inl (38))], [], sx_118 xs)) (c2 := (11, [some (.inr (.inr (.inr (11, 0, 83)))), some (.inl (38))], [], sx_118 xs)) (by decide) rfl ?_
  refine Ev.sts 11 (c' := (8, [some (.inr (.inr (.inr (11, 0, 83)))), some (.inl (39))], [.inl (64), .inl (39)], sx_119 xs)) rfl ?_
  refine Ev.brF (p := (64 : Int32) ≤ (39 : Int32)) (c1 := (24, [some (.inr (.inr (.inr (11, 0, 83)))), some (.inl (39))], [], sx_119 xs)) (c2 := (11, [some (.inr (.inr (.inr (11, 0, 83)))), some (.inl (39))], [], sx_119 xs)) (by decide) rfl ?_
  refine Ev.sts 11 (c' := (8, [some (.inr (.inr (.inr (11, 0, 83)))), some (.inl (40))], [.inl (64), .inl (40)], sx_120 xs)) rfl ?_
  refine Ev.brF (p := (64 : Int32) ≤ (40 : Int32)) (c1 := (24, [some (.inr (.inr (.inr (11, 0, 83)))), some (.inl (40))], [], sx_120 xs)) (c2 := (11, [some (.inr (.inr (.inr (11, 0, 83)))), some (.inl (40))], [], sx_120 xs)) (by decide) rfl ?_
  refine Ev.sts 11 (c' := (8, [some (.inr (.inr (.inr (11, 0, 83)))), some (.inl (41))], [.inl (64), .inl (41)], sx_121 xs)) rfl ?_
  refine Ev.brF (p := (64 : Int32) ≤ (41 : Int32)) (c1 := (24, [some (.inr (.inr (.inr (11, 0, 83)))), some (.inl (41))], [], sx_121 xs)) (c2 := (11, [some (.inr (.inr (.inr (11, 0, 83)))), some (.inl (41))], [], sx_121 xs)) (by decide) rfl ?_
  refine Ev.sts 11 (c' := (8, [some (.inr (.inr (.inr (11, 0, 83)))), some (.inl (42))], [.inl (64), .inl (42)], sx_122 xs)) rfl ?_
  refine Ev.brF (p := (64 : Int32) ≤ (42 : Int32)) (c1 := (24, [some (.inr (.inr (.inr (11, 0, 83)))), some (.inl (42))], [], sx_122 xs)) (c2 := (11, [some (.inr (.inr (.inr (11, 0, 83)))), some (.inl (42))], [], sx_122 xs)) (by decide) rfl ?_
  refine Ev.sts 11 (c' := (8, [some (.inr (.inr (.inr (11, 0, 83)))), some (.inl (43))], [.inl (64), .inl (43)], sx_123 xs)) rfl ?_
  refine Ev.brF (p := (64 : Int32) ≤ (43 : Int32)) (c1 := (24, [some (.inr (.inr (.inr (11, 0, 83)))), some (.inl (43))], [], sx_123 xs)) (c2 := (11, [some (.inr (.inr (.inr (11, 0, 83)))), some (.inl (43))], [], sx_123 xs)) (by decide) rfl ?_
  refine Ev.sts 11 (c' := (8, [some (.inr (.inr (.inr (11, 0, 83)))), some (.inl (44))], [.inl (64), .inl (44)], sx_124 xs)) rfl ?_
  refine Ev.brF (p := (64 : Int32) ≤ (44 : Int32)) (c1 := (24, [some (.inr (.inr (.inr (11, 0, 83)))), some (.inl (44))], [], sx_124 xs)) (c2 := (11, [some (.inr (.inr (.inr (11, 0, 83)))), some (.inl (44))], [], sx_124 xs)) (by decide) rfl ?_
  refine Ev.sts 11 (c' := (8, [some (.inr (.inr (.inr (11, 0, 83)))), some (.inl (45))], [.inl (64), .inl (45)], sx_125 xs)) rfl ?_
  refine Ev.brF (p := (64 : Int32) ≤ (45 : Int32)) (c1 := (24, [some (.inr (.inr (.inr (11, 0, 83)))), some (.inl (45))], [], sx_125 xs)) (c2 := (11, [some (.inr (.inr (.inr (11, 0, 83)))), some (.inl (45))], [], sx_125 xs)) (by decide) rfl ?_
  refine Ev.sts 11 (c' := (8, [some (.inr (.inr (.inr (11, 0, 83)))), some (.inl (46))], [.inl (64), .inl (46)], sx_126 xs)) rfl ?_
  refine Ev.brF (p := (64 : Int32) ≤ (46 : Int32)) (c1 := (24, [some (.inr (.inr (.inr (11, 0, 83)))), some (.inl (46))], [], sx_126 xs)) (c2 := (11, [some (.inr (.inr (.inr (11, 0, 83)))), some (.inl (46))], [], sx_126 xs)) (by decide) rfl ?_
  refine Ev.sts 11 (c' := (8, [some (.inr (.inr (.inr (11, 0, 83)))), some (.inl (47))], [.inl (64), .inl (47)], sx_127 xs)) rfl ?_
  refine Ev.brF (p := (64 : Int32) ≤ (47 : Int32)) (c1 := (24, [some (.inr (.inr (.inr (11, 0, 83)))), some (.inl (47))], [], sx_127 xs)) (c2 := (11, [some (.inr (.inr (.inr (11, 0, 83)))), some (.inl (47))], [], sx_127 xs)) (by decide) rfl ?_
  refine Ev.sts 11 (c' := (8, [some (.inr (.inr (.inr (11, 0, 83)))), some (.inl (48))], [.inl (64), .inl (48)], sx_128 xs)) rfl ?_
  refine Ev.brF (p := (64 : Int32) ≤ (48 : Int32)) (c1 := (24, [some (.inr (.inr (.inr (11, 0, 83)))), some (.inl (48))], [], sx_128 xs)) (c2 := (11, [some (.inr (.inr (.inr (11, 0, 83)))), some (.inl (48))], [], sx_128 xs)) (by decide) rfl ?_
  refine Ev.sts 11 (c' := (8, [some (.inr (.inr (.inr (11, 0, 83)))), some (.inl (49))], [.inl (64), .inl (49)], sx_129 xs)) rfl ?_
  refine Ev.brF (p := (64 : Int32) ≤ (49 : Int32)) (c1 := (24, [some (.inr (.inr (.inr (11, 0, 83)))), some (.inl (49))], [], sx_129 xs)) (c2 := (11, [some (.inr (.inr (.inr (11, 0, 83)))), some (.inl (49))], [], sx_129 xs)) (by decide) rfl ?_
  refine Ev.sts 11 (c' := (8, [some (.inr (.inr (.inr (11, 0, 83)))), some (.inl (50))], [.inl (64), .inl (50)], sx_130 xs)) rfl ?_
  refine Ev.brF (p := (64 : Int32) ≤ (50 : Int32)) (c1 := (24, [some (.inr (.inr (.inr (11, 0, 83)))), some (.inl (50))], [], sx_130 xs)) (c2 := (11, [some (.inr (.inr (.inr (11, 0, 83)))), some (.inl (50))], [], sx_130 xs)) (by decide) rfl ?_
  refine Ev.sts 11 (c' := (8, [some (.inr (.inr (.inr (11, 0, 83)))), some (.inl (51))], [.inl (64), .inl (51)], sx_131 xs)) rfl ?_
  refine Ev.brF (p := (64 : Int32) ≤ (51 : Int32)) (c1 := (24, [some (.inr (.inr (.inr (11, 0, 83)))), some (.inl (51))], [], sx_131 xs)) (c2 := (11, [some (.inr (.inr (.inr (11, 0, 83)))), some (.inl (51))], [], sx_131 xs)) (by decide) rfl ?_
  refine Ev.sts 11 (c' := (8, [some (.inr (.inr (.inr (11, 0, 83)))), some (.inl (52))], [.inl (64), .inl (52)], sx_132 xs)) rfl ?_
  refine Ev.brF (p := (64 : Int32) ≤ (52 : Int32)) (c1 := (24, [some (.inr (.inr (.inr (11, 0, 83)))), some (.inl (52))], [], sx_132 xs)) (c2 := (11, [some (.inr (.inr (.inr (11, 0, 83)))), some (.inl (52))], [], sx_132 xs)) (by decide) rfl ?_
  refine Ev.sts 11 (c' := (8, [some (.inr (.inr (.inr (11, 0, 83)))), some (.inl (53))], [.inl (64), .inl (53)], sx_133 xs)) rfl ?_
  refine Ev.brF (p := (64 : Int32) ≤ (53 : Int32)) (c1 := (24, [some (.inr (.inr (.inr (11, 0, 83)))), some (.inl (53))], [], sx_133 xs)) (c2 := (11, [some (.inr (.inr (.inr (11, 0, 83)))), some (.inl (53))], [], sx_133 xs)) (by decide) rfl ?_
  refine Ev.sts 11 (c' := (8, [some (.inr (.inr (.inr (11, 0, 83)))), some (.inl (54))], [.inl (64), .inl (54)], sx_134 xs)) rfl ?_
  refine Ev.brF (p := (64 : Int32) ≤ (54 : Int32)) (c1 := (24, [some (.inr (.inr (.inr (11, 0, 83)))), some (.inl (54))], [], sx_134 xs)) (c2 := (11, [some (.inr (.inr (.inr (11, 0, 83)))), some (.inl (54))], [], sx_134 xs)) (by decide) rfl ?_
  refine Ev.sts 11 (c' := (8, [some (.inr (.inr (.inr (11, 0, 83)))), some (.inl (55))], [.inl (64), .inl (55)], sx_135 xs)) rfl ?_
  refine Ev.brF (p := (64 : Int32) ≤ (55 : Int32)) (c1 := (24, [some (.inr (.inr (.inr (11, 0, 83)))), some (.inl (55))], [], sx_135 xs)) (c2 := (11, [some (.inr (.inr (.inr (11, 0, 83)))), some (.inl (55))], [], sx_135 xs)) (by decide) rfl ?_
  refine Ev.sts 11 (c' := (8, [some (.inr (.inr (.inr (11, 0, 83)))), some (.inl (56))], [.inl (64), .inl (56)], sx_136 xs)) rfl ?_
  refine Ev.brF (p := (64 : Int32) ≤ (56 : Int32)) (c1 := (24, [some (.inr (.inr (.inr (11, 0, 83)))), some (.inl (56))], [], sx_136 xs)) (c2 := (11, [some (.inr (.inr (.inr (11, 0, 83)))), some (.inl (56))], [], sx_136 xs)) (by decide) rfl ?_
  refine Ev.sts 11 (c' := (8, [some (.inr (.inr (.inr (11, 0, 83)))), some (.inl (57))], [.inl (64), .inl (57)], sx_137 xs)) rfl ?_
  refine Ev.brF (p := (64 : Int32) ≤ (57 : Int32)) (c1 := (24, [some (.inr (.inr (.inr (11, 0, 83)))), some (.inl (57))], [], sx_137 xs)) (c2 := (11, [some (.inr (.inr (.inr (11, 0, 83)))), some (.inl (57))], [], sx_137 xs)) (by decide) rfl ?_
  refine Ev.sts 11 (c' := (8, [some (.inr (.inr (.inr (11, 0, 83)))), some (.inl (58))], [.inl (64), .inl (58)], sx_138 xs)) rfl ?_
  refine Ev.brF (p := (64 : Int32) ≤ (58 : Int32)) (c1 := (24, [some (.inr (.inr (.inr (11, 0, 83)))), some (.inl (58))], [], sx_138 xs)) (c2 := (11, [some (.inr (.inr (.inr (11, 0, 83)))), some (.inl (58))], [], sx_138 xs)) (by decide) rfl ?_
  refine Ev.sts 11 (c' := (8, [some (.inr (.inr (.inr (11, 0, 83)))), some (.inl (59))], [.inl (64), .inl (59)], sx_139 xs)) rfl ?_
  refine Ev.brF (p := (64 : Int32) ≤ (59 : Int32)) (c1 := (24, [some (.inr (.inr (.inr (11, 0, 83)))), some (.inl (59))], [], sx_139 xs)) (c2 := (11, [some (.inr (.inr (.inr (11, 0, 83)))), some (.inl (59))], [], sx_139 xs)) (by decide) rfl ?_
  refine Ev.sts 11 (c' := (8, [some (.inr (.inr (.inr (11, 0, 83)))), some (.inl (60))], [.inl (64), .inl (60)], sx_140 xs)) rfl ?_
  refine Ev.brF (p := (64 : Int32) ≤ (60 : Int32)) (c1 := (24, [some (.inr (.inr (.inr (11, 0, 83)))), some (.inl (60))], [], sx_140 xs)) (c2 := (11, [some (.inr (.inr (.inr (11, 0, 83)))), some (.inl (60))], [], sx_140 xs)) (by decide) rfl ?_
  refine Ev.sts 11 (c' := (8, [some (.inr (.inr (.inr (11, 0, 83)))), some (.inl (61))], [.inl (64), .inl (61)], sx_141 xs)) rfl ?_
  refine Ev.brF (p := (64 : Int32) ≤ (61 : Int32)) (c1 := (24, [some (.inr (.inr (.inr (11, 0, 83)))), some (.inl (61))], [], sx_141 xs)) (c2 := (11, [some (.inr (.inr (.inr (11, 0, 83)))), some (.inl (61))], [], sx_141 xs)) (by decide) rfl ?_
  refine Ev.sts 11 (c' := (8, [some (.inr (.inr (.inr (11, 0, 83)))), some (.inl (62))], [.inl (64), .inl (62)], sx_142 xs)) rfl ?_
  refine Ev.brF (p := (64 : Int32) ≤ (62 : Int32)) (c1 := (24, [some (.inr (.inr (.inr (11, 0, 83)))), some (.inl (62))], [], sx_142 xs)) (c2 := (11, [some (.inr (.inr (.inr (11, 0, 83)))), some (.inl (62))], [], sx_142 xs)) (by decide) rfl ?_
  refine Ev.sts 11 (c' := (8, [some (.inr (.inr (.inr (11, 0, 83)))), some (.inl (63))], [.inl (64), .inl (63)], sx_143 xs)) rfl ?_
  refine Ev.brF (p := (64 : Int32) ≤ (63 : Int32)) (c1 := (24, [some (.inr (.inr (.inr (11, 0, 83)))), some (.inl (63))], [], sx_143 xs)) (c2 := (11, [some (.inr (.inr (.inr (11, 0, 83)))), some (.inl (63))], [], sx_143 xs)) (by decide) rfl ?_
  refine Ev.sts 11 (c' := (8, [some (.inr (.inr (.inr (11, 0, 83)))), some (.inl (64))], [.inl (64), .inl (64)], sx_144 xs)) rfl ?_
  refine Ev.brT (p := (64 : Int32) ≤ (64 : Int32)) (c1 := (24, [some (.inr (.inr (.inr (11, 0, 83)))), some (.inl (64))], [], sx_144 xs)) (c2 := (11, [some (.inr (.inr (.inr (11, 0, 83)))), some (.inl (64))], [], sx_144 xs)) (by decide) rfl ?_
  refine Ev.sts 11 (c' := (39, [some (.inr (.inr (.inr (11, 0, 83)))), some (.inl (64))], [.inr (.inr (.inr (11, 0, 83)))], sx_145 xs)) rfl ?_
  refine Ev.callv (a := [.inr (.inr (.inr (11, 0, 83)))]) rfl (sx_c168 xs (d + 0)) ?_
  exact Ev.ret rfl ⟨rfl, rfl⟩
theorem sx_c170 (xs : Nat → Int32) (d : Nat) : Rv (d + 5) 167 [.inr (.inr (.inr (11, 0, 83)))] (grow (sx_75 xs) 33) none (sx_152 xs) := by
  refine Ev.sts 24 (c' := (48, [some (.inr (.inr (.inr (11, 0, 83))))], [.inr (.inr (.inr (43, 0, 35))), .inl (0), .inr (.inr (.inr (21, 4, 88))), .inr (.inr (.inr (21, 4, 88))), .inr (.inr (.inr (11, 0, 83)))], sx_76 xs)) rfl ?_
  refine Ev.callv (a := [.inr (.inr (.inr (43, 0, 35)))]) rfl (sx_c60 xs (d + 0)) ?_
  refine Ev.sts 4 (c' := (56, [some (.inr (.inr (.inr (11, 0, 83))))], [.inr (.inr (.inr (43, 0, 36))), .inl (1), .inr (.inr (.inr (21, 4, 88))), .inr (.inr (.inr (21, 4, 88))), .inr (.inr (.inr (11, 0, 83)))], sx_77 xs)) rfl ?_
  refine Ev.callv (a := [.inr (.inr (.inr (43, 0, 36)))]) rfl (sx_c91 xs (d + 0)) ?_
  refine Ev.sts 4 (c' := (64, [some (.inr (.inr (.inr (11, 0, 83))))], [.inr (.inr (.inr (43, 0, 37))), .inl (2), .inr (.inr (.inr (21, 4, 88))), .inr (.inr (.inr (21, 4, 88))), .inr (.inr (.inr (11, 0, 83)))], sx_78 xs)) rfl ?_
  refine Ev.callv (a := [.inr (.inr (.inr (43, 0, 37)))]) rfl (sx_c136 xs (d + 0)) ?_
  refine Ev.sts 4 (c' := (72, [some (.inr (.inr (.inr (11, 0, 83))))], [.inr (.inr (.inr (43, 0, 38))), .inl (3), .inr (.inr (.inr (21, 4, 88))), .inr (.inr (.inr (21, 4, 88))), .inr (.inr (.inr (11, 0, 83)))], sx_79 xs)) rfl ?_
  refine Ev.callv (a := [.inr (.inr (.inr (43, 0, 38)))]) rfl (sx_c167 xs (d + 0)) ?_
  refine Ev.sts 61 (c' := (198, [some (.inr (.inr (.inr (11, 0, 83))))], [.inr (.inr (.inr (11, 0, 83)))], sx_80 xs)) rfl ?_
  refine Ev.callv (a := [.inr (.inr (.inr (11, 0, 83)))]) rfl (sx_c169 xs (d + 3)) ?_
  exact Ev.ret rfl ⟨rfl, rfl⟩
noncomputable def sx_153 (xs : Nat → Int32) : PH := grow (sx_152 xs) 1
