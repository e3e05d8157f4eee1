-- every instruction of the tables is the one that the bytes decode to
theorem bt_c {a b : Nat} {α : Type} {x y z : α} {P : Prop} (h : (bif Nat.blt a b then x else y) = z) (h1 : a < b → x = z → P) (h2 : b ≤ a → y = z → P) : P := by
  cases hb : Nat.blt a b with
  | true => rw [hb] at h; exact h1 (by simpa using hb) h
  | false => rw [hb] at h; exact h2 (by have q9 := mt Nat.blt_eq.mpr (by rw [hb]; simp : ¬ Nat.blt a b = true); omega) h
theorem fo_25 {pc : Nat} {i : Instr} (h : ft_25 pc = some i) : ∃ k, decode (mb 25) pc = .ok (i, k) ∧ (k = ilen i ∨ ilen i = 0) := by
  have hlt : pc < 839 := by
    unfold ft_25 at h
    exact bt_c h (fun q _ => q) (fun _ q => by cases q)
  by_cases q0 : pc < 100
  · exact dchk_ok dk_25_0 (by omega) (by omega) h
  by_cases q1 : pc < 200
  · exact dchk_ok dk_25_1 (by omega) (by omega) h
  by_cases q2 : pc < 300
  · exact dchk_ok dk_25_2 (by omega) (by omega) h
  by_cases q3 : pc < 400
  · exact dchk_ok dk_25_3 (by omega) (by omega) h
  by_cases q4 : pc < 500
  · exact dchk_ok dk_25_4 (by omega) (by omega) h
  by_cases q5 : pc < 600
  · exact dchk_ok dk_25_5 (by omega) (by omega) h
  by_cases q6 : pc < 700
  · exact dchk_ok dk_25_6 (by omega) (by omega) h
  by_cases q7 : pc < 800
  · exact dchk_ok dk_25_7 (by omega) (by omega) h
  exact dchk_ok dk_25_8 (by omega) (by omega) h
theorem fo_26 {pc : Nat} {i : Instr} (h : ft_26 pc = some i) : ∃ k, decode (mb 26) pc = .ok (i, k) ∧ (k = ilen i ∨ ilen i = 0) := by
  have hlt : pc < 19 := by
    unfold ft_26 at h
    exact bt_c h (fun q _ => q) (fun _ q => by cases q)
  exact dchk_ok dk_26_0 (Nat.zero_le _) (by omega) h
theorem fo_27 {pc : Nat} {i : Instr} (h : ft_27 pc = some i) : ∃ k, decode (mb 27) pc = .ok (i, k) ∧ (k = ilen i ∨ ilen i = 0) := by
  have hlt : pc < 199 := by
    unfold ft_27 at h
    exact bt_c h (fun q _ => q) (fun _ q => by cases q)
  by_cases q0 : pc < 100
  · exact dchk_ok dk_27_0 (by omega) (by omega) h
  exact dchk_ok dk_27_1 (by omega) (by omega) h
theorem fo_28 {pc : Nat} {i : Instr} (h : ft_28 pc = some i) : ∃ k, decode (mb 28) pc = .ok (i, k) ∧ (k = ilen i ∨ ilen i = 0) := by
  have hlt : pc < 7 := by
    unfold ft_28 at h
    exact bt_c h (fun q _ => q) (fun _ q => by cases q)
  exact dchk_ok dk_28_0 (Nat.zero_le _) (by omega) h
theorem fo_29 {pc : Nat} {i : Instr} (h : ft_29 pc = some i) : ∃ k, decode (mb 29) pc = .ok (i, k) ∧ (k = ilen i ∨ ilen i = 0) := by
  have hlt : pc < 107 := by
    unfold ft_29 at h
    exact bt_c h (fun q _ => q) (fun _ q => by cases q)
  by_cases q0 : pc < 100
  · exact dchk_ok dk_29_0 (by omega) (by omega) h
  exact dchk_ok dk_29_1 (by omega) (by omega) h
theorem fo_30 {pc : Nat} {i : Instr} (h : ft_30 pc = some i) : ∃ k, decode (mb 30) pc = .ok (i, k) ∧ (k = ilen i ∨ ilen i = 0) := by
  have hlt : pc < 118 := by
    unfold ft_30 at h
    exact bt_c h (fun q _ => q) (fun _ q => by cases q)
  by_cases q0 : pc < 100
  · exact dchk_ok dk_30_0 (by omega) (by omega) h
  exact dchk_ok dk_30_1 (by omega) (by omega) h
theorem fo_31 {pc : Nat} {i : Instr} (h : ft_31 pc = some i) : ∃ k, decode (mb 31) pc = .ok (i, k) ∧ (k = ilen i ∨ ilen i = 0) := by
  have hlt : pc < 63 := by
    unfold ft_31 at h
    exact bt_c h (fun q _ => q) (fun _ q => by cases q)
  exact dchk_ok dk_31_0 (Nat.zero_le _) (by omega) h
theorem fo_32 {pc : Nat} {i : Instr} (h : ft_32 pc = some i) : ∃ k, decode (mb 32) pc = .ok (i, k) ∧ (k = ilen i ∨ ilen i = 0) := by
  have hlt : pc < 123 := by
    unfold ft_32 at h
    exact bt_c h (fun q _ => q) (fun _ q => by cases q)
  by_cases q0 : pc < 100
  · exact dchk_ok dk_32_0 (by omega) (by omega) h
  exact dchk_ok dk_32_1 (by omega) (by omega) h
theorem fo_33 {pc : Nat} {i : Instr} (h : ft_33 pc = some i) : ∃ k, decode (mb 33) pc = .ok (i, k) ∧ (k = ilen i ∨ ilen i = 0) := by
  have hlt : pc < 5 := by
    unfold ft_33 at h
    exact bt_c h (fun q _ => q) (fun _ q => by cases q)
  exact dchk_ok dk_33_0 (Nat.zero_le _) (by omega) h
theorem fo_34 {pc : Nat} {i : Instr} (h : ft_34 pc = some i) : ∃ k, decode (mb 34) pc = .ok (i, k) ∧ (k = ilen i ∨ ilen i = 0) := by
  have hlt : pc < 12 := by
    unfold ft_34 at h
    exact bt_c h (fun q _ => q) (fun _ q => by cases q)
  exact dchk_ok dk_34_0 (Nat.zero_le _) (by omega) h
theorem fo_35 {pc : Nat} {i : Instr} (h : ft_35 pc = some i) : ∃ k, decode (mb 35) pc = .ok (i, k) ∧ (k = ilen i ∨ ilen i = 0) := by
  have hlt : pc < 12 := by
    unfold ft_35 at h
    exact bt_c h (fun q _ => q) (fun _ q => by cases q)
  exact dchk_ok dk_35_0 (Nat.zero_le _) (by omega) h
theorem fo_36 {pc : Nat} {i : Instr} (h : ft_36 pc = some i) : ∃ k, decode (mb 36) pc = .ok (i, k) ∧ (k = ilen i ∨ ilen i = 0) := by
  have hlt : pc < 18 := by
    unfold ft_36 at h
    exact bt_c h (fun q _ => q) (fun _ q => by cases q)
  exact dchk_ok dk_36_0 (Nat.zero_le _) (by omega) h
theorem fo_37 {pc : Nat} {i : Instr} (h : ft_37 pc = some i) : ∃ k, decode (mb 37) pc = .ok (i, k) ∧ (k = ilen i ∨ ilen i = 0) := by
  have hlt : pc < 5 := by
    unfold ft_37 at h
    exact bt_c h (fun q _ => q) (fun _ q => by cases q)
  exact dchk_ok dk_37_0 (Nat.zero_le _) (by omega) h
theorem fo_38 {pc : Nat} {i : Instr} (h : ft_38 pc = some i) : ∃ k, decode (mb 38) pc = .ok (i, k) ∧ (k = ilen i ∨ ilen i = 0) := by
  have hlt : pc < 5 := by
    unfold ft_38 at h
    exact bt_c h (fun q _ => q) (fun _ q => by cases q)
  exact dchk_ok dk_38_0 (Nat.zero_le _) (by omega) h
theorem fo_39 {pc : Nat} {i : Instr} (h : ft_39 pc = some i) : ∃ k, decode (mb 39) pc = .ok (i, k) ∧ (k = ilen i ∨ ilen i = 0) := by
  have hlt : pc < 33 := by
    unfold ft_39 at h
    exact bt_c h (fun q _ => q) (fun _ q => by cases q)
  exact dchk_ok dk_39_0 (Nat.zero_le _) (by omega) h
theorem fo_40 {pc : Nat} {i : Instr} (h : ft_40 pc = some i) : ∃ k, decode (mb 40) pc = .ok (i, k) ∧ (k = ilen i ∨ ilen i = 0) := by
  have hlt : pc < 8 := by
    unfold ft_40 at h
    exact bt_c h (fun q _ => q) (fun _ q => by cases q)
  exact dchk_ok dk_40_0 (Nat.zero_le _) (by omega) h
theorem fo_41 {pc : Nat} {i : Instr} (h : ft_41 pc = some i) : ∃ k, decode (mb 41) pc = .ok (i, k) ∧ (k = ilen i ∨ ilen i = 0) := by
  have hlt : pc < 23 := by
    unfold ft_41 at h
    exact bt_c h (fun q _ => q) (fun _ q => by cases q)
  exact dchk_ok dk_41_0 (Nat.zero_le _) (by omega) h
theorem fo_42 {pc : Nat} {i : Instr} (h : ft_42 pc = some i) : ∃ k, decode (mb 42) pc = .ok (i, k) ∧ (k = ilen i ∨ ilen i = 0) := by
  have hlt : pc < 27 := by
    unfold ft_42 at h
    exact bt_c h (fun q _ => q) (fun _ q => by cases q)
  exact dchk_ok dk_42_0 (Nat.zero_le _) (by omega) h
theorem fo_43 {pc : Nat} {i : Instr} (h : ft_43 pc = some i) : ∃ k, decode (mb 43) pc = .ok (i, k) ∧ (k = ilen i ∨ ilen i = 0) := by
  have hlt : pc < 23 := by
    unfold ft_43 at h
    exact bt_c h (fun q _ => q) (fun _ q => by cases q)
  exact dchk_ok dk_43_0 (Nat.zero_le _) (by omega) h
theorem fo_44 {pc : Nat} {i : Instr} (h : ft_44 pc = some i) : ∃ k, decode (mb 44) pc = .ok (i, k) ∧ (k = ilen i ∨ ilen i = 0) := by
  have hlt : pc < 15 := by
    unfold ft_44 at h
    exact bt_c h (fun q _ => q) (fun _ q => by cases q)
  exact dchk_ok dk_44_0 (Nat.zero_le _) (by omega) h
theorem fo_45 {pc : Nat} {i : Instr} (h : ft_45 pc = some i) : ∃ k, decode (mb 45) pc = .ok (i, k) ∧ (k = ilen i ∨ ilen i = 0) := by
  have hlt : pc < 43 := by
    unfold ft_45 at h
    exact bt_c h (fun q _ => q) (fun _ q => by cases q)
  exact dchk_ok dk_45_0 (Nat.zero_le _) (by omega) h
theorem fo_46 {pc : Nat} {i : Instr} (h : ft_46 pc = some i) : ∃ k, decode (mb 46) pc = .ok (i, k) ∧ (k = ilen i ∨ ilen i = 0) := by
  have hlt : pc < 41 := by
    unfold ft_46 at h
    exact bt_c h (fun q _ => q) (fun _ q => by cases q)
  exact dchk_ok dk_46_0 (Nat.zero_le _) (by omega) h
theorem fo_47 {pc : Nat} {i : Instr} (h : ft_47 pc = some i) : ∃ k, decode (mb 47) pc = .ok (i, k) ∧ (k = ilen i ∨ ilen i = 0) := by
  have hlt : pc < 18 := by
    unfold ft_47 at h
    exact bt_c h (fun q _ => q) (fun _ q => by cases q)
  exact dchk_ok dk_47_0 (Nat.zero_le _) (by omega) h
theorem fo_48 {pc : Nat} {i : Instr} (h : ft_48 pc = some i) : ∃ k, decode (mb 48) pc = .ok (i, k) ∧ (k = ilen i ∨ ilen i = 0) := by
  have hlt : pc < 24 := by
    unfold ft_48 at h
    exact bt_c h (fun q _ => q) (fun _ q => by cases q)
  exact dchk_ok dk_48_0 (Nat.zero_le _) (by omega) h
theorem fo_49 {pc : Nat} {i : Instr} (h : ft_49 pc = some i) : ∃ k, decode (mb 49) pc = .ok (i, k) ∧ (k = ilen i ∨ ilen i = 0) := by
  have hlt : pc < 27 := by
    unfold ft_49 at h
    exact bt_c h (fun q _ => q) (fun _ q => by cases q)
  exact dchk_ok dk_49_0 (Nat.zero_le _) (by omega) h
theorem fo_50 {pc : Nat} {i : Instr} (h : ft_50 pc = some i) : ∃ k, decode (mb 50) pc = .ok (i, k) ∧ (k = ilen i ∨ ilen i = 0) := by
  have hlt : pc < 15 := by
    unfold ft_50 at h
    exact bt_c h (fun q _ => q) (fun _ q => by cases q)
  exact dchk_ok dk_50_0 (Nat.zero_le _) (by omega) h
theorem fo_51 {pc : Nat} {i : Instr} (h : ft_51 pc = some i) : ∃ k, decode (mb 51) pc = .ok (i, k) ∧ (k = ilen i ∨ ilen i = 0) := by
  have hlt : pc < 15 := by
    unfold ft_51 at h
    exact bt_c h (fun q _ => q) (fun _ q => by cases q)
  exact dchk_ok dk_51_0 (Nat.zero_le _) (by omega) h
theorem fo_52 {pc : Nat} {i : Instr} (h : ft_52 pc = some i) : ∃ k, decode (mb 52) pc = .ok (i, k) ∧ (k = ilen i ∨ ilen i = 0) := by
  have hlt : pc < 20 := by
    unfold ft_52 at h
    exact bt_c h (fun q _ => q) (fun _ q => by cases q)
  exact dchk_ok dk_52_0 (Nat.zero_le _) (by omega) h
theorem fo_53 {pc : Nat} {i : Instr} (h : ft_53 pc = some i) : ∃ k, decode (mb 53) pc = .ok (i, k) ∧ (k = ilen i ∨ ilen i = 0) := by
  have hlt : pc < 34 := by
    unfold ft_53 at h
    exact bt_c h (fun q _ => q) (fun _ q => by cases q)
  exact dchk_ok dk_53_0 (Nat.zero_le _) (by omega) h
theorem fo_54 {pc : Nat} {i : Instr} (h : ft_54 pc = some i) : ∃ k, decode (mb 54) pc = .ok (i, k) ∧ (k = ilen i ∨ ilen i = 0) := by
  have hlt : pc < 20 := by
    unfold ft_54 at h
    exact bt_c h (fun q _ => q) (fun _ q => by cases q)
  exact dchk_ok dk_54_0 (Nat.zero_le _) (by omega) h
theorem fo_55 {pc : Nat} {i : Instr} (h : ft_55 pc = some i) : ∃ k, decode (mb 55) pc = .ok (i, k) ∧ (k = ilen i ∨ ilen i = 0) := by
  have hlt : pc < 20 := by
    unfold ft_55 at h
    exact bt_c h (fun q _ => q) (fun _ q => by cases q)
  exact dchk_ok dk_55_0 (Nat.zero_le _) (by omega) h
theorem fo_56 {pc : Nat} {i : Instr} (h : ft_56 pc = some i) : ∃ k, decode (mb 56) pc = .ok (i, k) ∧ (k = ilen i ∨ ilen i = 0) := by
  have hlt : pc < 20 := by
    unfold ft_56 at h
    exact bt_c h (fun q _ => q) (fun _ q => by cases q)
  exact dchk_ok dk_56_0 (Nat.zero_le _) (by omega) h
theorem fo_57 {pc : Nat} {i : Instr} (h : ft_57 pc = some i) : ∃ k, decode (mb 57) pc = .ok (i, k) ∧ (k = ilen i ∨ ilen i = 0) := by
  have hlt : pc < 17 := by
    unfold ft_57 at h
    exact bt_c h (fun q _ => q) (fun _ q => by cases q)
  exact dchk_ok dk_57_0 (Nat.zero_le _) (by omega) h
theorem fo_58 {pc : Nat} {i : Instr} (h : ft_58 pc = some i) : ∃ k, decode (mb 58) pc = .ok (i, k) ∧ (k = ilen i ∨ ilen i = 0) := by
  have hlt : pc < 27 := by
    unfold ft_58 at h
    exact bt_c h (fun q _ => q) (fun _ q => by cases q)
  exact dchk_ok dk_58_0 (Nat.zero_le _) (by omega) h
theorem fo_59 {pc : Nat} {i : Instr} (h : ft_59 pc = some i) : ∃ k, decode (mb 59) pc = .ok (i, k) ∧ (k = ilen i ∨ ilen i = 0) := by
  have hlt : pc < 17 := by
    unfold ft_59 at h
    exact bt_c h (fun q _ => q) (fun _ q => by cases q)
  exact dchk_ok dk_59_0 (Nat.zero_le _) (by omega) h
theorem fo_60 {pc : Nat} {i : Instr} (h : ft_60 pc = some i) : ∃ k, decode (mb 60) pc = .ok (i, k) ∧ (k = ilen i ∨ ilen i = 0) := by
  have hlt : pc < 17 := by
    unfold ft_60 at h
    exact bt_c h (fun q _ => q) (fun _ q => by cases q)
  exact dchk_ok dk_60_0 (Nat.zero_le _) (by omega) h
theorem fo_61 {pc : Nat} {i : Instr} (h : ft_61 pc = some i) : ∃ k, decode (mb 61) pc = .ok (i, k) ∧ (k = ilen i ∨ ilen i = 0) := by
  have hlt : pc < 17 := by
    unfold ft_61 at h
    exact bt_c h (fun q _ => q) (fun _ q => by cases q)
  exact dchk_ok dk_61_0 (Nat.zero_le _) (by omega) h
theorem fo_62 {pc : Nat} {i : Instr} (h : ft_62 pc = some i) : ∃ k, decode (mb 62) pc = .ok (i, k) ∧ (k = ilen i ∨ ilen i = 0) := by
  have hlt : pc < 54 := by
    unfold ft_62 at h
    exact bt_c h (fun q _ => q) (fun _ q => by cases q)
  exact dchk_ok dk_62_0 (Nat.zero_le _) (by omega) h
theorem fo_63 {pc : Nat} {i : Instr} (h : ft_63 pc = some i) : ∃ k, decode (mb 63) pc = .ok (i, k) ∧ (k = ilen i ∨ ilen i = 0) := by
  have hlt : pc < 8 := by
    unfold ft_63 at h
    exact bt_c h (fun q _ => q) (fun _ q => by cases q)
  exact dchk_ok dk_63_0 (Nat.zero_le _) (by omega) h
theorem fo_64 {pc : Nat} {i : Instr} (h : ft_64 pc = some i) : ∃ k, decode (mb 64) pc = .ok (i, k) ∧ (k = ilen i ∨ ilen i = 0) := by
  have hlt : pc < 8 := by
    unfold ft_64 at h
    exact bt_c h (fun q _ => q) (fun _ q => by cases q)
  exact dchk_ok dk_64_0 (Nat.zero_le _) (by omega) h
theorem fo_65 {pc : Nat} {i : Instr} (h : ft_65 pc = some i) : ∃ k, decode (mb 65) pc = .ok (i, k) ∧ (k = ilen i ∨ ilen i = 0) := by
  have hlt : pc < 5 := by
    unfold ft_65 at h
    exact bt_c h (fun q _ => q) (fun _ q => by cases q)
  exact dchk_ok dk_65_0 (Nat.zero_le _) (by omega) h
theorem fo_66 {pc : Nat} {i : Instr} (h : ft_66 pc = some i) : ∃ k, decode (mb 66) pc = .ok (i, k) ∧ (k = ilen i ∨ ilen i = 0) := by
  have hlt : pc < 14 := by
    unfold ft_66 at h
    exact bt_c h (fun q _ => q) (fun _ q => by cases q)
  exact dchk_ok dk_66_0 (Nat.zero_le _) (by omega) h
theorem fo_67 {pc : Nat} {i : Instr} (h : ft_67 pc = some i) : ∃ k, decode (mb 67) pc = .ok (i, k) ∧ (k = ilen i ∨ ilen i = 0) := by
  have hlt : pc < 17 := by
    unfold ft_67 at h
    exact bt_c h (fun q _ => q) (fun _ q => by cases q)
  exact dchk_ok dk_67_0 (Nat.zero_le _) (by omega) h
theorem fo_68 {pc : Nat} {i : Instr} (h : ft_68 pc = some i) : ∃ k, decode (mb 68) pc = .ok (i, k) ∧ (k = ilen i ∨ ilen i = 0) := by
  have hlt : pc < 17 := by
    unfold ft_68 at h
    exact bt_c h (fun q _ => q) (fun _ q => by cases q)
  exact dchk_ok dk_68_0 (Nat.zero_le _) (by omega) h
theorem fo_69 {pc : Nat} {i : Instr} (h : ft_69 pc = some i) : ∃ k, decode (mb 69) pc = .ok (i, k) ∧ (k = ilen i ∨ ilen i = 0) := by
  have hlt : pc < 60 := by
    unfold ft_69 at h
    exact bt_c h (fun q _ => q) (fun _ q => by cases q)
  exact dchk_ok dk_69_0 (Nat.zero_le _) (by omega) h
theorem fo_70 {pc : Nat} {i : Instr} (h : ft_70 pc = some i) : ∃ k, decode (mb 70) pc = .ok (i, k) ∧ (k = ilen i ∨ ilen i = 0) := by
  have hlt : pc < 82 := by
    unfold ft_70 at h
    exact bt_c h (fun q _ => q) (fun _ q => by cases q)
  exact dchk_ok dk_70_0 (Nat.zero_le _) (by omega) h
theorem fo_71 {pc : Nat} {i : Instr} (h : ft_71 pc = some i) : ∃ k, decode (mb 71) pc = .ok (i, k) ∧ (k = ilen i ∨ ilen i = 0) := by
  have hlt : pc < 18 := by
    unfold ft_71 at h
    exact bt_c h (fun q _ => q) (fun _ q => by cases q)
  exact dchk_ok dk_71_0 (Nat.zero_le _) (by omega) h
theorem fo_72 {pc : Nat} {i : Instr} (h : ft_72 pc = some i) : ∃ k, decode (mb 72) pc = .ok (i, k) ∧ (k = ilen i ∨ ilen i = 0) := by
  have hlt : pc < 36 := by
    unfold ft_72 at h
    exact bt_c h (fun q _ => q) (fun _ q => by cases q)
  exact dchk_ok dk_72_0 (Nat.zero_le _) (by omega) h
theorem fo_73 {pc : Nat} {i : Instr} (h : ft_73 pc = some i) : ∃ k, decode (mb 73) pc = .ok (i, k) ∧ (k = ilen i ∨ ilen i = 0) := by
  have hlt : pc < 168 := by
    unfold ft_73 at h
    exact bt_c h (fun q _ => q) (fun _ q => by cases q)
  by_cases q0 : pc < 100
  · exact dchk_ok dk_73_0 (by omega) (by omega) h
  exact dchk_ok dk_73_1 (by omega) (by omega) h
theorem fo_74 {pc : Nat} {i : Instr} (h : ft_74 pc = some i) : ∃ k, decode (mb 74) pc = .ok (i, k) ∧ (k = ilen i ∨ ilen i = 0) := by
  have hlt : pc < 43 := by
    unfold ft_74 at h
    exact bt_c h (fun q _ => q) (fun _ q => by cases q)
  exact dchk_ok dk_74_0 (Nat.zero_le _) (by omega) h
theorem fo_75 {pc : Nat} {i : Instr} (h : ft_75 pc = some i) : ∃ k, decode (mb 75) pc = .ok (i, k) ∧ (k = ilen i ∨ ilen i = 0) := by
  have hlt : pc < 17 := by
    unfold ft_75 at h
    exact bt_c h (fun q _ => q) (fun _ q => by cases q)
  exact dchk_ok dk_75_0 (Nat.zero_le _) (by omega) h
theorem fo_76 {pc : Nat} {i : Instr} (h : ft_76 pc = some i) : ∃ k, decode (mb 76) pc = .ok (i, k) ∧ (k = ilen i ∨ ilen i = 0) := by
  have hlt : pc < 146 := by
    unfold ft_76 at h
    exact bt_c h (fun q _ => q) (fun _ q => by cases q)
  by_cases q0 : pc < 100
  · exact dchk_ok dk_76_0 (by omega) (by omega) h
  exact dchk_ok dk_76_1 (by omega) (by omega) h
theorem fo_77 {pc : Nat} {i : Instr} (h : ft_77 pc = some i) : ∃ k, decode (mb 77) pc = .ok (i, k) ∧ (k = ilen i ∨ ilen i = 0) := by
  have hlt : pc < 73 := by
    unfold ft_77 at h
    exact bt_c h (fun q _ => q) (fun _ q => by cases q)
  exact dchk_ok dk_77_0 (Nat.zero_le _) (by omega) h
theorem fo_78 {pc : Nat} {i : Instr} (h : ft_78 pc = some i) : ∃ k, decode (mb 78) pc = .ok (i, k) ∧ (k = ilen i ∨ ilen i = 0) := by
  have hlt : pc < 35 := by
    unfold ft_78 at h
    exact bt_c h (fun q _ => q) (fun _ q => by cases q)
  exact dchk_ok dk_78_0 (Nat.zero_le _) (by omega) h
theorem fo_79 {pc : Nat} {i : Instr} (h : ft_79 pc = some i) : ∃ k, decode (mb 79) pc = .ok (i, k) ∧ (k = ilen i ∨ ilen i = 0) := by
  have hlt : pc < 61 := by
    unfold ft_79 at h
    exact bt_c h (fun q _ => q) (fun _ q => by cases q)
  exact dchk_ok dk_79_0 (Nat.zero_le _) (by omega) h
theorem fo_80 {pc : Nat} {i : Instr} (h : ft_80 pc = some i) : ∃ k, decode (mb 80) pc = .ok (i, k) ∧ (k = ilen i ∨ ilen i = 0) := by
  have hlt : pc < 55 := by
    unfold ft_80 at h
    exact bt_c h (fun q _ => q) (fun _ q => by cases q)
  exact dchk_ok dk_80_0 (Nat.zero_le _) (by omega) h
theorem fo_81 {pc : Nat} {i : Instr} (h : ft_81 pc = some i) : ∃ k, decode (mb 81) pc = .ok (i, k) ∧ (k = ilen i ∨ ilen i = 0) := by
  have hlt : pc < 8 := by
    unfold ft_81 at h
    exact bt_c h (fun q _ => q) (fun _ q => by cases q)
  exact dchk_ok dk_81_0 (Nat.zero_le _) (by omega) h
theorem fo_82 {pc : Nat} {i : Instr} (h : ft_82 pc = some i) : ∃ k, decode (mb 82) pc = .ok (i, k) ∧ (k = ilen i ∨ ilen i = 0) := by
  have hlt : pc < 79 := by
    unfold ft_82 at h
    exact bt_c h (fun q _ => q) (fun _ q => by cases q)
  exact dchk_ok dk_82_0 (Nat.zero_le _) (by omega) h
theorem fo_83 {pc : Nat} {i : Instr} (h : ft_83 pc = some i) : ∃ k, decode (mb 83) pc = .ok (i, k) ∧ (k = ilen i ∨ ilen i = 0) := by
  have hlt : pc < 19 := by
    unfold ft_83 at h
    exact bt_c h (fun q _ => q) (fun _ q => by cases q)
  exact dchk_ok dk_83_0 (Nat.zero_le _) (by omega) h
theorem fo_84 {pc : Nat} {i : Instr} (h : ft_84 pc = some i) : ∃ k, decode (mb 84) pc = .ok (i, k) ∧ (k = ilen i ∨ ilen i = 0) := by
  have hlt : pc < 25 := by
    unfold ft_84 at h
    exact bt_c h (fun q _ => q) (fun _ q => by cases q)
  exact dchk_ok dk_84_0 (Nat.zero_le _) (by omega) h
theorem fo_85 {pc : Nat} {i : Instr} (h : ft_85 pc = some i) : ∃ k, decode (mb 85) pc = .ok (i, k) ∧ (k = ilen i ∨ ilen i = 0) := by
  have hlt : pc < 57 := by
    unfold ft_85 at h
    exact bt_c h (fun q _ => q) (fun _ q => by cases q)
  exact dchk_ok dk_85_0 (Nat.zero_le _) (by omega) h
theorem fo_86 {pc : Nat} {i : Instr} (h : ft_86 pc = some i) : ∃ k, decode (mb 86) pc = .ok (i, k) ∧ (k = ilen i ∨ ilen i = 0) := by
  have hlt : pc < 31 := by
    unfold ft_86 at h
    exact bt_c h (fun q _ => q) (fun _ q => by cases q)
  exact dchk_ok dk_86_0 (Nat.zero_le _) (by omega) h
theorem fo_87 {pc : Nat} {i : Instr} (h : ft_87 pc = some i) : ∃ k, decode (mb 87) pc = .ok (i, k) ∧ (k = ilen i ∨ ilen i = 0) := by
  have hlt : pc < 24 := by
    unfold ft_87 at h
    exact bt_c h (fun q _ => q) (fun _ q => by cases q)
  exact dchk_ok dk_87_0 (Nat.zero_le _) (by omega) h
theorem fo_88 {pc : Nat} {i : Instr} (h : ft_88 pc = some i) : ∃ k, decode (mb 88) pc = .ok (i, k) ∧ (k = ilen i ∨ ilen i = 0) := by
  have hlt : pc < 40 := by
    unfold ft_88 at h
    exact bt_c h (fun q _ => q) (fun _ q => by cases q)
  exact dchk_ok dk_88_0 (Nat.zero_le _) (by omega) h
theorem fo_89 {pc : Nat} {i : Instr} (h : ft_89 pc = some i) : ∃ k, decode (mb 89) pc = .ok (i, k) ∧ (k = ilen i ∨ ilen i = 0) := by
  have hlt : pc < 62 := by
    unfold ft_89 at h
    exact bt_c h (fun q _ => q) (fun _ q => by cases q)
  exact dchk_ok dk_89_0 (Nat.zero_le _) (by omega) h
theorem fo_90 {pc : Nat} {i : Instr} (h : ft_90 pc = some i) : ∃ k, decode (mb 90) pc = .ok (i, k) ∧ (k = ilen i ∨ ilen i = 0) := by
  have hlt : pc < 5 := by
    unfold ft_90 at h
    exact bt_c h (fun q _ => q) (fun _ q => by cases q)
  exact dchk_ok dk_90_0 (Nat.zero_le _) (by omega) h
theorem fo_91 {pc : Nat} {i : Instr} (h : ft_91 pc = some i) : ∃ k, decode (mb 91) pc = .ok (i, k) ∧ (k = ilen i ∨ ilen i = 0) := by
  have hlt : pc < 27 := by
    unfold ft_91 at h
    exact bt_c h (fun q _ => q) (fun _ q => by cases q)
  exact dchk_ok dk_91_0 (Nat.zero_le _) (by omega) h
theorem fo_92 {pc : Nat} {i : Instr} (h : ft_92 pc = some i) : ∃ k, decode (mb 92) pc = .ok (i, k) ∧ (k = ilen i ∨ ilen i = 0) := by
  have hlt : pc < 22 := by
    unfold ft_92 at h
    exact bt_c h (fun q _ => q) (fun _ q => by cases q)
  exact dchk_ok dk_92_0 (Nat.zero_le _) (by omega) h
theorem fo_93 {pc : Nat} {i : Instr} (h : ft_93 pc = some i) : ∃ k, decode (mb 93) pc = .ok (i, k) ∧ (k = ilen i ∨ ilen i = 0) := by
  have hlt : pc < 20 := by
    unfold ft_93 at h
    exact bt_c h (fun q _ => q) (fun _ q => by cases q)
  exact dchk_ok dk_93_0 (Nat.zero_le _) (by omega) h
theorem fo_94 {pc : Nat} {i : Instr} (h : ft_94 pc = some i) : ∃ k, decode (mb 94) pc = .ok (i, k) ∧ (k = ilen i ∨ ilen i = 0) := by
  have hlt : pc < 21 := by
    unfold ft_94 at h
    exact bt_c h (fun q _ => q) (fun _ q => by cases q)
  exact dchk_ok dk_94_0 (Nat.zero_le _) (by omega) h
theorem fo_95 {pc : Nat} {i : Instr} (h : ft_95 pc = some i) : ∃ k, decode (mb 95) pc = .ok (i, k) ∧ (k = ilen i ∨ ilen i = 0) := by
  have hlt : pc < 36 := by
    unfold ft_95 at h
    exact bt_c h (fun q _ => q) (fun _ q => by cases q)
  exact dchk_ok dk_95_0 (Nat.zero_le _) (by omega) h
theorem fo_96 {pc : Nat} {i : Instr} (h : ft_96 pc = some i) : ∃ k, decode (mb 96) pc = .ok (i, k) ∧ (k = ilen i ∨ ilen i = 0) := by
  have hlt : pc < 32 := by
    unfold ft_96 at h
    exact bt_c h (fun q _ => q) (fun _ q => by cases q)
  exact dchk_ok dk_96_0 (Nat.zero_le _) (by omega) h
theorem fo_97 {pc : Nat} {i : Instr} (h : ft_97 pc = some i) : ∃ k, decode (mb 97) pc = .ok (i, k) ∧ (k = ilen i ∨ ilen i = 0) := by
  have hlt : pc < 78 := by
    unfold ft_97 at h
    exact bt_c h (fun q _ => q) (fun _ q => by cases q)
  exact dchk_ok dk_97_0 (Nat.zero_le _) (by omega) h
theorem fo_98 {pc : Nat} {i : Instr} (h : ft_98 pc = some i) : ∃ k, decode (mb 98) pc = .ok (i, k) ∧ (k = ilen i ∨ ilen i = 0) := by
  have hlt : pc < 165 := by
    unfold ft_98 at h
    exact bt_c h (fun q _ => q) (fun _ q => by cases q)
  by_cases q0 : pc < 100
  · exact dchk_ok dk_98_0 (by omega) (by omega) h
  exact dchk_ok dk_98_1 (by omega) (by omega) h
theorem fo_99 {pc : Nat} {i : Instr} (h : ft_99 pc = some i) : ∃ k, decode (mb 99) pc = .ok (i, k) ∧ (k = ilen i ∨ ilen i = 0) := by
  have hlt : pc < 40 := by
    unfold ft_99 at h
    exact bt_c h (fun q _ => q) (fun _ q => by cases q)
  exact dchk_ok dk_99_0 (Nat.zero_le _) (by omega) h
theorem fo_100 {pc : Nat} {i : Instr} (h : ft_100 pc = some i) : ∃ k, decode (mb 100) pc = .ok (i, k) ∧ (k = ilen i ∨ ilen i = 0) := by
  have hlt : pc < 42 := by
    unfold ft_100 at h
    exact bt_c h (fun q _ => q) (fun _ q => by cases q)
  exact dchk_ok dk_100_0 (Nat.zero_le _) (by omega) h
theorem fo_101 {pc : Nat} {i : Instr} (h : ft_101 pc = some i) : ∃ k, decode (mb 101) pc = .ok (i, k) ∧ (k = ilen i ∨ ilen i = 0) := by
  have hlt : pc < 105 := by
    unfold ft_101 at h
    exact bt_c h (fun q _ => q) (fun _ q => by cases q)
  by_cases q0 : pc < 100
  · exact dchk_ok dk_101_0 (by omega) (by omega) h
  exact dchk_ok dk_101_1 (by omega) (by omega) h
theorem fo_102 {pc : Nat} {i : Instr} (h : ft_102 pc = some i) : ∃ k, decode (mb 102) pc = .ok (i, k) ∧ (k = ilen i ∨ ilen i = 0) := by
  have hlt : pc < 62 := by
    unfold ft_102 at h
    exact bt_c h (fun q _ => q) (fun _ q => by cases q)
  exact dchk_ok dk_102_0 (Nat.zero_le _) (by omega) h
theorem fo_103 {pc : Nat} {i : Instr} (h : ft_103 pc = some i) : ∃ k, decode (mb 103) pc = .ok (i, k) ∧ (k = ilen i ∨ ilen i = 0) := by
  have hlt : pc < 14 := by
    unfold ft_103 at h
    exact bt_c h (fun q _ => q) (fun _ q => by cases q)
  exact dchk_ok dk_103_0 (Nat.zero_le _) (by omega) h
theorem fo_104 {pc : Nat} {i : Instr} (h : ft_104 pc = some i) : ∃ k, decode (mb 104) pc = .ok (i, k) ∧ (k = ilen i ∨ ilen i = 0) := by
  have hlt : pc < 56 := by
    unfold ft_104 at h
    exact bt_c h (fun q _ => q) (fun _ q => by cases q)
  exact dchk_ok dk_104_0 (Nat.zero_le _) (by omega) h
theorem fo_105 {pc : Nat} {i : Instr} (h : ft_105 pc = some i) : ∃ k, decode (mb 105) pc = .ok (i, k) ∧ (k = ilen i ∨ ilen i = 0) := by
  have hlt : pc < 36 := by
    unfold ft_105 at h
    exact bt_c h (fun q _ => q) (fun _ q => by cases q)
  exact dchk_ok dk_105_0 (Nat.zero_le _) (by omega) h
theorem fo_106 {pc : Nat} {i : Instr} (h : ft_106 pc = some i) : ∃ k, decode (mb 106) pc = .ok (i, k) ∧ (k = ilen i ∨ ilen i = 0) := by
  have hlt : pc < 51 := by
    unfold ft_106 at h
    exact bt_c h (fun q _ => q) (fun _ q => by cases q)
  exact dchk_ok dk_106_0 (Nat.zero_le _) (by omega) h
theorem fo_107 {pc : Nat} {i : Instr} (h : ft_107 pc = some i) : ∃ k, decode (mb 107) pc = .ok (i, k) ∧ (k = ilen i ∨ ilen i = 0) := by
  have hlt : pc < 34 := by
    unfold ft_107 at h
    exact bt_c h (fun q _ => q) (fun _ q => by cases q)
  exact dchk_ok dk_107_0 (Nat.zero_le _) (by omega) h
theorem fo_108 {pc : Nat} {i : Instr} (h : ft_108 pc = some i) : ∃ k, decode (mb 108) pc = .ok (i, k) ∧ (k = ilen i ∨ ilen i = 0) := by
  have hlt : pc < 36 := by
    unfold ft_108 at h
    exact bt_c h (fun q _ => q) (fun _ q => by cases q)
  exact dchk_ok dk_108_0 (Nat.zero_le _) (by omega) h
theorem fo_109 {pc : Nat} {i : Instr} (h : ft_109 pc = some i) : ∃ k, decode (mb 109) pc = .ok (i, k) ∧ (k = ilen i ∨ ilen i = 0) := by
  have hlt : pc < 64 := by
    unfold ft_109 at h
    exact bt_c h (fun q _ => q) (fun _ q => by cases q)
  exact dchk_ok dk_109_0 (Nat.zero_le _) (by omega) h
theorem fo_110 {pc : Nat} {i : Instr} (h : ft_110 pc = some i) : ∃ k, decode (mb 110) pc = .ok (i, k) ∧ (k = ilen i ∨ ilen i = 0) := by
  have hlt : pc < 111 := by
    unfold ft_110 at h
    exact bt_c h (fun q _ => q) (fun _ q => by cases q)
  by_cases q0 : pc < 100
  · exact dchk_ok dk_110_0 (by omega) (by omega) h
  exact dchk_ok dk_110_1 (by omega) (by omega) h
theorem fo_111 {pc : Nat} {i : Instr} (h : ft_111 pc = some i) : ∃ k, decode (mb 111) pc = .ok (i, k) ∧ (k = ilen i ∨ ilen i = 0) := by
  have hlt : pc < 72 := by
    unfold ft_111 at h
    exact bt_c h (fun q _ => q) (fun _ q => by cases q)
  exact dchk_ok dk_111_0 (Nat.zero_le _) (by omega) h
theorem fo_112 {pc : Nat} {i : Instr} (h : ft_112 pc = some i) : ∃ k, decode (mb 112) pc = .ok (i, k) ∧ (k = ilen i ∨ ilen i = 0) := by
  have hlt : pc < 69 := by
    unfold ft_112 at h
    exact bt_c h (fun q _ => q) (fun _ q => by cases q)
  exact dchk_ok dk_112_0 (Nat.zero_le _) (by omega) h
theorem fo_113 {pc : Nat} {i : Instr} (h : ft_113 pc = some i) : ∃ k, decode (mb 113) pc = .ok (i, k) ∧ (k = ilen i ∨ ilen i = 0) := by
  have hlt : pc < 28 := by
    unfold ft_113 at h
    exact bt_c h (fun q _ => q) (fun _ q => by cases q)
  exact dchk_ok dk_113_0 (Nat.zero_le _) (by omega) h
theorem fo_114 {pc : Nat} {i : Instr} (h : ft_114 pc = some i) : ∃ k, decode (mb 114) pc = .ok (i, k) ∧ (k = ilen i ∨ ilen i = 0) := by
  have hlt : pc < 78 := by
    unfold ft_114 at h
    exact bt_c h (fun q _ => q) (fun _ q => by cases q)
  exact dchk_ok dk_114_0 (Nat.zero_le _) (by omega) h
theorem fo_115 {pc : Nat} {i : Instr} (h : ft_115 pc = some i) : ∃ k, decode (mb 115) pc = .ok (i, k) ∧ (k = ilen i ∨ ilen i = 0) := by
  have hlt : pc < 124 := by
    unfold ft_115 at h
    exact bt_c h (fun q _ => q) (fun _ q => by cases q)
  by_cases q0 : pc < 100
  · exact dchk_ok dk_115_0 (by omega) (by omega) h
  exact dchk_ok dk_115_1 (by omega) (by omega) h
theorem fo_116 {pc : Nat} {i : Instr} (h : ft_116 pc = some i) : ∃ k, decode (mb 116) pc = .ok (i, k) ∧ (k = ilen i ∨ ilen i = 0) := by
  have hlt : pc < 33 := by
    unfold ft_116 at h
    exact bt_c h (fun q _ => q) (fun _ q => by cases q)
  exact dchk_ok dk_116_0 (Nat.zero_le _) (by omega) h
theorem fo_117 {pc : Nat} {i : Instr} (h : ft_117 pc = some i) : ∃ k, decode (mb 117) pc = .ok (i, k) ∧ (k = ilen i ∨ ilen i = 0) := by
  have hlt : pc < 42 := by
    unfold ft_117 at h
    exact bt_c h (fun q _ => q) (fun _ q => by cases q)
  exact dchk_ok dk_117_0 (Nat.zero_le _) (by omega) h
theorem fo_118 {pc : Nat} {i : Instr} (h : ft_118 pc = some i) : ∃ k, decode (mb 118) pc = .ok (i, k) ∧ (k = ilen i ∨ ilen i = 0) := by
  have hlt : pc < 36 := by
    unfold ft_118 at h
    exact bt_c h (fun q _ => q) (fun _ q => by cases q)
  exact dchk_ok dk_118_0 (Nat.zero_le _) (by omega) h
theorem fo_119 {pc : Nat} {i : Instr} (h : ft_119 pc = some i) : ∃ k, decode (mb 119) pc = .ok (i, k) ∧ (k = ilen i ∨ ilen i = 0) := by
  have hlt : pc < 64 := by
    unfold ft_119 at h
    exact bt_c h (fun q _ => q) (fun _ q => by cases q)
  exact dchk_ok dk_119_0 (Nat.zero_le _) (by omega) h
theorem fo_120 {pc : Nat} {i : Instr} (h : ft_120 pc = some i) : ∃ k, decode (mb 120) pc = .ok (i, k) ∧ (k = ilen i ∨ ilen i = 0) := by
  have hlt : pc < 64 := by
    unfold ft_120 at h
    exact bt_c h (fun q _ => q) (fun _ q => by cases q)
  exact dchk_ok dk_120_0 (Nat.zero_le _) (by omega) h
theorem fo_121 {pc : Nat} {i : Instr} (h : ft_121 pc = some i) : ∃ k, decode (mb 121) pc = .ok (i, k) ∧ (k = ilen i ∨ ilen i = 0) := by
  have hlt : pc < 70 := by
    unfold ft_121 at h
    exact bt_c h (fun q _ => q) (fun _ q => by cases q)
  exact dchk_ok dk_121_0 (Nat.zero_le _) (by omega) h
theorem fo_122 {pc : Nat} {i : Instr} (h : ft_122 pc = some i) : ∃ k, decode (mb 122) pc = .ok (i, k) ∧ (k = ilen i ∨ ilen i = 0) := by
  have hlt : pc < 159 := by
    unfold ft_122 at h
    exact bt_c h (fun q _ => q) (fun _ q => by cases q)
  by_cases q0 : pc < 100
  · exact dchk_ok dk_122_0 (by omega) (by omega) h
  exact dchk_ok dk_122_1 (by omega) (by omega) h
theorem fo_123 {pc : Nat} {i : Instr} (h : ft_123 pc = some i) : ∃ k, decode (mb 123) pc = .ok (i, k) ∧ (k = ilen i ∨ ilen i = 0) := by
  have hlt : pc < 22 := by
    unfold ft_123 at h
    exact bt_c h (fun q _ => q) (fun _ q => by cases q)
  exact dchk_ok dk_123_0 (Nat.zero_le _) (by omega) h
theorem fo_124 {pc : Nat} {i : Instr} (h : ft_124 pc = some i) : ∃ k, decode (mb 124) pc = .ok (i, k) ∧ (k = ilen i ∨ ilen i = 0) := by
  have hlt : pc < 25 := by
    unfold ft_124 at h
    exact bt_c h (fun q _ => q) (fun _ q => by cases q)
  exact dchk_ok dk_124_0 (Nat.zero_le _) (by omega) h
theorem fo_125 {pc : Nat} {i : Instr} (h : ft_125 pc = some i) : ∃ k, decode (mb 125) pc = .ok (i, k) ∧ (k = ilen i ∨ ilen i = 0) := by
  have hlt : pc < 91 := by
    unfold ft_125 at h
    exact bt_c h (fun q _ => q) (fun _ q => by cases q)
  exact dchk_ok dk_125_0 (Nat.zero_le _) (by omega) h
theorem fo_126 {pc : Nat} {i : Instr} (h : ft_126 pc = some i) : ∃ k, decode (mb 126) pc = .ok (i, k) ∧ (k = ilen i ∨ ilen i = 0) := by
  have hlt : pc < 64 := by
    unfold ft_126 at h
    exact bt_c h (fun q _ => q) (fun _ q => by cases q)
  exact dchk_ok dk_126_0 (Nat.zero_le _) (by omega) h
theorem fo_127 {pc : Nat} {i : Instr} (h : ft_127 pc = some i) : ∃ k, decode (mb 127) pc = .ok (i, k) ∧ (k = ilen i ∨ ilen i = 0) := by
  have hlt : pc < 115 := by
    unfold ft_127 at h
    exact bt_c h (fun q _ => q) (fun _ q => by cases q)
  by_cases q0 : pc < 100
  · exact dchk_ok dk_127_0 (by omega) (by omega) h
  exact dchk_ok dk_127_1 (by omega) (by omega) h
theorem fo_128 {pc : Nat} {i : Instr} (h : ft_128 pc = some i) : ∃ k, decode (mb 128) pc = .ok (i, k) ∧ (k = ilen i ∨ ilen i = 0) := by
  have hlt : pc < 41 := by
    unfold ft_128 at h
    exact bt_c h (fun q _ => q) (fun _ q => by cases q)
  exact dchk_ok dk_128_0 (Nat.zero_le _) (by omega) h
theorem fo_129 {pc : Nat} {i : Instr} (h : ft_129 pc = some i) : ∃ k, decode (mb 129) pc = .ok (i, k) ∧ (k = ilen i ∨ ilen i = 0) := by
  have hlt : pc < 27 := by
    unfold ft_129 at h
    exact bt_c h (fun q _ => q) (fun _ q => by cases q)
  exact dchk_ok dk_129_0 (Nat.zero_le _) (by omega) h
theorem fo_130 {pc : Nat} {i : Instr} (h : ft_130 pc = some i) : ∃ k, decode (mb 130) pc = .ok (i, k) ∧ (k = ilen i ∨ ilen i = 0) := by
  have hlt : pc < 199 := by
    unfold ft_130 at h
    exact bt_c h (fun q _ => q) (fun _ q => by cases q)
  by_cases q0 : pc < 100
  · exact dchk_ok dk_130_0 (by omega) (by omega) h
  exact dchk_ok dk_130_1 (by omega) (by omega) h
theorem fo_131 {pc : Nat} {i : Instr} (h : ft_131 pc = some i) : ∃ k, decode (mb 131) pc = .ok (i, k) ∧ (k = ilen i ∨ ilen i = 0) := by
  have hlt : pc < 143 := by
    unfold ft_131 at h
    exact bt_c h (fun q _ => q) (fun _ q => by cases q)
  by_cases q0 : pc < 100
  · exact dchk_ok dk_131_0 (by omega) (by omega) h
  exact dchk_ok dk_131_1 (by omega) (by omega) h
theorem fo_132 {pc : Nat} {i : Instr} (h : ft_132 pc = some i) : ∃ k, decode (mb 132) pc = .ok (i, k) ∧ (k = ilen i ∨ ilen i = 0) := by
  have hlt : pc < 65 := by
    unfold ft_132 at h
    exact bt_c h (fun q _ => q) (fun _ q => by cases q)
  exact dchk_ok dk_132_0 (Nat.zero_le _) (by omega) h
theorem fo_133 {pc : Nat} {i : Instr} (h : ft_133 pc = some i) : ∃ k, decode (mb 133) pc = .ok (i, k) ∧ (k = ilen i ∨ ilen i = 0) := by
  have hlt : pc < 128 := by
    unfold ft_133 at h
    exact bt_c h (fun q _ => q) (fun _ q => by cases q)
  by_cases q0 : pc < 100
  · exact dchk_ok dk_133_0 (by omega) (by omega) h
  exact dchk_ok dk_133_1 (by omega) (by omega) h
theorem fo_134 {pc : Nat} {i : Instr} (h : ft_134 pc = some i) : ∃ k, decode (mb 134) pc = .ok (i, k) ∧ (k = ilen i ∨ ilen i = 0) := by
  have hlt : pc < 45 := by
    unfold ft_134 at h
    exact bt_c h (fun q _ => q) (fun _ q => by cases q)
  exact dchk_ok dk_134_0 (Nat.zero_le _) (by omega) h
theorem fo_135 {pc : Nat} {i : Instr} (h : ft_135 pc = some i) : ∃ k, decode (mb 135) pc = .ok (i, k) ∧ (k = ilen i ∨ ilen i = 0) := by
  have hlt : pc < 157 := by
    unfold ft_135 at h
    exact bt_c h (fun q _ => q) (fun _ q => by cases q)
  by_cases q0 : pc < 100
  · exact dchk_ok dk_135_0 (by omega) (by omega) h
  exact dchk_ok dk_135_1 (by omega) (by omega) h
theorem fo_136 {pc : Nat} {i : Instr} (h : ft_136 pc = some i) : ∃ k, decode (mb 136) pc = .ok (i, k) ∧ (k = ilen i ∨ ilen i = 0) := by
  have hlt : pc < 84 := by
    unfold ft_136 at h
    exact bt_c h (fun q _ => q) (fun _ q => by cases q)
  exact dchk_ok dk_136_0 (Nat.zero_le _) (by omega) h
theorem fo_137 {pc : Nat} {i : Instr} (h : ft_137 pc = some i) : ∃ k, decode (mb 137) pc = .ok (i, k) ∧ (k = ilen i ∨ ilen i = 0) := by
  have hlt : pc < 53 := by
    unfold ft_137 at h
    exact bt_c h (fun q _ => q) (fun _ q => by cases q)
  exact dchk_ok dk_137_0 (Nat.zero_le _) (by omega) h
theorem fo_138 {pc : Nat} {i : Instr} (h : ft_138 pc = some i) : ∃ k, decode (mb 138) pc = .ok (i, k) ∧ (k = ilen i ∨ ilen i = 0) := by
  have hlt : pc < 94 := by
    unfold ft_138 at h
    exact bt_c h (fun q _ => q) (fun _ q => by cases q)
  exact dchk_ok dk_138_0 (Nat.zero_le _) (by omega) h
theorem fo_139 {pc : Nat} {i : Instr} (h : ft_139 pc = some i) : ∃ k, decode (mb 139) pc = .ok (i, k) ∧ (k = ilen i ∨ ilen i = 0) := by
  have hlt : pc < 35 := by
    unfold ft_139 at h
    exact bt_c h (fun q _ => q) (fun _ q => by cases q)
  exact dchk_ok dk_139_0 (Nat.zero_le _) (by omega) h
theorem fo_140 {pc : Nat} {i : Instr} (h : ft_140 pc = some i) : ∃ k, decode (mb 140) pc = .ok (i, k) ∧ (k = ilen i ∨ ilen i = 0) := by
  have hlt : pc < 18 := by
    unfold ft_140 at h
    exact bt_c h (fun q _ => q) (fun _ q => by cases q)
  exact dchk_ok dk_140_0 (Nat.zero_le _) (by omega) h
theorem fo_141 {pc : Nat} {i : Instr} (h : ft_141 pc = some i) : ∃ k, decode (mb 141) pc = .ok (i, k) ∧ (k = ilen i ∨ ilen i = 0) := by
  have hlt : pc < 101 := by
    unfold ft_141 at h
    exact bt_c h (fun q _ => q) (fun _ q => by cases q)
  by_cases q0 : pc < 100
  · exact dchk_ok dk_141_0 (by omega) (by omega) h
  exact dchk_ok dk_141_1 (by omega) (by omega) h
theorem fo_142 {pc : Nat} {i : Instr} (h : ft_142 pc = some i) : ∃ k, decode (mb 142) pc = .ok (i, k) ∧ (k = ilen i ∨ ilen i = 0) := by
  have hlt : pc < 18 := by
    unfold ft_142 at h
    exact bt_c h (fun q _ => q) (fun _ q => by cases q)
  exact dchk_ok dk_142_0 (Nat.zero_le _) (by omega) h
theorem fo_143 {pc : Nat} {i : Instr} (h : ft_143 pc = some i) : ∃ k, decode (mb 143) pc = .ok (i, k) ∧ (k = ilen i ∨ ilen i = 0) := by
  have hlt : pc < 18 := by
    unfold ft_143 at h
    exact bt_c h (fun q _ => q) (fun _ q => by cases q)
  exact dchk_ok dk_143_0 (Nat.zero_le _) (by omega) h
theorem fo_144 {pc : Nat} {i : Instr} (h : ft_144 pc = some i) : ∃ k, decode (mb 144) pc = .ok (i, k) ∧ (k = ilen i ∨ ilen i = 0) := by
  have hlt : pc < 120 := by
    unfold ft_144 at h
    exact bt_c h (fun q _ => q) (fun _ q => by cases q)
  by_cases q0 : pc < 100
  · exact dchk_ok dk_144_0 (by omega) (by omega) h
  exact dchk_ok dk_144_1 (by omega) (by omega) h
theorem fo_145 {pc : Nat} {i : Instr} (h : ft_145 pc = some i) : ∃ k, decode (mb 145) pc = .ok (i, k) ∧ (k = ilen i ∨ ilen i = 0) := by
  have hlt : pc < 144 := by
    unfold ft_145 at h
    exact bt_c h (fun q _ => q) (fun _ q => by cases q)
  by_cases q0 : pc < 100
  · exact dchk_ok dk_145_0 (by omega) (by omega) h
  exact dchk_ok dk_145_1 (by omega) (by omega) h
theorem fo_146 {pc : Nat} {i : Instr} (h : ft_146 pc = some i) : ∃ k, decode (mb 146) pc = .ok (i, k) ∧ (k = ilen i ∨ ilen i = 0) := by
  have hlt : pc < 57 := by
    unfold ft_146 at h
    exact bt_c h (fun q _ => q) (fun _ q => by cases q)
  exact dchk_ok dk_146_0 (Nat.zero_le _) (by omega) h
theorem fo_147 {pc : Nat} {i : Instr} (h : ft_147 pc = some i) : ∃ k, decode (mb 147) pc = .ok (i, k) ∧ (k = ilen i ∨ ilen i = 0) := by
  have hlt : pc < 33 := by
    unfold ft_147 at h
    exact bt_c h (fun q _ => q) (fun _ q => by cases q)
  exact dchk_ok dk_147_0 (Nat.zero_le _) (by omega) h
theorem fo_148 {pc : Nat} {i : Instr} (h : ft_148 pc = some i) : ∃ k, decode (mb 148) pc = .ok (i, k) ∧ (k = ilen i ∨ ilen i = 0) := by
  have hlt : pc < 46 := by
    unfold ft_148 at h
    exact bt_c h (fun q _ => q) (fun _ q => by cases q)
  exact dchk_ok dk_148_0 (Nat.zero_le _) (by omega) h
theorem fo_149 {pc : Nat} {i : Instr} (h : ft_149 pc = some i) : ∃ k, decode (mb 149) pc = .ok (i, k) ∧ (k = ilen i ∨ ilen i = 0) := by
  have hlt : pc < 33 := by
    unfold ft_149 at h
    exact bt_c h (fun q _ => q) (fun _ q => by cases q)
  exact dchk_ok dk_149_0 (Nat.zero_le _) (by omega) h
theorem fo_150 {pc : Nat} {i : Instr} (h : ft_150 pc = some i) : ∃ k, decode (mb 150) pc = .ok (i, k) ∧ (k = ilen i ∨ ilen i = 0) := by
  have hlt : pc < 41 := by
    unfold ft_150 at h
    exact bt_c h (fun q _ => q) (fun _ q => by cases q)
  exact dchk_ok dk_150_0 (Nat.zero_le _) (by omega) h
theorem fo_151 {pc : Nat} {i : Instr} (h : ft_151 pc = some i) : ∃ k, decode (mb 151) pc = .ok (i, k) ∧ (k = ilen i ∨ ilen i = 0) := by
  have hlt : pc < 96 := by
    unfold ft_151 at h
    exact bt_c h (fun q _ => q) (fun _ q => by cases q)
  exact dchk_ok dk_151_0 (Nat.zero_le _) (by omega) h
theorem fo_152 {pc : Nat} {i : Instr} (h : ft_152 pc = some i) : ∃ k, decode (mb 152) pc = .ok (i, k) ∧ (k = ilen i ∨ ilen i = 0) := by
  have hlt : pc < 38 := by
    unfold ft_152 at h
    exact bt_c h (fun q _ => q) (fun _ q => by cases q)
  exact dchk_ok dk_152_0 (Nat.zero_le _) (by omega) h
theorem fo_153 {pc : Nat} {i : Instr} (h : ft_153 pc = some i) : ∃ k, decode (mb 153) pc = .ok (i, k) ∧ (k = ilen i ∨ ilen i = 0) := by
  have hlt : pc < 71 := by
    unfold ft_153 at h
    exact bt_c h (fun q _ => q) (fun _ q => by cases q)
  exact dchk_ok dk_153_0 (Nat.zero_le _) (by omega) h
theorem fo_154 {pc : Nat} {i : Instr} (h : ft_154 pc = some i) : ∃ k, decode (mb 154) pc = .ok (i, k) ∧ (k = ilen i ∨ ilen i = 0) := by
  have hlt : pc < 165 := by
    unfold ft_154 at h
    exact bt_c h (fun q _ => q) (fun _ q => by cases q)
  by_cases q0 : pc < 100
  · exact dchk_ok dk_154_0 (by omega) (by omega) h
  exact dchk_ok dk_154_1 (by omega) (by omega) h
theorem fo_155 {pc : Nat} {i : Instr} (h : ft_155 pc = some i) : ∃ k, decode (mb 155) pc = .ok (i, k) ∧ (k = ilen i ∨ ilen i = 0) := by
  have hlt : pc < 69 := by
    unfold ft_155 at h
    exact bt_c h (fun q _ => q) (fun _ q => by cases q)
  exact dchk_ok dk_155_0 (Nat.zero_le _) (by omega) h
theorem fo_156 {pc : Nat} {i : Instr} (h : ft_156 pc = some i) : ∃ k, decode (mb 156) pc = .ok (i, k) ∧ (k = ilen i ∨ ilen i = 0) := by
  have hlt : pc < 35 := by
    unfold ft_156 at h
    exact bt_c h (fun q _ => q) (fun _ q => by cases q)
  exact dchk_ok dk_156_0 (Nat.zero_le _) (by omega) h
theorem fo_157 {pc : Nat} {i : Instr} (h : ft_157 pc = some i) : ∃ k, decode (mb 157) pc = .ok (i, k) ∧ (k = ilen i ∨ ilen i = 0) := by
  have hlt : pc < 68 := by
    unfold ft_157 at h
    exact bt_c h (fun q _ => q) (fun _ q => by cases q)
  exact dchk_ok dk_157_0 (Nat.zero_le _) (by omega) h
theorem fo_158 {pc : Nat} {i : Instr} (h : ft_158 pc = some i) : ∃ k, decode (mb 158) pc = .ok (i, k) ∧ (k = ilen i ∨ ilen i = 0) := by
  have hlt : pc < 87 := by
    unfold ft_158 at h
    exact bt_c h (fun q _ => q) (fun _ q => by cases q)
  exact dchk_ok dk_158_0 (Nat.zero_le _) (by omega) h
theorem fo_159 {pc : Nat} {i : Instr} (h : ft_159 pc = some i) : ∃ k, decode (mb 159) pc = .ok (i, k) ∧ (k = ilen i ∨ ilen i = 0) := by
  have hlt : pc < 11 := by
    unfold ft_159 at h
    exact bt_c h (fun q _ => q) (fun _ q => by cases q)
  exact dchk_ok dk_159_0 (Nat.zero_le _) (by omega) h
theorem fo_160 {pc : Nat} {i : Instr} (h : ft_160 pc = some i) : ∃ k, decode (mb 160) pc = .ok (i, k) ∧ (k = ilen i ∨ ilen i = 0) := by
  have hlt : pc < 54 := by
    unfold ft_160 at h
    exact bt_c h (fun q _ => q) (fun _ q => by cases q)
  exact dchk_ok dk_160_0 (Nat.zero_le _) (by omega) h
theorem fo_161 {pc : Nat} {i : Instr} (h : ft_161 pc = some i) : ∃ k, decode (mb 161) pc = .ok (i, k) ∧ (k = ilen i ∨ ilen i = 0) := by
  have hlt : pc < 680 := by
    unfold ft_161 at h
    exact bt_c h (fun q _ => q) (fun _ q => by cases q)
  by_cases q0 : pc < 100
  · exact dchk_ok dk_161_0 (by omega) (by omega) h
  by_cases q1 : pc < 200
  · exact dchk_ok dk_161_1 (by omega) (by omega) h
  by_cases q2 : pc < 300
  · exact dchk_ok dk_161_2 (by omega) (by omega) h
  by_cases q3 : pc < 400
  · exact dchk_ok dk_161_3 (by omega) (by omega) h
  by_cases q4 : pc < 500
  · exact dchk_ok dk_161_4 (by omega) (by omega) h
  by_cases q5 : pc < 600
  · exact dchk_ok dk_161_5 (by omega) (by omega) h
  exact dchk_ok dk_161_6 (by omega) (by omega) h
theorem fo_162 {pc : Nat} {i : Instr} (h : ft_162 pc = some i) : ∃ k, decode (mb 162) pc = .ok (i, k) ∧ (k = ilen i ∨ ilen i = 0) := by
  have hlt : pc < 50 := by
    unfold ft_162 at h
    exact bt_c h (fun q _ => q) (fun _ q => by cases q)
  exact dchk_ok dk_162_0 (Nat.zero_le _) (by omega) h
theorem fo_163 {pc : Nat} {i : Instr} (h : ft_163 pc = some i) : ∃ k, decode (mb 163) pc = .ok (i, k) ∧ (k = ilen i ∨ ilen i = 0) := by
  have hlt : pc < 46 := by
    unfold ft_163 at h
    exact bt_c h (fun q _ => q) (fun _ q => by cases q)
  exact dchk_ok dk_163_0 (Nat.zero_le _) (by omega) h
theorem fo_164 {pc : Nat} {i : Instr} (h : ft_164 pc = some i) : ∃ k, decode (mb 164) pc = .ok (i, k) ∧ (k = ilen i ∨ ilen i = 0) := by
  have hlt : pc < 46 := by
    unfold ft_164 at h
    exact bt_c h (fun q _ => q) (fun _ q => by cases q)
  exact dchk_ok dk_164_0 (Nat.zero_le _) (by omega) h
theorem fo_165 {pc : Nat} {i : Instr} (h : ft_165 pc = some i) : ∃ k, decode (mb 165) pc = .ok (i, k) ∧ (k = ilen i ∨ ilen i = 0) := by
  have hlt : pc < 75 := by
    unfold ft_165 at h
    exact bt_c h (fun q _ => q) (fun _ q => by cases q)
  exact dchk_ok dk_165_0 (Nat.zero_le _) (by omega) h
theorem fo_166 {pc : Nat} {i : Instr} (h : ft_166 pc = some i) : ∃ k, decode (mb 166) pc = .ok (i, k) ∧ (k = ilen i ∨ ilen i = 0) := by
  have hlt : pc < 36 := by
    unfold ft_166 at h
    exact bt_c h (fun q _ => q) (fun _ q => by cases q)
  exact dchk_ok dk_166_0 (Nat.zero_le _) (by omega) h
theorem fo_167 {pc : Nat} {i : Instr} (h : ft_167 pc = some i) : ∃ k, decode (mb 167) pc = .ok (i, k) ∧ (k = ilen i ∨ ilen i = 0) := by
  have hlt : pc < 171 := by
    unfold ft_167 at h
    exact bt_c h (fun q _ => q) (fun _ q => by cases q)
  by_cases q0 : pc < 100
  · exact dchk_ok dk_167_0 (by omega) (by omega) h
  exact dchk_ok dk_167_1 (by omega) (by omega) h
theorem fo_168 {pc : Nat} {i : Instr} (h : ft_168 pc = some i) : ∃ k, decode (mb 168) pc = .ok (i, k) ∧ (k = ilen i ∨ ilen i = 0) := by
  have hlt : pc < 20 := by
    unfold ft_168 at h
    exact bt_c h (fun q _ => q) (fun _ q => by cases q)
  exact dchk_ok dk_168_0 (Nat.zero_le _) (by omega) h
theorem fo_169 {pc : Nat} {i : Instr} (h : ft_169 pc = some i) : ∃ k, decode (mb 169) pc = .ok (i, k) ∧ (k = ilen i ∨ ilen i = 0) := by
  have hlt : pc < 63 := by
    unfold ft_169 at h
    exact bt_c h (fun q _ => q) (fun _ q => by cases q)
  exact dchk_ok dk_169_0 (Nat.zero_le _) (by omega) h
theorem fo_170 {pc : Nat} {i : Instr} (h : ft_170 pc = some i) : ∃ k, decode (mb 170) pc = .ok (i, k) ∧ (k = ilen i ∨ ilen i = 0) := by
  have hlt : pc < 45 := by
    unfold ft_170 at h
    exact bt_c h (fun q _ => q) (fun _ q => by cases q)
  exact dchk_ok dk_170_0 (Nat.zero_le _) (by omega) h
theorem fo_171 {pc : Nat} {i : Instr} (h : ft_171 pc = some i) : ∃ k, decode (mb 171) pc = .ok (i, k) ∧ (k = ilen i ∨ ilen i = 0) := by
  have hlt : pc < 137 := by
    unfold ft_171 at h
    exact bt_c h (fun q _ => q) (fun _ q => by cases q)
  by_cases q0 : pc < 100
  · exact dchk_ok dk_171_0 (by omega) (by omega) h
  exact dchk_ok dk_171_1 (by omega) (by omega) h
theorem fo_172 {pc : Nat} {i : Instr} (h : ft_172 pc = some i) : ∃ k, decode (mb 172) pc = .ok (i, k) ∧ (k = ilen i ∨ ilen i = 0) := by
  have hlt : pc < 745 := by
    unfold ft_172 at h
    exact bt_c h (fun q _ => q) (fun _ q => by cases q)
  by_cases q0 : pc < 100
  · exact dchk_ok dk_172_0 (by omega) (by omega) h
  by_cases q1 : pc < 200
  · exact dchk_ok dk_172_1 (by omega) (by omega) h
  by_cases q2 : pc < 300
  · exact dchk_ok dk_172_2 (by omega) (by omega) h
  by_cases q3 : pc < 400
  · exact dchk_ok dk_172_3 (by omega) (by omega) h
  by_cases q4 : pc < 500
  · exact dchk_ok dk_172_4 (by omega) (by omega) h
  by_cases q5 : pc < 600
  · exact dchk_ok dk_172_5 (by omega) (by omega) h
  by_cases q6 : pc < 700
  · exact dchk_ok dk_172_6 (by omega) (by omega) h
  exact dchk_ok dk_172_7 (by omega) (by omega) h
theorem fo_173 {pc : Nat} {i : Instr} (h : ft_173 pc = some i) : ∃ k, decode (mb 173) pc = .ok (i, k) ∧ (k = ilen i ∨ ilen i = 0) := by
  have hlt : pc < 22 := by
    unfold ft_173 at h
    exact bt_c h (fun q _ => q) (fun _ q => by cases q)
  exact dchk_ok dk_173_0 (Nat.zero_le _) (by omega) h
theorem fo_174 {pc : Nat} {i : Instr} (h : ft_174 pc = some i) : ∃ k, decode (mb 174) pc = .ok (i, k) ∧ (k = ilen i ∨ ilen i = 0) := by
  have hlt : pc < 121 := by
    unfold ft_174 at h
    exact bt_c h (fun q _ => q) (fun _ q => by cases q)
  by_cases q0 : pc < 100
  · exact dchk_ok dk_174_0 (by omega) (by omega) h
  exact dchk_ok dk_174_1 (by omega) (by omega) h
theorem fo_175 {pc : Nat} {i : Instr} (h : ft_175 pc = some i) : ∃ k, decode (mb 175) pc = .ok (i, k) ∧ (k = ilen i ∨ ilen i = 0) := by
  have hlt : pc < 54 := by
    unfold ft_175 at h
    exact bt_c h (fun q _ => q) (fun _ q => by cases q)
  exact dchk_ok dk_175_0 (Nat.zero_le _) (by omega) h
theorem fo_176 {pc : Nat} {i : Instr} (h : ft_176 pc = some i) : ∃ k, decode (mb 176) pc = .ok (i, k) ∧ (k = ilen i ∨ ilen i = 0) := by
  have hlt : pc < 74 := by
    unfold ft_176 at h
    exact bt_c h (fun q _ => q) (fun _ q => by cases q)
  exact dchk_ok dk_176_0 (Nat.zero_le _) (by omega) h
theorem fo_177 {pc : Nat} {i : Instr} (h : ft_177 pc = some i) : ∃ k, decode (mb 177) pc = .ok (i, k) ∧ (k = ilen i ∨ ilen i = 0) := by
  have hlt : pc < 35 := by
    unfold ft_177 at h
    exact bt_c h (fun q _ => q) (fun _ q => by cases q)
  exact dchk_ok dk_177_0 (Nat.zero_le _) (by omega) h
theorem fo_178 {pc : Nat} {i : Instr} (h : ft_178 pc = some i) : ∃ k, decode (mb 178) pc = .ok (i, k) ∧ (k = ilen i ∨ ilen i = 0) := by
  have hlt : pc < 41 := by
    unfold ft_178 at h
    exact bt_c h (fun q _ => q) (fun _ q => by cases q)
  exact dchk_ok dk_178_0 (Nat.zero_le _) (by omega) h
theorem fo_179 {pc : Nat} {i : Instr} (h : ft_179 pc = some i) : ∃ k, decode (mb 179) pc = .ok (i, k) ∧ (k = ilen i ∨ ilen i = 0) := by
  have hlt : pc < 672 := by
    unfold ft_179 at h
    exact bt_c h (fun q _ => q) (fun _ q => by cases q)
  by_cases q0 : pc < 100
  · exact dchk_ok dk_179_0 (by omega) (by omega) h
  by_cases q1 : pc < 200
  · exact dchk_ok dk_179_1 (by omega) (by omega) h
  by_cases q2 : pc < 300
  · exact dchk_ok dk_179_2 (by omega) (by omega) h
  by_cases q3 : pc < 400
  · exact dchk_ok dk_179_3 (by omega) (by omega) h
  by_cases q4 : pc < 500
  · exact dchk_ok dk_179_4 (by omega) (by omega) h
  by_cases q5 : pc < 600
  · exact dchk_ok dk_179_5 (by omega) (by omega) h
  exact dchk_ok dk_179_6 (by omega) (by omega) h
theorem fo_180 {pc : Nat} {i : Instr} (h : ft_180 pc = some i) : ∃ k, decode (mb 180) pc = .ok (i, k) ∧ (k = ilen i ∨ ilen i = 0) := by
  have hlt : pc < 52 := by
    unfold ft_180 at h
    exact bt_c h (fun q _ => q) (fun _ q => by cases q)
  exact dchk_ok dk_180_0 (Nat.zero_le _) (by omega) h
theorem fo_181 {pc : Nat} {i : Instr} (h : ft_181 pc = some i) : ∃ k, decode (mb 181) pc = .ok (i, k) ∧ (k = ilen i ∨ ilen i = 0) := by
  have hlt : pc < 131 := by
    unfold ft_181 at h
    exact bt_c h (fun q _ => q) (fun _ q => by cases q)
  by_cases q0 : pc < 100
  · exact dchk_ok dk_181_0 (by omega) (by omega) h
  exact dchk_ok dk_181_1 (by omega) (by omega) h
theorem fo_182 {pc : Nat} {i : Instr} (h : ft_182 pc = some i) : ∃ k, decode (mb 182) pc = .ok (i, k) ∧ (k = ilen i ∨ ilen i = 0) := by
  have hlt : pc < 55 := by
    unfold ft_182 at h
    exact bt_c h (fun q _ => q) (fun _ q => by cases q)
  exact dchk_ok dk_182_0 (Nat.zero_le _) (by omega) h
theorem fo_183 {pc : Nat} {i : Instr} (h : ft_183 pc = some i) : ∃ k, decode (mb 183) pc = .ok (i, k) ∧ (k = ilen i ∨ ilen i = 0) := by
  have hlt : pc < 301 := by
    unfold ft_183 at h
    exact bt_c h (fun q _ => q) (fun _ q => by cases q)
  by_cases q0 : pc < 100
  · exact dchk_ok dk_183_0 (by omega) (by omega) h
  by_cases q1 : pc < 200
  · exact dchk_ok dk_183_1 (by omega) (by omega) h
  by_cases q2 : pc < 300
  · exact dchk_ok dk_183_2 (by omega) (by omega) h
  exact dchk_ok dk_183_3 (by omega) (by omega) h
theorem fo_184 {pc : Nat} {i : Instr} (h : ft_184 pc = some i) : ∃ k, decode (mb 184) pc = .ok (i, k) ∧ (k = ilen i ∨ ilen i = 0) := by
  have hlt : pc < 26 := by
    unfold ft_184 at h
    exact bt_c h (fun q _ => q) (fun _ q => by cases q)
  exact dchk_ok dk_184_0 (Nat.zero_le _) (by omega) h
theorem fo_185 {pc : Nat} {i : Instr} (h : ft_185 pc = some i) : ∃ k, decode (mb 185) pc = .ok (i, k) ∧ (k = ilen i ∨ ilen i = 0) := by
  have hlt : pc < 11 := by
    unfold ft_185 at h
    exact bt_c h (fun q _ => q) (fun _ q => by cases q)
  exact dchk_ok dk_185_0 (Nat.zero_le _) (by omega) h
theorem fo_186 {pc : Nat} {i : Instr} (h : ft_186 pc = some i) : ∃ k, decode (mb 186) pc = .ok (i, k) ∧ (k = ilen i ∨ ilen i = 0) := by
  have hlt : pc < 15 := by
    unfold ft_186 at h
    exact bt_c h (fun q _ => q) (fun _ q => by cases q)
  exact dchk_ok dk_186_0 (Nat.zero_le _) (by omega) h
theorem fo_187 {pc : Nat} {i : Instr} (h : ft_187 pc = some i) : ∃ k, decode (mb 187) pc = .ok (i, k) ∧ (k = ilen i ∨ ilen i = 0) := by
  have hlt : pc < 44 := by
    unfold ft_187 at h
    exact bt_c h (fun q _ => q) (fun _ q => by cases q)
  exact dchk_ok dk_187_0 (Nat.zero_le _) (by omega) h
theorem fo_188 {pc : Nat} {i : Instr} (h : ft_188 pc = some i) : ∃ k, decode (mb 188) pc = .ok (i, k) ∧ (k = ilen i ∨ ilen i = 0) := by
  have hlt : pc < 7 := by
    unfold ft_188 at h
    exact bt_c h (fun q _ => q) (fun _ q => by cases q)
  exact dchk_ok dk_188_0 (Nat.zero_le _) (by omega) h
theorem fo_189 {pc : Nat} {i : Instr} (h : ft_189 pc = some i) : ∃ k, decode (mb 189) pc = .ok (i, k) ∧ (k = ilen i ∨ ilen i = 0) := by
  have hlt : pc < 98 := by
    unfold ft_189 at h
    exact bt_c h (fun q _ => q) (fun _ q => by cases q)
  exact dchk_ok dk_189_0 (Nat.zero_le _) (by omega) h
theorem fo_190 {pc : Nat} {i : Instr} (h : ft_190 pc = some i) : ∃ k, decode (mb 190) pc = .ok (i, k) ∧ (k = ilen i ∨ ilen i = 0) := by
  have hlt : pc < 10 := by
    unfold ft_190 at h
    exact bt_c h (fun q _ => q) (fun _ q => by cases q)
  exact dchk_ok dk_190_0 (Nat.zero_le _) (by omega) h
theorem fo_191 {pc : Nat} {i : Instr} (h : ft_191 pc = some i) : ∃ k, decode (mb 191) pc = .ok (i, k) ∧ (k = ilen i ∨ ilen i = 0) := by
  have hlt : pc < 25 := by
    unfold ft_191 at h
    exact bt_c h (fun q _ => q) (fun _ q => by cases q)
  exact dchk_ok dk_191_0 (Nat.zero_le _) (by omega) h
theorem fo_192 {pc : Nat} {i : Instr} (h : ft_192 pc = some i) : ∃ k, decode (mb 192) pc = .ok (i, k) ∧ (k = ilen i ∨ ilen i = 0) := by
  have hlt : pc < 19 := by
    unfold ft_192 at h
    exact bt_c h (fun q _ => q) (fun _ q => by cases q)
  exact dchk_ok dk_192_0 (Nat.zero_le _) (by omega) h
theorem fo_193 {pc : Nat} {i : Instr} (h : ft_193 pc = some i) : ∃ k, decode (mb 193) pc = .ok (i, k) ∧ (k = ilen i ∨ ilen i = 0) := by
  have hlt : pc < 7 := by
    unfold ft_193 at h
    exact bt_c h (fun q _ => q) (fun _ q => by cases q)
  exact dchk_ok dk_193_0 (Nat.zero_le _) (by omega) h
theorem fo_194 {pc : Nat} {i : Instr} (h : ft_194 pc = some i) : ∃ k, decode (mb 194) pc = .ok (i, k) ∧ (k = ilen i ∨ ilen i = 0) := by
  have hlt : pc < 8 := by
    unfold ft_194 at h
    exact bt_c h (fun q _ => q) (fun _ q => by cases q)
  exact dchk_ok dk_194_0 (Nat.zero_le _) (by omega) h
theorem fo_195 {pc : Nat} {i : Instr} (h : ft_195 pc = some i) : ∃ k, decode (mb 195) pc = .ok (i, k) ∧ (k = ilen i ∨ ilen i = 0) := by
  have hlt : pc < 9 := by
    unfold ft_195 at h
    exact bt_c h (fun q _ => q) (fun _ q => by cases q)
  exact dchk_ok dk_195_0 (Nat.zero_le _) (by omega) h
theorem fo_196 {pc : Nat} {i : Instr} (h : ft_196 pc = some i) : ∃ k, decode (mb 196) pc = .ok (i, k) ∧ (k = ilen i ∨ ilen i = 0) := by
  have hlt : pc < 5 := by
    unfold ft_196 at h
    exact bt_c h (fun q _ => q) (fun _ q => by cases q)
  exact dchk_ok dk_196_0 (Nat.zero_le _) (by omega) h
theorem fo_197 {pc : Nat} {i : Instr} (h : ft_197 pc = some i) : ∃ k, decode (mb 197) pc = .ok (i, k) ∧ (k = ilen i ∨ ilen i = 0) := by
  have hlt : pc < 8 := by
    unfold ft_197 at h
    exact bt_c h (fun q _ => q) (fun _ q => by cases q)
  exact dchk_ok dk_197_0 (Nat.zero_le _) (by omega) h
theorem fo_198 {pc : Nat} {i : Instr} (h : ft_198 pc = some i) : ∃ k, decode (mb 198) pc = .ok (i, k) ∧ (k = ilen i ∨ ilen i = 0) := by
  have hlt : pc < 8 := by
    unfold ft_198 at h
    exact bt_c h (fun q _ => q) (fun _ q => by cases q)
  exact dchk_ok dk_198_0 (Nat.zero_le _) (by omega) h
theorem fo_199 {pc : Nat} {i : Instr} (h : ft_199 pc = some i) : ∃ k, decode (mb 199) pc = .ok (i, k) ∧ (k = ilen i ∨ ilen i = 0) := by
  have hlt : pc < 39 := by
    unfold ft_199 at h
    exact bt_c h (fun q _ => q) (fun _ q => by cases q)
  exact dchk_ok dk_199_0 (Nat.zero_le _) (by omega) h
theorem fo_200 {pc : Nat} {i : Instr} (h : ft_200 pc = some i) : ∃ k, decode (mb 200) pc = .ok (i, k) ∧ (k = ilen i ∨ ilen i = 0) := by
  have hlt : pc < 45 := by
    unfold ft_200 at h
    exact bt_c h (fun q _ => q) (fun _ q => by cases q)
  exact dchk_ok dk_200_0 (Nat.zero_le _) (by omega) h
theorem fo_201 {pc : Nat} {i : Instr} (h : ft_201 pc = some i) : ∃ k, decode (mb 201) pc = .ok (i, k) ∧ (k = ilen i ∨ ilen i = 0) := by
  have hlt : pc < 39 := by
    unfold ft_201 at h
    exact bt_c h (fun q _ => q) (fun _ q => by cases q)
  exact dchk_ok dk_201_0 (Nat.zero_le _) (by omega) h
theorem fo_202 {pc : Nat} {i : Instr} (h : ft_202 pc = some i) : ∃ k, decode (mb 202) pc = .ok (i, k) ∧ (k = ilen i ∨ ilen i = 0) := by
  have hlt : pc < 59 := by
    unfold ft_202 at h
    exact bt_c h (fun q _ => q) (fun _ q => by cases q)
  exact dchk_ok dk_202_0 (Nat.zero_le _) (by omega) h
theorem fo_203 {pc : Nat} {i : Instr} (h : ft_203 pc = some i) : ∃ k, decode (mb 203) pc = .ok (i, k) ∧ (k = ilen i ∨ ilen i = 0) := by
  have hlt : pc < 19 := by
    unfold ft_203 at h
    exact bt_c h (fun q _ => q) (fun _ q => by cases q)
  exact dchk_ok dk_203_0 (Nat.zero_le _) (by omega) h
theorem fo_204 {pc : Nat} {i : Instr} (h : ft_204 pc = some i) : ∃ k, decode (mb 204) pc = .ok (i, k) ∧ (k = ilen i ∨ ilen i = 0) := by
  have hlt : pc < 19 := by
    unfold ft_204 at h
    exact bt_c h (fun q _ => q) (fun _ q => by cases q)
  exact dchk_ok dk_204_0 (Nat.zero_le _) (by omega) h
theorem fo_205 {pc : Nat} {i : Instr} (h : ft_205 pc = some i) : ∃ k, decode (mb 205) pc = .ok (i, k) ∧ (k = ilen i ∨ ilen i = 0) := by
  have hlt : pc < 22 := by
    unfold ft_205 at h
    exact bt_c h (fun q _ => q) (fun _ q => by cases q)
  exact dchk_ok dk_205_0 (Nat.zero_le _) (by omega) h
theorem fo_206 {pc : Nat} {i : Instr} (h : ft_206 pc = some i) : ∃ k, decode (mb 206) pc = .ok (i, k) ∧ (k = ilen i ∨ ilen i = 0) := by
  have hlt : pc < 5 := by
    unfold ft_206 at h
    exact bt_c h (fun q _ => q) (fun _ q => by cases q)
  exact dchk_ok dk_206_0 (Nat.zero_le _) (by omega) h
theorem fo_207 {pc : Nat} {i : Instr} (h : ft_207 pc = some i) : ∃ k, decode (mb 207) pc = .ok (i, k) ∧ (k = ilen i ∨ ilen i = 0) := by
  have hlt : pc < 5 := by
    unfold ft_207 at h
    exact bt_c h (fun q _ => q) (fun _ q => by cases q)
  exact dchk_ok dk_207_0 (Nat.zero_le _) (by omega) h
theorem fo_208 {pc : Nat} {i : Instr} (h : ft_208 pc = some i) : ∃ k, decode (mb 208) pc = .ok (i, k) ∧ (k = ilen i ∨ ilen i = 0) := by
  have hlt : pc < 55 := by
    unfold ft_208 at h
    exact bt_c h (fun q _ => q) (fun _ q => by cases q)
  exact dchk_ok dk_208_0 (Nat.zero_le _) (by omega) h
theorem fo_209 {pc : Nat} {i : Instr} (h : ft_209 pc = some i) : ∃ k, decode (mb 209) pc = .ok (i, k) ∧ (k = ilen i ∨ ilen i = 0) := by
  have hlt : pc < 77 := by
    unfold ft_209 at h
    exact bt_c h (fun q _ => q) (fun _ q => by cases q)
  exact dchk_ok dk_209_0 (Nat.zero_le _) (by omega) h
theorem fo_210 {pc : Nat} {i : Instr} (h : ft_210 pc = some i) : ∃ k, decode (mb 210) pc = .ok (i, k) ∧ (k = ilen i ∨ ilen i = 0) := by
  have hlt : pc < 13 := by
    unfold ft_210 at h
    exact bt_c h (fun q _ => q) (fun _ q => by cases q)
  exact dchk_ok dk_210_0 (Nat.zero_le _) (by omega) h
theorem fo_211 {pc : Nat} {i : Instr} (h : ft_211 pc = some i) : ∃ k, decode (mb 211) pc = .ok (i, k) ∧ (k = ilen i ∨ ilen i = 0) := by
  have hlt : pc < 15 := by
    unfold ft_211 at h
    exact bt_c h (fun q _ => q) (fun _ q => by cases q)
  exact dchk_ok dk_211_0 (Nat.zero_le _) (by omega) h
theorem fo_212 {pc : Nat} {i : Instr} (h : ft_212 pc = some i) : ∃ k, decode (mb 212) pc = .ok (i, k) ∧ (k = ilen i ∨ ilen i = 0) := by
  have hlt : pc < 18 := by
    unfold ft_212 at h
    exact bt_c h (fun q _ => q) (fun _ q => by cases q)
  exact dchk_ok dk_212_0 (Nat.zero_le _) (by omega) h
theorem fo_213 {pc : Nat} {i : Instr} (h : ft_213 pc = some i) : ∃ k, decode (mb 213) pc = .ok (i, k) ∧ (k = ilen i ∨ ilen i = 0) := by
  have hlt : pc < 5 := by
    unfold ft_213 at h
    exact bt_c h (fun q _ => q) (fun _ q => by cases q)
  exact dchk_ok dk_213_0 (Nat.zero_le _) (by omega) h
theorem fo_214 {pc : Nat} {i : Instr} (h : ft_214 pc = some i) : ∃ k, decode (mb 214) pc = .ok (i, k) ∧ (k = ilen i ∨ ilen i = 0) := by
  have hlt : pc < 53 := by
    unfold ft_214 at h
    exact bt_c h (fun q _ => q) (fun _ q => by cases q)
  exact dchk_ok dk_214_0 (Nat.zero_le _) (by omega) h
theorem fo_215 {pc : Nat} {i : Instr} (h : ft_215 pc = some i) : ∃ k, decode (mb 215) pc = .ok (i, k) ∧ (k = ilen i ∨ ilen i = 0) := by
  have hlt : pc < 47 := by
    unfold ft_215 at h
    exact bt_c h (fun q _ => q) (fun _ q => by cases q)
  exact dchk_ok dk_215_0 (Nat.zero_le _) (by omega) h
theorem fo_216 {pc : Nat} {i : Instr} (h : ft_216 pc = some i) : ∃ k, decode (mb 216) pc = .ok (i, k) ∧ (k = ilen i ∨ ilen i = 0) := by
  have hlt : pc < 121 := by
    unfold ft_216 at h
    exact bt_c h (fun q _ => q) (fun _ q => by cases q)
  by_cases q0 : pc < 100
  · exact dchk_ok dk_216_0 (by omega) (by omega) h
  exact dchk_ok dk_216_1 (by omega) (by omega) h
theorem fo_217 {pc : Nat} {i : Instr} (h : ft_217 pc = some i) : ∃ k, decode (mb 217) pc = .ok (i, k) ∧ (k = ilen i ∨ ilen i = 0) := by
  have hlt : pc < 11 := by
    unfold ft_217 at h
    exact bt_c h (fun q _ => q) (fun _ q => by cases q)
  exact dchk_ok dk_217_0 (Nat.zero_le _) (by omega) h
theorem fo_218 {pc : Nat} {i : Instr} (h : ft_218 pc = some i) : ∃ k, decode (mb 218) pc = .ok (i, k) ∧ (k = ilen i ∨ ilen i = 0) := by
  have hlt : pc < 11 := by
    unfold ft_218 at h
    exact bt_c h (fun q _ => q) (fun _ q => by cases q)
  exact dchk_ok dk_218_0 (Nat.zero_le _) (by omega) h
theorem fo_219 {pc : Nat} {i : Instr} (h : ft_219 pc = some i) : ∃ k, decode (mb 219) pc = .ok (i, k) ∧ (k = ilen i ∨ ilen i = 0) := by
  have hlt : pc < 33 := by
    unfold ft_219 at h
    exact bt_c h (fun q _ => q) (fun _ q => by cases q)
  exact dchk_ok dk_219_0 (Nat.zero_le _) (by omega) h
theorem fo_220 {pc : Nat} {i : Instr} (h : ft_220 pc = some i) : ∃ k, decode (mb 220) pc = .ok (i, k) ∧ (k = ilen i ∨ ilen i = 0) := by
  have hlt : pc < 33 := by
    unfold ft_220 at h
    exact bt_c h (fun q _ => q) (fun _ q => by cases q)
  exact dchk_ok dk_220_0 (Nat.zero_le _) (by omega) h
theorem fo_221 {pc : Nat} {i : Instr} (h : ft_221 pc = some i) : ∃ k, decode (mb 221) pc = .ok (i, k) ∧ (k = ilen i ∨ ilen i = 0) := by
  have hlt : pc < 25 := by
    unfold ft_221 at h
    exact bt_c h (fun q _ => q) (fun _ q => by cases q)
  exact dchk_ok dk_221_0 (Nat.zero_le _) (by omega) h
theorem fo_222 {pc : Nat} {i : Instr} (h : ft_222 pc = some i) : ∃ k, decode (mb 222) pc = .ok (i, k) ∧ (k = ilen i ∨ ilen i = 0) := by
  have hlt : pc < 33 := by
    unfold ft_222 at h
    exact bt_c h (fun q _ => q) (fun _ q => by cases q)
  exact dchk_ok dk_222_0 (Nat.zero_le _) (by omega) h
theorem fo_223 {pc : Nat} {i : Instr} (h : ft_223 pc = some i) : ∃ k, decode (mb 223) pc = .ok (i, k) ∧ (k = ilen i ∨ ilen i = 0) := by
  have hlt : pc < 38 := by
    unfold ft_223 at h
    exact bt_c h (fun q _ => q) (fun _ q => by cases q)
  exact dchk_ok dk_223_0 (Nat.zero_le _) (by omega) h
theorem fo_224 {pc : Nat} {i : Instr} (h : ft_224 pc = some i) : ∃ k, decode (mb 224) pc = .ok (i, k) ∧ (k = ilen i ∨ ilen i = 0) := by
  have hlt : pc < 27 := by
    unfold ft_224 at h
    exact bt_c h (fun q _ => q) (fun _ q => by cases q)
  exact dchk_ok dk_224_0 (Nat.zero_le _) (by omega) h
theorem fetch_ok {m pc : Nat} {i : Instr} (h : fetch m pc = some i) : ∃ k, decode (mb m) pc = .ok (i, k) ∧ (k = ilen i ∨ ilen i = 0) := by
  unfold fetch at h
  exact bt_c h (fun _ h => by cases h) (fun q99 h => bt_c h (fun q0 h => bt_c h (fun q1 h => bt_c h (fun q2 h => bt_c h (fun q3 h => bt_c h (fun q4 h => bt_c h (fun q5 h => bt_c h (fun q6 h => bt_c h (fun q h9 => by (have e : m = 25 := by omega); subst e; exact fo_25 h9) (fun q7 h => bt_c h (fun q h9 => by (have e : m = 26 := by omega); subst e; exact fo_26 h9) (fun q h9 => by (have e : m = 27 := by omega); subst e; exact fo_27 h9))) (fun q6 h => bt_c h (fun q h9 => by (have e : m = 28 := by omega); subst e; exact fo_28 h9) (fun q7 h => bt_c h (fun q h9 => by (have e : m = 29 := by omega); subst e; exact fo_29 h9) (fun q h9 => by (have e : m = 30 := by omega); subst e; exact fo_30 h9)))) (fun q5 h => bt_c h (fun q6 h => bt_c h (fun q h9 => by (have e : m = 31 := by omega); subst e; exact fo_31 h9) (fun q7 h => bt_c h (fun q h9 => by (have e : m = 32 := by omega); subst e; exact fo_32 h9) (fun q h9 => by (have e : m = 33 := by omega); subst e; exact fo_33 h9))) (fun q6 h => bt_c h (fun q h9 => by (have e : m = 34 := by omega); subst e; exact fo_34 h9) (fun q7 h => bt_c h (fun q h9 => by (have e : m = 35 := by omega); subst e; exact fo_35 h9) (fun q h9 => by (have e : m = 36 := by omega); subst e; exact fo_36 h9))))) (fun q4 h => bt_c h (fun q5 h => bt_c h (fun q6 h => bt_c h (fun q h9 => by (have e : m = 37 := by omega); subst e; exact fo_37 h9) (fun q7 h => bt_c h (fun q h9 => by (have e : m = 38 := by omega); subst e; exact fo_38 h9) (fun q h9 => by (have e : m = 39 := by omega); subst e; exact fo_39 h9))) (fun q6 h => bt_c h (fun q h9 => by (have e : m = 40 := by omega); subst e; exact fo_40 h9) (fun q7 h => bt_c h (fun q h9 => by (have e : m = 41 := by omega); subst e; exact fo_41 h9) (fun q h9 => by (have e : m = 42 := by omega); subst e; exact fo_42 h9)))) (fun q5 h => bt_c h (fun q6 h => bt_c h (fun q h9 => by (have e : m = 43 := by omega); subst e; exact fo_43 h9) (fun q7 h => bt_c h (fun q h9 => by (have e : m = 44 := by omega); subst e; exact fo_44 h9) (fun q h9 => by (have e : m = 45 := by omega); subst e; exact fo_45 h9))) (fun q6 h => bt_c h (fun q7 h => bt_c h (fun q h9 => by (have e : m = 46 := by omega); subst e; exact fo_46 h9) (fun q h9 => by (have e : m = 47 := by omega); subst e; exact fo_47 h9)) (fun q7 h => bt_c h (fun q h9 => by (have e : m = 48 := by omega); subst e; exact fo_48 h9) (fun q h9 => by (have e : m = 49 := by omega); subst e; exact fo_49 h9)))))) (fun q3 h => bt_c h (fun q4 h => bt_c h (fun q5 h => bt_c h (fun q6 h => bt_c h (fun q h9 => by (have e : m = 50 := by omega); subst e; exact fo_50 h9) (fun q7 h => bt_c h (fun q h9 => by (have e : m = 51 := by omega); subst e; exact fo_51 h9) (fun q h9 => by (have e : m = 52 := by omega); subst e; exact fo_52 h9))) (fun q6 h => bt_c h (fun q h9 => by (have e : m = 53 := by omega); subst e; exact fo_53 h9) (fun q7 h => bt_c h (fun q h9 => by (have e : m = 54 := by omega); subst e; exact fo_54 h9) (fun q h9 => by (have e : m = 55 := by omega); subst e; exact fo_55 h9)))) (fun q5 h => bt_c h (fun q6 h => bt_c h (fun q h9 => by (have e : m = 56 := by omega); subst e; exact fo_56 h9) (fun q7 h => bt_c h (fun q h9 => by (have e : m = 57 := by omega); subst e; exact fo_57 h9) (fun q h9 => by (have e : m = 58 := by omega); subst e; exact fo_58 h9))) (fun q6 h => bt_c h (fun q h9 => by (have e : m = 59 := by omega); subst e; exact fo_59 h9) (fun q7 h => bt_c h (fun q h9 => by (have e : m = 60 := by omega); subst e; exact fo_60 h9) (fun q h9 => by (have e : m = 61 := by omega); subst e; exact fo_61 h9))))) (fun q4 h => bt_c h (fun q5 h => bt_c h (fun q6 h => bt_c h (fun q h9 => by (have e : m = 62 := by omega); subst e; exact fo_62 h9) (fun q7 h => bt_c h (fun q h9 => by (have e : m = 63 := by omega); subst e; exact fo_63 h9) (fun q h9 => by (have e : m = 64 := by omega); subst e; exact fo_64 h9))) (fun q6 h => bt_c h (fun q h9 => by (have e : m = 65 := by omega); subst e; exact fo_65 h9) (fun q7 h => bt_c h (fun q h9 => by (have e : m = 66 := by omega); subst e; exact fo_66 h9) (fun q h9 => by (have e : m = 67 := by omega); subst e; exact fo_67 h9)))) (fun q5 h => bt_c h (fun q6 h => bt_c h (fun q h9 => by (have e : m = 68 := by omega); subst e; exact fo_68 h9) (fun q7 h => bt_c h (fun q h9 => by (have e : m = 69 := by omega); subst e; exact fo_69 h9) (fun q h9 => by (have e : m = 70 := by omega); subst e; exact fo_70 h9))) (fun q6 h => bt_c h (fun q7 h => bt_c h (fun q h9 => by (have e : m = 71 := by omega); subst e; exact fo_71 h9) (fun q h9 => by (have e : m = 72 := by omega); subst e; exact fo_72 h9)) (fun q7 h => bt_c h (fun q h9 => by (have e : m = 73 := by omega); subst e; exact fo_73 h9) (fun q h9 => by (have e : m = 74 := by omega); subst e; exact fo_74 h9))))))) (fun q2 h => bt_c h (fun q3 h => bt_c h (fun q4 h => bt_c h (fun q5 h => bt_c h (fun q6 h => bt_c h (fun q h9 => by (have e : m = 75 := by omega); subst e; exact fo_75 h9) (fun q7 h => bt_c h (fun q h9 => by (have e : m = 76 := by omega); subst e; exact fo_76 h9) (fun q h9 => by (have e : m = 77 := by omega); subst e; exact fo_77 h9))) (fun q6 h => bt_c h (fun q h9 => by (have e : m = 78 := by omega); subst e; exact fo_78 h9) (fun q7 h => bt_c h (fun q h9 => by (have e : m = 79 := by omega); subst e; exact fo_79 h9) (fun q h9 => by (have e : m = 80 := by omega); subst e; exact fo_80 h9)))) (fun q5 h => bt_c h (fun q6 h => bt_c h (fun q h9 => by (have e : m = 81 := by omega); subst e; exact fo_81 h9) (fun q7 h => bt_c h (fun q h9 => by (have e : m = 82 := by omega); subst e; exact fo_82 h9) (fun q h9 => by (have e : m = 83 := by omega); subst e; exact fo_83 h9))) (fun q6 h => bt_c h (fun q h9 => by (have e : m = 84 := by omega); subst e; exact fo_84 h9) (fun q7 h => bt_c h (fun q h9 => by (have e : m = 85 := by omega); subst e; exact fo_85 h9) (fun q h9 => by (have e : m = 86 := by omega); subst e; exact fo_86 h9))))) (fun q4 h => bt_c h (fun q5 h => bt_c h (fun q6 h => bt_c h (fun q h9 => by (have e : m = 87 := by omega); subst e; exact fo_87 h9) (fun q7 h => bt_c h (fun q h9 => by (have e : m = 88 := by omega); subst e; exact fo_88 h9) (fun q h9 => by (have e : m = 89 := by omega); subst e; exact fo_89 h9))) (fun q6 h => bt_c h (fun q h9 => by (have e : m = 90 := by omega); subst e; exact fo_90 h9) (fun q7 h => bt_c h (fun q h9 => by (have e : m = 91 := by omega); subst e; exact fo_91 h9) (fun q h9 => by (have e : m = 92 := by omega); subst e; exact fo_92 h9)))) (fun q5 h => bt_c h (fun q6 h => bt_c h (fun q h9 => by (have e : m = 93 := by omega); subst e; exact fo_93 h9) (fun q7 h => bt_c h (fun q h9 => by (have e : m = 94 := by omega); subst e; exact fo_94 h9) (fun q h9 => by (have e : m = 95 := by omega); subst e; exact fo_95 h9))) (fun q6 h => bt_c h (fun q7 h => bt_c h (fun q h9 => by (have e : m = 96 := by omega); subst e; exact fo_96 h9) (fun q h9 => by (have e : m = 97 := by omega); subst e; exact fo_97 h9)) (fun q7 h => bt_c h (fun q h9 => by (have e : m = 98 := by omega); subst e; exact fo_98 h9) (fun q h9 => by (have e : m = 99 := by omega); subst e; exact fo_99 h9)))))) (fun q3 h => bt_c h (fun q4 h => bt_c h (fun q5 h => bt_c h (fun q6 h => bt_c h (fun q h9 => by (have e : m = 100 := by omega); subst e; exact fo_100 h9) (fun q7 h => bt_c h (fun q h9 => by (have e : m = 101 := by omega); subst e; exact fo_101 h9) (fun q h9 => by (have e : m = 102 := by omega); subst e; exact fo_102 h9))) (fun q6 h => bt_c h (fun q h9 => by (have e : m = 103 := by omega); subst e; exact fo_103 h9) (fun q7 h => bt_c h (fun q h9 => by (have e : m = 104 := by omega); subst e; exact fo_104 h9) (fun q h9 => by (have e : m = 105 := by omega); subst e; exact fo_105 h9)))) (fun q5 h => bt_c h (fun q6 h => bt_c h (fun q h9 => by (have e : m = 106 := by omega); subst e; exact fo_106 h9) (fun q7 h => bt_c h (fun q h9 => by (have e : m = 107 := by omega); subst e; exact fo_107 h9) (fun q h9 => by (have e : m = 108 := by omega); subst e; exact fo_108 h9))) (fun q6 h => bt_c h (fun q h9 => by (have e : m = 109 := by omega); subst e; exact fo_109 h9) (fun q7 h => bt_c h (fun q h9 => by (have e : m = 110 := by omega); subst e; exact fo_110 h9) (fun q h9 => by (have e : m = 111 := by omega); subst e; exact fo_111 h9))))) (fun q4 h => bt_c h (fun q5 h => bt_c h (fun q6 h => bt_c h (fun q h9 => by (have e : m = 112 := by omega); subst e; exact fo_112 h9) (fun q7 h => bt_c h (fun q h9 => by (have e : m = 113 := by omega); subst e; exact fo_113 h9) (fun q h9 => by (have e : m = 114 := by omega); subst e; exact fo_114 h9))) (fun q6 h => bt_c h (fun q h9 => by (have e : m = 115 := by omega); subst e; exact fo_115 h9) (fun q7 h => bt_c h (fun q h9 => by (have e : m = 116 := by omega); subst e; exact fo_116 h9) (fun q h9 => by (have e : m = 117 := by omega); subst e; exact fo_117 h9)))) (fun q5 h => bt_c h (fun q6 h => bt_c h (fun q h9 => by (have e : m = 118 := by omega); subst e; exact fo_118 h9) (fun q7 h => bt_c h (fun q h9 => by (have e : m = 119 := by omega); subst e; exact fo_119 h9) (fun q h9 => by (have e : m = 120 := by omega); subst e; exact fo_120 h9))) (fun q6 h => bt_c h (fun q7 h => bt_c h (fun q h9 => by (have e : m = 121 := by omega); subst e; exact fo_121 h9) (fun q h9 => by (have e : m = 122 := by omega); subst e; exact fo_122 h9)) (fun q7 h => bt_c h (fun q h9 => by (have e : m = 123 := by omega); subst e; exact fo_123 h9) (fun q h9 => by (have e : m = 124 := by omega); subst e; exact fo_124 h9)))))))) (fun q1 h => bt_c h (fun q2 h => bt_c h (fun q3 h => bt_c h (fun q4 h => bt_c h (fun q5 h => bt_c h (fun q6 h => bt_c h (fun q h9 => by (have e : m = 125 := by omega); subst e; exact fo_125 h9) (fun q7 h => bt_c h (fun q h9 => by (have e : m = 126 := by omega); subst e; exact fo_126 h9) (fun q h9 => by (have e : m = 127 := by omega); subst e; exact fo_127 h9))) (fun q6 h => bt_c h (fun q h9 => by (have e : m = 128 := by omega); subst e; exact fo_128 h9) (fun q7 h => bt_c h (fun q h9 => by (have e : m = 129 := by omega); subst e; exact fo_129 h9) (fun q h9 => by (have e : m = 130 := by omega); subst e; exact fo_130 h9)))) (fun q5 h => bt_c h (fun q6 h => bt_c h (fun q h9 => by (have e : m = 131 := by omega); subst e; exact fo_131 h9) (fun q7 h => bt_c h (fun q h9 => by (have e : m = 132 := by omega); subst e; exact fo_132 h9) (fun q h9 => by (have e : m = 133 := by omega); subst e; exact fo_133 h9))) (fun q6 h => bt_c h (fun q h9 => by (have e : m = 134 := by omega); subst e; exact fo_134 h9) (fun q7 h => bt_c h (fun q h9 => by (have e : m = 135 := by omega); subst e; exact fo_135 h9) (fun q h9 => by (have e : m = 136 := by omega); subst e; exact fo_136 h9))))) (fun q4 h => bt_c h (fun q5 h => bt_c h (fun q6 h => bt_c h (fun q h9 => by (have e : m = 137 := by omega); subst e; exact fo_137 h9) (fun q7 h => bt_c h (fun q h9 => by (have e : m = 138 := by omega); subst e; exact fo_138 h9) (fun q h9 => by (have e : m = 139 := by omega); subst e; exact fo_139 h9))) (fun q6 h => bt_c h (fun q h9 => by (have e : m = 140 := by omega); subst e; exact fo_140 h9) (fun q7 h => bt_c h (fun q h9 => by (have e : m = 141 := by omega); subst e; exact fo_141 h9) (fun q h9 => by (have e : m = 142 := by omega); subst e; exact fo_142 h9)))) (fun q5 h => bt_c h (fun q6 h => bt_c h (fun q h9 => by (have e : m = 143 := by omega); subst e; exact fo_143 h9) (fun q7 h => bt_c h (fun q h9 => by (have e : m = 144 := by omega); subst e; exact fo_144 h9) (fun q h9 => by (have e : m = 145 := by omega); subst e; exact fo_145 h9))) (fun q6 h => bt_c h (fun q7 h => bt_c h (fun q h9 => by (have e : m = 146 := by omega); subst e; exact fo_146 h9) (fun q h9 => by (have e : m = 147 := by omega); subst e; exact fo_147 h9)) (fun q7 h => bt_c h (fun q h9 => by (have e : m = 148 := by omega); subst e; exact fo_148 h9) (fun q h9 => by (have e : m = 149 := by omega); subst e; exact fo_149 h9)))))) (fun q3 h => bt_c h (fun q4 h => bt_c h (fun q5 h => bt_c h (fun q6 h => bt_c h (fun q h9 => by (have e : m = 150 := by omega); subst e; exact fo_150 h9) (fun q7 h => bt_c h (fun q h9 => by (have e : m = 151 := by omega); subst e; exact fo_151 h9) (fun q h9 => by (have e : m = 152 := by omega); subst e; exact fo_152 h9))) (fun q6 h => bt_c h (fun q h9 => by (have e : m = 153 := by omega); subst e; exact fo_153 h9) (fun q7 h => bt_c h (fun q h9 => by (have e : m = 154 := by omega); subst e; exact fo_154 h9) (fun q h9 => by (have e : m = 155 := by omega); subst e; exact fo_155 h9)))) (fun q5 h => bt_c h (fun q6 h => bt_c h (fun q h9 => by (have e : m = 156 := by omega); subst e; exact fo_156 h9) (fun q7 h => bt_c h (fun q h9 => by (have e : m = 157 := by omega); subst e; exact fo_157 h9) (fun q h9 => by (have e : m = 158 := by omega); subst e; exact fo_158 h9))) (fun q6 h => bt_c h (fun q h9 => by (have e : m = 159 := by omega); subst e; exact fo_159 h9) (fun q7 h => bt_c h (fun q h9 => by (have e : m = 160 := by omega); subst e; exact fo_160 h9) (fun q h9 => by (have e : m = 161 := by omega); subst e; exact fo_161 h9))))) (fun q4 h => bt_c h (fun q5 h => bt_c h (fun q6 h => bt_c h (fun q h9 => by (have e : m = 162 := by omega); subst e; exact fo_162 h9) (fun q7 h => bt_c h (fun q h9 => by (have e : m = 163 := by omega); subst e; exact fo_163 h9) (fun q h9 => by (have e : m = 164 := by omega); subst e; exact fo_164 h9))) (fun q6 h => bt_c h (fun q h9 => by (have e : m = 165 := by omega); subst e; exact fo_165 h9) (fun q7 h => bt_c h (fun q h9 => by (have e : m = 166 := by omega); subst e; exact fo_166 h9) (fun q h9 => by (have e : m = 167 := by omega); subst e; exact fo_167 h9)))) (fun q5 h => bt_c h (fun q6 h => bt_c h (fun q h9 => by (have e : m = 168 := by omega); subst e; exact fo_168 h9) (fun q7 h => bt_c h (fun q h9 => by (have e : m = 169 := by omega); subst e; exact fo_169 h9) (fun q h9 => by (have e : m = 170 := by omega); subst e; exact fo_170 h9))) (fun q6 h => bt_c h (fun q7 h => bt_c h (fun q h9 => by (have e : m = 171 := by omega); subst e; exact fo_171 h9) (fun q h9 => by (have e : m = 172 := by omega); subst e; exact fo_172 h9)) (fun q7 h => bt_c h (fun q h9 => by (have e : m = 173 := by omega); subst e; exact fo_173 h9) (fun q h9 => by (have e : m = 174 := by omega); subst e; exact fo_174 h9))))))) (fun q2 h => bt_c h (fun q3 h => bt_c h (fun q4 h => bt_c h (fun q5 h => bt_c h (fun q6 h => bt_c h (fun q h9 => by (have e : m = 175 := by omega); subst e; exact fo_175 h9) (fun q7 h => bt_c h (fun q h9 => by (have e : m = 176 := by omega); subst e; exact fo_176 h9) (fun q h9 => by (have e : m = 177 := by omega); subst e; exact fo_177 h9))) (fun q6 h => bt_c h (fun q h9 => by (have e : m = 178 := by omega); subst e; exact fo_178 h9) (fun q7 h => bt_c h (fun q h9 => by (have e : m = 179 := by omega); subst e; exact fo_179 h9) (fun q h9 => by (have e : m = 180 := by omega); subst e; exact fo_180 h9)))) (fun q5 h => bt_c h (fun q6 h => bt_c h (fun q h9 => by (have e : m = 181 := by omega); subst e; exact fo_181 h9) (fun q7 h => bt_c h (fun q h9 => by (have e : m = 182 := by omega); subst e; exact fo_182 h9) (fun q h9 => by (have e : m = 183 := by omega); subst e; exact fo_183 h9))) (fun q6 h => bt_c h (fun q h9 => by (have e : m = 184 := by omega); subst e; exact fo_184 h9) (fun q7 h => bt_c h (fun q h9 => by (have e : m = 185 := by omega); subst e; exact fo_185 h9) (fun q h9 => by (have e : m = 186 := by omega); subst e; exact fo_186 h9))))) (fun q4 h => bt_c h (fun q5 h => bt_c h (fun q6 h => bt_c h (fun q h9 => by (have e : m = 187 := by omega); subst e; exact fo_187 h9) (fun q7 h => bt_c h (fun q h9 => by (have e : m = 188 := by omega); subst e; exact fo_188 h9) (fun q h9 => by (have e : m = 189 := by omega); subst e; exact fo_189 h9))) (fun q6 h => bt_c h (fun q h9 => by (have e : m = 190 := by omega); subst e; exact fo_190 h9) (fun q7 h => bt_c h (fun q h9 => by (have e : m = 191 := by omega); subst e; exact fo_191 h9) (fun q h9 => by (have e : m = 192 := by omega); subst e; exact fo_192 h9)))) (fun q5 h => bt_c h (fun q6 h => bt_c h (fun q h9 => by (have e : m = 193 := by omega); subst e; exact fo_193 h9) (fun q7 h => bt_c h (fun q h9 => by (have e : m = 194 := by omega); subst e; exact fo_194 h9) (fun q h9 => by (have e : m = 195 := by omega); subst e; exact fo_195 h9))) (fun q6 h => bt_c h (fun q7 h => bt_c h (fun q h9 => by (have e : m = 196 := by omega); subst e; exact fo_196 h9) (fun q h9 => by (have e : m = 197 := by omega); subst e; exact fo_197 h9)) (fun q7 h => bt_c h (fun q h9 => by (have e : m = 198 := by omega); subst e; exact fo_198 h9) (fun q h9 => by (have e : m = 199 := by omega); subst e; exact fo_199 h9)))))) (fun q3 h => bt_c h (fun q4 h => bt_c h (fun q5 h => bt_c h (fun q6 h => bt_c h (fun q h9 => by (have e : m = 200 := by omega); subst e; exact fo_200 h9) (fun q7 h => bt_c h (fun q h9 => by (have e : m = 201 := by omega); subst e; exact fo_201 h9) (fun q h9 => by (have e : m = 202 := by omega); subst e; exact fo_202 h9))) (fun q6 h => bt_c h (fun q h9 => by (have e : m = 203 := by omega); subst e; exact fo_203 h9) (fun q7 h => bt_c h (fun q h9 => by (have e : m = 204 := by omega); subst e; exact fo_204 h9) (fun q h9 => by (have e : m = 205 := by omega); subst e; exact fo_205 h9)))) (fun q5 h => bt_c h (fun q6 h => bt_c h (fun q h9 => by (have e : m = 206 := by omega); subst e; exact fo_206 h9) (fun q7 h => bt_c h (fun q h9 => by (have e : m = 207 := by omega); subst e; exact fo_207 h9) (fun q h9 => by (have e : m = 208 := by omega); subst e; exact fo_208 h9))) (fun q6 h => bt_c h (fun q h9 => by (have e : m = 209 := by omega); subst e; exact fo_209 h9) (fun q7 h => bt_c h (fun q h9 => by (have e : m = 210 := by omega); subst e; exact fo_210 h9) (fun q h9 => by (have e : m = 211 := by omega); subst e; exact fo_211 h9))))) (fun q4 h => bt_c h (fun q5 h => bt_c h (fun q6 h => bt_c h (fun q h9 => by (have e : m = 212 := by omega); subst e; exact fo_212 h9) (fun q7 h => bt_c h (fun q h9 => by (have e : m = 213 := by omega); subst e; exact fo_213 h9) (fun q h9 => by (have e : m = 214 := by omega); subst e; exact fo_214 h9))) (fun q6 h => bt_c h (fun q h9 => by (have e : m = 215 := by omega); subst e; exact fo_215 h9) (fun q7 h => bt_c h (fun q h9 => by (have e : m = 216 := by omega); subst e; exact fo_216 h9) (fun q h9 => by (have e : m = 217 := by omega); subst e; exact fo_217 h9)))) (fun q5 h => bt_c h (fun q6 h => bt_c h (fun q h9 => by (have e : m = 218 := by omega); subst e; exact fo_218 h9) (fun q7 h => bt_c h (fun q h9 => by (have e : m = 219 := by omega); subst e; exact fo_219 h9) (fun q h9 => by (have e : m = 220 := by omega); subst e; exact fo_220 h9))) (fun q6 h => bt_c h (fun q7 h => bt_c h (fun q h9 => by (have e : m = 221 := by omega); subst e; exact fo_221 h9) (fun q h9 => by (have e : m = 222 := by omega); subst e; exact fo_222 h9)) (fun q7 h => bt_c h (fun q h9 => by (have e : m = 223 := by omega); subst e; exact fo_223 h9) (fun q h9 => by (have e : m = 224 := by omega); subst e; exact fo_224 h9))))))))) (fun _ h => by cases h))
theorem fetch_lt {m pc : Nat} {i : Instr} (h : fetch m pc = some i) : m < 225 := by
  unfold fetch at h
  exact bt_c h (fun q _ => by omega) (fun _ h => bt_c h (fun q _ => q) (fun _ h => by cases h))
