/-! The reference is taught. -/
def cpM (h : PH) (n : Nat) : PH := cpyI (cpyI (setI (setI h 83 2 (iZ 0)) 83 11 (iZ (-1))) 92 0 93 0 64) 91 0 94 0 n
theorem cpM_o {h : PH} {n a k : Nat} (a1 : a ≠ 93) (a2 : a ≠ 94) (a3 : ¬ (a = 83 ∧ (k = 2 ∨ k = 11))) : (cpM h n).1 a k = h.1 a k := (congrFun (cpy_oth a2) k).trans ((congrFun (cpy_oth a1) k).trans ((setI_ne (by omega)).trans (setI_ne (by omega))))
theorem cpM_93 {h : PH} {n k : Nat} (hk : k < 64) : (cpM h n).1 93 k = h.1 92 k := (congrFun (cpy_oth (by decide)) k).trans ((cpy_at hk).trans ((setI_ne (by omega)).trans (setI_ne (by omega))))
theorem cpM_94 {h : PH} {n k : Nat} (hk : k < n) : (cpM h n).1 94 k = h.1 91 k := (cpy_at hk).trans ((congrFun (cpy_oth (by decide)) k).trans ((setI_ne (by omega)).trans (setI_ne (by omega))))
theorem cpM_2 {h : PH} {n : Nat} : (cpM h n).1 83 2 = iZ 0 := (congrFun (cpy_oth (by decide)) 2).trans ((congrFun (cpy_oth (by decide)) 2).trans ((setI_ne (by omega)).trans (setI_self _ _ _ _)))
theorem cpM_11 {h : PH} {n : Nat} : (cpM h n).1 83 11 = iZ (-1) := (congrFun (cpy_oth (by decide)) 11).trans ((congrFun (cpy_oth (by decide)) 11).trans (setI_self _ _ _ _))
theorem tmC_8 {h : PH} {T : List Tok} {v : Int32} (t : tmC h T) : tmC (setI h 83 8 v) T := fun j hj => by
  have x := t j hj
  unfold tmJ at x ⊢
  rw [setI_ne (by omega), setI_ne (by omega)]
  exact x
theorem kyM_e {h h1 : PH} (k : kyM h) (e : h1.2.1 88 = h.2.1 88) : kyM h1 := by
  unfold kyM at k ⊢
  rw [e]; exact k
theorem rdE_M {T : List Tok} (h : (rdM T).1 = false) : rdE T = (1, tS T (rdM T).2.1) := by unfold rdE; rw [if_neg (by rw [h]; decide)]
theorem rdE_L {T : List Tok} (h : (rdM T).1 = true) (h2 : (rdL T).1 = false) : rdE T = (1, tS T (rdL T).2.1) := by unfold rdE; rw [if_pos h, if_neg (by rw [h2]; decide)]
theorem rdE_S {T : List Tok} (h : (rdM T).1 = true) (h2 : (rdL T).1 = true) (e : (smE (rdS T)).1 ≠ 0) : rdE T = ((smE (rdS T)).1, tS T (smE (rdS T)).2) := by unfold rdE; rw [if_pos h, if_pos h2, if_neg e]
theorem rdE_0 {T : List Tok} (h : (rdM T).1 = true) (h2 : (rdL T).1 = true) (e : (smE (rdS T)).1 = 0) : rdE T = (0, -1) := by unfold rdE; rw [if_pos h, if_pos h2, if_pos e]

def anM (h : PH) : PH := (setI (setI (setI (setI (setI (setI (setI (setI (setI (setI (setI (setI h 83 21 ((iZ (0)))) 83 25 ((iZ (0)))) 83 26 ((iZ (-1)))) 83 27 ((iZ (0)))) 83 30 ((iZ (0)))) 83 32 ((iZ (0)))) 99 0 ((iZ (0)))) 99 1 ((iZ (0)))) 99 2 ((iZ (0)))) 99 3 ((iZ (0)))) 99 4 ((iZ (0)))) 99 5 ((iZ (0))))
theorem mr_anew {d : Nat} {h : PH} (sh : Sh h) : Rv d 170 [.inr (.inr (.inr (11, 0, 83)))] h (none) (anM h) := Rv.of fun Q q => by
  refine Ev.sts 22 (c' := (35, [some (.inr (.inr (.inr (11, 0, 83)))), some (.inl (iZ (0)))], [.inl (iZ (6)), .inl (iZ (0))], (setI (setI (setI (setI (setI (setI h 83 21 ((iZ (0)))) 83 25 ((iZ (0)))) 83 26 ((iZ (-1)))) 83 27 ((iZ (0)))) 83 30 ((iZ (0)))) 83 32 ((iZ (0)))))) rfl ?_
  refine Ev.brF (p := (iZ (6)) ≤ (iZ (0))) (c1 := (51, [some (.inr (.inr (.inr (11, 0, 83)))), some (.inl (iZ (0)))], [], (setI (setI (setI (setI (setI (setI h 83 21 ((iZ (0)))) 83 25 ((iZ (0)))) 83 26 ((iZ (-1)))) 83 27 ((iZ (0)))) 83 30 ((iZ (0)))) 83 32 ((iZ (0)))))) (c2 := (38, [some (.inr (.inr (.inr (11, 0, 83)))), some (.inl (iZ (0)))], [], (setI (setI (setI (setI (setI (setI h 83 21 ((iZ (0)))) 83 25 ((iZ (0)))) 83 26 ((iZ (-1)))) 83 27 ((iZ (0)))) 83 30 ((iZ (0)))) 83 32 ((iZ (0)))))) (by decide) rfl ?_
  refine Ev.sts 1 (c' := (39, [some (.inr (.inr (.inr (11, 0, 83)))), some (.inl (iZ (0)))], [.inr (.inr (.inr (11, 0, 83)))], (setI (setI (setI (setI (setI (setI h 83 21 ((iZ (0)))) 83 25 ((iZ (0)))) 83 26 ((iZ (-1)))) 83 27 ((iZ (0)))) 83 30 ((iZ (0)))) 83 32 ((iZ (0)))))) rfl ?_
  refine Ev.gfr (r := (20, 6, 99)) rfl (sh_83_28 sh) ?_
  refine Ev.sts 2 (c' := (44, [some (.inr (.inr (.inr (11, 0, 83)))), some (.inl (iZ (0)))], [.inl (iZ (0)), .inl (iZ (0)), .inr (.inr (.inr (20, 6, 99)))], (setI (setI (setI (setI (setI (setI h 83 21 ((iZ (0)))) 83 25 ((iZ (0)))) 83 26 ((iZ (-1)))) 83 27 ((iZ (0)))) 83 30 ((iZ (0)))) 83 32 ((iZ (0)))))) rfl ?_
  refine Ev.sto (j := (iZ (0))) (n := 6) (h2 := (setI (setI (setI (setI (setI (setI (setI h 83 21 ((iZ (0)))) 83 25 ((iZ (0)))) 83 26 ((iZ (-1)))) 83 27 ((iZ (0)))) 83 30 ((iZ (0)))) 83 32 ((iZ (0)))) 99 0 ((iZ (0))))) (by decide) rfl rfl ?_
  refine Ev.stc (c1 := (48, [some (.inr (.inr (.inr (11, 0, 83)))), some (.inl ((iZ (0)) + (iZ (1))))], [], (setI (setI (setI (setI (setI (setI (setI h 83 21 ((iZ (0)))) 83 25 ((iZ (0)))) 83 26 ((iZ (-1)))) 83 27 ((iZ (0)))) 83 30 ((iZ (0)))) 83 32 ((iZ (0)))) 99 0 ((iZ (0)))))) (c2 := (48, [some (.inr (.inr (.inr (11, 0, 83)))), some (.inl (iZ (1)))], [], (setI (setI (setI (setI (setI (setI (setI h 83 21 ((iZ (0)))) 83 25 ((iZ (0)))) 83 26 ((iZ (-1)))) 83 27 ((iZ (0)))) 83 30 ((iZ (0)))) 83 32 ((iZ (0)))) 99 0 ((iZ (0)))))) rfl (by rw [iZ_add]; rfl) ?_
  refine Ev.sts 3 (c' := (35, [some (.inr (.inr (.inr (11, 0, 83)))), some (.inl (iZ (1)))], [.inl (iZ (6)), .inl (iZ (1))], (setI (setI (setI (setI (setI (setI (setI h 83 21 ((iZ (0)))) 83 25 ((iZ (0)))) 83 26 ((iZ (-1)))) 83 27 ((iZ (0)))) 83 30 ((iZ (0)))) 83 32 ((iZ (0)))) 99 0 ((iZ (0)))))) rfl ?_
  refine Ev.brF (p := (iZ (6)) ≤ (iZ (1))) (c1 := (51, [some (.inr (.inr (.inr (11, 0, 83)))), some (.inl (iZ (1)))], [], (setI (setI (setI (setI (setI (setI (setI h 83 21 ((iZ (0)))) 83 25 ((iZ (0)))) 83 26 ((iZ (-1)))) 83 27 ((iZ (0)))) 83 30 ((iZ (0)))) 83 32 ((iZ (0)))) 99 0 ((iZ (0)))))) (c2 := (38, [some (.inr (.inr (.inr (11, 0, 83)))), some (.inl (iZ (1)))], [], (setI (setI (setI (setI (setI (setI (setI h 83 21 ((iZ (0)))) 83 25 ((iZ (0)))) 83 26 ((iZ (-1)))) 83 27 ((iZ (0)))) 83 30 ((iZ (0)))) 83 32 ((iZ (0)))) 99 0 ((iZ (0)))))) (by decide) rfl ?_
  refine Ev.sts 1 (c' := (39, [some (.inr (.inr (.inr (11, 0, 83)))), some (.inl (iZ (1)))], [.inr (.inr (.inr (11, 0, 83)))], (setI (setI (setI (setI (setI (setI (setI h 83 21 ((iZ (0)))) 83 25 ((iZ (0)))) 83 26 ((iZ (-1)))) 83 27 ((iZ (0)))) 83 30 ((iZ (0)))) 83 32 ((iZ (0)))) 99 0 ((iZ (0)))))) rfl ?_
  refine Ev.gfr (r := (20, 6, 99)) rfl (sh_83_28 sh) ?_
  refine Ev.sts 2 (c' := (44, [some (.inr (.inr (.inr (11, 0, 83)))), some (.inl (iZ (1)))], [.inl (iZ (0)), .inl (iZ (1)), .inr (.inr (.inr (20, 6, 99)))], (setI (setI (setI (setI (setI (setI (setI h 83 21 ((iZ (0)))) 83 25 ((iZ (0)))) 83 26 ((iZ (-1)))) 83 27 ((iZ (0)))) 83 30 ((iZ (0)))) 83 32 ((iZ (0)))) 99 0 ((iZ (0)))))) rfl ?_
  refine Ev.sto (j := (iZ (1))) (n := 6) (h2 := (setI (setI (setI (setI (setI (setI (setI (setI h 83 21 ((iZ (0)))) 83 25 ((iZ (0)))) 83 26 ((iZ (-1)))) 83 27 ((iZ (0)))) 83 30 ((iZ (0)))) 83 32 ((iZ (0)))) 99 0 ((iZ (0)))) 99 1 ((iZ (0))))) (by decide) rfl rfl ?_
  refine Ev.stc (c1 := (48, [some (.inr (.inr (.inr (11, 0, 83)))), some (.inl ((iZ (1)) + (iZ (1))))], [], (setI (setI (setI (setI (setI (setI (setI (setI h 83 21 ((iZ (0)))) 83 25 ((iZ (0)))) 83 26 ((iZ (-1)))) 83 27 ((iZ (0)))) 83 30 ((iZ (0)))) 83 32 ((iZ (0)))) 99 0 ((iZ (0)))) 99 1 ((iZ (0)))))) (c2 := (48, [some (.inr (.inr (.inr (11, 0, 83)))), some (.inl (iZ (2)))], [], (setI (setI (setI (setI (setI (setI (setI (setI h 83 21 ((iZ (0)))) 83 25 ((iZ (0)))) 83 26 ((iZ (-1)))) 83 27 ((iZ (0)))) 83 30 ((iZ (0)))) 83 32 ((iZ (0)))) 99 0 ((iZ (0)))) 99 1 ((iZ (0)))))) rfl (by rw [iZ_add]; rfl) ?_
  refine Ev.sts 3 (c' := (35, [some (.inr (.inr (.inr (11, 0, 83)))), some (.inl (iZ (2)))], [.inl (iZ (6)), .inl (iZ (2))], (setI (setI (setI (setI (setI (setI (setI (setI h 83 21 ((iZ (0)))) 83 25 ((iZ (0)))) 83 26 ((iZ (-1)))) 83 27 ((iZ (0)))) 83 30 ((iZ (0)))) 83 32 ((iZ (0)))) 99 0 ((iZ (0)))) 99 1 ((iZ (0)))))) rfl ?_
  refine Ev.brF (p := (iZ (6)) ≤ (iZ (2))) (c1 := (51, [some (.inr (.inr (.inr (11, 0, 83)))), some (.inl (iZ (2)))], [], (setI (setI (setI (setI (setI (setI (setI (setI h 83 21 ((iZ (0)))) 83 25 ((iZ (0)))) 83 26 ((iZ (-1)))) 83 27 ((iZ (0)))) 83 30 ((iZ (0)))) 83 32 ((iZ (0)))) 99 0 ((iZ (0)))) 99 1 ((iZ (0)))))) (c2 := (38, [some (.inr (.inr (.inr (11, 0, 83)))), some (.inl (iZ (2)))], [], (setI (setI (setI (setI (setI (setI (setI (setI h 83 21 ((iZ (0)))) 83 25 ((iZ (0)))) 83 26 ((iZ (-1)))) 83 27 ((iZ (0)))) 83 30 ((iZ (0)))) 83 32 ((iZ (0)))) 99 0 ((iZ (0)))) 99 1 ((iZ (0)))))) (by decide) rfl ?_
  refine Ev.sts 1 (c' := (39, [some (.inr (.inr (.inr (11, 0, 83)))), some (.inl (iZ (2)))], [.inr (.inr (.inr (11, 0, 83)))], (setI (setI (setI (setI (setI (setI (setI (setI h 83 21 ((iZ (0)))) 83 25 ((iZ (0)))) 83 26 ((iZ (-1)))) 83 27 ((iZ (0)))) 83 30 ((iZ (0)))) 83 32 ((iZ (0)))) 99 0 ((iZ (0)))) 99 1 ((iZ (0)))))) rfl ?_
  refine Ev.gfr (r := (20, 6, 99)) rfl (sh_83_28 sh) ?_
  refine Ev.sts 2 (c' := (44, [some (.inr (.inr (.inr (11, 0, 83)))), some (.inl (iZ (2)))], [.inl (iZ (0)), .inl (iZ (2)), .inr (.inr (.inr (20, 6, 99)))], (setI (setI (setI (setI (setI (setI (setI (setI h 83 21 ((iZ (0)))) 83 25 ((iZ (0)))) 83 26 ((iZ (-1)))) 83 27 ((iZ (0)))) 83 30 ((iZ (0)))) 83 32 ((iZ (0)))) 99 0 ((iZ (0)))) 99 1 ((iZ (0)))))) rfl ?_
  refine Ev.sto (j := (iZ (2))) (n := 6) (h2 := (setI (setI (setI (setI (setI (setI (setI (setI (setI h 83 21 ((iZ (0)))) 83 25 ((iZ (0)))) 83 26 ((iZ (-1)))) 83 27 ((iZ (0)))) 83 30 ((iZ (0)))) 83 32 ((iZ (0)))) 99 0 ((iZ (0)))) 99 1 ((iZ (0)))) 99 2 ((iZ (0))))) (by decide) rfl rfl ?_
  refine Ev.stc (c1 := (48, [some (.inr (.inr (.inr (11, 0, 83)))), some (.inl ((iZ (2)) + (iZ (1))))], [], (setI (setI (setI (setI (setI (setI (setI (setI (setI h 83 21 ((iZ (0)))) 83 25 ((iZ (0)))) 83 26 ((iZ (-1)))) 83 27 ((iZ (0)))) 83 30 ((iZ (0)))) 83 32 ((iZ (0)))) 99 0 ((iZ (0)))) 99 1 ((iZ (0)))) 99 2 ((iZ (0)))))) (c2 := (48, [some (.inr (.inr (.inr (11, 0, 83)))), some (.inl (iZ (3)))], [], (setI (setI (setI (setI (setI (setI (setI (setI (setI h 83 21 ((iZ (0)))) 83 25 ((iZ (0)))) 83 26 ((iZ (-1)))) 83 27 ((iZ (0)))) 83 30 ((iZ (0)))) 83 32 ((iZ (0)))) 99 0 ((iZ (0)))) 99 1 ((iZ (0)))) 99 2 ((iZ (0)))))) rfl (by rw [iZ_add]; rfl) ?_
  refine Ev.sts 3 (c' := (35, [some (.inr (.inr (.inr (11, 0, 83)))), some (.inl (iZ (3)))], [.inl (iZ (6)), .inl (iZ (3))], (setI (setI (setI (setI (setI (setI (setI (setI (setI h 83 21 ((iZ (0)))) 83 25 ((iZ (0)))) 83 26 ((iZ (-1)))) 83 27 ((iZ (0)))) 83 30 ((iZ (0)))) 83 32 ((iZ (0)))) 99 0 ((iZ (0)))) 99 1 ((iZ (0)))) 99 2 ((iZ (0)))))) rfl ?_
  refine Ev.brF (p := (iZ (6)) ≤ (iZ (3))) (c1 := (51, [some (.inr (.inr (.inr (11, 0, 83)))), some (.inl (iZ (3)))], [], (setI (setI (setI (setI (setI (setI (setI (setI (setI h 83 21 ((iZ (0)))) 83 25 ((iZ (0)))) 83 26 ((iZ (-1)))) 83 27 ((iZ (0)))) 83 30 ((iZ (0)))) 83 32 ((iZ (0)))) 99 0 ((iZ (0)))) 99 1 ((iZ (0)))) 99 2 ((iZ (0)))))) (c2 := (38, [some (.inr (.inr (.inr (11, 0, 83)))), some (.inl (iZ (3)))], [], (setI (setI (setI (setI (setI (setI (setI (setI (setI h 83 21 ((iZ (0)))) 83 25 ((iZ (0)))) 83 26 ((iZ (-1)))) 83 27 ((iZ (0)))) 83 30 ((iZ (0)))) 83 32 ((iZ (0)))) 99 0 ((iZ (0)))) 99 1 ((iZ (0)))) 99 2 ((iZ (0)))))) (by decide) rfl ?_
  refine Ev.sts 1 (c' := (39, [some (.inr (.inr (.inr (11, 0, 83)))), some (.inl (iZ (3)))], [.inr (.inr (.inr (11, 0, 83)))], (setI (setI (setI (setI (setI (setI (setI (setI (setI h 83 21 ((iZ (0)))) 83 25 ((iZ (0)))) 83 26 ((iZ (-1)))) 83 27 ((iZ (0)))) 83 30 ((iZ (0)))) 83 32 ((iZ (0)))) 99 0 ((iZ (0)))) 99 1 ((iZ (0)))) 99 2 ((iZ (0)))))) rfl ?_
  refine Ev.gfr (r := (20, 6, 99)) rfl (sh_83_28 sh) ?_
  refine Ev.sts 2 (c' := (44, [some (.inr (.inr (.inr (11, 0, 83)))), some (.inl (iZ (3)))], [.inl (iZ (0)), .inl (iZ (3)), .inr (.inr (.inr (20, 6, 99)))], (setI (setI (setI (setI (setI (setI (setI (setI (setI h 83 21 ((iZ (0)))) 83 25 ((iZ (0)))) 83 26 ((iZ (-1)))) 83 27 ((iZ (0)))) 83 30 ((iZ (0)))) 83 32 ((iZ (0)))) 99 0 ((iZ (0)))) 99 1 ((iZ (0)))) 99 2 ((iZ (0)))))) rfl ?_
  refine Ev.sto (j := (iZ (3))) (n := 6) (h2 := (setI (setI (setI (setI (setI (setI (setI (setI (setI (setI h 83 21 ((iZ (0)))) 83 25 ((iZ (0)))) 83 26 ((iZ (-1)))) 83 27 ((iZ (0)))) 83 30 ((iZ (0)))) 83 32 ((iZ (0)))) 99 0 ((iZ (0)))) 99 1 ((iZ (0)))) 99 2 ((iZ (0)))) 99 3 ((iZ (0))))) (by decide) rfl rfl ?_
  refine Ev.stc (c1 := (48, [some (.inr (.inr (.inr (11, 0, 83)))), some (.inl ((iZ (3)) + (iZ (1))))], [], (setI (setI (setI (setI (setI (setI (setI (setI (setI (setI h 83 21 ((iZ (0)))) 83 25 ((iZ (0)))) 83 26 ((iZ (-1)))) 83 27 ((iZ (0)))) 83 30 ((iZ (0)))) 83 32 ((iZ (0)))) 99 0 ((iZ (0)))) 99 1 ((iZ (0)))) 99 2 ((iZ (0)))) 99 3 ((iZ (0)))))) (c2 := (48, [some (.inr (.inr (.inr (11, 0, 83)))), some (.inl (iZ (4)))], [], (setI (setI (setI (setI (setI (setI (setI (setI (setI (setI h 83 21 ((iZ (0)))) 83 25 ((iZ (0)))) 83 26 ((iZ (-1)))) 83 27 ((iZ (0)))) 83 30 ((iZ (0)))) 83 32 ((iZ (0)))) 99 0 ((iZ (0)))) 99 1 ((iZ (0)))) 99 2 ((iZ (0)))) 99 3 ((iZ (0)))))) rfl (by rw [iZ_add]; rfl) ?_
  refine Ev.sts 3 (c' := (35, [some (.inr (.inr (.inr (11, 0, 83)))), some (.inl (iZ (4)))], [.inl (iZ (6)), .inl (iZ (4))], (setI (setI (setI (setI (setI (setI (setI (setI (setI (setI h 83 21 ((iZ (0)))) 83 25 ((iZ (0)))) 83 26 ((iZ (-1)))) 83 27 ((iZ (0)))) 83 30 ((iZ (0)))) 83 32 ((iZ (0)))) 99 0 ((iZ (0)))) 99 1 ((iZ (0)))) 99 2 ((iZ (0)))) 99 3 ((iZ (0)))))) rfl ?_
  refine Ev.brF (p := (iZ (6)) ≤ (iZ (4))) (c1 := (51, [some (.inr (.inr (.inr (11, 0, 83)))), some (.inl (iZ (4)))], [], (setI (setI (setI (setI (setI (setI (setI (setI (setI (setI h 83 21 ((iZ (0)))) 83 25 ((iZ (0)))) 83 26 ((iZ (-1)))) 83 27 ((iZ (0)))) 83 30 ((iZ (0)))) 83 32 ((iZ (0)))) 99 0 ((iZ (0)))) 99 1 ((iZ (0)))) 99 2 ((iZ (0)))) 99 3 ((iZ (0)))))) (c2 := (38, [some (.inr (.inr (.inr (11, 0, 83)))), some (.inl (iZ (4)))], [], (setI (setI (setI (setI (setI (setI (setI (setI (setI (setI h 83 21 ((iZ (0)))) 83 25 ((iZ (0)))) 83 26 ((iZ (-1)))) 83 27 ((iZ (0)))) 83 30 ((iZ (0)))) 83 32 ((iZ (0)))) 99 0 ((iZ (0)))) 99 1 ((iZ (0)))) 99 2 ((iZ (0)))) 99 3 ((iZ (0)))))) (by decide) rfl ?_
  refine Ev.sts 1 (c' := (39, [some (.inr (.inr (.inr (11, 0, 83)))), some (.inl (iZ (4)))], [.inr (.inr (.inr (11, 0, 83)))], (setI (setI (setI (setI (setI (setI (setI (setI (setI (setI h 83 21 ((iZ (0)))) 83 25 ((iZ (0)))) 83 26 ((iZ (-1)))) 83 27 ((iZ (0)))) 83 30 ((iZ (0)))) 83 32 ((iZ (0)))) 99 0 ((iZ (0)))) 99 1 ((iZ (0)))) 99 2 ((iZ (0)))) 99 3 ((iZ (0)))))) rfl ?_
  refine Ev.gfr (r := (20, 6, 99)) rfl (sh_83_28 sh) ?_
  refine Ev.sts 2 (c' := (44, [some (.inr (.inr (.inr (11, 0, 83)))), some (.inl (iZ (4)))], [.inl (iZ (0)), .inl (iZ (4)), .inr (.inr (.inr (20, 6, 99)))], (setI (setI (setI (setI (setI (setI (setI (setI (setI (setI h 83 21 ((iZ (0)))) 83 25 ((iZ (0)))) 83 26 ((iZ (-1)))) 83 27 ((iZ (0)))) 83 30 ((iZ (0)))) 83 32 ((iZ (0)))) 99 0 ((iZ (0)))) 99 1 ((iZ (0)))) 99 2 ((iZ (0)))) 99 3 ((iZ (0)))))) rfl ?_
  refine Ev.sto (j := (iZ (4))) (n := 6) (h2 := (setI (setI (setI (setI (setI (setI (setI (setI (setI (setI (setI h 83 21 ((iZ (0)))) 83 25 ((iZ (0)))) 83 26 ((iZ (-1)))) 83 27 ((iZ (0)))) 83 30 ((iZ (0)))) 83 32 ((iZ (0)))) 99 0 ((iZ (0)))) 99 1 ((iZ (0)))) 99 2 ((iZ (0)))) 99 3 ((iZ (0)))) 99 4 ((iZ (0))))) (by decide) rfl rfl ?_
  refine Ev.stc (c1 := (48, [some (.inr (.inr (.inr (11, 0, 83)))), some (.inl ((iZ (4)) + (iZ (1))))], [], (setI (setI (setI (setI (setI (setI (setI (setI (setI (setI (setI h 83 21 ((iZ (0)))) 83 25 ((iZ (0)))) 83 26 ((iZ (-1)))) 83 27 ((iZ (0)))) 83 30 ((iZ (0)))) 83 32 ((iZ (0)))) 99 0 ((iZ (0)))) 99 1 ((iZ (0)))) 99 2 ((iZ (0)))) 99 3 ((iZ (0)))) 99 4 ((iZ (0)))))) (c2 := (48, [some (.inr (.inr (.inr (11, 0, 83)))), some (.inl (iZ (5)))], [], (setI (setI (setI (setI (setI (setI (setI (setI (setI (setI (setI h 83 21 ((iZ (0)))) 83 25 ((iZ (0)))) 83 26 ((iZ (-1)))) 83 27 ((iZ (0)))) 83 30 ((iZ (0)))) 83 32 ((iZ (0)))) 99 0 ((iZ (0)))) 99 1 ((iZ (0)))) 99 2 ((iZ (0)))) 99 3 ((iZ (0)))) 99 4 ((iZ (0)))))) rfl (by rw [iZ_add]; rfl) ?_
  refine Ev.sts 3 (c' := (35, [some (.inr (.inr (.inr (11, 0, 83)))), some (.inl (iZ (5)))], [.inl (iZ (6)), .inl (iZ (5))], (setI (setI (setI (setI (setI (setI (setI (setI (setI (setI (setI h 83 21 ((iZ (0)))) 83 25 ((iZ (0)))) 83 26 ((iZ (-1)))) 83 27 ((iZ (0)))) 83 30 ((iZ (0)))) 83 32 ((iZ (0)))) 99 0 ((iZ (0)))) 99 1 ((iZ (0)))) 99 2 ((iZ (0)))) 99 3 ((iZ (0)))) 99 4 ((iZ (0)))))) rfl ?_
  refine Ev.brF (p := (iZ (6)) ≤ (iZ (5))) (c1 := (51, [some (.inr (.inr (.inr (11, 0, 83)))), some (.inl (iZ (5)))], [], (setI (setI (setI (setI (setI (setI (setI (setI (setI (setI (setI h 83 21 ((iZ (0)))) 83 25 ((iZ (0)))) 83 26 ((iZ (-1)))) 83 27 ((iZ (0)))) 83 30 ((iZ (0)))) 83 32 ((iZ (0)))) 99 0 ((iZ (0)))) 99 1 ((iZ (0)))) 99 2 ((iZ (0)))) 99 3 ((iZ (0)))) 99 4 ((iZ (0)))))) (c2 := (38, [some (.inr (.inr (.inr (11, 0, 83)))), some (.inl (iZ (5)))], [], (setI (setI (setI (setI (setI (setI (setI (setI (setI (setI (setI h 83 21 ((iZ (0)))) 83 25 ((iZ (0)))) 83 26 ((iZ (-1)))) 83 27 ((iZ (0)))) 83 30 ((iZ (0)))) 83 32 ((iZ (0)))) 99 0 ((iZ (0)))) 99 1 ((iZ (0)))) 99 2 ((iZ (0)))) 99 3 ((iZ (0)))) 99 4 ((iZ (0)))))) (by decide) rfl ?_
  refine Ev.sts 1 (c' := (39, [some (.inr (.inr (.inr (11, 0, 83)))), some (.inl (iZ (5)))], [.inr (.inr (.inr (11, 0, 83)))], (setI (setI (setI (setI (setI (setI (setI (setI (setI (setI (setI h 83 21 ((iZ (0)))) 83 25 ((iZ (0)))) 83 26 ((iZ (-1)))) 83 27 ((iZ (0)))) 83 30 ((iZ (0)))) 83 32 ((iZ (0)))) 99 0 ((iZ (0)))) 99 1 ((iZ (0)))) 99 2 ((iZ (0)))) 99 3 ((iZ (0)))) 99 4 ((iZ (0)))))) rfl ?_
  refine Ev.gfr (r := (20, 6, 99)) rfl (sh_83_28 sh) ?_
  refine Ev.sts 2 (c' := (44, [some (.inr (.inr (.inr (11, 0, 83)))), some (.inl (iZ (5)))], [.inl (iZ (0)), .inl (iZ (5)), .inr (.inr (.inr (20, 6, 99)))], (setI (setI (setI (setI (setI (setI (setI (setI (setI (setI (setI h 83 21 ((iZ (0)))) 83 25 ((iZ (0)))) 83 26 ((iZ (-1)))) 83 27 ((iZ (0)))) 83 30 ((iZ (0)))) 83 32 ((iZ (0)))) 99 0 ((iZ (0)))) 99 1 ((iZ (0)))) 99 2 ((iZ (0)))) 99 3 ((iZ (0)))) 99 4 ((iZ (0)))))) rfl ?_
  refine Ev.sto (j := (iZ (5))) (n := 6) (h2 := (setI (setI (setI (setI (setI (setI (setI (setI (setI (setI (setI (setI h 83 21 ((iZ (0)))) 83 25 ((iZ (0)))) 83 26 ((iZ (-1)))) 83 27 ((iZ (0)))) 83 30 ((iZ (0)))) 83 32 ((iZ (0)))) 99 0 ((iZ (0)))) 99 1 ((iZ (0)))) 99 2 ((iZ (0)))) 99 3 ((iZ (0)))) 99 4 ((iZ (0)))) 99 5 ((iZ (0))))) (by decide) rfl rfl ?_
  refine Ev.stc (c1 := (48, [some (.inr (.inr (.inr (11, 0, 83)))), some (.inl ((iZ (5)) + (iZ (1))))], [], (setI (setI (setI (setI (setI (setI (setI (setI (setI (setI (setI (setI h 83 21 ((iZ (0)))) 83 25 ((iZ (0)))) 83 26 ((iZ (-1)))) 83 27 ((iZ (0)))) 83 30 ((iZ (0)))) 83 32 ((iZ (0)))) 99 0 ((iZ (0)))) 99 1 ((iZ (0)))) 99 2 ((iZ (0)))) 99 3 ((iZ (0)))) 99 4 ((iZ (0)))) 99 5 ((iZ (0)))))) (c2 := (48, [some (.inr (.inr (.inr (11, 0, 83)))), some (.inl (iZ (6)))], [], (setI (setI (setI (setI (setI (setI (setI (setI (setI (setI (setI (setI h 83 21 ((iZ (0)))) 83 25 ((iZ (0)))) 83 26 ((iZ (-1)))) 83 27 ((iZ (0)))) 83 30 ((iZ (0)))) 83 32 ((iZ (0)))) 99 0 ((iZ (0)))) 99 1 ((iZ (0)))) 99 2 ((iZ (0)))) 99 3 ((iZ (0)))) 99 4 ((iZ (0)))) 99 5 ((iZ (0)))))) rfl (by rw [iZ_add]; rfl) ?_
  refine Ev.sts 3 (c' := (35, [some (.inr (.inr (.inr (11, 0, 83)))), some (.inl (iZ (6)))], [.inl (iZ (6)), .inl (iZ (6))], (setI (setI (setI (setI (setI (setI (setI (setI (setI (setI (setI (setI h 83 21 ((iZ (0)))) 83 25 ((iZ (0)))) 83 26 ((iZ (-1)))) 83 27 ((iZ (0)))) 83 30 ((iZ (0)))) 83 32 ((iZ (0)))) 99 0 ((iZ (0)))) 99 1 ((iZ (0)))) 99 2 ((iZ (0)))) 99 3 ((iZ (0)))) 99 4 ((iZ (0)))) 99 5 ((iZ (0)))))) rfl ?_
  refine Ev.brT (p := (iZ (6)) ≤ (iZ (6))) (c1 := (51, [some (.inr (.inr (.inr (11, 0, 83)))), some (.inl (iZ (6)))], [], (setI (setI (setI (setI (setI (setI (setI (setI (setI (setI (setI (setI h 83 21 ((iZ (0)))) 83 25 ((iZ (0)))) 83 26 ((iZ (-1)))) 83 27 ((iZ (0)))) 83 30 ((iZ (0)))) 83 32 ((iZ (0)))) 99 0 ((iZ (0)))) 99 1 ((iZ (0)))) 99 2 ((iZ (0)))) 99 3 ((iZ (0)))) 99 4 ((iZ (0)))) 99 5 ((iZ (0)))))) (c2 := (38, [some (.inr (.inr (.inr (11, 0, 83)))), some (.inl (iZ (6)))], [], (setI (setI (setI (setI (setI (setI (setI (setI (setI (setI (setI (setI h 83 21 ((iZ (0)))) 83 25 ((iZ (0)))) 83 26 ((iZ (-1)))) 83 27 ((iZ (0)))) 83 30 ((iZ (0)))) 83 32 ((iZ (0)))) 99 0 ((iZ (0)))) 99 1 ((iZ (0)))) 99 2 ((iZ (0)))) 99 3 ((iZ (0)))) 99 4 ((iZ (0)))) 99 5 ((iZ (0)))))) (by decide) rfl ?_
  exact Ev.ret rfl (q)

theorem anM_21 (h : PH) : (anM h).1 83 21 = iZ (0) := (setI_ne (by decide)).trans ((setI_ne (by decide)).trans ((setI_ne (by decide)).trans ((setI_ne (by decide)).trans ((setI_ne (by decide)).trans ((setI_ne (by decide)).trans ((setI_ne (by decide)).trans ((setI_ne (by decide)).trans ((setI_ne (by decide)).trans ((setI_ne (by decide)).trans ((setI_ne (by decide)).trans (setI_self _ _ _ _)))))))))))
theorem anM_25 (h : PH) : (anM h).1 83 25 = iZ (0) := (setI_ne (by decide)).trans ((setI_ne (by decide)).trans ((setI_ne (by decide)).trans ((setI_ne (by decide)).trans ((setI_ne (by decide)).trans ((setI_ne (by decide)).trans ((setI_ne (by decide)).trans ((setI_ne (by decide)).trans ((setI_ne (by decide)).trans ((setI_ne (by decide)).trans (setI_self _ _ _ _))))))))))
theorem anM_26 (h : PH) : (anM h).1 83 26 = iZ (-1) := (setI_ne (by decide)).trans ((setI_ne (by decide)).trans ((setI_ne (by decide)).trans ((setI_ne (by decide)).trans ((setI_ne (by decide)).trans ((setI_ne (by decide)).trans ((setI_ne (by decide)).trans ((setI_ne (by decide)).trans ((setI_ne (by decide)).trans (setI_self _ _ _ _)))))))))
theorem anM_27 (h : PH) : (anM h).1 83 27 = iZ (0) := (setI_ne (by decide)).trans ((setI_ne (by decide)).trans ((setI_ne (by decide)).trans ((setI_ne (by decide)).trans ((setI_ne (by decide)).trans ((setI_ne (by decide)).trans ((setI_ne (by decide)).trans ((setI_ne (by decide)).trans (setI_self _ _ _ _))))))))
theorem anM_30 (h : PH) : (anM h).1 83 30 = iZ (0) := (setI_ne (by decide)).trans ((setI_ne (by decide)).trans ((setI_ne (by decide)).trans ((setI_ne (by decide)).trans ((setI_ne (by decide)).trans ((setI_ne (by decide)).trans ((setI_ne (by decide)).trans (setI_self _ _ _ _)))))))
theorem anM_32 (h : PH) : (anM h).1 83 32 = iZ (0) := (setI_ne (by decide)).trans ((setI_ne (by decide)).trans ((setI_ne (by decide)).trans ((setI_ne (by decide)).trans ((setI_ne (by decide)).trans ((setI_ne (by decide)).trans (setI_self _ _ _ _))))))
theorem anM_99_0 (h : PH) : (anM h).1 99 0 = iZ (0) := (setI_ne (by decide)).trans ((setI_ne (by decide)).trans ((setI_ne (by decide)).trans ((setI_ne (by decide)).trans ((setI_ne (by decide)).trans (setI_self _ _ _ _)))))
theorem anM_99_1 (h : PH) : (anM h).1 99 1 = iZ (0) := (setI_ne (by decide)).trans ((setI_ne (by decide)).trans ((setI_ne (by decide)).trans ((setI_ne (by decide)).trans (setI_self _ _ _ _))))
theorem anM_99_2 (h : PH) : (anM h).1 99 2 = iZ (0) := (setI_ne (by decide)).trans ((setI_ne (by decide)).trans ((setI_ne (by decide)).trans (setI_self _ _ _ _)))
theorem anM_99_3 (h : PH) : (anM h).1 99 3 = iZ (0) := (setI_ne (by decide)).trans ((setI_ne (by decide)).trans (setI_self _ _ _ _))
theorem anM_99_4 (h : PH) : (anM h).1 99 4 = iZ (0) := (setI_ne (by decide)).trans (setI_self _ _ _ _)
theorem anM_99_5 (h : PH) : (anM h).1 99 5 = iZ (0) := setI_self _ _ _ _
theorem anM_99 (h : PH) {g : Nat} (hg : g < 6) : (anM h).1 99 g = iZ ((0 : Nat) : Int) := by
  rcases (show g = 0 ∨ g = 1 ∨ g = 2 ∨ g = 3 ∨ g = 4 ∨ g = 5 by omega) with rfl | rfl | rfl | rfl | rfl | rfl
  · exact anM_99_0 h
  · exact anM_99_1 h
  · exact anM_99_2 h
  · exact anM_99_3 h
  · exact anM_99_4 h
  · exact anM_99_5 h
theorem anM_o {h : PH} {a k : Nat} (a1 : a ≠ 99) (a2 : ¬ (a = 83 ∧ (k = 21 ∨ k = 25 ∨ k = 26 ∨ k = 27 ∨ k = 30 ∨ k = 32))) : (anM h).1 a k = h.1 a k := (setI_ne (by omega)).trans ((setI_ne (by omega)).trans ((setI_ne (by omega)).trans ((setI_ne (by omega)).trans ((setI_ne (by omega)).trans ((setI_ne (by omega)).trans ((setI_ne (by omega)).trans ((setI_ne (by omega)).trans ((setI_ne (by omega)).trans ((setI_ne (by omega)).trans ((setI_ne (by omega)).trans (setI_ne (by omega))))))))))))
theorem anM_p {h : PH} {a : Nat} (ha : ¬ pMo a) : (anM h).1 a = h.1 a := by
  funext k
  exact anM_o (fun z => ha (by unfold pMo; omega)) (fun z => ha (by unfold pMo; omega))
theorem cpM_p {h : PH} {n a : Nat} (ha : ¬ pMo a) : (cpM h n).1 a = h.1 a := by
  funext k
  exact cpM_o (fun z => ha (by unfold pMo; omega)) (fun z => ha (by unfold pMo; omega)) (fun z => ha (by unfold pMo; omega))
theorem MI_tauM {c : Nat} {h h3 : PH} {S : Sta} {y : Y4} {p : Nat} {N : List (Int × Int)} (I : MI h S y) (g : gV c h h3) (r : RMS h3 (lex (tpS S)) p N (rdS (lex (tpS S)))) (hq : (rdE (lex (tpS S))).2 = -1) : MI (anM (cpM h3 (wds (smP (rdS (lex (tpS S))))).length)) (tauS S) y := by
  obtain ⟨g1, g2, g3, g4, g5, g6, g7⟩ := g
  obtain ⟨i1, i2, i3, i4, i5, i6, i7, i8, i9, i10, i11, i12, i13, i14⟩ := I
  obtain ⟨r1, r2, r3, r4, r5, r6, r7, ok, r9, r10⟩ := r
  have ho := i10.2.2.2.2.2.1
  have ht := i11.2.2.2.2.2.1
  unfold aO at ho ht
  have oM := moL_8 ok.2.2.2.2.1
  have pT := qm_p r1
  have l1 := (qm_w r1).2.1
  have o1 := ok.1
  have o2 := ok.2.1
  have o3 := ok.2.2.1
  have o4 := ok.2.2.2.1
  have e93 : ∀ k, k < 64 → (anM (cpM h3 (wds (smP (rdS (lex (tpS S))))).length)).1 93 k = h3.1 92 k := fun k hk => (anM_o (by omega) (by omega)).trans (cpM_93 hk)
  have eb : ∀ a, a ≠ 83 → a ≠ 99 → a ≠ 93 → a ≠ 94 → a ≠ 85 → a ≠ 87 → a ≠ 90 → a ≠ 91 → a ≠ 92 → a < hN h → (anM (cpM h3 (wds (smP (rdS (lex (tpS S))))).length)).1 a = h.1 a := fun a a1 a2 a3 a4 a5 a6 a7 a8 a9 al => by
    funext k
    exact (anM_o a2 (by omega)).trans ((cpM_o a3 a4 (by omega)).trans (congrFun (g3 a a1 a5 a6 a7 a8 a9 al) k))
  refine ⟨Sh_r i1 g1, ⟨(anM_o (by omega) (by omega)).trans cpM_2, fun j hj => absurd hj (Nat.not_lt_zero _)⟩, ?_, ?_, ⟨anM_21 _, fun j hj => absurd hj (Nat.not_lt_zero _)⟩, anM_25 _, anM_26 _, anM_27 _, fun g hg => anM_99 _ hg, ?_, ?_, i12, by show 103 ≤ hN h3; omega, ?_⟩
  · show _ = iZ (rdE (lex (tpS S))).2
    rw [hq]
    exact (anM_o (by omega) (by omega)).trans cpM_11
  · show bkM _ (bkO (rdS (lex (tpS S))))
    refine bkM_O ok r9 (by omega) ((e93 _ (by decide)).trans r2) ((e93 _ (by decide)).trans r3) ((e93 _ (by decide)).trans r4.1) (fun j hj => (e93 _ (by omega)).trans (r4.2 j hj)) (fun f hf => ⟨(e93 _ (by omega)).trans (r5 f hf).1, (e93 _ (by omega)).trans (r5 f hf).2⟩) (fun g hg => ⟨(e93 _ (by omega)).trans (r6 g hg).1, (e93 _ (by omega)).trans (r6 g hg).2.1, (e93 _ (by omega)).trans (r6 g hg).2.2.1, (e93 _ (by omega)).trans (r6 g hg).2.2.2.1, (e93 _ (by omega)).trans (r6 g hg).2.2.2.2.1, (e93 _ (by omega)).trans (r6 g hg).2.2.2.2.2⟩) (fun j hj => ?_)
    exact (anM_o (by omega) (by omega)).trans ((cpM_94 hj).trans (qm_r r1 rfl j hj))
  · obtain ⟨b1, b2, b3, b4, b5, b6, b7⟩ := i10
    refine ⟨anM_30 _, ?_, b3, b4, ?_, ⟨b6.1, Nat.lt_of_lt_of_le b6.2 g5⟩, fun j hj => absurd hj (Nat.not_lt_zero _)⟩
    · show 5 * 0 ≤ _; omega
    · show h3.2.2.1 83 29 = _; rw [g1]; exact b5
  · obtain ⟨b1, b2, b3, b4, b5, b6, b7⟩ := i11
    refine ⟨anM_32 _, ?_, b3, b4, ?_, ⟨b6.1, Nat.lt_of_lt_of_le b6.2 g5⟩, fun j hj => absurd hj (Nat.not_lt_zero _)⟩
    · show 5 * 0 ≤ _; omega
    · show h3.2.2.1 83 31 = _; rw [g1]; exact b5
  · exact kyM_e i14 (g2 88 (by decide) (by decide))

theorem ms_teach {d : Nat} {y : Y4} {S : Sta} {h : PH} {Q : Rs → PH → Prop} (I : MI h S y) (W : WN S) (hb8 : byT (tpS S)) (q1 : (rdE (lex (tpS S))).1 = 0 → ∀ h1, MI h1 (tauS S) y → fV h h1 → h1.1 83 0 = iZ 0 → Q (.inl (some (.inl (iZ ((0 : Nat) : Int))))) h1) (q0 : (rdE (lex (tpS S))).1 ≠ 0 → ∀ h1, MI h1 (terS S) y → fV h h1 → h1.1 83 0 = iZ 0 → Q (.inl (some (.inl (iZ (rdE (lex (tpS S))).1)))) h1) : Rn (d + 72) 176 [.inr (.inr (.inr (11, 0, 83)))] h Q := by
  have sh := mi_sh I
  have ht : (tpS S).length ≤ 1600 := W.2.2.2.2.2.2.2.2.2.2.2.2
  have w0 := lex_w ht hb8
  have hn := mi_hN I
  have ky := mi_ky I
  have l1 := w0.2.1
  refine Ev.sts 4 (c' := (6, [some (.inr (.inr (.inr (11, 0, 83)))), none], [.inr (.inr (.inr (11, 0, 83)))], (setI h 83 0 ((iZ (0)))))) rfl ?_
  refine Ev.callw (a := [.inr (.inr (.inr (11, 0, 83)))]) rfl (mk_scan (Sh_eq sh rfl) (show tpM (setI h 83 0 (iZ 0)) (tpS S) from ⟨(setI_ne (by omega)).trans (mi_tp I).1, fun j hj => (setI_ne (by omega)).trans ((mi_tp I).2 j hj)⟩) ht hb8 (fun h1 t1 f1 => ?_))
  have g1 := (gV_t (gV_I (.inl rfl)) (gV_N f1))
  have sh1 : Sh h1 := Sh_r sh g1.1
  have th1 : h1.1 83 0 = iZ 0 := (congrFun (f1.2.1 83 (by decide) (by decide)) 0).trans (setI_self _ _ _ _)
  have n1 : 103 ≤ hN h1 := Nat.le_trans hn g1.2.2.2.2.1
  have ky1 : kyM h1 := kyM_e ky (g1.2.1 88 (by decide) (by decide))
  refine Ev.sts 4 (c' := (15, [some (.inr (.inr (.inr (11, 0, 83)))), none], [.inr (.inr (.inr (11, 0, 83)))], (setI h1 83 8 ((iZ (0)))))) rfl ?_
  refine Ev.callw (a := [.inr (.inr (.inr (11, 0, 83)))]) rfl (mf_parse0 (Sh_eq sh1 rfl) (tmC_8 t1) w0 (setI_self _ _ _ _) (kyM_e ky1 rfl) n1 (fun bM bL h2 p2 W2 q2 f2 => ?_) (fun bM x2 a2 f2 => ?_) (fun bM bL x4 a2 f2 => ?_))
  · have g2 := (gV_t g1 (gV_t (gV_I (.inr rfl)) (gV_Q f2)))
    have th2 : h2.1 83 0 = iZ 0 := (f2.2.2.2.1 0 (by decide) (by decide) (by decide) (by decide) (by decide)).trans ((setI_ne (by omega)).trans th1)
    have n2 : 103 ≤ hN h2 := Nat.le_trans hn g2.2.2.2.2.1
    refine Ev.sts 2 (c' := (20, [some (.inr (.inr (.inr (11, 0, 83)))), some (.inl (iZ (1)))], [.inl (iZ (1))], h2)) rfl ?_
    refine Ev.brF (p := (iZ (1)) = (iZ (0))) (c1 := (33, [some (.inr (.inr (.inr (11, 0, 83)))), some (.inl (iZ (1)))], [], h2)) (c2 := (23, [some (.inr (.inr (.inr (11, 0, 83)))), some (.inl (iZ (1)))], [], h2)) (by decide) rfl ?_
    refine Ev.sts 4 (c' := (29, [some (.inr (.inr (.inr (11, 0, 83)))), some (.inl (iZ (1)))], [.inr (.inr (.inr (11, 0, 83)))], (setI h2 83 8 ((iZ (1)))))) rfl ?_
    refine Ev.callw (a := [.inr (.inr (.inr (11, 0, 83)))]) rfl (mf_parse1 (Sh_eq (qm_sh q2) rfl) (tmC_8 (qm_tk q2)) w0 (setI_self _ _ _ _) (kyM_e (qm_k q2) rfl) n2 bM bL (fun z3 h3 N3 p3 r3 f3 => ?_) (fun z3 x3 a3 f3 => ?_))
    · have g3 := (gV_t g2 (gV_t (gV_I (.inr rfl)) (gV_Q f3)))
      have th3 : h3.1 83 0 = iZ 0 := (f3.2.2.2.1 0 (by decide) (by decide) (by decide) (by decide) (by decide)).trans ((setI_ne (by omega)).trans th2)
      have rl3 := r3.2.2.2.2.2.2.2.2.2
      have pl3 := qm_p r3.1
      refine Ev.sts 6 (c' := (40, [some (.inr (.inr (.inr (11, 0, 83)))), some (.inl (iZ (1)))], [.inl (iZ (1)), .inr (.inr (.inr (11, 0, 83)))], (setI h3 83 2 ((iZ (0)))))) rfl ?_
      refine Ev.brF (p := (iZ (1)) = (iZ (0))) (c1 := (47, [some (.inr (.inr (.inr (11, 0, 83)))), some (.inl (iZ (1)))], [.inr (.inr (.inr (11, 0, 83)))], (setI h3 83 2 ((iZ (0)))))) (c2 := (43, [some (.inr (.inr (.inr (11, 0, 83)))), some (.inl (iZ (1)))], [.inr (.inr (.inr (11, 0, 83)))], (setI h3 83 2 ((iZ (0)))))) (by decide) rfl ?_
      refine Ev.sts 4 (c' := (55, [some (.inr (.inr (.inr (11, 0, 83)))), some (.inl (iZ (1)))], [.inl (iZ (1))], (setI (setI h3 83 2 ((iZ (0)))) 83 11 ((iZ (-1)))))) rfl ?_
      refine Ev.brT (p := ¬ (iZ (1)) = (iZ (0))) (c1 := (63, [some (.inr (.inr (.inr (11, 0, 83)))), some (.inl (iZ (1)))], [], (setI (setI h3 83 2 ((iZ (0)))) 83 11 ((iZ (-1)))))) (c2 := (58, [some (.inr (.inr (.inr (11, 0, 83)))), some (.inl (iZ (1)))], [], (setI (setI h3 83 2 ((iZ (0)))) 83 11 ((iZ (-1)))))) (by decide) rfl ?_
      refine Ev.sts 1 (c' := (64, [some (.inr (.inr (.inr (11, 0, 83)))), some (.inl (iZ (1)))], [.inr (.inr (.inr (11, 0, 83)))], (setI (setI h3 83 2 ((iZ (0)))) 83 11 ((iZ (-1)))))) rfl ?_
      refine Ev.gfr (r := (20, 64, 92)) rfl (sh_83_17 (h := h3) (qm_sh r3.1)) ?_
      refine Ev.sts 2 (c' := (69, [some (.inr (.inr (.inr (11, 0, 83)))), some (.inl (iZ (1)))], [.inr (.inr (.inr (11, 0, 83))), .inl (iZ (0)), .inr (.inr (.inr (20, 64, 92)))], (setI (setI h3 83 2 ((iZ (0)))) 83 11 ((iZ (-1)))))) rfl ?_
      refine Ev.gfr (r := (20, 64, 93)) rfl (sh_83_18 (h := h3) (qm_sh r3.1)) ?_
      refine Ev.sts 2 (c' := (74, [some (.inr (.inr (.inr (11, 0, 83)))), some (.inl (iZ (1)))], [.inr (.inr (.inr (11, 0, 83))), .inl (iZ (0)), .inr (.inr (.inr (20, 64, 93))), .inl (iZ (0)), .inr (.inr (.inr (20, 64, 92)))], (setI (setI h3 83 2 ((iZ (0)))) 83 11 ((iZ (-1)))))) rfl ?_
      refine Ev.gfr (r := (20, 64, 93)) rfl (sh_83_18 (h := h3) (qm_sh r3.1)) ?_
      refine Ev.sts 1 (c' := (78, [some (.inr (.inr (.inr (11, 0, 83)))), some (.inl (iZ (1)))], [.inl (iZ (64)), .inl (iZ (0)), .inr (.inr (.inr (20, 64, 93))), .inl (iZ (0)), .inr (.inr (.inr (20, 64, 92)))], (setI (setI h3 83 2 ((iZ (0)))) 83 11 ((iZ (-1)))))) rfl ?_
      refine Ev.pc (p := (iZ (0)) < 0 ∨ (iZ (0)) < 0 ∨ (iZ (64)) < 0 ∨ 64 < ((iZ (0))).toNatClampNeg + ((iZ (64))).toNatClampNeg ∨ 64 < ((iZ (0))).toNatClampNeg + ((iZ (64))).toNatClampNeg) (c1 := (81, [some (.inr (.inr (.inr (11, 0, 83)))), some (.inl (iZ (1)))], [], (cpyI (setI (setI h3 83 2 ((iZ (0)))) 83 11 ((iZ (-1)))) 92 ((iZ (0))).toNatClampNeg 93 ((iZ (0))).toNatClampNeg ((iZ (64))).toNatClampNeg))) (c2 := (81, [some (.inr (.inr (.inr (11, 0, 83)))), some (.inl (iZ (1)))], [], (cpyI (setI (setI h3 83 2 ((iZ (0)))) 83 11 ((iZ (-1)))) 92 0 93 0 64))) (cpy_in (s := 0) (d := 0) (k := 64) (by omega) (by omega) (by omega) (by omega) (by omega) (by omega) (by omega)) rfl (by rw [cpy_c (s := 0) (d := 0) (k := 64) (by omega) (by omega) (by omega) (by omega) (by omega) (by omega)]) ?_
      refine Ev.sts 1 (c' := (82, [some (.inr (.inr (.inr (11, 0, 83)))), some (.inl (iZ (1)))], [.inr (.inr (.inr (11, 0, 83)))], (cpyI (setI (setI h3 83 2 ((iZ (0)))) 83 11 ((iZ (-1)))) 92 0 93 0 64))) rfl ?_
      refine Ev.gfr (r := (20, 1024, 91)) rfl (sh_83_15 (h := h3) (qm_sh r3.1)) ?_
      refine Ev.sts 2 (c' := (87, [some (.inr (.inr (.inr (11, 0, 83)))), some (.inl (iZ (1)))], [.inr (.inr (.inr (11, 0, 83))), .inl (iZ (0)), .inr (.inr (.inr (20, 1024, 91)))], (cpyI (setI (setI h3 83 2 ((iZ (0)))) 83 11 ((iZ (-1)))) 92 0 93 0 64))) rfl ?_
      refine Ev.gfr (r := (20, 1024, 94)) rfl (sh_83_19 (h := h3) (qm_sh r3.1)) ?_
      refine Ev.sts 2 (c' := (92, [some (.inr (.inr (.inr (11, 0, 83)))), some (.inl (iZ (1)))], [.inr (.inr (.inr (11, 0, 83))), .inl (iZ (0)), .inr (.inr (.inr (20, 1024, 94))), .inl (iZ (0)), .inr (.inr (.inr (20, 1024, 91)))], (cpyI (setI (setI h3 83 2 ((iZ (0)))) 83 11 ((iZ (-1)))) 92 0 93 0 64))) rfl ?_
      refine Ev.gv (w := (iZ ((wds (smP (rdS (lex (tpS S))))).length))) rfl (show (cpyI (setI (setI h3 83 2 ((iZ (0)))) 83 11 ((iZ (-1)))) 92 0 93 0 64).1 83 16 = iZ ((wds (smP (rdS (lex (tpS S))))).length) from ((congrFun (cpy_oth (by decide)) 16).trans ((setI_ne (by decide)).trans ((setI_ne (by decide)).trans (qm_c r3.1))))) ?_
      refine Ev.pc (p := (iZ (0)) < 0 ∨ (iZ (0)) < 0 ∨ (iZ ((wds (smP (rdS (lex (tpS S))))).length)) < 0 ∨ 1024 < ((iZ (0))).toNatClampNeg + ((iZ ((wds (smP (rdS (lex (tpS S))))).length))).toNatClampNeg ∨ 1024 < ((iZ (0))).toNatClampNeg + ((iZ ((wds (smP (rdS (lex (tpS S))))).length))).toNatClampNeg) (c1 := (98, [some (.inr (.inr (.inr (11, 0, 83)))), some (.inl (iZ (1)))], [], (cpyI (cpyI (setI (setI h3 83 2 ((iZ (0)))) 83 11 ((iZ (-1)))) 92 0 93 0 64) 91 ((iZ (0))).toNatClampNeg 94 ((iZ (0))).toNatClampNeg ((iZ ((wds (smP (rdS (lex (tpS S))))).length))).toNatClampNeg))) (c2 := (98, [some (.inr (.inr (.inr (11, 0, 83)))), some (.inl (iZ (1)))], [], (cpyI (cpyI (setI (setI h3 83 2 ((iZ (0)))) 83 11 ((iZ (-1)))) 92 0 93 0 64) 91 0 94 0 ((wds (smP (rdS (lex (tpS S))))).length)))) (cpy_in (s := 0) (d := 0) (k := (wds (smP (rdS (lex (tpS S))))).length) (by omega) (by omega) (by omega) (by omega) (by omega) (by omega) (by omega)) rfl (by rw [cpy_c (s := 0) (d := 0) (k := (wds (smP (rdS (lex (tpS S))))).length) (by omega) (by omega) (by omega) (by omega) (by omega) (by omega)]) ?_
      refine Ev.sts 1 (c' := (99, [some (.inr (.inr (.inr (11, 0, 83)))), some (.inl (iZ (1)))], [.inr (.inr (.inr (11, 0, 83)))], (cpyI (cpyI (setI (setI h3 83 2 ((iZ (0)))) 83 11 ((iZ (-1)))) 92 0 93 0 64) 91 0 94 0 ((wds (smP (rdS (lex (tpS S))))).length)))) rfl ?_
      refine Ev.callv (a := [.inr (.inr (.inr (11, 0, 83)))]) rfl (mr_anew (h := cpM h3 (wds (smP (rdS (lex (tpS S))))).length) (Sh_eq (qm_sh r3.1) rfl)) ?_
      refine Ev.sts 1 (c' := (103, [some (.inr (.inr (.inr (11, 0, 83)))), some (.inl (iZ (1)))], [.inl (iZ (0))], (anM (cpM h3 (wds (smP (rdS (lex (tpS S))))).length)))) rfl ?_
      have eE := rdE_0 bM bL z3
      exact Ev.ret rfl (q1 (by rw [eE]) _ (MI_tauM I g3 r3 (by rw [eE])) (fV_g g3 (by decide) (fun a ha => (anM_p ha).trans (cpM_p ha)) rfl) ((anM_o (by decide) (by decide)).trans ((cpM_o (by decide) (by decide) (by decide)).trans th3)))
    · have g3 := (gV_t g2 (gV_t (gV_I (.inr rfl)) (gV_Q f3)))
      have th3 : x3.1 83 0 = iZ 0 := (f3.2.2.2.1 0 (by decide) (by decide) (by decide) (by decide) (by decide)).trans ((setI_ne (by omega)).trans th2)
      refine Ev.sts 6 (c' := (40, [some (.inr (.inr (.inr (11, 0, 83)))), some (.inl (iZ (0)))], [.inl (iZ (0)), .inr (.inr (.inr (11, 0, 83)))], (setI x3 83 2 ((iZ (0)))))) rfl ?_
      refine Ev.brT (p := (iZ (0)) = (iZ (0))) (c1 := (47, [some (.inr (.inr (.inr (11, 0, 83)))), some (.inl (iZ (0)))], [.inr (.inr (.inr (11, 0, 83)))], (setI x3 83 2 ((iZ (0)))))) (c2 := (43, [some (.inr (.inr (.inr (11, 0, 83)))), some (.inl (iZ (0)))], [.inr (.inr (.inr (11, 0, 83)))], (setI x3 83 2 ((iZ (0)))))) (by decide) rfl ?_
      refine Ev.sts 1 (c' := (48, [some (.inr (.inr (.inr (11, 0, 83)))), some (.inl (iZ (0)))], [.inr (.inr (.inr (11, 0, 83))), .inr (.inr (.inr (11, 0, 83)))], (setI x3 83 2 ((iZ (0)))))) rfl ?_
      refine Ev.gv (w := (iZ (tS (lex (tpS S)) ((smE (rdS (lex (tpS S)))).2)))) rfl (show (setI x3 83 2 ((iZ (0)))).1 83 10 = iZ (tS (lex (tpS S)) ((smE (rdS (lex (tpS S)))).2)) from ((setI_ne (by decide)).trans a3.2)) ?_
      refine Ev.sts 2 (c' := (55, [some (.inr (.inr (.inr (11, 0, 83)))), some (.inl (iZ (0)))], [.inl (iZ (0))], (setI (setI x3 83 2 ((iZ (0)))) 83 11 ((iZ (tS (lex (tpS S)) ((smE (rdS (lex (tpS S)))).2))))))) rfl ?_
      refine Ev.brF (p := ¬ (iZ (0)) = (iZ (0))) (c1 := (63, [some (.inr (.inr (.inr (11, 0, 83)))), some (.inl (iZ (0)))], [], (setI (setI x3 83 2 ((iZ (0)))) 83 11 ((iZ (tS (lex (tpS S)) ((smE (rdS (lex (tpS S)))).2))))))) (c2 := (58, [some (.inr (.inr (.inr (11, 0, 83)))), some (.inl (iZ (0)))], [], (setI (setI x3 83 2 ((iZ (0)))) 83 11 ((iZ (tS (lex (tpS S)) ((smE (rdS (lex (tpS S)))).2))))))) (by decide) rfl ?_
      refine Ev.sts 1 (c' := (59, [some (.inr (.inr (.inr (11, 0, 83)))), some (.inl (iZ (0)))], [.inr (.inr (.inr (11, 0, 83)))], (setI (setI x3 83 2 ((iZ (0)))) 83 11 ((iZ (tS (lex (tpS S)) ((smE (rdS (lex (tpS S)))).2))))))) rfl ?_
      refine Ev.gv (w := (iZ ((smE (rdS (lex (tpS S)))).1))) rfl (show (setI (setI x3 83 2 ((iZ (0)))) 83 11 ((iZ (tS (lex (tpS S)) ((smE (rdS (lex (tpS S)))).2))))).1 83 9 = iZ ((smE (rdS (lex (tpS S)))).1) from ((setI_ne (by decide)).trans ((setI_ne (by decide)).trans a3.1))) ?_
      have eE := (rdE_S bM bL z3)
      exact Ev.ret rfl (by
        have x_ := q0 (by rw [eE]; exact z3) (terM x3 (tS (lex (tpS S)) ((smE (rdS (lex (tpS S)))).2))) (MI_teM I g3 (by rw [eE])) (fV_g g3 (by decide) (fun a ha => (setI_oth (fun z_ => ha (by unfold pMo; omega))).trans (setI_oth (fun z_ => ha (by unfold pMo; omega)))) rfl) ((setI_ne (by decide)).trans ((setI_ne (by decide)).trans th3))
        rw [eE] at x_
        exact x_)
  · have g2 := (gV_t g1 (gV_t (gV_I (.inr rfl)) (gV_Q f2)))
    have th2 : x2.1 83 0 = iZ 0 := (f2.2.2.2.1 0 (by decide) (by decide) (by decide) (by decide) (by decide)).trans ((setI_ne (by omega)).trans th1)
    refine Ev.sts 2 (c' := (20, [some (.inr (.inr (.inr (11, 0, 83)))), some (.inl (iZ (0)))], [.inl (iZ (0))], x2)) rfl ?_
    refine Ev.brT (p := (iZ (0)) = (iZ (0))) (c1 := (33, [some (.inr (.inr (.inr (11, 0, 83)))), some (.inl (iZ (0)))], [], x2)) (c2 := (23, [some (.inr (.inr (.inr (11, 0, 83)))), some (.inl (iZ (0)))], [], x2)) (by decide) rfl ?_
    refine Ev.sts 5 (c' := (40, [some (.inr (.inr (.inr (11, 0, 83)))), some (.inl (iZ (0)))], [.inl (iZ (0)), .inr (.inr (.inr (11, 0, 83)))], (setI x2 83 2 ((iZ (0)))))) rfl ?_
    refine Ev.brT (p := (iZ (0)) = (iZ (0))) (c1 := (47, [some (.inr (.inr (.inr (11, 0, 83)))), some (.inl (iZ (0)))], [.inr (.inr (.inr (11, 0, 83)))], (setI x2 83 2 ((iZ (0)))))) (c2 := (43, [some (.inr (.inr (.inr (11, 0, 83)))), some (.inl (iZ (0)))], [.inr (.inr (.inr (11, 0, 83)))], (setI x2 83 2 ((iZ (0)))))) (by decide) rfl ?_
    refine Ev.sts 1 (c' := (48, [some (.inr (.inr (.inr (11, 0, 83)))), some (.inl (iZ (0)))], [.inr (.inr (.inr (11, 0, 83))), .inr (.inr (.inr (11, 0, 83)))], (setI x2 83 2 ((iZ (0)))))) rfl ?_
    refine Ev.gv (w := (iZ (tS (lex (tpS S)) ((rdM (lex (tpS S))).2.1)))) rfl (show (setI x2 83 2 ((iZ (0)))).1 83 10 = iZ (tS (lex (tpS S)) ((rdM (lex (tpS S))).2.1)) from ((setI_ne (by decide)).trans a2.2)) ?_
    refine Ev.sts 2 (c' := (55, [some (.inr (.inr (.inr (11, 0, 83)))), some (.inl (iZ (0)))], [.inl (iZ (0))], (setI (setI x2 83 2 ((iZ (0)))) 83 11 ((iZ (tS (lex (tpS S)) ((rdM (lex (tpS S))).2.1))))))) rfl ?_
    refine Ev.brF (p := ¬ (iZ (0)) = (iZ (0))) (c1 := (63, [some (.inr (.inr (.inr (11, 0, 83)))), some (.inl (iZ (0)))], [], (setI (setI x2 83 2 ((iZ (0)))) 83 11 ((iZ (tS (lex (tpS S)) ((rdM (lex (tpS S))).2.1))))))) (c2 := (58, [some (.inr (.inr (.inr (11, 0, 83)))), some (.inl (iZ (0)))], [], (setI (setI x2 83 2 ((iZ (0)))) 83 11 ((iZ (tS (lex (tpS S)) ((rdM (lex (tpS S))).2.1))))))) (by decide) rfl ?_
    refine Ev.sts 1 (c' := (59, [some (.inr (.inr (.inr (11, 0, 83)))), some (.inl (iZ (0)))], [.inr (.inr (.inr (11, 0, 83)))], (setI (setI x2 83 2 ((iZ (0)))) 83 11 ((iZ (tS (lex (tpS S)) ((rdM (lex (tpS S))).2.1))))))) rfl ?_
    refine Ev.gv (w := (iZ (1))) rfl (show (setI (setI x2 83 2 ((iZ (0)))) 83 11 ((iZ (tS (lex (tpS S)) ((rdM (lex (tpS S))).2.1))))).1 83 9 = iZ (1) from ((setI_ne (by decide)).trans ((setI_ne (by decide)).trans a2.1))) ?_
    have eE := (rdE_M bM)
    exact Ev.ret rfl (by
      have x_ := q0 (by rw [eE]; exact (by decide : (1 : Nat) ≠ 0)) (terM x2 (tS (lex (tpS S)) ((rdM (lex (tpS S))).2.1))) (MI_teM I g2 (by rw [eE])) (fV_g g2 (by decide) (fun a ha => (setI_oth (fun z_ => ha (by unfold pMo; omega))).trans (setI_oth (fun z_ => ha (by unfold pMo; omega)))) rfl) ((setI_ne (by decide)).trans ((setI_ne (by decide)).trans th2))
      rw [eE] at x_
      exact x_)
  · have g2 := (gV_t g1 (gV_t (gV_I (.inr rfl)) (gV_Q f2)))
    have th2 : x4.1 83 0 = iZ 0 := (f2.2.2.2.1 0 (by decide) (by decide) (by decide) (by decide) (by decide)).trans ((setI_ne (by omega)).trans th1)
    refine Ev.sts 2 (c' := (20, [some (.inr (.inr (.inr (11, 0, 83)))), some (.inl (iZ (0)))], [.inl (iZ (0))], x4)) rfl ?_
    refine Ev.brT (p := (iZ (0)) = (iZ (0))) (c1 := (33, [some (.inr (.inr (.inr (11, 0, 83)))), some (.inl (iZ (0)))], [], x4)) (c2 := (23, [some (.inr (.inr (.inr (11, 0, 83)))), some (.inl (iZ (0)))], [], x4)) (by decide) rfl ?_
    refine Ev.sts 5 (c' := (40, [some (.inr (.inr (.inr (11, 0, 83)))), some (.inl (iZ (0)))], [.inl (iZ (0)), .inr (.inr (.inr (11, 0, 83)))], (setI x4 83 2 ((iZ (0)))))) rfl ?_
    refine Ev.brT (p := (iZ (0)) = (iZ (0))) (c1 := (47, [some (.inr (.inr (.inr (11, 0, 83)))), some (.inl (iZ (0)))], [.inr (.inr (.inr (11, 0, 83)))], (setI x4 83 2 ((iZ (0)))))) (c2 := (43, [some (.inr (.inr (.inr (11, 0, 83)))), some (.inl (iZ (0)))], [.inr (.inr (.inr (11, 0, 83)))], (setI x4 83 2 ((iZ (0)))))) (by decide) rfl ?_
    refine Ev.sts 1 (c' := (48, [some (.inr (.inr (.inr (11, 0, 83)))), some (.inl (iZ (0)))], [.inr (.inr (.inr (11, 0, 83))), .inr (.inr (.inr (11, 0, 83)))], (setI x4 83 2 ((iZ (0)))))) rfl ?_
    refine Ev.gv (w := (iZ (tS (lex (tpS S)) ((rdL (lex (tpS S))).2.1)))) rfl (show (setI x4 83 2 ((iZ (0)))).1 83 10 = iZ (tS (lex (tpS S)) ((rdL (lex (tpS S))).2.1)) from ((setI_ne (by decide)).trans a2.2)) ?_
    refine Ev.sts 2 (c' := (55, [some (.inr (.inr (.inr (11, 0, 83)))), some (.inl (iZ (0)))], [.inl (iZ (0))], (setI (setI x4 83 2 ((iZ (0)))) 83 11 ((iZ (tS (lex (tpS S)) ((rdL (lex (tpS S))).2.1))))))) rfl ?_
    refine Ev.brF (p := ¬ (iZ (0)) = (iZ (0))) (c1 := (63, [some (.inr (.inr (.inr (11, 0, 83)))), some (.inl (iZ (0)))], [], (setI (setI x4 83 2 ((iZ (0)))) 83 11 ((iZ (tS (lex (tpS S)) ((rdL (lex (tpS S))).2.1))))))) (c2 := (58, [some (.inr (.inr (.inr (11, 0, 83)))), some (.inl (iZ (0)))], [], (setI (setI x4 83 2 ((iZ (0)))) 83 11 ((iZ (tS (lex (tpS S)) ((rdL (lex (tpS S))).2.1))))))) (by decide) rfl ?_
    refine Ev.sts 1 (c' := (59, [some (.inr (.inr (.inr (11, 0, 83)))), some (.inl (iZ (0)))], [.inr (.inr (.inr (11, 0, 83)))], (setI (setI x4 83 2 ((iZ (0)))) 83 11 ((iZ (tS (lex (tpS S)) ((rdL (lex (tpS S))).2.1))))))) rfl ?_
    refine Ev.gv (w := (iZ (1))) rfl (show (setI (setI x4 83 2 ((iZ (0)))) 83 11 ((iZ (tS (lex (tpS S)) ((rdL (lex (tpS S))).2.1))))).1 83 9 = iZ (1) from ((setI_ne (by decide)).trans ((setI_ne (by decide)).trans a2.1))) ?_
    have eE := (rdE_L bM bL)
    exact Ev.ret rfl (by
      have x_ := q0 (by rw [eE]; exact (by decide : (1 : Nat) ≠ 0)) (terM x4 (tS (lex (tpS S)) ((rdL (lex (tpS S))).2.1))) (MI_teM I g2 (by rw [eE])) (fV_g g2 (by decide) (fun a ha => (setI_oth (fun z_ => ha (by unfold pMo; omega))).trans (setI_oth (fun z_ => ha (by unfold pMo; omega)))) rfl) ((setI_ne (by decide)).trans ((setI_ne (by decide)).trans th2))
      rw [eE] at x_
      exact x_)

