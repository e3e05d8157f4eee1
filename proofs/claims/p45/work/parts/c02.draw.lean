/-! The book's draws, its text, its trees' objects. -/
theorem low31 (v : Int32) : ∃ y : Int, 0 ≤ y ∧ y < 2147483648 ∧ v &&& iZ 2147483647 = iZ y := by
  refine ⟨(v &&& iZ 2147483647).toInt, ?_, ?_, (Int32.ofInt_toInt _).symm⟩
  · have e : (v &&& iZ 2147483647).toInt = (v.toBitVec &&& 2147483647#32).toInt := rfl
    have l : (v.toBitVec &&& 2147483647#32).toNat ≤ 2147483647 := by rw [BitVec.toNat_and]; exact Nat.and_le_right
    rw [e, BitVec.toInt_eq_toNat_cond, if_pos (by omega)]
    omega
  · have := (v &&& iZ 2147483647).toInt_lt
    omega
theorem w_below {d : Nat} {v : Int32} {n : Int} {h : PH} {Q : Rs → PH → Prop} (hn : 0 < n ∧ n ≤ 100000) (q : ∀ w : Int, 0 ≤ w → w < n → Q (.inl (some (.inl (iZ w)))) h) : Rn d 28 [.inl (v), .inl (iZ (n))] h Q := by
  refine Ev.sts 2 (c' := (3, [some (.inl (v)), some (.inl (iZ (n)))], [.inl (iZ (2147483647)), .inl (v)], h)) rfl ?_
  obtain ⟨y, y0, y1, ye⟩ := low31 v
  refine Ev.gv (w := (iZ (y))) rfl ye ?_
  refine Ev.sts 1 (c' := (5, [some (.inl (v)), some (.inl (iZ (n)))], [.inl (iZ (n)), .inl (iZ (y))], h)) rfl ?_
  refine Ev.pv (p := (iZ (n)) = 0) (v := .inl ((iZ (y)) - (iZ (y)) / (iZ (n)) * (iZ (n)))) (w := .inl (iZ (y % n))) (iZ_n0 (by omega) (by omega)) rfl (congrArg vI (iZ_rem (by omega) (by omega) (by omega) (by omega))) ?_
  exact Ev.ret rfl (q _ (by have := Int.emod_nonneg y (show n ≠ 0 by omega); exact this) (Int.emod_lt_of_pos y (by omega)))

theorem w_cell {d L k : Nat} {x : Int} {h : PH} {Q : Rs → PH → Prop} (hx : x = (k : Int)) (hk : k < 100000) (hL : L ≤ 100000) (q : ∀ v, Q (.inl (some (.inl v))) h) : Rn d 26 [.inr (.inr (.inr (45, L, 0))), .inl (iZ (x))] h Q := by
  refine Ev.sts 2 (c' := (2, [some (.inr (.inr (.inr (45, L, 0)))), some (.inl (iZ (x)))], [.inr (.inr (.inr (45, L, 0))), .inl (iZ (x))], h)) rfl ?_
  refine Ev.gv (w := (iZ (L))) rfl (iZ_nat _) ?_
  refine Ev.brc (p := (iZ (L)) ≤ (iZ (x))) (q := ((L : Int)) ≤ x) (c1 := (12, [some (.inr (.inr (.inr (45, L, 0)))), some (.inl (iZ (x)))], [], h)) (c2 := (6, [some (.inr (.inr (.inr (45, L, 0)))), some (.inl (iZ (x)))], [], h)) rfl (iZ_le ⟨by omega, by omega⟩ ⟨by omega, by omega⟩) (fun c0 => ?_) (fun c0 => ?_)
  · refine Ev.sts 3 (c' := (16, [some (.inr (.inr (.inr (45, L, 0)))), some (.inl (iZ (x)))], [.inl (iZ (3)), .inl (iZ (x)), .inl (iZ (790386105))], h)) rfl ?_
    refine Ev.gv (w := (iZ (x + 3))) rfl (iZ_add _ _) ?_
    refine Ev.gv (w := (iZ (790386105 * (x + 3)))) rfl (iZ_mul _ _) ?_
    exact Ev.ret rfl (q _)
  · refine Ev.sts 2 (c' := (8, [some (.inr (.inr (.inr (45, L, 0)))), some (.inl (iZ (x)))], [.inl (iZ (x)), .inr (.inr (.inr (45, L, 0)))], h)) rfl ?_
    refine Ev.ldv (j := (iZ (x))) (n := L) (w := .inl (h.1 0 k)) (iZ_in (by omega) (by omega) (by omega)) rfl (by rw [iZ_ix (n := k) (by omega) (by omega)]) ?_
    refine Ev.sts 1 (c' := (18, [some (.inr (.inr (.inr (45, L, 0)))), some (.inl (iZ (x)))], [.inl (h.1 0 k)], h)) rfl ?_
    exact Ev.ret rfl (q _)

theorem bk_draw0 {d L dr : Nat} {n : Int} {h : PH} {Q : Rs → PH → Prop} (es : h.2.2.1 83 0 = (45, L, 0)) (e1 : h.1 83 1 = iZ (dr : Int)) (hd : dr < 1000000) (hL : L ≤ 100000) (hn : 0 < n ∧ n ≤ 100000) (q : ∀ w : Int, 0 ≤ w → w < n → Q (.inl (some (.inl (iZ w)))) (setI h 83 1 (iZ ((dr : Int) + 1)))) : Rn (d + 1) 162 [.inr (.inr (.inr (11, 0, 83))), .inl (iZ (n))] h Q := by
  refine Ev.sts 2 (c' := (2, [some (.inr (.inr (.inr (11, 0, 83)))), some (.inl (iZ (n)))], [.inr (.inr (.inr (11, 0, 83))), .inr (.inr (.inr (11, 0, 83)))], h)) rfl ?_
  refine Ev.gv (w := (iZ ((dr : Int)))) rfl e1 ?_
  refine Ev.sts 1 (c' := (6, [some (.inr (.inr (.inr (11, 0, 83)))), some (.inl (iZ (n)))], [.inl (iZ (1)), .inl (iZ ((dr : Int))), .inr (.inr (.inr (11, 0, 83)))], h)) rfl ?_
  refine Ev.gv (w := (iZ (((dr : Int)) + 1))) rfl (iZ_add _ _) ?_
  refine Ev.sts 2 (c' := (11, [some (.inr (.inr (.inr (11, 0, 83)))), some (.inl (iZ (n)))], [.inr (.inr (.inr (11, 0, 83)))], (setI h 83 1 ((iZ (((dr : Int)) + 1)))))) rfl ?_
  refine Ev.gfr (r := (45, L, 0)) rfl es ?_
  refine Ev.sts 3 (c' := (20, [some (.inr (.inr (.inr (11, 0, 83)))), some (.inl (iZ (n)))], [.inl (iZ (16)), .inl (iZ (((dr : Int)) + 1)), .inr (.inr (.inr (45, L, 0)))], (setI h 83 1 ((iZ (((dr : Int)) + 1)))))) rfl ?_
  refine Ev.pv (p := (iZ (16)) = 0) (v := .inl ((iZ (((dr : Int)) + 1)) - (iZ (((dr : Int)) + 1)) / (iZ (16)) * (iZ (16)))) (w := .inl (iZ ((((dr : Int)) + 1) % 16))) (iZ_n0 (by omega) (by omega)) rfl (congrArg vI (iZ_rem (by omega) (by omega) (by omega) (by omega))) ?_
  refine Ev.callw (a := [.inr (.inr (.inr (45, L, 0))), .inl (iZ ((((dr : Int)) + 1) % 16))]) rfl (w_cell (k := (dr + 1) % 16) (by omega) (by omega) (by omega) (fun cv => ?_))
  refine Ev.sts 3 (c' := (30, [some (.inr (.inr (.inr (11, 0, 83)))), some (.inl (iZ (n)))], [.inl (iZ (16)), .inl (iZ (((dr : Int)) + 1)), .inl (cv)], (setI h 83 1 ((iZ (((dr : Int)) + 1)))))) rfl ?_
  refine Ev.pv (p := (iZ (16)) = 0) (v := .inl ((iZ (((dr : Int)) + 1)) / (iZ (16)))) (w := .inl (iZ ((((dr : Int)) + 1) / 16))) (iZ_n0 (by omega) (by omega)) rfl (congrArg vI (iZ_div (by omega) (by omega) (by omega) (by omega))) ?_
  refine Ev.sts 1 (c' := (32, [some (.inr (.inr (.inr (11, 0, 83)))), some (.inl (iZ (n)))], [.inl (iZ (5)), .inl (iZ ((((dr : Int)) + 1) / 16)), .inl (cv)], (setI h 83 1 ((iZ (((dr : Int)) + 1)))))) rfl ?_
  refine Ev.pv (p := (iZ (5)) = 0) (v := .inl ((iZ ((((dr : Int)) + 1) / 16)) - (iZ ((((dr : Int)) + 1) / 16)) / (iZ (5)) * (iZ (5)))) (w := .inl (iZ (((((dr : Int)) + 1) / 16) % 5))) (iZ_n0 (by omega) (by omega)) rfl (congrArg vI (iZ_rem (by omega) (by omega) (by omega) (by omega))) ?_
  refine Ev.sts 1 (c' := (34, [some (.inr (.inr (.inr (11, 0, 83)))), some (.inl (iZ (n)))], [.inl (iZ (3)), .inl (iZ (((((dr : Int)) + 1) / 16) % 5)), .inl (cv)], (setI h 83 1 ((iZ (((dr : Int)) + 1)))))) rfl ?_
  refine Ev.gv (w := (iZ ((((((dr : Int)) + 1) / 16) % 5) * 3))) rfl (iZ_mul _ _) ?_
  refine Ev.sts 4 (c' := (43, [some (.inr (.inr (.inr (11, 0, 83)))), some (.inl (iZ (n)))], [.inl (iZ (((dr : Int)) + 1)), .inl (iZ (709)), .inl ((cv >>> ((iZ ((((((dr : Int)) + 1) / 16) % 5) * 3)) &&& 31)))], (setI h 83 1 ((iZ (((dr : Int)) + 1)))))) rfl ?_
  refine Ev.gv (w := (iZ (709 * (((dr : Int)) + 1)))) rfl (iZ_mul _ _) ?_
  refine Ev.sts 2 (c' := (46, [some (.inr (.inr (.inr (11, 0, 83)))), some (.inl (iZ (n)))], [.inl (iZ (n)), .inl (((cv >>> ((iZ ((((((dr : Int)) + 1) / 16) % 5) * 3)) &&& 31)) + (iZ (709 * (((dr : Int)) + 1)))))], (setI h 83 1 ((iZ (((dr : Int)) + 1)))))) rfl ?_
  refine Ev.callw (a := [.inl (((cv >>> ((iZ ((((((dr : Int)) + 1) / 16) % 5) * 3)) &&& 31)) + (iZ (709 * (((dr : Int)) + 1))))), .inl (iZ (n))]) rfl (w_below ⟨by omega, by omega⟩ (fun w w0 w1 => ?_))
  exact Ev.ret rfl (q w w0 w1)

