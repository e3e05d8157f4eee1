/-! Numbers: an Int32 out of an integer. -/
def iZ (z : Int) : Int32 := Int32.ofInt z
theorem iZ_toInt {z : Int} (h1 : -2147483648 ≤ z) (h2 : z < 2147483648) : (iZ z).toInt = z := by
  exact Int32.toInt_ofInt_of_le h1 h2
theorem iZ_of (x : Int32) : iZ x.toInt = x := Int32.ofInt_toInt x
theorem iZ_lt {a b : Int} (h1 : -2147483648 ≤ a ∧ a < 2147483648) (h2 : -2147483648 ≤ b ∧ b < 2147483648) : iZ a < iZ b ↔ a < b := by
  rw [Int32.lt_iff_toInt_lt, iZ_toInt h1.1 h1.2, iZ_toInt h2.1 h2.2]
theorem iZ_le {a b : Int} (h1 : -2147483648 ≤ a ∧ a < 2147483648) (h2 : -2147483648 ≤ b ∧ b < 2147483648) : iZ a ≤ iZ b ↔ a ≤ b := by
  rw [Int32.le_iff_toInt_le, iZ_toInt h1.1 h1.2, iZ_toInt h2.1 h2.2]
theorem iZ_eq {a b : Int} (h1 : -2147483648 ≤ a ∧ a < 2147483648) (h2 : -2147483648 ≤ b ∧ b < 2147483648) : iZ a = iZ b ↔ a = b := by
  constructor
  · intro h
    have := congrArg Int32.toInt h
    rwa [iZ_toInt h1.1 h1.2, iZ_toInt h2.1 h2.2] at this
  · intro h; rw [h]
theorem iZ_add (a b : Int) : iZ a + iZ b = iZ (a + b) := (Int32.ofInt_add a b).symm
theorem iZ_sub (a b : Int) : iZ a - iZ b = iZ (a - b) := (Int32.ofInt_sub a b).symm
theorem iZ_mul (a b : Int) : iZ a * iZ b = iZ (a * b) := (Int32.ofInt_mul a b).symm
theorem iZ_neg (a : Int) : -iZ a = iZ (-a) := (Int32.ofInt_neg a).symm
theorem iZ_cl {z : Int} (h1 : 0 ≤ z) (h2 : z < 2147483648) : (iZ z).toNatClampNeg = z.toNat := by
  show (iZ z).toInt.toNat = _
  rw [iZ_toInt (by omega) h2]
theorem iZ_nat (n : Nat) : Int32.ofNat n = iZ (n : Int) := Int32.ofInt_eq_ofNat.symm
theorem iZ_l0 : (0 : Int32) = iZ 0 := rfl
/-- an index in its row -/
theorem iZ_in {z : Int} {n : Nat} (h1 : 0 ≤ z) (h2 : z < (n : Int)) (h3 : z < 2147483648) : ¬ (iZ z < 0 ∨ n ≤ (iZ z).toNatClampNeg) := by
  rw [iZ_cl h1 h3, iZ_l0, iZ_lt (by omega) (by omega)]
  omega
theorem iZ_max {a b : Int} (h1 : -2147483648 ≤ a ∧ a < 2147483648) (h2 : -2147483648 ≤ b ∧ b < 2147483648) : (if iZ a < iZ b then iZ b else iZ a) = iZ (max a b) := by
  by_cases h : a < b
  · rw [if_pos ((iZ_lt h1 h2).mpr h)]; congr 1; omega
  · rw [if_neg (fun z => h ((iZ_lt h1 h2).mp z))]; congr 1; omega
theorem iZ_min {a b : Int} (h1 : -2147483648 ≤ a ∧ a < 2147483648) (h2 : -2147483648 ≤ b ∧ b < 2147483648) : (if iZ b < iZ a then iZ b else iZ a) = iZ (min a b) := by
  by_cases h : b < a
  · rw [if_pos ((iZ_lt h2 h1).mpr h)]; congr 1; omega
  · rw [if_neg (fun z => h ((iZ_lt h2 h1).mp z))]; congr 1; omega
theorem iZ_b (z : Int) (h : -2147483648 ≤ z ∧ z < 2147483648) : -2147483648 ≤ z ∧ z < 2147483648 := h
theorem i32_b (x : Int32) : -2147483648 ≤ x.toInt ∧ x.toInt < 2147483648 := ⟨x.le_toInt, x.toInt_lt⟩
/-! Stepping rules that put a value in place of an equal one. -/
theorem Ev.gv {d m pc : Nat} {c : Cf} {ls : LV} {st : List VV} {h : PH} {v w : Int32} {Q : Rs → PH → Prop} (hs : step m c = some (.inl (pc, ls, .inl v :: st, h))) (hv : v = w) (k : Ev d m (pc, ls, .inl w :: st, h) Q) : Ev d m c Q := by
  rw [hv] at hs
  exact Ev.st hs k
theorem Ev.gl {d m pc : Nat} {c : Cf} {ls : LV} {st : List VV} {h : PH} {v w : Int64} {Q : Rs → PH → Prop} (hs : step m c = some (.inl (pc, ls, .inr (.inl v) :: st, h))) (hv : v = w) (k : Ev d m (pc, ls, .inr (.inl w) :: st, h) Q) : Ev d m c Q := by
  rw [hv] at hs
  exact Ev.st hs k
theorem Ev.stc {d m : Nat} {c c1 c2 : Cf} {Q : Rs → PH → Prop} (hs : step m c = some (.inl c1)) (e : c1 = c2) (k : Ev d m c2 Q) : Ev d m c Q := by
  rw [e] at hs
  exact Ev.st hs k
/-- a load of an array's place -/
theorem Ev.ldv {d m n pc : Nat} {c : Cf} {ls : LV} {st : List VV} {h : PH} {j : Int32} {v w : VV} {Q : Rs → PH → Prop} (hin : ¬ (j < 0 ∨ n ≤ j.toNatClampNeg)) (hs : step m c = if j < 0 ∨ n ≤ j.toNatClampNeg then none else some (.inl (pc, ls, v :: st, h))) (hv : v = w) (kk : Ev d m (pc, ls, w :: st, h) Q) : Ev d m c Q := by
  rw [if_neg hin, hv] at hs
  exact Ev.st hs kk
/-- a store into an array's place -/
theorem Ev.sto {d m n pc : Nat} {c : Cf} {ls : LV} {st : List VV} {h' : PH} {j : Int32} {Q : Rs → PH → Prop} (hin : ¬ (j < 0 ∨ n ≤ j.toNatClampNeg)) (hs : step m c = if j < 0 ∨ n ≤ j.toNatClampNeg then none else some (.inl (pc, ls, st, h'))) {h2 : PH} (e : h' = h2) (kk : Ev d m (pc, ls, st, h2) Q) : Ev d m c Q := by
  rw [if_neg hin, e] at hs
  exact Ev.st hs kk
theorem Ev.brc {d m : Nat} {c c1 c2 : Cf} {p q : Prop} [Decidable p] {Q : Rs → PH → Prop} (hs : step m c = some (.inl (if p then c1 else c2))) (e : p ↔ q) (k1 : q → Ev d m c1 Q) (k2 : ¬ q → Ev d m c2 Q) : Ev d m c Q :=
  Ev.br hs (fun h => k1 (e.mp h)) (fun h => k2 (fun z => h (e.mpr z)))
theorem Ev.pv {d m pc : Nat} {c : Cf} {ls : LV} {st : List VV} {h : PH} {p : Prop} [Decidable p] {v w : VV} {Q : Rs → PH → Prop} (hin : ¬ p) (hs : step m c = if p then none else some (.inl (pc, ls, v :: st, h))) (hv : v = w) (kk : Ev d m (pc, ls, w :: st, h) Q) : Ev d m c Q := by
  rw [if_neg hin, hv] at hs
  exact Ev.st hs kk
theorem iZ_n0 {z : Int} (h1 : 0 < z) (h2 : z < 2147483648) : ¬ iZ z = 0 := by
  rw [iZ_l0, iZ_eq (by omega) (by omega)]
  omega
theorem iZ_div {a b : Int} (h1 : 0 ≤ a) (h2 : a < 2147483648) (h3 : 0 < b) (h4 : b < 2147483648) : iZ a / iZ b = iZ (a / b) := by
  have e1 := Int.ediv_nonneg h1 (Int.le_of_lt h3)
  have e2 := Int.ediv_le_self b h1
  apply Int32.toInt_inj.1
  rw [Int32.toInt_div, iZ_toInt (by omega) h2, iZ_toInt (by omega) h4, iZ_toInt (by omega) (by omega), Int.tdiv_eq_ediv_of_nonneg h1]
  exact Int.bmod_eq_of_le (by omega) (by omega)
theorem iZ_rem {a b : Int} (h1 : 0 ≤ a) (h2 : a < 2147483648) (h3 : 0 < b) (h4 : b < 2147483648) : iZ a - iZ a / iZ b * iZ b = iZ (a % b) := by
  rw [iZ_div h1 h2 h3 h4, iZ_mul, iZ_sub, Int.emod_def, Int.mul_comm]
theorem Ev.pc {d m : Nat} {c c1 c2 : Cf} {p : Prop} [Decidable p] {Q : Rs → PH → Prop} (hin : ¬ p) (hs : step m c = if p then none else some (.inl c1)) (e : c1 = c2) (kk : Ev d m c2 Q) : Ev d m c Q := by
  rw [if_neg hin, e] at hs
  exact Ev.st hs kk
