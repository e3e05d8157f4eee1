/-! The mean is a number. -/
theorem enc_ok (s : Bool) (c : Nat) (q : Int) (hq : -1074 ≤ q) : ∃ E T : Nat, FP.Core.encode FP.Core.b64 (FP.Core.settle FP.Core.b64 s c q) = FP.Core.assemble FP.Core.b64 s E T ∧ T < 4503599627370496 ∧ (E < 2047 ∨ E = 2047 ∧ T = 0) := by
  have e1 : FP.Core.b64.qmin = -1074 := by decide
  have e2 : FP.Core.b64.qmax = 971 := by decide
  have e3 : FP.Core.b64.tails = 4503599627370496 := by decide
  have e4 : (2 : Nat) ^ FP.Core.b64.p = 9007199254740992 := by decide
  have e5 : FP.Core.b64.exps = 2048 := by decide
  have hb : ∀ (c : Nat) (q : Int), -1074 ≤ q → c < 9007199254740992 → ∃ E T : Nat, FP.Core.encode FP.Core.b64 (FP.Core.bound FP.Core.b64 s c q) = FP.Core.assemble FP.Core.b64 s E T ∧ T < 4503599627370496 ∧ (E < 2047 ∨ E = 2047 ∧ T = 0) := by
    intro c q h1 h2
    unfold FP.Core.bound
    rw [e2]
    by_cases z : q ≤ 971
    · rw [if_pos z]
      show ∃ E T : Nat, (if c < FP.Core.b64.tails then FP.Core.assemble FP.Core.b64 s 0 c else FP.Core.assemble FP.Core.b64 s ((q - FP.Core.b64.qmin).toNat + 1) (c - FP.Core.b64.tails)) = _ ∧ _
      rw [e1, e3]
      by_cases y : c < 4503599627370496
      · rw [if_pos y]; exact ⟨0, c, rfl, y, .inl (by omega)⟩
      · rw [if_neg y]; exact ⟨_, _, rfl, by omega, .inl (by omega)⟩
    · rw [if_neg z]
      exact ⟨2047, 0, rfl, by omega, .inr ⟨rfl, rfl⟩⟩
  unfold FP.Core.settle
  rw [e4, e3]
  by_cases z : c < 9007199254740992
  · rw [if_pos z]; exact hb c q hq z
  · rw [if_neg z]; exact hb _ (q + 1) (by omega) (by omega)
theorem asm_le {E T : Nat} (hT : T < 4503599627370496) (hE : E < 2047 ∨ E = 2047 ∧ T = 0) : UInt64.ofNat (FP.Core.assemble FP.Core.b64 false E T) &&& 0x7fffffffffffffff ≤ (0x7ff0000000000000 : UInt64) := by
  have e : FP.Core.assemble FP.Core.b64 false E T = E * 4503599627370496 + T := by
    show (0 * 2048 + E) * 4503599627370496 + T = _
    omega
  rw [e, UInt64.le_iff_toNat_le, UInt64.toNat_and]
  refine Nat.le_trans Nat.and_le_left ?_
  rw [UInt64.toNat_ofNat']
  show (E * 4503599627370496 + T) % 18446744073709551616 ≤ 9218868437227405312
  rw [Nat.mod_eq_of_lt (by omega)]
  omega
theorem enc_fin (c : Nat) (q : Int) (hq : -1074 ≤ q) (h9 : q ≤ 900) : ∃ E T : Nat, FP.Core.encode FP.Core.b64 (FP.Core.settle FP.Core.b64 false c q) = FP.Core.assemble FP.Core.b64 false E T ∧ T < 4503599627370496 ∧ E < 2047 ∧ (c ≠ 0 → E ≠ 0 ∨ T ≠ 0) := by
  have e1 : FP.Core.b64.qmin = -1074 := by decide
  have e2 : FP.Core.b64.qmax = 971 := by decide
  have e3 : FP.Core.b64.tails = 4503599627370496 := by decide
  have e4 : (2 : Nat) ^ FP.Core.b64.p = 9007199254740992 := by decide
  have hb : ∀ (c : Nat) (q : Int), -1074 ≤ q → q ≤ 901 → c < 9007199254740992 → ∃ E T : Nat, FP.Core.encode FP.Core.b64 (FP.Core.bound FP.Core.b64 false c q) = FP.Core.assemble FP.Core.b64 false E T ∧ T < 4503599627370496 ∧ E < 2047 ∧ (c ≠ 0 → E ≠ 0 ∨ T ≠ 0) := by
    intro c q h1 h3 h2
    unfold FP.Core.bound
    rw [e2, if_pos (show q ≤ 971 by omega)]
    show ∃ E T : Nat, (if c < FP.Core.b64.tails then FP.Core.assemble FP.Core.b64 false 0 c else FP.Core.assemble FP.Core.b64 false ((q - FP.Core.b64.qmin).toNat + 1) (c - FP.Core.b64.tails)) = _ ∧ _
    rw [e1, e3]
    by_cases y : c < 4503599627370496
    · rw [if_pos y]; exact ⟨0, c, rfl, y, by omega, fun z => .inr z⟩
    · rw [if_neg y]; exact ⟨_, _, rfl, by omega, by omega, fun _ => .inl (by omega)⟩
  unfold FP.Core.settle
  rw [e4, e3]
  by_cases z : c < 9007199254740992
  · rw [if_pos z]; exact hb c q hq (by omega) z
  · rw [if_neg z]
    obtain ⟨E, T, a1, a2, a3, a4⟩ := hb 4503599627370496 (q + 1) (by omega) (by omega) (by omega)
    exact ⟨E, T, a1, a2, a3, fun _ => a4 (by omega)⟩
theorem asm_dec {E T : Nat} (hT : T < 4503599627370496) (hE : E < 2047) : ∃ (c : Nat) (q : Int), FP.Core.decode FP.Core.b64 (UInt64.ofNat (FP.Core.assemble FP.Core.b64 false E T)).toNat = .fin false c q ∧ (E ≠ 0 ∨ T ≠ 0 → c ≠ 0) := by
  have e : FP.Core.assemble FP.Core.b64 false E T = E * 4503599627370496 + T := by
    show (0 * 2048 + E) * 4503599627370496 + T = _
    omega
  rw [e, UInt64.toNat_ofNat', show (E * 4503599627370496 + T) % 2 ^ 64 = E * 4503599627370496 + T from Nat.mod_eq_of_lt (by omega)]
  have f1 : FP.Core.fieldE FP.Core.b64 (E * 4503599627370496 + T) = E := by
    show (E * 4503599627370496 + T) / 4503599627370496 % 2048 = E
    omega
  have f2 : FP.Core.fieldT FP.Core.b64 (E * 4503599627370496 + T) = T := by
    show (E * 4503599627370496 + T) % 4503599627370496 = T
    omega
  have f3 : FP.Core.fieldS FP.Core.b64 (E * 4503599627370496 + T) = false := by
    show ((E * 4503599627370496 + T) / 4503599627370496 / 2048 % 2 == 1) = false
    rw [show (E * 4503599627370496 + T) / 4503599627370496 / 2048 = 0 by omega]; rfl
  unfold FP.Core.decode
  rw [f1, f2, f3, if_neg (show ¬ E = FP.Core.b64.exps - 1 by rw [show FP.Core.b64.exps - 1 = 2047 by decide]; omega)]
  by_cases z : E = 0
  · rw [if_pos z]
    exact ⟨_, _, rfl, fun h => h.elim (fun y => absurd z y) (fun y => y)⟩
  · rw [if_neg z]
    refine ⟨_, _, rfl, fun _ => ?_⟩
    rw [show FP.Core.b64.tails = 4503599627370496 by decide]
    omega
theorem int_fin {a : Int} (h0 : 0 ≤ a) (h1 : a < 2147483648) : ∃ (c : Nat) (q : Int), FP.Core.decode FP.Core.b64 (FP.i2d (iZ a)).toNat = .fin false c q ∧ (a ≠ 0 → c ≠ 0) := by
  have e0 : FP.i2d (iZ a) = UInt64.ofNat (FP.Core.encode FP.Core.b64 (FP.Core.roundRatio FP.Core.b64 (decide (a < 0)) a.natAbs 1 0)) := by
    show UInt64.ofNat (FP.Core.encode FP.Core.b64 (FP.Core.roundRatio FP.Core.b64 (decide ((iZ a).toInt < 0)) (iZ a).toInt.natAbs 1 0)) = _
    rw [iZ_toInt (by omega) (by omega)]
  rw [e0, show decide (a < 0) = false from decide_eq_false (by omega)]
  unfold FP.Core.roundRatio
  by_cases z : a.natAbs = 0
  · rw [if_pos z]
    obtain ⟨c, q, d1, d2⟩ := asm_dec (E := 0) (T := 0) (by omega) (by omega)
    exact ⟨c, q, d1, fun h => absurd (by omega) h⟩
  · rw [if_neg z]
    have l1 : a.natAbs.log2 < 31 := (Nat.log2_lt z).mpr (by show a.natAbs < 2147483648; omega)
    have l2 : FP.Core.leading a.natAbs 1 ≤ (a.natAbs.log2 : Int) := by
      unfold FP.Core.leading
      have l3 : Nat.log2 1 = 0 := by decide
      rw [l3]
      show (if (1 : Nat) * 2 ^ ((a.natAbs.log2 : Int) - ((0 : Nat) : Int)).toNat ≤ a.natAbs * 2 ^ (-((a.natAbs.log2 : Int) - ((0 : Nat) : Int))).toNat then ((a.natAbs.log2 : Int) - ((0 : Nat) : Int)) else ((a.natAbs.log2 : Int) - ((0 : Nat) : Int)) - 1) ≤ _
      split <;> omega
    have q1 : FP.Core.quantum FP.Core.b64 a.natAbs 1 0 = max (-1074) (FP.Core.leading a.natAbs 1 + 0 - 52) := rfl
    unfold FP.Core.roundAt
    have q2 : -1074 ≤ FP.Core.quantum FP.Core.b64 a.natAbs 1 0 := by omega
    have q3 : FP.Core.quantum FP.Core.b64 a.natAbs 1 0 ≤ 0 := by omega
    obtain ⟨E, T, a1, a2, a3, a4⟩ := enc_fin (FP.Core.nearest (FP.Core.unitsNum a.natAbs 0 (FP.Core.quantum FP.Core.b64 a.natAbs 1 0)) (FP.Core.unitsDen 1 0 (FP.Core.quantum FP.Core.b64 a.natAbs 1 0))) (FP.Core.quantum FP.Core.b64 a.natAbs 1 0) q2 (by omega)
    rw [a1]
    obtain ⟨c, q, d1, d2⟩ := asm_dec a2 a3
    refine ⟨c, q, d1, fun _ => d2 (a4 ?_)⟩
    unfold FP.Core.unitsDen FP.Core.nearest
    rw [show (FP.Core.quantum FP.Core.b64 a.natAbs 1 0 - 0).toNat = 0 by omega]
    show ¬ (if 2 * (FP.Core.unitsNum a.natAbs 0 (FP.Core.quantum FP.Core.b64 a.natAbs 1 0) % 1) < 1 then FP.Core.unitsNum a.natAbs 0 (FP.Core.quantum FP.Core.b64 a.natAbs 1 0) / 1 else _) = 0
    rw [Nat.mod_one, if_pos (by omega), Nat.div_one]
    unfold FP.Core.unitsNum
    exact Nat.mul_ne_zero z (Nat.ne_of_gt (Nat.pow_pos (by omega)))
theorem mean_in {a b : Int} (h0 : 0 ≤ a) (h1 : a < 2147483648) (h2 : 1 ≤ b) (h3 : b < 2147483648) : FP.ddiv (FP.i2d (iZ a)) (FP.i2d (iZ b)) &&& 0x7fffffffffffffff ≤ (0x7ff0000000000000 : UInt64) := by
  obtain ⟨c, q, d1, -⟩ := int_fin h0 h1
  obtain ⟨d, r, g1, g2⟩ := int_fin (a := b) (by omega) h3
  show UInt64.ofNat (FP.Core.encode FP.Core.b64 (FP.Core.quotient FP.Core.b64 (FP.Core.decode FP.Core.b64 (FP.i2d (iZ a)).toNat) (FP.Core.decode FP.Core.b64 (FP.i2d (iZ b)).toNat))) &&& 0x7fffffffffffffff ≤ _
  rw [d1, g1]
  show UInt64.ofNat (FP.Core.encode FP.Core.b64 (if d = 0 then (if c = 0 then .nan else .inf (false != false)) else FP.Core.roundRatio FP.Core.b64 (false != false) c d (q - r))) &&& 0x7fffffffffffffff ≤ _
  rw [if_neg (g2 (by omega)), show (false != false) = false from rfl]
  unfold FP.Core.roundRatio
  by_cases z : c = 0
  · rw [if_pos z]
    exact asm_le (E := 0) (T := 0) (by omega) (.inl (by omega))
  · rw [if_neg z]
    unfold FP.Core.roundAt
    have q2 : -1074 ≤ FP.Core.quantum FP.Core.b64 c d (q - r) := by
      have q1 : FP.Core.quantum FP.Core.b64 c d (q - r) = max (-1074) (FP.Core.leading c d + (q - r) - 52) := rfl
      omega
    obtain ⟨E, T, a1, a2, a3⟩ := enc_ok false (FP.Core.nearest (FP.Core.unitsNum c (q - r) (FP.Core.quantum FP.Core.b64 c d (q - r))) (FP.Core.unitsDen d (q - r) (FP.Core.quantum FP.Core.b64 c d (q - r)))) _ q2
    rw [a1]
    exact asm_le a2 a3
theorem sumC_b {T : List Tel} : (∀ j, j < T.length → wB 1000 (T.getD j t0).2) → 0 ≤ sumC T ∧ sumC T ≤ 1000 * (T.length : Int) := by
  induction T with
  | nil => intro _; exact ⟨Int.le_refl _, Int.le_refl _⟩
  | cons t T ih =>
    intro h
    obtain ⟨b1, b2, b3, b4, b5, b6⟩ := h 0 (Nat.zero_lt_succ _)
    obtain ⟨i1, i2⟩ := ih (fun j hj => h (j + 1) (Nat.succ_lt_succ hj))
    replace b5 : 1 ≤ t.2.2.2.1 := b5
    replace b6 : t.2.2.2.1 ≤ 1000 := b6
    show 0 ≤ t.2.2.2.1 + sumC T ∧ t.2.2.2.1 + sumC T ≤ 1000 * ((T.length + 1 : Nat) : Int)
    omega
theorem mean_ok {S : Sta} (W : WN S) (h : 1 ≤ (tlS S).length) : meanN (tlS S) := by
  obtain ⟨-, w7, w8, w9, w10, w11, w12, w13, w14, w15, w16, w17, w18⟩ := W
  have b := sumC_b w17
  exact mean_in b.1 (by omega) (by omega) (by omega)
theorem mean_as {a b : Int} (h0 : 0 ≤ a) (h1 : a < 2147483648) (h2 : 1 ≤ b) (h3 : b < 2147483648) : ∃ E T : Nat, FP.ddiv (FP.i2d (iZ a)) (FP.i2d (iZ b)) = UInt64.ofNat (FP.Core.assemble FP.Core.b64 false E T) ∧ T < 4503599627370496 ∧ (E < 2047 ∨ E = 2047 ∧ T = 0) := by
  obtain ⟨c, q, d1, -⟩ := int_fin h0 h1
  obtain ⟨d, r, g1, g2⟩ := int_fin (a := b) (by omega) h3
  show ∃ E T : Nat, UInt64.ofNat (FP.Core.encode FP.Core.b64 (FP.Core.quotient FP.Core.b64 (FP.Core.decode FP.Core.b64 (FP.i2d (iZ a)).toNat) (FP.Core.decode FP.Core.b64 (FP.i2d (iZ b)).toNat))) = _ ∧ _
  rw [d1, g1]
  show ∃ E T : Nat, UInt64.ofNat (FP.Core.encode FP.Core.b64 (if d = 0 then (if c = 0 then .nan else .inf (false != false)) else FP.Core.roundRatio FP.Core.b64 (false != false) c d (q - r))) = _ ∧ _
  rw [if_neg (g2 (by omega)), show (false != false) = false from rfl]
  unfold FP.Core.roundRatio
  by_cases z : c = 0
  · rw [if_pos z]
    exact ⟨0, 0, rfl, by omega, .inl (by omega)⟩
  · rw [if_neg z]
    unfold FP.Core.roundAt
    have q2 : -1074 ≤ FP.Core.quantum FP.Core.b64 c d (q - r) := by
      have q1 : FP.Core.quantum FP.Core.b64 c d (q - r) = max (-1074) (FP.Core.leading c d + (q - r) - 52) := rfl
      omega
    obtain ⟨E, T, a1, a2, a3⟩ := enc_ok false (FP.Core.nearest (FP.Core.unitsNum c (q - r) (FP.Core.quantum FP.Core.b64 c d (q - r))) (FP.Core.unitsDen d (q - r) (FP.Core.quantum FP.Core.b64 c d (q - r)))) _ q2
    exact ⟨E, T, congrArg UInt64.ofNat a1, a2, a3⟩
theorem dcmp_as {E T : Nat} (hT : T < 4503599627370496) (hE : E < 2047 ∨ E = 2047 ∧ T = 0) : FP.dcmp (UInt64.ofNat (FP.Core.assemble FP.Core.b64 false E T)) (UInt64.ofNat (FP.Core.assemble FP.Core.b64 false E T)) = some .eq := by
  rcases hE with e | ⟨rfl, rfl⟩
  · obtain ⟨c, q, d1, -⟩ := asm_dec hT e
    show FP.Core.order (FP.Core.decode FP.Core.b64 (UInt64.ofNat (FP.Core.assemble FP.Core.b64 false E T)).toNat) (FP.Core.decode FP.Core.b64 (UInt64.ofNat (FP.Core.assemble FP.Core.b64 false E T)).toNat) = some .eq
    rw [d1]
    show some (compareOfLessAndEq _ _) = some Ordering.eq
    unfold compareOfLessAndEq
    rw [if_neg (Int.lt_irrefl _), if_pos rfl]
  · decide
theorem mean_cmp {S : Sta} (W : WN S) (h : 1 ≤ (tlS S).length) : FP.dcmp (FP.ddiv (FP.i2d (iZ (sumC (tlS S)))) (FP.i2d (iZ (tlS S).length))) (FP.ddiv (FP.i2d (iZ (sumC (tlS S)))) (FP.i2d (iZ (tlS S).length))) = some .eq := by
  obtain ⟨-, w7, w8, w9, w10, w11, w12, w13, w14, w15, w16, w17, w18⟩ := W
  have b := sumC_b w17
  obtain ⟨E, T, e, h1, h2⟩ := mean_as (a := sumC (tlS S)) (b := ((tlS S).length : Int)) b.1 (by omega) (by omega) (by omega)
  rw [e]
  exact dcmp_as h1 h2
theorem zero_cmp : FP.dcmp FP.dconst0 FP.dconst0 = some .eq := by decide
