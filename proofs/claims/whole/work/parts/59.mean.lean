/-! The mean is a number. -/
theorem enc_ok (s : Bool) (c : Nat) (q : Int) (hq : -1074 ≤ q) : ∃ E T : Nat, FP.Core.encode FP.Core.b64 (FP.Core.settle FP.Core.b64 s c q) = FP.Core.assemble FP.Core.b64 s E T ∧ T < 4503599627370496 ∧ (E < 2047 ∨ E = 2047 ∧ T = 0) := by
  have e1 : FP.Core.b64.qmin = -1074 := by decide
  have e2 : FP.Core.b64.qmax = 971 := by decide
  have e3 : FP.Core.b64.tails = 4503599627370496 := by decide
  have e4 : (2 : Nat) ^ FP.Core.b64.p = 9007199254740992 := by decide
  have e5 : FP.Core.b64.exps = 2048 := by decide
  have hb : ∀ (c : Nat) (q : Int), -1074 ≤ q → c < 9007199254740992 → ∃ E T : Nat, FP.Core.encode FP.Core.b64 (FP.Core.bound FP.Core.b64 s c q) = FP.Core.assemble FP.Core.b64 s E T ∧ T < 4503599627370496 ∧ (E < 2047 ∨ E = 2047 ∧ T = 0) := by
    intro c q h1 h2
    unfold FP.Core.bound
    rw [e2]
    by_cases z : q ≤ 971
    · rw [if_pos z]
      show ∃ E T : Nat, (if c < FP.Core.b64.tails then FP.Core.assemble FP.Core.b64 s 0 c else FP.Core.assemble FP.Core.b64 s ((q - FP.Core.b64.qmin).toNat + 1) (c - FP.Core.b64.tails)) = _ ∧ _
      rw [e1, e3]
      by_cases y : c < 4503599627370496
      · rw [if_pos y]; exact ⟨0, c, rfl, y, .inl (by omega)⟩
      · rw [if_neg y]; exact ⟨_, _, rfl, by omega, .inl (by omega)⟩
    · rw [if_neg z]
      exact ⟨2047, 0, rfl, by omega, .inr ⟨rfl, rfl⟩⟩
  unfold FP.Core.settle
  rw [e4, e3]
  by_cases z : c < 9007199254740992
  · rw [if_pos z]; exact hb c q hq z
  · rw [if_neg z]; exact hb _ (q + 1) (by omega) (by omega)
theorem asm_le {E T : Nat} (hT : T < 4503599627370496) (hE : E < 2047 ∨ E = 2047 ∧ T = 0) : UInt64.ofNat (FP.Core.assemble FP.Core.b64 false E T) &&& 0x7fffffffffffffff ≤ (0x7ff0000000000000 : UInt64) := by
  have e : FP.Core.assemble FP.Core.b64 false E T = E * 4503599627370496 + T := by
    show (0 * 2048 + E) * 4503599627370496 + T = _
    omega
  rw [e, UInt64.le_iff_toNat_le, UInt64.toNat_and]
  refine Nat.le_trans Nat.and_le_left ?_
  rw [UInt64.toNat_ofNat']
  show (E * 4503599627370496 + T) % 18446744073709551616 ≤ 9218868437227405312
  rw [Nat.mod_eq_of_lt (by omega)]
  omega
