/-! Four letters in an int, and back. -/
theorem shl_or {x b : Int} (hx : 0 ≤ x ∧ x < 8388608) (hb : 0 ≤ b ∧ b < 256) : ((iZ x <<< (iZ 8 &&& 31)) ||| iZ b : Int32) = iZ (x * 256 + b) := by
  obtain ⟨n, rfl⟩ : ∃ n : Nat, x = (n : Int) := ⟨x.toNat, by omega⟩
  obtain ⟨m, rfl⟩ : ∃ m : Nat, b = (m : Int) := ⟨b.toNat, by omega⟩
  have e8 : (iZ 8 &&& 31 : Int32) = 8 := by decide
  rw [e8, show ((n : Int) * 256 + (m : Int)) = ((n * 256 + m : Nat) : Int) by omega, ← iZ_nat, ← iZ_nat, ← iZ_nat]
  apply Int32.toBitVec.inj
  have l : (Int32.ofNat n <<< (8 : Int32) ||| Int32.ofNat m).toBitVec = (BitVec.ofNat 32 n <<< 8) ||| BitVec.ofNat 32 m := rfl
  rw [l]
  show _ = BitVec.ofNat 32 (n * 256 + m)
  apply BitVec.eq_of_toNat_eq
  rw [BitVec.toNat_or, BitVec.toNat_shiftLeft, BitVec.toNat_ofNat, BitVec.toNat_ofNat, BitVec.toNat_ofNat, Nat.mod_eq_of_lt (show n < 2 ^ 32 by omega), Nat.mod_eq_of_lt (show m < 2 ^ 32 by omega), Nat.mod_eq_of_lt (show n * 256 + m < 2 ^ 32 by omega)]
  have s : n <<< 8 = n * 256 := by rw [Nat.shiftLeft_eq]
  rw [Nat.mod_eq_of_lt (show n <<< 8 < 2 ^ 32 by rw [s]; omega), ← Nat.shiftLeft_add_eq_or_of_lt (show m < 2 ^ 8 by omega), s]
theorem shr_d {y : Int} (hy : 0 ≤ y ∧ y < 2147483648) : (iZ y >>> (iZ 24 &&& 31) : Int32) = iZ (y / 16777216) ∧ (iZ y >>> (iZ 16 &&& 31) : Int32) = iZ (y / 65536) ∧ (iZ y >>> (iZ 8 &&& 31) : Int32) = iZ (y / 256) := by
  have t : (iZ y).toBitVec.toInt = y := iZ_toInt (by omega) (by omega)
  have e24 : (iZ 24 &&& 31 : Int32) = 24 := by decide
  have e16 : (iZ 16 &&& 31 : Int32) = 16 := by decide
  have e8 : (iZ 8 &&& 31 : Int32) = 8 := by decide
  refine ⟨?_, ?_, ?_⟩
  · rw [e24, ← iZ_of (iZ y >>> (24 : Int32))]
    have h : (iZ y >>> (24 : Int32)).toInt = ((iZ y).toBitVec.sshiftRight 24).toInt := rfl
    rw [h, BitVec.toInt_sshiftRight, t, Int.shiftRight_eq_div_pow]
    rfl
  · rw [e16, ← iZ_of (iZ y >>> (16 : Int32))]
    have h : (iZ y >>> (16 : Int32)).toInt = ((iZ y).toBitVec.sshiftRight 16).toInt := rfl
    rw [h, BitVec.toInt_sshiftRight, t, Int.shiftRight_eq_div_pow]
    rfl
  · rw [e8, ← iZ_of (iZ y >>> (8 : Int32))]
    have h : (iZ y >>> (8 : Int32)).toInt = ((iZ y).toBitVec.sshiftRight 8).toInt := rfl
    rw [h, BitVec.toInt_sshiftRight, t, Int.shiftRight_eq_div_pow]
    rfl
theorem i8_m {z : Int} (hz : 0 ≤ z ∧ z < 2147483648) (hm : z % 256 < 128) : ((iZ z).toInt8).toInt = z % 256 := by
  rw [Int32.toInt_toInt8, iZ_toInt (by omega) hz.2]
  show z.bmod 256 = z % 256
  rw [Int.bmod_def]
  exact if_pos (by omega)
theorem by4_w {b0 b1 b2 b3 : Int} (h0 : 0 ≤ b0 ∧ b0 < 128) (h1 : 0 ≤ b1 ∧ b1 < 128) (h2 : 0 ≤ b2 ∧ b2 < 128) (h3 : 0 ≤ b3 ∧ b3 < 128) : by4 (iZ (((b0 * 256 + b1) * 256 + b2) * 256 + b3)) = [b0, b1, b2, b3] := by
  obtain ⟨s1, s2, s3⟩ := shr_d (y := ((b0 * 256 + b1) * 256 + b2) * 256 + b3) ⟨by omega, by omega⟩
  unfold by4 bB
  rw [s1, s2, s3, shr0, i8_m ⟨by omega, by omega⟩ (by omega), i8_m ⟨by omega, by omega⟩ (by omega), i8_m ⟨by omega, by omega⟩ (by omega), i8_m ⟨by omega, by omega⟩ (by omega)]
  have a0 : (((b0 * 256 + b1) * 256 + b2) * 256 + b3) / 16777216 % 256 = b0 := by omega
  have a1 : (((b0 * 256 + b1) * 256 + b2) * 256 + b3) / 65536 % 256 = b1 := by omega
  have a2 : (((b0 * 256 + b1) * 256 + b2) * 256 + b3) / 256 % 256 = b2 := by omega
  have a3 : (((b0 * 256 + b1) * 256 + b2) * 256 + b3) % 256 = b3 := by omega
  rw [a0, a1, a2, a3]
