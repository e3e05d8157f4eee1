/-! The law holds: every case keeps the invariant. -/
theorem and_63 (x : Int32) : ∃ n : Nat, n < 64 ∧ x &&& 63 = Int32.ofNat n := by
  refine ⟨x.toBitVec.toNat % 64, Nat.mod_lt _ (by decide), ?_⟩
  apply Int32.toBitVec_inj.1
  apply BitVec.eq_of_toNat_eq
  show (x.toBitVec &&& (63 : Int32).toBitVec).toNat = (BitVec.ofNat 32 (x.toBitVec.toNat % 64)).toNat
  rw [BitVec.toNat_and, BitVec.toNat_ofNat, show ((63 : Int32).toBitVec).toNat = 2 ^ 6 - 1 from rfl, Nat.and_two_pow_sub_one_eq_mod]
  omega
theorem inv_up {L : Nat} {xs : Nat → Int32} {t : Nat} {h : PH} (I : InvL L xs t h) : InvL L xs (t + 1) h := by
  obtain ⟨S, b, n, u, y, c, m, w, a1, a2, r, x⟩ := I
  exact ⟨S, b, n, u, y, c, m, WSr_up w (by omega), a1, a2, rmH_up r, x⟩
theorem law_st (L : Nat) (xs : Nat → Int32) (t : Nat) (h : PH) (hL : L ≤ 3072) (hl : 6 * t + 6 ≤ L) (I : InvL L xs t h) (a b c e : Option VV) (Q : Rs → PH → Prop) (k : ∀ (a b c e : Option VV) h', InvL L xs (t + 1) h' → Ev 1390 25 (2080, lwT L (Int32.ofNat (6 * t)) a b c e, [], h') Q) : Ev 1390 25 (40, lwT L (Int32.ofNat (6 * t)) a b c e, [.inl (xs (6 * t) &&& 63)], h) Q := by
  rw [iZ_nat] at k ⊢
  have kk := k
  have ht : t ≤ 600 := by omega
  obtain ⟨n, hn, en⟩ := and_63 (xs (6 * t))
  rw [en]
  obtain ⟨S, bb, nn, u, y, V⟩ := id I
  match n, hn with
  | 0, _ => exact lw_sw_0 (lw_feed V ht hL hl (fun _ _ h2 i2 => k _ _ _ _ h2 i2))
  | 1, _ => exact lw_sw_1 (lw_trim V ht hL hl (fun _ _ h2 i2 => k _ _ _ _ h2 i2))
  | 2, _ => exact lw_sw_2 (lw_teach V ht (fun h2 i2 => k _ _ _ _ h2 i2))
  | 3, _ => exact lw_sw_3 (lw_errorAt V ht (fun h2 i2 => k _ _ _ _ h2 i2))
  | 4, _ => exact lw_sw_4 (lw_comma V ht hL hl (fun _ _ h2 i2 => k _ _ _ _ h2 i2))
  | 5, _ => exact lw_sw_5 (lw_passNights V ht hL hl (fun _ _ h2 i2 => k _ _ _ _ h2 i2))
  | 6, _ => exact lw_sw_6 (lw_end V ht (fun h2 i2 => k _ _ _ _ h2 i2))
  | 7, _ => exact lw_sw_7 (lw_flocks V ht (fun h2 i2 => k _ _ _ _ h2 i2))
  | 8, _ => exact lw_sw_8 (lw_geese V ht (fun h2 i2 => k _ _ _ _ h2 i2))
  | 9, _ => exact lw_sw_9 (lw_commas V ht (fun h2 i2 => k _ _ _ _ h2 i2))
  | 10, _ => exact lw_sw_10 (lw_nights V ht (fun h2 i2 => k _ _ _ _ h2 i2))
  | 11, _ => exact lw_sw_11 (lw_phase V ht (fun h2 i2 => k _ _ _ _ h2 i2))
  | 12, _ => exact lw_sw_12 (lw_allowance V ht (fun h2 i2 => k _ _ _ _ h2 i2))
  | 13, _ => exact lw_sw_13 (lw_greatestHour V ht (fun h2 i2 => k _ _ _ _ h2 i2))
  | 14, _ => exact lw_sw_14 (lw_watermark V ht (fun h2 i2 => k _ _ _ _ h2 i2))
  | 15, _ => exact lw_sw_15 (lw_lateInAll V ht (fun h2 i2 => k _ _ _ _ h2 i2))
  | 16, _ => exact lw_sw_16 (lw_tellings V ht (fun h2 i2 => k _ _ _ _ h2 i2))
  | 17, _ => exact lw_sw_17 (lw_hourOf V ht hL hl (fun _ _ h2 i2 => k _ _ _ _ h2 i2))
  | 18, _ => exact lw_sw_18 (lw_flocksOf V ht hL hl (fun _ _ h2 i2 => k _ _ _ _ h2 i2))
  | 19, _ => exact lw_sw_19 (lw_isIn V ht hL hl (fun _ _ h2 i2 => k _ _ _ _ h2 i2))
  | 20, _ => exact lw_sw_20 (lw_sizeOf V ht hL hl (fun _ _ h2 i2 => k _ _ _ _ h2 i2))
  | 21, _ => exact lw_sw_21 (lw_latestIn V ht hL hl (fun _ _ h2 i2 => k _ _ _ _ h2 i2))
  | 22, _ => exact lw_sw_22 (lw_flockOf V ht hL hl (fun _ _ h2 i2 => k _ _ _ _ h2 i2))
  | 23, _ => exact lw_sw_23 (lw_lateFor V ht hL hl (fun _ _ h2 i2 => k _ _ _ _ h2 i2))
  | 24, _ => exact lw_sw_24 (lw_openWindows V ht hL hl (fun _ _ h2 i2 => k _ _ _ _ h2 i2))
  | 25, _ => exact lw_sw_25 (lw_openStart V ht hL hl (fun _ _ h2 i2 => k _ _ _ _ h2 i2))
  | 26, _ => exact lw_sw_26 (lw_openEnd V ht hL hl (fun _ _ h2 i2 => k _ _ _ _ h2 i2))
  | 27, _ => exact lw_sw_27 (lw_openCount V ht hL hl (fun _ _ h2 i2 => k _ _ _ _ h2 i2))
  | 28, _ => exact lw_sw_28 (lw_openValue V ht hL hl (fun _ _ h2 i2 => k _ _ _ _ h2 i2))
  | 29, _ => exact lw_sw_29 (lw_tellingGoose V ht hL hl (fun _ _ h2 i2 => k _ _ _ _ h2 i2))
  | 30, _ => exact lw_sw_30 (lw_tellingStart V ht hL hl (fun _ _ h2 i2 => k _ _ _ _ h2 i2))
  | 31, _ => exact lw_sw_31 (lw_tellingEnd V ht hL hl (fun _ _ h2 i2 => k _ _ _ _ h2 i2))
  | 32, _ => exact lw_sw_32 (lw_tellingCount V ht hL hl (fun _ _ h2 i2 => k _ _ _ _ h2 i2))
  | 33, _ => exact lw_sw_33 (lw_tellingValue V ht hL hl (fun _ _ h2 i2 => k _ _ _ _ h2 i2))
  | 34, _ => exact lw_sw_34 (lw_fullestTelling V ht (fun h2 i2 => k _ _ _ _ h2 i2))
  | 35, _ => exact lw_sw_35 (lw_wouldTake V ht hL hl (fun _ _ h2 i2 => k _ _ _ _ h2 i2))
  | 36, _ => exact lw_sw_36 (lw_wouldBeLate V ht hL hl (fun _ _ h2 i2 => k _ _ _ _ h2 i2))
  | 37, _ => exact lw_sw_37 (lw_wouldTell V ht hL hl (fun _ _ h2 i2 => k _ _ _ _ h2 i2))
  | 38, _ => exact lw_sw_38 (lw_hourToTell V ht hL hl (fun _ _ h2 i2 => k _ _ _ _ h2 i2))
  | 39, _ => exact lw_sw_39 (lw_nightsUntilTelling V ht (fun h2 i2 => k _ _ _ _ h2 i2))
  | 40, _ => exact lw_sw_40 (lw_meanCount V ht (fun _ _ _ _ h2 i2 => k _ _ _ _ h2 i2))
  | 41, _ => exact lw_sw_41 (lw_digest V ht (fun h2 i2 => k _ _ _ _ h2 i2))
  | 42, _ => exact lw_sw_42 (k _ _ _ _ h (inv_up I))
  | 43, _ => exact lw_sw_43 (k _ _ _ _ h (inv_up I))
  | 44, _ => exact lw_sw_44 (k _ _ _ _ h (inv_up I))
  | 45, _ => exact lw_sw_45 (k _ _ _ _ h (inv_up I))
  | 46, _ => exact lw_sw_46 (k _ _ _ _ h (inv_up I))
  | 47, _ => exact lw_sw_47 (k _ _ _ _ h (inv_up I))
  | 48, _ => exact lw_sw_48 (k _ _ _ _ h (inv_up I))
  | 49, _ => exact lw_sw_49 (k _ _ _ _ h (inv_up I))
  | 50, _ => exact lw_sw_50 (k _ _ _ _ h (inv_up I))
  | 51, _ => exact lw_sw_51 (k _ _ _ _ h (inv_up I))
  | 52, _ => exact lw_sw_52 (k _ _ _ _ h (inv_up I))
  | 53, _ => exact lw_sw_53 (k _ _ _ _ h (inv_up I))
  | 54, _ => exact lw_sw_54 (k _ _ _ _ h (inv_up I))
  | 55, _ => exact lw_sw_55 (k _ _ _ _ h (inv_up I))
  | 56, _ => exact lw_sw_56 (k _ _ _ _ h (inv_up I))
  | 57, _ => exact lw_sw_57 (k _ _ _ _ h (inv_up I))
  | 58, _ => exact lw_sw_58 (k _ _ _ _ h (inv_up I))
  | 59, _ => exact lw_sw_59 (k _ _ _ _ h (inv_up I))
  | 60, _ => exact lw_sw_60 (k _ _ _ _ h (inv_up I))
  | 61, _ => exact lw_sw_61 (k _ _ _ _ h (inv_up I))
  | 62, _ => exact lw_sw_62 (k _ _ _ _ h (inv_up I))
  | 63, _ => exact lw_sw_63 (k _ _ _ _ h (inv_up I))
  | n + 64, hn => exact absurd hn (by omega)
theorem law_ok : LAW_OK := law_of InvL (fun L xs _ => inv_0 L xs) law_st (fun _ _ _ _ hL ht I => inv_fin hL ht I) (fun _ _ _ _ I => inv_scr I)
