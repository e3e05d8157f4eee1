/-! The class cuts the tape into tokens. -/
theorem u8_w {z : Int} (h : -128 ≤ z ∧ z < 128) : iZ z &&& iZ 255 = iZ (z % 256) := by
  have e : ∀ b : Fin 256, iZ ((b.val : Int) - 128) &&& iZ 255 = iZ (((b.val : Int) - 128) % 256) := by decide +kernel
  have f := e ⟨(z + 128).toNat, by omega⟩
  replace f : iZ ((((z + 128).toNat : Nat) : Int) - 128) &&& iZ 255 = iZ (((((z + 128).toNat : Nat) : Int) - 128) % 256) := f
  rw [show ((((z + 128).toNat : Nat) : Int) - 128) = z by omega] at f
  exact f
def lz (z : Int) : Int64 := Int64.ofInt z
theorem lz_i {z : Int} (h : -2147483648 ≤ z ∧ z < 2147483648) : (iZ z).toInt64 = lz z := by
  unfold lz
  apply Int64.toInt_inj.mp
  rw [Int32.toInt_toInt64, iZ_toInt h.1 h.2, Int64.toInt_ofInt_of_le (by omega) (by omega)]
theorem lz_sh {w c : Int} (hw : 0 ≤ w ∧ w < 34359738368) (hc : 0 ≤ c ∧ c < 32) : ((lz w <<< ((iZ 5).toInt64 &&& 63)) ||| (iZ c).toInt64) = lz (w * 32 + c) := by
  obtain ⟨n, rfl⟩ := Int.eq_ofNat_of_zero_le hw.1
  obtain ⟨m, rfl⟩ := Int.eq_ofNat_of_zero_le hc.1
  have e5 : ((iZ 5).toInt64 &&& 63).toBitVec.smod 64 = 5#64 := by decide
  rw [lz_i (z := (m : Int)) ⟨by omega, by omega⟩]
  apply Int64.toBitVec_inj.mp
  apply BitVec.eq_of_toNat_eq
  have a1 : (lz (n : Int)).toBitVec.toNat = n := by
    show (BitVec.ofInt 64 (n : Int)).toNat = n
    rw [BitVec.ofInt_natCast, BitVec.toNat_ofNat, Nat.mod_eq_of_lt (by omega)]
  have a2 : (lz (m : Int)).toBitVec.toNat = m := by
    show (BitVec.ofInt 64 (m : Int)).toNat = m
    rw [BitVec.ofInt_natCast, BitVec.toNat_ofNat, Nat.mod_eq_of_lt (by omega)]
  have a3 : (lz ((n : Int) * 32 + (m : Int))).toBitVec.toNat = n * 32 + m := by
    rw [show (n : Int) * 32 + (m : Int) = ((n * 32 + m : Nat) : Int) by omega]
    show (BitVec.ofInt 64 ((n * 32 + m : Nat) : Int)).toNat = _
    rw [BitVec.ofInt_natCast, BitVec.toNat_ofNat, Nat.mod_eq_of_lt (by omega)]
  rw [a3, Int64.toBitVec_or, BitVec.toNat_or, a2, Int64.toBitVec_shiftLeft, e5]
  rw [show (lz (n : Int)).toBitVec <<< (5#64) = (lz (n : Int)).toBitVec <<< 5 from rfl, BitVec.toNat_shiftLeft, a1]
  have b := Nat.shiftLeft_add_eq_or_of_lt (b := m) (i := 5) (by omega) n
  have e : n <<< 5 = n * 32 := by rw [Nat.shiftLeft_eq]
  rw [Nat.mod_eq_of_lt (by rw [e]; omega), ← b, e]
theorem sl_byteAt {d k : Nat} {x : Int} {tp : List Int} {h : PH} (sh : Sh h) (t : tpC h tp) (ht : tp.length ≤ 1600) (hb : byT tp) (hx : x = (k : Int)) (hk : k < tp.length) : Rv d 105 [.inr (.inr (.inr (6, 0, 4))), .inl (iZ (x))] h (some (.inl (iZ (by_ tp k % 256)))) h := Rv.of fun Q q => by
  refine Ev.sts 1 (c' := (1, [some (.inr (.inr (.inr (6, 0, 4)))), some (.inl (iZ (x)))], [.inl (iZ (x))], h)) rfl ?_
  refine Ev.brF (p := (iZ (x)) < (iZ (0))) (c1 := (34, [some (.inr (.inr (.inr (6, 0, 4)))), some (.inl (iZ (x)))], [], h)) (c2 := (4, [some (.inr (.inr (.inr (6, 0, 4)))), some (.inl (iZ (x)))], [], h)) (fun c_ => absurd ((iZ_lt ⟨by omega, by omega⟩ ⟨by omega, by omega⟩).mp c_) (by omega)) rfl ?_
  refine Ev.sts 2 (c' := (6, [some (.inr (.inr (.inr (6, 0, 4)))), some (.inl (iZ (x)))], [.inr (.inr (.inr (6, 0, 4))), .inl (iZ (x))], h)) rfl ?_
  refine Ev.gv (w := (iZ (tp.length))) rfl t.1 ?_
  refine Ev.brF (p := (iZ (tp.length)) ≤ (iZ (x))) (c1 := (34, [some (.inr (.inr (.inr (6, 0, 4)))), some (.inl (iZ (x)))], [], h)) (c2 := (12, [some (.inr (.inr (.inr (6, 0, 4)))), some (.inl (iZ (x)))], [], h)) (fun c_ => absurd ((iZ_le ⟨by omega, by omega⟩ ⟨by omega, by omega⟩).mp c_) (by omega)) rfl ?_
  refine Ev.sts 2 (c' := (14, [some (.inr (.inr (.inr (6, 0, 4)))), some (.inl (iZ (x)))], [.inr (.inr (.inr (6, 0, 4))), .inl (iZ (x))], h)) rfl ?_
  refine Ev.gfr (r := (22, 1600, 5)) rfl (sh_4_0 sh) ?_
  refine Ev.sts 1 (c' := (18, [some (.inr (.inr (.inr (6, 0, 4)))), some (.inl (iZ (x)))], [.inl (iZ (1600)), .inl (iZ (x))], h)) rfl ?_
  refine Ev.brF (p := (iZ (1600)) ≤ (iZ (x))) (c1 := (34, [some (.inr (.inr (.inr (6, 0, 4)))), some (.inl (iZ (x)))], [], h)) (c2 := (21, [some (.inr (.inr (.inr (6, 0, 4)))), some (.inl (iZ (x)))], [], h)) (fun c_ => absurd ((iZ_le ⟨by omega, by omega⟩ ⟨by omega, by omega⟩).mp c_) (by omega)) rfl ?_
  refine Ev.sts 1 (c' := (22, [some (.inr (.inr (.inr (6, 0, 4)))), some (.inl (iZ (x)))], [.inr (.inr (.inr (6, 0, 4)))], h)) rfl ?_
  refine Ev.gfr (r := (22, 1600, 5)) rfl (sh_4_0 sh) ?_
  refine Ev.sts 1 (c' := (26, [some (.inr (.inr (.inr (6, 0, 4)))), some (.inl (iZ (x)))], [.inl (iZ (x)), .inr (.inr (.inr (22, 1600, 5)))], h)) rfl ?_
  refine Ev.ldv (j := (iZ (x))) (n := 1600) (w := .inl (iZ (by_ tp k))) (iZ_in (by omega) (by omega) (by omega)) rfl (by rw [iZ_ix (n := k) (by omega) (by omega)]; exact congrArg vI (t.2 k hk)) ?_
  refine Ev.sts 3 (c' := (35, [some (.inr (.inr (.inr (6, 0, 4)))), some (.inl (iZ (x)))], [.inl (((iZ (by_ tp k)) &&& (iZ (255))))], h)) rfl ?_
  rw [← u8_w (hb k)] at q
  exact Ev.ret rfl q

theorem sl_isLt {d : Nat} {z : Int} {h : PH} {Q : Rs → PH → Prop} (hz : -128 ≤ z ∧ z < 128) (k1 : isLt z = true → Q (.inl (some (.inl (iZ 1)))) h) (k0 : ¬ isLt z = true → Q (.inl (some (.inl (iZ 0)))) h) : Rn d 142 [.inl (iZ (z % 256))] h Q := by
  refine Ev.sts 2 (c' := (3, [some (.inl (iZ (z % 256)))], [.inl (iZ (97)), .inl (iZ (z % 256))], h)) rfl ?_
  refine Ev.brc (p := (iZ (z % 256)) < (iZ (97))) (q := ((z % 256 : Int)) < 97) (c1 := (16, [some (.inl (iZ (z % 256)))], [], h)) (c2 := (6, [some (.inl (iZ (z % 256)))], [], h)) rfl (iZ_lt ⟨by omega, by omega⟩ ⟨by omega, by omega⟩) (fun c0 => ?_) (fun c0 => ?_)
  · refine Ev.sts 1 (c' := (17, [some (.inl (iZ (z % 256)))], [.inl (iZ (0))], h)) rfl ?_
    exact Ev.ret rfl (k0 (fun n_ => by have := isLt_t.mp n_; omega))
  · refine Ev.sts 2 (c' := (9, [some (.inl (iZ (z % 256)))], [.inl (iZ (122)), .inl (iZ (z % 256))], h)) rfl ?_
    refine Ev.brc (p := (iZ (122)) < (iZ (z % 256))) (q := ((122 : Int)) < (z % 256)) (c1 := (16, [some (.inl (iZ (z % 256)))], [], h)) (c2 := (12, [some (.inl (iZ (z % 256)))], [], h)) rfl (iZ_lt ⟨by omega, by omega⟩ ⟨by omega, by omega⟩) (fun c1 => ?_) (fun c1 => ?_)
    · refine Ev.sts 1 (c' := (17, [some (.inl (iZ (z % 256)))], [.inl (iZ (0))], h)) rfl ?_
      exact Ev.ret rfl (k0 (fun n_ => by have := isLt_t.mp n_; omega))
    · refine Ev.sts 2 (c' := (17, [some (.inl (iZ (z % 256)))], [.inl (iZ (1))], h)) rfl ?_
      exact Ev.ret rfl (k1 (isLt_t.mpr (by omega)))

theorem sl_isDg {d : Nat} {z : Int} {h : PH} {Q : Rs → PH → Prop} (hz : -128 ≤ z ∧ z < 128) (k1 : isDg z = true → Q (.inl (some (.inl (iZ 1)))) h) (k0 : ¬ isDg z = true → Q (.inl (some (.inl (iZ 0)))) h) : Rn d 143 [.inl (iZ (z % 256))] h Q := by
  refine Ev.sts 2 (c' := (3, [some (.inl (iZ (z % 256)))], [.inl (iZ (48)), .inl (iZ (z % 256))], h)) rfl ?_
  refine Ev.brc (p := (iZ (z % 256)) < (iZ (48))) (q := ((z % 256 : Int)) < 48) (c1 := (16, [some (.inl (iZ (z % 256)))], [], h)) (c2 := (6, [some (.inl (iZ (z % 256)))], [], h)) rfl (iZ_lt ⟨by omega, by omega⟩ ⟨by omega, by omega⟩) (fun c0 => ?_) (fun c0 => ?_)
  · refine Ev.sts 1 (c' := (17, [some (.inl (iZ (z % 256)))], [.inl (iZ (0))], h)) rfl ?_
    exact Ev.ret rfl (k0 (fun n_ => by have := isDg_t.mp n_; omega))
  · refine Ev.sts 2 (c' := (9, [some (.inl (iZ (z % 256)))], [.inl (iZ (57)), .inl (iZ (z % 256))], h)) rfl ?_
    refine Ev.brc (p := (iZ (57)) < (iZ (z % 256))) (q := ((57 : Int)) < (z % 256)) (c1 := (16, [some (.inl (iZ (z % 256)))], [], h)) (c2 := (12, [some (.inl (iZ (z % 256)))], [], h)) rfl (iZ_lt ⟨by omega, by omega⟩ ⟨by omega, by omega⟩) (fun c1 => ?_) (fun c1 => ?_)
    · refine Ev.sts 1 (c' := (17, [some (.inl (iZ (z % 256)))], [.inl (iZ (0))], h)) rfl ?_
      exact Ev.ret rfl (k0 (fun n_ => by have := isDg_t.mp n_; omega))
    · refine Ev.sts 2 (c' := (17, [some (.inl (iZ (z % 256)))], [.inl (iZ (1))], h)) rfl ?_
      exact Ev.ret rfl (k1 (isDg_t.mpr (by omega)))

theorem sl_isBk {d : Nat} {z : Int} {h : PH} {Q : Rs → PH → Prop} (hz : -128 ≤ z ∧ z < 128) (k1 : isBk z = true → Q (.inl (some (.inl (iZ 1)))) h) (k0 : ¬ isBk z = true → Q (.inl (some (.inl (iZ 0)))) h) : Rn d 140 [.inl (iZ (z % 256))] h Q := by
  refine Ev.sts 2 (c' := (3, [some (.inl (iZ (z % 256)))], [.inl (iZ (32)), .inl (iZ (z % 256))], h)) rfl ?_
  refine Ev.brc (p := (iZ (z % 256)) = (iZ (32))) (q := ((z % 256 : Int)) = 32) (c1 := (12, [some (.inl (iZ (z % 256)))], [], h)) (c2 := (6, [some (.inl (iZ (z % 256)))], [], h)) rfl (iZ_eq ⟨by omega, by omega⟩ ⟨by omega, by omega⟩) (fun c0 => ?_) (fun c0 => ?_)
  · refine Ev.sts 2 (c' := (17, [some (.inl (iZ (z % 256)))], [.inl (iZ (1))], h)) rfl ?_
    exact Ev.ret rfl (k1 (isBk_t.mpr (by omega)))
  · refine Ev.sts 2 (c' := (9, [some (.inl (iZ (z % 256)))], [.inl (iZ (10)), .inl (iZ (z % 256))], h)) rfl ?_
    refine Ev.brc (p := ¬ (iZ (z % 256)) = (iZ (10))) (q := ¬ ((z % 256 : Int)) = 10) (c1 := (16, [some (.inl (iZ (z % 256)))], [], h)) (c2 := (12, [some (.inl (iZ (z % 256)))], [], h)) rfl (not_congr (iZ_eq ⟨by omega, by omega⟩ ⟨by omega, by omega⟩)) (fun c1 => ?_) (fun c1 => ?_)
    · refine Ev.sts 1 (c' := (17, [some (.inl (iZ (z % 256)))], [.inl (iZ (0))], h)) rfl ?_
      exact Ev.ret rfl (k0 (fun n_ => by have := isBk_t.mp n_; omega))
    · refine Ev.sts 2 (c' := (17, [some (.inl (iZ (z % 256)))], [.inl (iZ (1))], h)) rfl ?_
      exact Ev.ret rfl (k1 (isBk_t.mpr (by omega)))

theorem sl_bl_lp {d : Nat} {a : Int} {tp : List Int} {h : PH} {Q : Rs → PH → Prop} (sh : Sh h) (t : tpC h tp) (ht : tp.length ≤ 1600) (hb : byT tp) (m : Nat) : ∀ k : Nat, k ≤ tp.length → tp.length < k + m → Q (.inl (some (.inl (iZ (rn isBk tp k))))) h → Ev (d + 1) 139 (2, [some (.inr (.inr (.inr (9, 0, 3)))), some (.inl (iZ (a))), some (.inl (iZ (k)))], [], h) Q := by
  induction m with
  | zero => intro k h1 h2 q; omega
  | succ m ih =>
    intro k h1 h2 q
    refine Ev.sts 2 (c' := (4, [some (.inr (.inr (.inr (9, 0, 3)))), some (.inl (iZ (a))), some (.inl (iZ (k)))], [.inr (.inr (.inr (9, 0, 3))), .inl (iZ (k))], h)) rfl ?_
    refine Ev.gfr (r := (6, 0, 4)) rfl (sh_3_0 sh) ?_
    refine Ev.gv (w := (iZ (tp.length))) rfl t.1 ?_
    refine Ev.brc (p := (iZ (tp.length)) ≤ (iZ (k))) (q := ((tp.length : Int)) ≤ k) (c1 := (33, [some (.inr (.inr (.inr (9, 0, 3)))), some (.inl (iZ (a))), some (.inl (iZ (k)))], [], h)) (c2 := (13, [some (.inr (.inr (.inr (9, 0, 3)))), some (.inl (iZ (a))), some (.inl (iZ (k)))], [], h)) rfl (iZ_le ⟨by omega, by omega⟩ ⟨by omega, by omega⟩) (fun c0 => ?_) (fun c0 => ?_)
    · refine Ev.sts 1 (c' := (34, [some (.inr (.inr (.inr (9, 0, 3)))), some (.inl (iZ (a))), some (.inl (iZ (k)))], [.inl (iZ (k))], h)) rfl ?_
      rw [rn_e (fun z_ => by first | omega | exact absurd z_.2 (by assumption))] at q
      exact Ev.ret rfl q
    · refine Ev.sts 1 (c' := (14, [some (.inr (.inr (.inr (9, 0, 3)))), some (.inl (iZ (a))), some (.inl (iZ (k)))], [.inr (.inr (.inr (9, 0, 3)))], h)) rfl ?_
      refine Ev.gfr (r := (6, 0, 4)) rfl (sh_3_0 sh) ?_
      refine Ev.sts 1 (c' := (18, [some (.inr (.inr (.inr (9, 0, 3)))), some (.inl (iZ (a))), some (.inl (iZ (k)))], [.inl (iZ (k)), .inr (.inr (.inr (6, 0, 4)))], h)) rfl ?_
      refine Ev.callv (a := [.inr (.inr (.inr (6, 0, 4))), .inl (iZ (k))]) rfl (sl_byteAt (k := k) sh t ht hb (by omega) (by omega)) ?_
      refine Ev.callw (a := [.inl (iZ (by_ tp k % 256))]) rfl (sl_isBk (hb k) (fun c1 => ?_) (fun c1 => ?_))
      · refine Ev.brF (p := (iZ (1)) = (iZ (0))) (c1 := (33, [some (.inr (.inr (.inr (9, 0, 3)))), some (.inl (iZ (a))), some (.inl (iZ (k)))], [], h)) (c2 := (27, [some (.inr (.inr (.inr (9, 0, 3)))), some (.inl (iZ (a))), some (.inl (iZ (k)))], [], h)) (by decide) rfl ?_
        refine Ev.stc (c1 := (30, [some (.inr (.inr (.inr (9, 0, 3)))), some (.inl (iZ (a))), some (.inl ((iZ (k)) + (iZ (1))))], [], h)) (c2 := (30, [some (.inr (.inr (.inr (9, 0, 3)))), some (.inl (iZ (a))), some (.inl (iZ (k + 1)))], [], h)) rfl (by rw [iZ_add]) ?_
        refine Ev.sts 1 (c' := (2, [some (.inr (.inr (.inr (9, 0, 3)))), some (.inl (iZ (a))), some (.inl (iZ (k + 1)))], [], h)) rfl ?_
        rw [rn_s (by omega) (by assumption)] at q
        exact ih (k + 1) (by omega) (by omega) q
      · refine Ev.brT (p := (iZ (0)) = (iZ (0))) (c1 := (33, [some (.inr (.inr (.inr (9, 0, 3)))), some (.inl (iZ (a))), some (.inl (iZ (k)))], [], h)) (c2 := (27, [some (.inr (.inr (.inr (9, 0, 3)))), some (.inl (iZ (a))), some (.inl (iZ (k)))], [], h)) (by decide) rfl ?_
        refine Ev.sts 1 (c' := (34, [some (.inr (.inr (.inr (9, 0, 3)))), some (.inl (iZ (a))), some (.inl (iZ (k)))], [.inl (iZ (k))], h)) rfl ?_
        rw [rn_e (fun z_ => by first | omega | exact absurd z_.2 (by assumption))] at q
        exact Ev.ret rfl q

theorem sl_blanks {d k : Nat} {x : Int} {tp : List Int} {h : PH} (sh : Sh h) (t : tpC h tp) (ht : tp.length ≤ 1600) (hb : byT tp) (hx : x = (k : Int)) (hk : k ≤ tp.length) : Rv (d + 1) 139 [.inr (.inr (.inr (9, 0, 3))), .inl (iZ (x))] h (some (.inl (iZ (rn isBk tp k)))) h := Rv.of fun Q q => by
  refine Ev.sts 2 (c' := (2, [some (.inr (.inr (.inr (9, 0, 3)))), some (.inl (iZ (x))), some (.inl (iZ (x)))], [], h)) rfl ?_
  subst hx
  exact sl_bl_lp sh t ht hb (tp.length + 1) k hk (by omega) q

theorem sl_bt_e {d a k : Nat} {tp : List Int} {h : PH} {Q : Rs → PH → Prop} (sh : Sh h) (t : tpC h tp) (ht : tp.length ≤ 1600) (hb : byT tp) (h1 : a ≤ k) (h2 : a < tp.length) (h3 : k ≤ tp.length) (q : Q (.inl (some (.inl (iZ (if a < k then k else a + 1 : Nat))))) h) : Ev d 141 (78, [some (.inr (.inr (.inr (9, 0, 3)))), some (.inl (iZ (a))), some (.inl (iZ (k)))], [], h) Q := by
  refine Ev.sts 2 (c' := (80, [some (.inr (.inr (.inr (9, 0, 3)))), some (.inl (iZ (a))), some (.inl (iZ (k)))], [.inl (iZ (a)), .inl (iZ (k))], h)) rfl ?_
  refine Ev.brc (p := (iZ (k)) ≤ (iZ (a))) (q := ((k : Int)) ≤ a) (c1 := (87, [some (.inr (.inr (.inr (9, 0, 3)))), some (.inl (iZ (a))), some (.inl (iZ (k)))], [], h)) (c2 := (83, [some (.inr (.inr (.inr (9, 0, 3)))), some (.inl (iZ (a))), some (.inl (iZ (k)))], [], h)) rfl (iZ_le ⟨by omega, by omega⟩ ⟨by omega, by omega⟩) (fun c0 => ?_) (fun c0 => ?_)
  · refine Ev.sts 2 (c' := (89, [some (.inr (.inr (.inr (9, 0, 3)))), some (.inl (iZ (a))), some (.inl (iZ (k)))], [.inl (iZ (1)), .inl (iZ (a))], h)) rfl ?_
    refine Ev.gv (w := (iZ (a + 1))) rfl (iZ_add _ _) ?_
    refine Ev.sts 1 (c' := (91, [some (.inr (.inr (.inr (9, 0, 3)))), some (.inl (iZ (a))), some (.inl (iZ (k)))], [.inr (.inr (.inr (9, 0, 3))), .inl (iZ (a + 1))], h)) rfl ?_
    refine Ev.gfr (r := (6, 0, 4)) rfl (sh_3_0 sh) ?_
    refine Ev.gv (w := (iZ (tp.length))) rfl t.1 ?_
    refine Ev.gv (w := (iZ (min (a + 1) tp.length))) rfl (iZ_min ⟨by omega, by omega⟩ ⟨by omega, by omega⟩) ?_
    exact Ev.ret rfl ((by first | (rw [if_pos (by omega)] at q; exact q) | (rw [if_neg (by omega)] at q; rw [show min ((a : Int) + 1) (tp.length : Int) = ((a + 1 : Nat) : Int) by omega]; exact q)))
  · refine Ev.sts 2 (c' := (100, [some (.inr (.inr (.inr (9, 0, 3)))), some (.inl (iZ (a))), some (.inl (iZ (k)))], [.inl (iZ (k))], h)) rfl ?_
    exact Ev.ret rfl ((by first | (rw [if_pos (by omega)] at q; exact q) | (rw [if_neg (by omega)] at q; rw [show min ((a : Int) + 1) (tp.length : Int) = ((a + 1 : Nat) : Int) by omega]; exact q)))

theorem sl_bt2 {d a : Nat} {tp : List Int} {h : PH} {Q : Rs → PH → Prop} (sh : Sh h) (t : tpC h tp) (ht : tp.length ≤ 1600) (hb : byT tp) (h0 : a < tp.length) (m : Nat) : ∀ k : Nat, a ≤ k → k ≤ tp.length → tp.length < k + m → Q (.inl (some (.inl (iZ (if a < (if isDg (by_ tp a) = true then rn isDg tp k else k) then (if isDg (by_ tp a) = true then rn isDg tp k else k) else a + 1 : Nat))))) h → Ev (d + 1) 141 (33, [some (.inr (.inr (.inr (9, 0, 3)))), some (.inl (iZ (a))), some (.inl (iZ (k)))], [], h) Q := by
  induction m with
  | zero => intro k h1 h2 h3 q; omega
  | succ m ih =>
    intro k h1 h2 h3 q
    refine Ev.sts 2 (c' := (35, [some (.inr (.inr (.inr (9, 0, 3)))), some (.inl (iZ (a))), some (.inl (iZ (k)))], [.inr (.inr (.inr (9, 0, 3))), .inl (iZ (k))], h)) rfl ?_
    refine Ev.gfr (r := (6, 0, 4)) rfl (sh_3_0 sh) ?_
    refine Ev.gv (w := (iZ (tp.length))) rfl t.1 ?_
    refine Ev.brc (p := (iZ (tp.length)) ≤ (iZ (k))) (q := ((tp.length : Int)) ≤ k) (c1 := (78, [some (.inr (.inr (.inr (9, 0, 3)))), some (.inl (iZ (a))), some (.inl (iZ (k)))], [], h)) (c2 := (44, [some (.inr (.inr (.inr (9, 0, 3)))), some (.inl (iZ (a))), some (.inl (iZ (k)))], [], h)) rfl (iZ_le ⟨by omega, by omega⟩ ⟨by omega, by omega⟩) (fun c0 => ?_) (fun c0 => ?_)
    · refine sl_bt_e sh t ht hb (by omega) h0 (by omega) ?_
      by_cases cd : isDg (by_ tp a) = true
      · rw [if_pos cd, rn_e (fun z_ => by first | omega | exact absurd z_.2 (by assumption) | exact absurd cd (by assumption))] at q; exact q
      · rw [if_neg cd] at q; exact q
    · refine Ev.sts 1 (c' := (45, [some (.inr (.inr (.inr (9, 0, 3)))), some (.inl (iZ (a))), some (.inl (iZ (k)))], [.inr (.inr (.inr (9, 0, 3)))], h)) rfl ?_
      refine Ev.gfr (r := (6, 0, 4)) rfl (sh_3_0 sh) ?_
      refine Ev.sts 1 (c' := (49, [some (.inr (.inr (.inr (9, 0, 3)))), some (.inl (iZ (a))), some (.inl (iZ (k)))], [.inl (iZ (a)), .inr (.inr (.inr (6, 0, 4)))], h)) rfl ?_
      refine Ev.callv (a := [.inr (.inr (.inr (6, 0, 4))), .inl (iZ (a))]) rfl (sl_byteAt (k := a) sh t ht hb (by omega) (by omega)) ?_
      refine Ev.callw (a := [.inl (iZ (by_ tp a % 256))]) rfl (sl_isDg (hb a) (fun c1 => ?_) (fun c1 => ?_))
      · refine Ev.brF (p := (iZ (1)) = (iZ (0))) (c1 := (78, [some (.inr (.inr (.inr (9, 0, 3)))), some (.inl (iZ (a))), some (.inl (iZ (k)))], [], h)) (c2 := (58, [some (.inr (.inr (.inr (9, 0, 3)))), some (.inl (iZ (a))), some (.inl (iZ (k)))], [], h)) (by decide) rfl ?_
        refine Ev.sts 1 (c' := (59, [some (.inr (.inr (.inr (9, 0, 3)))), some (.inl (iZ (a))), some (.inl (iZ (k)))], [.inr (.inr (.inr (9, 0, 3)))], h)) rfl ?_
        refine Ev.gfr (r := (6, 0, 4)) rfl (sh_3_0 sh) ?_
        refine Ev.sts 1 (c' := (63, [some (.inr (.inr (.inr (9, 0, 3)))), some (.inl (iZ (a))), some (.inl (iZ (k)))], [.inl (iZ (k)), .inr (.inr (.inr (6, 0, 4)))], h)) rfl ?_
        refine Ev.callv (a := [.inr (.inr (.inr (6, 0, 4))), .inl (iZ (k))]) rfl (sl_byteAt (k := k) sh t ht hb (by omega) (by omega)) ?_
        refine Ev.callw (a := [.inl (iZ (by_ tp k % 256))]) rfl (sl_isDg (hb k) (fun c2 => ?_) (fun c2 => ?_))
        · refine Ev.brF (p := (iZ (1)) = (iZ (0))) (c1 := (78, [some (.inr (.inr (.inr (9, 0, 3)))), some (.inl (iZ (a))), some (.inl (iZ (k)))], [], h)) (c2 := (72, [some (.inr (.inr (.inr (9, 0, 3)))), some (.inl (iZ (a))), some (.inl (iZ (k)))], [], h)) (by decide) rfl ?_
          refine Ev.stc (c1 := (75, [some (.inr (.inr (.inr (9, 0, 3)))), some (.inl (iZ (a))), some (.inl ((iZ (k)) + (iZ (1))))], [], h)) (c2 := (75, [some (.inr (.inr (.inr (9, 0, 3)))), some (.inl (iZ (a))), some (.inl (iZ (k + 1)))], [], h)) rfl (by rw [iZ_add]) ?_
          refine Ev.sts 1 (c' := (33, [some (.inr (.inr (.inr (9, 0, 3)))), some (.inl (iZ (a))), some (.inl (iZ (k + 1)))], [], h)) rfl ?_
          have cd : isDg (by_ tp a) = true := by assumption
          have ck : isDg (by_ tp k) = true := by assumption
          refine ih (k + 1) (by omega) (by omega) (by omega) ?_
          rw [if_pos cd] at q ⊢
          rw [rn_s (by omega) ck] at q
          exact q
        · refine Ev.brT (p := (iZ (0)) = (iZ (0))) (c1 := (78, [some (.inr (.inr (.inr (9, 0, 3)))), some (.inl (iZ (a))), some (.inl (iZ (k)))], [], h)) (c2 := (72, [some (.inr (.inr (.inr (9, 0, 3)))), some (.inl (iZ (a))), some (.inl (iZ (k)))], [], h)) (by decide) rfl ?_
          refine sl_bt_e sh t ht hb (by omega) h0 (by omega) ?_
          by_cases cd : isDg (by_ tp a) = true
          · rw [if_pos cd, rn_e (fun z_ => by first | omega | exact absurd z_.2 (by assumption) | exact absurd cd (by assumption))] at q; exact q
          · rw [if_neg cd] at q; exact q
      · refine Ev.brT (p := (iZ (0)) = (iZ (0))) (c1 := (78, [some (.inr (.inr (.inr (9, 0, 3)))), some (.inl (iZ (a))), some (.inl (iZ (k)))], [], h)) (c2 := (58, [some (.inr (.inr (.inr (9, 0, 3)))), some (.inl (iZ (a))), some (.inl (iZ (k)))], [], h)) (by decide) rfl ?_
        refine sl_bt_e sh t ht hb (by omega) h0 (by omega) ?_
        by_cases cd : isDg (by_ tp a) = true
        · rw [if_pos cd, rn_e (fun z_ => by first | omega | exact absurd z_.2 (by assumption) | exact absurd cd (by assumption))] at q; exact q
        · rw [if_neg cd] at q; exact q

theorem sl_bt1 {d a : Nat} {tp : List Int} {h : PH} {Q : Rs → PH → Prop} (sh : Sh h) (t : tpC h tp) (ht : tp.length ≤ 1600) (hb : byT tp) (h0 : a < tp.length) (m : Nat) : ∀ k : Nat, a ≤ k → k ≤ tp.length → tp.length < k + m → Q (.inl (some (.inl (iZ (if a < (if isDg (by_ tp a) = true then rn isDg tp (rn isLt tp k) else rn isLt tp k) then (if isDg (by_ tp a) = true then rn isDg tp (rn isLt tp k) else rn isLt tp k) else a + 1 : Nat))))) h → Ev (d + 1) 141 (2, [some (.inr (.inr (.inr (9, 0, 3)))), some (.inl (iZ (a))), some (.inl (iZ (k)))], [], h) Q := by
  induction m with
  | zero => intro k h1 h2 h3 q; omega
  | succ m ih =>
    intro k h1 h2 h3 q
    refine Ev.sts 2 (c' := (4, [some (.inr (.inr (.inr (9, 0, 3)))), some (.inl (iZ (a))), some (.inl (iZ (k)))], [.inr (.inr (.inr (9, 0, 3))), .inl (iZ (k))], h)) rfl ?_
    refine Ev.gfr (r := (6, 0, 4)) rfl (sh_3_0 sh) ?_
    refine Ev.gv (w := (iZ (tp.length))) rfl t.1 ?_
    refine Ev.brc (p := (iZ (tp.length)) ≤ (iZ (k))) (q := ((tp.length : Int)) ≤ k) (c1 := (33, [some (.inr (.inr (.inr (9, 0, 3)))), some (.inl (iZ (a))), some (.inl (iZ (k)))], [], h)) (c2 := (13, [some (.inr (.inr (.inr (9, 0, 3)))), some (.inl (iZ (a))), some (.inl (iZ (k)))], [], h)) rfl (iZ_le ⟨by omega, by omega⟩ ⟨by omega, by omega⟩) (fun c0 => ?_) (fun c0 => ?_)
    · refine sl_bt2 sh t ht hb h0 (tp.length + 1) k (by omega) (by omega) (by omega) ?_
      rw [rn_e (f := isLt) (k := k) (fun z_ => by first | omega | exact absurd z_.2 (by assumption))] at q
      exact q
    · refine Ev.sts 1 (c' := (14, [some (.inr (.inr (.inr (9, 0, 3)))), some (.inl (iZ (a))), some (.inl (iZ (k)))], [.inr (.inr (.inr (9, 0, 3)))], h)) rfl ?_
      refine Ev.gfr (r := (6, 0, 4)) rfl (sh_3_0 sh) ?_
      refine Ev.sts 1 (c' := (18, [some (.inr (.inr (.inr (9, 0, 3)))), some (.inl (iZ (a))), some (.inl (iZ (k)))], [.inl (iZ (k)), .inr (.inr (.inr (6, 0, 4)))], h)) rfl ?_
      refine Ev.callv (a := [.inr (.inr (.inr (6, 0, 4))), .inl (iZ (k))]) rfl (sl_byteAt (k := k) sh t ht hb (by omega) (by omega)) ?_
      refine Ev.callw (a := [.inl (iZ (by_ tp k % 256))]) rfl (sl_isLt (hb k) (fun c1 => ?_) (fun c1 => ?_))
      · refine Ev.brF (p := (iZ (1)) = (iZ (0))) (c1 := (33, [some (.inr (.inr (.inr (9, 0, 3)))), some (.inl (iZ (a))), some (.inl (iZ (k)))], [], h)) (c2 := (27, [some (.inr (.inr (.inr (9, 0, 3)))), some (.inl (iZ (a))), some (.inl (iZ (k)))], [], h)) (by decide) rfl ?_
        refine Ev.stc (c1 := (30, [some (.inr (.inr (.inr (9, 0, 3)))), some (.inl (iZ (a))), some (.inl ((iZ (k)) + (iZ (1))))], [], h)) (c2 := (30, [some (.inr (.inr (.inr (9, 0, 3)))), some (.inl (iZ (a))), some (.inl (iZ (k + 1)))], [], h)) rfl (by rw [iZ_add]) ?_
        refine Ev.sts 1 (c' := (2, [some (.inr (.inr (.inr (9, 0, 3)))), some (.inl (iZ (a))), some (.inl (iZ (k + 1)))], [], h)) rfl ?_
        rw [rn_s (f := isLt) (k := k) (by omega) (by assumption)] at q
        exact ih (k + 1) (by omega) (by omega) (by omega) q
      · refine Ev.brT (p := (iZ (0)) = (iZ (0))) (c1 := (33, [some (.inr (.inr (.inr (9, 0, 3)))), some (.inl (iZ (a))), some (.inl (iZ (k)))], [], h)) (c2 := (27, [some (.inr (.inr (.inr (9, 0, 3)))), some (.inl (iZ (a))), some (.inl (iZ (k)))], [], h)) (by decide) rfl ?_
        refine sl_bt2 sh t ht hb h0 (tp.length + 1) k (by omega) (by omega) (by omega) ?_
        rw [rn_e (f := isLt) (k := k) (fun z_ => by first | omega | exact absurd z_.2 (by assumption))] at q
        exact q

theorem tkE_fin {tp : List Int} {a : Nat} (h0 : a < tp.length) : (if a < (if isDg (by_ tp a) = true then rn isDg tp (rn isLt tp a) else rn isLt tp a) then (if isDg (by_ tp a) = true then rn isDg tp (rn isLt tp a) else rn isLt tp a) else a + 1) = tkE tp a := by
  unfold tkE
  by_cases c : isLt (by_ tp a) = true
  · have d : ¬ isDg (by_ tp a) = true := fun z => by
      have := isLt_t.mp c
      have := isDg_t.mp z
      omega
    rw [if_neg d, if_pos c]
    have := rn_ge isLt tp (a + 1)
    rw [rn_s h0 c, if_pos (by omega)]
  · rw [if_neg c, rn_e (fun z => c z.2)]
    by_cases d : isDg (by_ tp a) = true
    · rw [if_pos d, if_pos d]
      have := rn_ge isDg tp (a + 1)
      rw [rn_s h0 d, if_pos (by omega)]
    · rw [if_neg d, if_neg d, if_neg (Nat.lt_irrefl _)]
theorem sl_token {d k : Nat} {x : Int} {tp : List Int} {h : PH} (sh : Sh h) (t : tpC h tp) (ht : tp.length ≤ 1600) (hb : byT tp) (hx : x = (k : Int)) (hk : k < tp.length) : Rv (d + 1) 141 [.inr (.inr (.inr (9, 0, 3))), .inl (iZ (x))] h (some (.inl (iZ (tkE tp k)))) h := Rv.of fun Q q => by
  refine Ev.sts 2 (c' := (2, [some (.inr (.inr (.inr (9, 0, 3)))), some (.inl (iZ (x))), some (.inl (iZ (x)))], [], h)) rfl ?_
  subst hx
  refine sl_bt1 sh t ht hb hk (tp.length + 1) k (Nat.le_refl _) (by omega) (by omega) ?_
  rw [tkE_fin hk]
  exact q

theorem sl_token_e {d : Nat} {x : Int} {tp : List Int} {h : PH} (sh : Sh h) (t : tpC h tp) (ht : tp.length ≤ 1600) (hb : byT tp) (hx : x = (tp.length : Int)) : Rv d 141 [.inr (.inr (.inr (9, 0, 3))), .inl (iZ (x))] h (some (.inl (iZ tp.length))) h := Rv.of fun Q q => by
  refine Ev.sts 4 (c' := (4, [some (.inr (.inr (.inr (9, 0, 3)))), some (.inl (iZ (x))), some (.inl (iZ (x)))], [.inr (.inr (.inr (9, 0, 3))), .inl (iZ (x))], h)) rfl ?_
  refine Ev.gfr (r := (6, 0, 4)) rfl (sh_3_0 sh) ?_
  refine Ev.gv (w := (iZ (tp.length))) rfl t.1 ?_
  refine Ev.brT (p := (iZ (tp.length)) ≤ (iZ (x))) (c1 := (33, [some (.inr (.inr (.inr (9, 0, 3)))), some (.inl (iZ (x))), some (.inl (iZ (x)))], [], h)) (c2 := (13, [some (.inr (.inr (.inr (9, 0, 3)))), some (.inl (iZ (x))), some (.inl (iZ (x)))], [], h)) ((iZ_le ⟨by omega, by omega⟩ ⟨by omega, by omega⟩).mpr (by omega)) rfl ?_
  refine Ev.sts 2 (c' := (35, [some (.inr (.inr (.inr (9, 0, 3)))), some (.inl (iZ (x))), some (.inl (iZ (x)))], [.inr (.inr (.inr (9, 0, 3))), .inl (iZ (x))], h)) rfl ?_
  refine Ev.gfr (r := (6, 0, 4)) rfl (sh_3_0 sh) ?_
  refine Ev.gv (w := (iZ (tp.length))) rfl t.1 ?_
  refine Ev.brT (p := (iZ (tp.length)) ≤ (iZ (x))) (c1 := (78, [some (.inr (.inr (.inr (9, 0, 3)))), some (.inl (iZ (x))), some (.inl (iZ (x)))], [], h)) (c2 := (44, [some (.inr (.inr (.inr (9, 0, 3)))), some (.inl (iZ (x))), some (.inl (iZ (x)))], [], h)) ((iZ_le ⟨by omega, by omega⟩ ⟨by omega, by omega⟩).mpr (by omega)) rfl ?_
  refine Ev.sts 2 (c' := (80, [some (.inr (.inr (.inr (9, 0, 3)))), some (.inl (iZ (x))), some (.inl (iZ (x)))], [.inl (iZ (x)), .inl (iZ (x))], h)) rfl ?_
  refine Ev.brT (p := (iZ (x)) ≤ (iZ (x))) (c1 := (87, [some (.inr (.inr (.inr (9, 0, 3)))), some (.inl (iZ (x))), some (.inl (iZ (x)))], [], h)) (c2 := (83, [some (.inr (.inr (.inr (9, 0, 3)))), some (.inl (iZ (x))), some (.inl (iZ (x)))], [], h)) ((iZ_le ⟨by omega, by omega⟩ ⟨by omega, by omega⟩).mpr (by omega)) rfl ?_
  refine Ev.sts 2 (c' := (89, [some (.inr (.inr (.inr (9, 0, 3)))), some (.inl (iZ (x))), some (.inl (iZ (x)))], [.inl (iZ (1)), .inl (iZ (x))], h)) rfl ?_
  refine Ev.gv (w := (iZ (x + 1))) rfl (iZ_add _ _) ?_
  refine Ev.sts 1 (c' := (91, [some (.inr (.inr (.inr (9, 0, 3)))), some (.inl (iZ (x))), some (.inl (iZ (x)))], [.inr (.inr (.inr (9, 0, 3))), .inl (iZ (x + 1))], h)) rfl ?_
  refine Ev.gfr (r := (6, 0, 4)) rfl (sh_3_0 sh) ?_
  refine Ev.gv (w := (iZ (tp.length))) rfl t.1 ?_
  refine Ev.gv (w := (iZ (min (x + 1) tp.length))) rfl (iZ_min ⟨by omega, by omega⟩ ⟨by omega, by omega⟩) ?_
  rw [show min (x + 1) (tp.length : Int) = (tp.length : Int) by omega]
  exact Ev.ret rfl q

/-- a written text and its bytes -/
def txO (t : Nat) (l : List Int) : Prop := slen t = l.length ∧ l.length ≤ 6 ∧ ∀ i, i < l.length → ((sbyt t i &&& iZ 255).toUInt32 % 65536).toInt32 = iZ (l.getD i 0) ∧ 0 ≤ l.getD i 0 ∧ l.getD i 0 < 128
theorem txO_k : ∀ k, k < 38 → txO (tid k) (txts.getD k []) := by
  intro k hk
  have h : ∀ k : Fin 38, slen (tid k.val) = (txts.getD k.val []).length ∧ (txts.getD k.val []).length ≤ 6 ∧ ∀ i : Fin 6, i.val < (txts.getD k.val []).length → ((sbyt (tid k.val) i.val &&& iZ 255).toUInt32 % 65536).toInt32 = iZ ((txts.getD k.val []).getD i.val 0) ∧ 0 ≤ (txts.getD k.val []).getD i.val 0 ∧ (txts.getD k.val []).getD i.val 0 < 128 := by decide +kernel
  obtain ⟨a, b, c⟩ := h ⟨k, hk⟩
  exact ⟨a, b, fun i hi => c ⟨i, Nat.lt_of_lt_of_le hi b⟩ hi⟩
theorem iZ_sh0 (x : Int32) : x >>> (iZ 0 &&& 31) = x := by
  apply Int32.toBitVec_inj.mp
  rw [Int32.toBitVec_shiftRight]
  exact BitVec.sshiftRight_zero
theorem c16 {c : Int} (h : 0 ≤ c ∧ c < 128) : ((iZ c).toUInt32 % 65536).toInt32 = iZ c := by
  have e : ∀ b : Fin 128, ((iZ (b.val : Int)).toUInt32 % 65536).toInt32 = iZ (b.val : Int) := by decide +kernel
  have f := e ⟨c.toNat, by omega⟩
  replace f : ((iZ (c.toNat : Int)).toUInt32 % 65536).toInt32 = iZ (c.toNat : Int) := f
  rw [show (c.toNat : Int) = c by omega] at f
  exact f
theorem Ev.retc {d m : Nat} {c : Cf} {x : Int32} {h : PH} {Q : Rs → PH → Prop} (hs : step m c = if (x.toUInt32 % 65536).toInt32 = x then some (.inr (.inr (.inl (some (.inl x)), h))) else none) (e : (x.toUInt32 % 65536).toInt32 = x) (q : Q (.inl (some (.inl x))) h) : Ev d m c Q := by
  rw [if_pos e] at hs
  exact Ev.ret hs q
theorem sl_coder {d t : Nat} {h : PH} : Rv d 186 [.inr (.inr (.inr (43, 0, t)))] h (some (.inl (iZ 0))) h := Rv.of fun Q q => by
  refine Ev.sts 1 (c' := (3, [some (.inr (.inr (.inr (43, 0, t))))], [.inl (iZ (1))], h)) rfl ?_
  refine Ev.brF (p := (iZ (1)) = (iZ (0))) (c1 := (13, [some (.inr (.inr (.inr (43, 0, t))))], [], h)) (c2 := (6, [some (.inr (.inr (.inr (43, 0, t))))], [], h)) (by decide) rfl ?_
  refine Ev.sts 3 (c' := (14, [some (.inr (.inr (.inr (43, 0, t))))], [.inl (iZ (0))], h)) rfl ?_
  exact Ev.ret rfl (q)

theorem sl_latin {d t : Nat} {h : PH} : Rv d 192 [.inr (.inr (.inr (43, 0, t)))] h (some (.inl (iZ 1))) h := Rv.of fun Q q => by
  refine Ev.sts 1 (c' := (3, [some (.inr (.inr (.inr (43, 0, t))))], [.inl (iZ (1))], h)) rfl ?_
  refine Ev.brF (p := (iZ (1)) = (iZ (0))) (c1 := (17, [some (.inr (.inr (.inr (43, 0, t))))], [], h)) (c2 := (6, [some (.inr (.inr (.inr (43, 0, t))))], [], h)) (by decide) rfl ?_
  refine Ev.sts 2 (c' := (10, [some (.inr (.inr (.inr (43, 0, t))))], [.inl (iZ (0))], h)) rfl ?_
  refine Ev.brF (p := ¬ (iZ (0)) = (iZ (0))) (c1 := (17, [some (.inr (.inr (.inr (43, 0, t))))], [], h)) (c2 := (13, [some (.inr (.inr (.inr (43, 0, t))))], [], h)) (by decide) rfl ?_
  refine Ev.sts 2 (c' := (18, [some (.inr (.inr (.inr (43, 0, t))))], [.inl (iZ (1))], h)) rfl ?_
  exact Ev.ret rfl (q)

theorem sl_len {d t : Nat} {l : List Int} {h : PH} (tx : txO t l) : Rv (d + 1) 185 [.inr (.inr (.inr (43, 0, t)))] h (some (.inl (iZ l.length))) h := Rv.of fun Q q => by
  refine Ev.sts 2 (c' := (4, [some (.inr (.inr (.inr (43, 0, t))))], [.inr (.inr (.inr (44, (slen t), t)))], h)) rfl ?_
  refine Ev.gv (w := (iZ ((slen t)))) rfl (iZ_nat _) ?_
  refine Ev.sts 1 (c' := (6, [some (.inr (.inr (.inr (43, 0, t))))], [.inr (.inr (.inr (43, 0, t))), .inl (iZ ((slen t)))], h)) rfl ?_
  refine Ev.callv (a := [.inr (.inr (.inr (43, 0, t)))]) rfl (sl_coder) ?_
  refine Ev.sts 1 (c' := (10, [some (.inr (.inr (.inr (43, 0, t))))], [.inl (((iZ ((slen t))) >>> ((iZ (0)) &&& 31)))], h)) rfl ?_
  rw [tx.1, iZ_sh0]
  exact Ev.ret rfl q

theorem sl_pre {d : Nat} {x n : Int} {h : PH} (hx : 0 ≤ x ∧ x < n) (hn : n < 1000) : Rv d 212 [.inl (iZ (x)), .inl (iZ (n)), .inr (.inr (.inr (46, 0, 0)))] h (some (.inl (iZ x))) h := Rv.of fun Q q => by
  refine Ev.sts 1 (c' := (1, [some (.inl (iZ (x))), some (.inl (iZ (n))), some (.inr (.inr (.inr (46, 0, 0))))], [.inl (iZ (x))], h)) rfl ?_
  refine Ev.brF (p := (iZ (x)) < (iZ (0))) (c1 := (9, [some (.inl (iZ (x))), some (.inl (iZ (n))), some (.inr (.inr (.inr (46, 0, 0))))], [], h)) (c2 := (4, [some (.inl (iZ (x))), some (.inl (iZ (n))), some (.inr (.inr (.inr (46, 0, 0))))], [], h)) (fun c_ => absurd ((iZ_lt ⟨by omega, by omega⟩ ⟨by omega, by omega⟩).mp c_) (by omega)) rfl ?_
  refine Ev.sts 2 (c' := (6, [some (.inl (iZ (x))), some (.inl (iZ (n))), some (.inr (.inr (.inr (46, 0, 0))))], [.inl (iZ (n)), .inl (iZ (x))], h)) rfl ?_
  refine Ev.brT (p := (iZ (x)) < (iZ (n))) (c1 := (16, [some (.inl (iZ (x))), some (.inl (iZ (n))), some (.inr (.inr (.inr (46, 0, 0))))], [], h)) (c2 := (9, [some (.inl (iZ (x))), some (.inl (iZ (n))), some (.inr (.inr (.inr (46, 0, 0))))], [], h)) ((iZ_lt ⟨by omega, by omega⟩ ⟨by omega, by omega⟩).mpr (by omega)) rfl ?_
  refine Ev.sts 1 (c' := (17, [some (.inl (iZ (x))), some (.inl (iZ (n))), some (.inr (.inr (.inr (46, 0, 0))))], [.inl (iZ (x))], h)) rfl ?_
  exact Ev.ret rfl (q)

theorem sl_chk {d : Nat} {x n : Int} {h : PH} (hx : 0 ≤ x ∧ x < n) (hn : n < 1000) : Rv (d + 1) 190 [.inl (iZ (x)), .inl (iZ (n))] h (none) h := Rv.of fun Q q => by
  refine Ev.sts 3 (c' := (5, [some (.inl (iZ (x))), some (.inl (iZ (n)))], [.inr (.inr (.inr (46, 0, 0))), .inl (iZ (n)), .inl (iZ (x))], h)) rfl ?_
  refine Ev.callv (a := [.inl (iZ (x)), .inl (iZ (n)), .inr (.inr (.inr (46, 0, 0)))]) rfl (sl_pre hx hn) ?_
  refine Ev.sts 1 (c' := (9, [some (.inl (iZ (x))), some (.inl (iZ (n)))], [], h)) rfl ?_
  exact Ev.ret rfl (q)

theorem sl_lchar {d t k : Nat} {x : Int} {l : List Int} {h : PH} (tx : txO t l) (hx : x = (k : Int)) (hk : k < l.length) : Rv (d + 2) 211 [.inr (.inr (.inr (44, (slen t), t))), .inl (iZ (x))] h (some (.inl (iZ (l.getD k 0)))) h := Rv.of fun Q q => by
  have e1 := tx.1
  have e2 := tx.2.1
  refine Ev.sts 2 (c' := (2, [some (.inr (.inr (.inr (44, (slen t), t)))), some (.inl (iZ (x)))], [.inr (.inr (.inr (44, (slen t), t))), .inl (iZ (x))], h)) rfl ?_
  refine Ev.gv (w := (iZ ((slen t)))) rfl (iZ_nat _) ?_
  refine Ev.callv (a := [.inl (iZ (x)), .inl (iZ ((slen t)))]) rfl (sl_chk ⟨by omega, by omega⟩ (by omega)) ?_
  refine Ev.sts 2 (c' := (8, [some (.inr (.inr (.inr (44, (slen t), t)))), some (.inl (iZ (x)))], [.inl (iZ (x)), .inr (.inr (.inr (44, (slen t), t)))], h)) rfl ?_
  refine Ev.ldv (j := (iZ (x))) (n := (slen t)) (w := .inl ((sbyt t k))) (iZ_in (by omega) (by omega) (by omega)) rfl (by rw [iZ_ix (n := k) (by omega) (by omega)]) ?_
  refine Ev.sts 3 (c' := (14, [some (.inr (.inr (.inr (44, (slen t), t)))), some (.inl (iZ (x)))], [.inl (((((sbyt t k) &&& (iZ (255)))).toUInt32 % 65536).toInt32)], h)) rfl ?_
  rw [(tx.2.2 k hk).1]
  exact Ev.retc rfl (c16 (tx.2.2 k hk).2) q

theorem sl_char {d t k : Nat} {x : Int} {l : List Int} {h : PH} (tx : txO t l) (hx : x = (k : Int)) (hk : k < l.length) : Rv (d + 3) 191 [.inr (.inr (.inr (43, 0, t))), .inl (iZ (x))] h (some (.inl (iZ (l.getD k 0)))) h := Rv.of fun Q q => by
  have e1 := tx.1
  have e2 := tx.2.1
  refine Ev.sts 1 (c' := (1, [some (.inr (.inr (.inr (43, 0, t)))), some (.inl (iZ (x)))], [.inr (.inr (.inr (43, 0, t)))], h)) rfl ?_
  refine Ev.callv (a := [.inr (.inr (.inr (43, 0, t)))]) rfl (sl_latin) ?_
  refine Ev.brF (p := (iZ (1)) = (iZ (0))) (c1 := (16, [some (.inr (.inr (.inr (43, 0, t)))), some (.inl (iZ (x)))], [], h)) (c2 := (7, [some (.inr (.inr (.inr (43, 0, t)))), some (.inl (iZ (x)))], [], h)) (by decide) rfl ?_
  refine Ev.sts 3 (c' := (12, [some (.inr (.inr (.inr (43, 0, t)))), some (.inl (iZ (x)))], [.inl (iZ (x)), .inr (.inr (.inr (44, (slen t), t)))], h)) rfl ?_
  refine Ev.callv (a := [.inr (.inr (.inr (44, (slen t), t))), .inl (iZ (x))]) rfl (sl_lchar (k := k) tx (by omega) (by omega)) ?_
  exact Ev.retc rfl (c16 (tx.2.2 k hk).2) q

theorem sl_st_lp {d a e t : Nat} {l : List Int} {tp : List Int} {h : PH} {Q : Rs → PH → Prop} (sh : Sh h) (t0 : tpC h tp) (ht : tp.length ≤ 1600) (hb : byT tp) (tx : txO t l) (ha : a < e) (he : e ≤ tp.length) (hl : l.length = e - a) (k1 : slc tp (e - a) a = l → Q (.inl (some (.inl (iZ 1)))) h) (k0 : ¬ slc tp (e - a) a = l → Q (.inl (some (.inl (iZ 0)))) h) (m : Nat) : ∀ i : Nat, i ≤ l.length → l.length < i + m → (∀ j, j < i → by_ tp (a + j) = l.getD j 0) → Ev (d + 4) 106 (15, [some (.inr (.inr (.inr (6, 0, 4)))), some (.inr (.inr (.inr (43, 0, t)))), some (.inl (iZ (a))), some (.inl (iZ (e))), some (.inl (iZ (i)))], [], h) Q := by
  have e2 := tx.2.1
  induction m with
  | zero => intro i h1 h2 hj0; omega
  | succ m ih =>
    intro i h1 h2 hj0
    refine Ev.sts 2 (c' := (18, [some (.inr (.inr (.inr (6, 0, 4)))), some (.inr (.inr (.inr (43, 0, t)))), some (.inl (iZ (a))), some (.inl (iZ (e))), some (.inl (iZ (i)))], [.inr (.inr (.inr (43, 0, t))), .inl (iZ (i))], h)) rfl ?_
    refine Ev.callv (a := [.inr (.inr (.inr (43, 0, t)))]) rfl (sl_len tx) ?_
    refine Ev.brc (p := (iZ (l.length)) ≤ (iZ (i))) (q := ((l.length : Int)) ≤ i) (c1 := (49, [some (.inr (.inr (.inr (6, 0, 4)))), some (.inr (.inr (.inr (43, 0, t)))), some (.inl (iZ (a))), some (.inl (iZ (e))), some (.inl (iZ (i)))], [], h)) (c2 := (24, [some (.inr (.inr (.inr (6, 0, 4)))), some (.inr (.inr (.inr (43, 0, t)))), some (.inl (iZ (a))), some (.inl (iZ (e))), some (.inl (iZ (i)))], [], h)) rfl (iZ_le ⟨by omega, by omega⟩ ⟨by omega, by omega⟩) (fun c0 => ?_) (fun c0 => ?_)
    · refine Ev.sts 1 (c' := (50, [some (.inr (.inr (.inr (6, 0, 4)))), some (.inr (.inr (.inr (43, 0, t)))), some (.inl (iZ (a))), some (.inl (iZ (e))), some (.inl (iZ (i)))], [.inl (iZ (1))], h)) rfl ?_
      exact Ev.ret rfl (k1 ((slc_eq tp l (e - a) a).mpr ⟨hl, fun j hj => hj0 j (by omega)⟩))
    · have b2 := (tx.2.2 i (by omega)).2
      refine Ev.sts 3 (c' := (28, [some (.inr (.inr (.inr (6, 0, 4)))), some (.inr (.inr (.inr (43, 0, t)))), some (.inl (iZ (a))), some (.inl (iZ (e))), some (.inl (iZ (i)))], [.inl (iZ (i)), .inl (iZ (a)), .inr (.inr (.inr (6, 0, 4)))], h)) rfl ?_
      refine Ev.gv (w := (iZ (a + i))) rfl (iZ_add _ _) ?_
      refine Ev.callv (a := [.inr (.inr (.inr (6, 0, 4))), .inl (iZ (a + i))]) rfl (sl_byteAt (k := a + i) sh t0 ht hb (by omega) (by omega)) ?_
      refine Ev.sts 2 (c' := (35, [some (.inr (.inr (.inr (6, 0, 4)))), some (.inr (.inr (.inr (43, 0, t)))), some (.inl (iZ (a))), some (.inl (iZ (e))), some (.inl (iZ (i)))], [.inl (iZ (i)), .inr (.inr (.inr (43, 0, t))), .inl (iZ (by_ tp (a + i) % 256))], h)) rfl ?_
      refine Ev.callv (a := [.inr (.inr (.inr (43, 0, t))), .inl (iZ (i))]) rfl (sl_char (k := i) tx (by omega) (by omega)) ?_
      refine Ev.brc (p := (iZ (by_ tp (a + i) % 256)) = (iZ (l.getD i 0))) (q := ((by_ tp (a + i) % 256 : Int)) = (l.getD i 0)) (c1 := (43, [some (.inr (.inr (.inr (6, 0, 4)))), some (.inr (.inr (.inr (43, 0, t)))), some (.inl (iZ (a))), some (.inl (iZ (e))), some (.inl (iZ (i)))], [], h)) (c2 := (41, [some (.inr (.inr (.inr (6, 0, 4)))), some (.inr (.inr (.inr (43, 0, t)))), some (.inl (iZ (a))), some (.inl (iZ (e))), some (.inl (iZ (i)))], [], h)) rfl (iZ_eq ⟨by omega, by omega⟩ ⟨by omega, by omega⟩) (fun c1 => ?_) (fun c1 => ?_)
      · refine Ev.stc (c1 := (46, [some (.inr (.inr (.inr (6, 0, 4)))), some (.inr (.inr (.inr (43, 0, t)))), some (.inl (iZ (a))), some (.inl (iZ (e))), some (.inl ((iZ (i)) + (iZ (1))))], [], h)) (c2 := (46, [some (.inr (.inr (.inr (6, 0, 4)))), some (.inr (.inr (.inr (43, 0, t)))), some (.inl (iZ (a))), some (.inl (iZ (e))), some (.inl (iZ (i + 1)))], [], h)) rfl (by rw [iZ_add]) ?_
        refine Ev.sts 1 (c' := (15, [some (.inr (.inr (.inr (6, 0, 4)))), some (.inr (.inr (.inr (43, 0, t)))), some (.inl (iZ (a))), some (.inl (iZ (e))), some (.inl (iZ (i + 1)))], [], h)) rfl ?_
        exact ih (i + 1) (by omega) (by omega) (fun j hj => by
          rcases Nat.lt_or_ge j i with y | y
          · exact hj0 j y
          · obtain rfl : j = i := by omega
            have b1 := hb (a + j)
            have b2 := (tx.2.2 j (by omega)).2
            omega)
      · refine Ev.sts 1 (c' := (42, [some (.inr (.inr (.inr (6, 0, 4)))), some (.inr (.inr (.inr (43, 0, t)))), some (.inl (iZ (a))), some (.inl (iZ (e))), some (.inl (iZ (i)))], [.inl (iZ (0))], h)) rfl ?_
        exact Ev.ret rfl (k0 (fun n_ => by
            have y := ((slc_eq tp l (e - a) a).mp n_).2 i (by omega)
            have b1 := hb (a + i)
            have b2 := (tx.2.2 i (by omega)).2
            omega))

theorem sl_stands {d a e t : Nat} {l : List Int} {tp : List Int} {h : PH} {Q : Rs → PH → Prop} (sh : Sh h) (t0 : tpC h tp) (ht : tp.length ≤ 1600) (hb : byT tp) (tx : txO t l) (ha : a < e) (he : e ≤ tp.length) (k1 : slc tp (e - a) a = l → Q (.inl (some (.inl (iZ 1)))) h) (k0 : ¬ slc tp (e - a) a = l → Q (.inl (some (.inl (iZ 0)))) h) : Rn (d + 4) 106 [.inr (.inr (.inr (6, 0, 4))), .inr (.inr (.inr (43, 0, t))), .inl (iZ (a)), .inl (iZ (e))] h Q := by
  have e2 := tx.2.1
  refine Ev.sts 1 (c' := (1, [some (.inr (.inr (.inr (6, 0, 4)))), some (.inr (.inr (.inr (43, 0, t)))), some (.inl (iZ (a))), some (.inl (iZ (e))), none], [.inr (.inr (.inr (43, 0, t)))], h)) rfl ?_
  refine Ev.callv (a := [.inr (.inr (.inr (43, 0, t)))]) rfl (sl_len tx) ?_
  refine Ev.sts 2 (c' := (6, [some (.inr (.inr (.inr (6, 0, 4)))), some (.inr (.inr (.inr (43, 0, t)))), some (.inl (iZ (a))), some (.inl (iZ (e))), none], [.inl (iZ (a)), .inl (iZ (e)), .inl (iZ (l.length))], h)) rfl ?_
  refine Ev.gv (w := (iZ (e - a))) rfl (iZ_sub _ _) ?_
  refine Ev.brc (p := (iZ (l.length)) = (iZ (e - a))) (q := ((l.length : Int)) = (e - a)) (c1 := (12, [some (.inr (.inr (.inr (6, 0, 4)))), some (.inr (.inr (.inr (43, 0, t)))), some (.inl (iZ (a))), some (.inl (iZ (e))), none], [], h)) (c2 := (10, [some (.inr (.inr (.inr (6, 0, 4)))), some (.inr (.inr (.inr (43, 0, t)))), some (.inl (iZ (a))), some (.inl (iZ (e))), none], [], h)) rfl (iZ_eq ⟨by omega, by omega⟩ ⟨by omega, by omega⟩) (fun c0 => ?_) (fun c0 => ?_)
  · refine Ev.sts 2 (c' := (15, [some (.inr (.inr (.inr (6, 0, 4)))), some (.inr (.inr (.inr (43, 0, t)))), some (.inl (iZ (a))), some (.inl (iZ (e))), some (.inl (iZ (0)))], [], h)) rfl ?_
    exact sl_st_lp sh t0 ht hb tx ha he (by omega) k1 k0 (l.length + 1) 0 (Nat.zero_le _) (by omega) (fun j hj => absurd hj (Nat.not_lt_zero _))
  · refine Ev.sts 1 (c' := (11, [some (.inr (.inr (.inr (6, 0, 4)))), some (.inr (.inr (.inr (43, 0, t)))), some (.inl (iZ (a))), some (.inl (iZ (e))), none], [.inl (iZ (0))], h)) rfl ?_
    exact Ev.ret rfl (k0 (fun n_ => by
        have y := ((slc_eq tp l (e - a) a).mp n_).1
        omega))

