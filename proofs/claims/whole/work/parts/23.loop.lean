/-! The law's loop. -/
def lwT (L : Nat) (i : Int32) (a b c e : Option VV) : LV := [some (scr L), some (.inr (.inr (.inr (1, 0, 1)))), some (.inr (.inr (.inr (11, 0, 83)))), some (.inr (.inr (.inr (21, 1, 102)))), some (.inl i), a, b, c, e]
theorem lw_out {d L : Nat} {i : Int32} {a b c e : Option VV} {h : PH} {Q : Rs → PH → Prop} (hc : Int32.ofNat L - 6 < i) (k : Q (.inl (some (.inl 1))) h) : Ev d 25 (23, lwT L i a b c e, [], h) Q := by
  refine Ev.sts 5 (c' := (30, lwT L i a b c e, [.inl (Int32.ofNat L - 6), .inl i], h)) rfl ?_
  refine Ev.br (p := Int32.ofNat L - 6 < i) (c1 := (2086, lwT L i a b c e, [], h)) (c2 := (33, lwT L i a b c e, [], h)) rfl (fun _ => ?_) (fun n => absurd hc n)
  refine Ev.sts 1 (c' := (2087, lwT L i a b c e, [.inl 1], h)) rfl ?_
  exact Ev.ret rfl k
theorem lw_in {d L : Nat} {i : Int32} {a b c e : Option VV} {h : PH} {Q : Rs → PH → Prop} (hc : ¬ Int32.ofNat L - 6 < i) (hb : ¬ (i < 0 ∨ L ≤ i.toNatClampNeg)) (k : Ev d 25 (40, lwT L i a b c e, [.inl (h.1 0 i.toNatClampNeg &&& 63)], h) Q) : Ev d 25 (23, lwT L i a b c e, [], h) Q := by
  refine Ev.sts 5 (c' := (30, lwT L i a b c e, [.inl (Int32.ofNat L - 6), .inl i], h)) rfl ?_
  refine Ev.br (p := Int32.ofNat L - 6 < i) (c1 := (2086, lwT L i a b c e, [], h)) (c2 := (33, lwT L i a b c e, [], h)) rfl (fun n => absurd n hc) (fun _ => ?_)
  refine Ev.sts 2 (c' := (36, lwT L i a b c e, [.inl i, scr L], h)) rfl ?_
  refine Ev.ld (c' := (37, lwT L i a b c e, [.inl (h.1 0 i.toNatClampNeg)], h)) (j := i) (n := L) hb rfl ?_
  exact Ev.sts 2 (c' := (40, lwT L i a b c e, [.inl (h.1 0 i.toNatClampNeg &&& 63)], h)) rfl k
theorem lw_next {d L : Nat} {i : Int32} {a b c e : Option VV} {h : PH} {Q : Rs → PH → Prop} (k : Ev d 25 (23, lwT L (i + 6) a b c e, [], h) Q) : Ev d 25 (2080, lwT L i a b c e, [], h) Q :=
  Ev.sts 2 (c' := (23, lwT L (i + 6) a b c e, [], h)) rfl k
theorem lw_sw_0 {d L : Nat} {i : Int32} {a b c e : Option VV} {h : PH} {Q : Rs → PH → Prop} (k : Ev d 25 (224, lwT L i a b c e, [], h) Q) : Ev d 25 (40, lwT L i a b c e, [.inl 0], h) Q := Ev.sts 1 (c' := (224, lwT L i a b c e, [], h)) rfl k
theorem lw_sw_1 {d L : Nat} {i : Int32} {a b c e : Option VV} {h : PH} {Q : Rs → PH → Prop} (k : Ev d 25 (328, lwT L i a b c e, [], h) Q) : Ev d 25 (40, lwT L i a b c e, [.inl 1], h) Q := Ev.sts 1 (c' := (328, lwT L i a b c e, [], h)) rfl k
theorem lw_sw_2 {d L : Nat} {i : Int32} {a b c e : Option VV} {h : PH} {Q : Rs → PH → Prop} (k : Ev d 25 (384, lwT L i a b c e, [], h) Q) : Ev d 25 (40, lwT L i a b c e, [.inl 2], h) Q := Ev.sts 1 (c' := (384, lwT L i a b c e, [], h)) rfl k
theorem lw_sw_3 {d L : Nat} {i : Int32} {a b c e : Option VV} {h : PH} {Q : Rs → PH → Prop} (k : Ev d 25 (397, lwT L i a b c e, [], h) Q) : Ev d 25 (40, lwT L i a b c e, [.inl 3], h) Q := Ev.sts 1 (c' := (397, lwT L i a b c e, [], h)) rfl k
theorem lw_sw_4 {d L : Nat} {i : Int32} {a b c e : Option VV} {h : PH} {Q : Rs → PH → Prop} (k : Ev d 25 (410, lwT L i a b c e, [], h) Q) : Ev d 25 (40, lwT L i a b c e, [.inl 4], h) Q := Ev.sts 1 (c' := (410, lwT L i a b c e, [], h)) rfl k
theorem lw_sw_5 {d L : Nat} {i : Int32} {a b c e : Option VV} {h : PH} {Q : Rs → PH → Prop} (k : Ev d 25 (502, lwT L i a b c e, [], h) Q) : Ev d 25 (40, lwT L i a b c e, [.inl 5], h) Q := Ev.sts 1 (c' := (502, lwT L i a b c e, [], h)) rfl k
theorem lw_sw_6 {d L : Nat} {i : Int32} {a b c e : Option VV} {h : PH} {Q : Rs → PH → Prop} (k : Ev d 25 (558, lwT L i a b c e, [], h) Q) : Ev d 25 (40, lwT L i a b c e, [.inl 6], h) Q := Ev.sts 1 (c' := (558, lwT L i a b c e, [], h)) rfl k
theorem lw_sw_7 {d L : Nat} {i : Int32} {a b c e : Option VV} {h : PH} {Q : Rs → PH → Prop} (k : Ev d 25 (571, lwT L i a b c e, [], h) Q) : Ev d 25 (40, lwT L i a b c e, [.inl 7], h) Q := Ev.sts 1 (c' := (571, lwT L i a b c e, [], h)) rfl k
theorem lw_sw_8 {d L : Nat} {i : Int32} {a b c e : Option VV} {h : PH} {Q : Rs → PH → Prop} (k : Ev d 25 (584, lwT L i a b c e, [], h) Q) : Ev d 25 (40, lwT L i a b c e, [.inl 8], h) Q := Ev.sts 1 (c' := (584, lwT L i a b c e, [], h)) rfl k
theorem lw_sw_9 {d L : Nat} {i : Int32} {a b c e : Option VV} {h : PH} {Q : Rs → PH → Prop} (k : Ev d 25 (597, lwT L i a b c e, [], h) Q) : Ev d 25 (40, lwT L i a b c e, [.inl 9], h) Q := Ev.sts 1 (c' := (597, lwT L i a b c e, [], h)) rfl k
theorem lw_sw_10 {d L : Nat} {i : Int32} {a b c e : Option VV} {h : PH} {Q : Rs → PH → Prop} (k : Ev d 25 (610, lwT L i a b c e, [], h) Q) : Ev d 25 (40, lwT L i a b c e, [.inl 10], h) Q := Ev.sts 1 (c' := (610, lwT L i a b c e, [], h)) rfl k
theorem lw_sw_11 {d L : Nat} {i : Int32} {a b c e : Option VV} {h : PH} {Q : Rs → PH → Prop} (k : Ev d 25 (623, lwT L i a b c e, [], h) Q) : Ev d 25 (40, lwT L i a b c e, [.inl 11], h) Q := Ev.sts 1 (c' := (623, lwT L i a b c e, [], h)) rfl k
theorem lw_sw_12 {d L : Nat} {i : Int32} {a b c e : Option VV} {h : PH} {Q : Rs → PH → Prop} (k : Ev d 25 (636, lwT L i a b c e, [], h) Q) : Ev d 25 (40, lwT L i a b c e, [.inl 12], h) Q := Ev.sts 1 (c' := (636, lwT L i a b c e, [], h)) rfl k
theorem lw_sw_13 {d L : Nat} {i : Int32} {a b c e : Option VV} {h : PH} {Q : Rs → PH → Prop} (k : Ev d 25 (649, lwT L i a b c e, [], h) Q) : Ev d 25 (40, lwT L i a b c e, [.inl 13], h) Q := Ev.sts 1 (c' := (649, lwT L i a b c e, [], h)) rfl k
theorem lw_sw_14 {d L : Nat} {i : Int32} {a b c e : Option VV} {h : PH} {Q : Rs → PH → Prop} (k : Ev d 25 (662, lwT L i a b c e, [], h) Q) : Ev d 25 (40, lwT L i a b c e, [.inl 14], h) Q := Ev.sts 1 (c' := (662, lwT L i a b c e, [], h)) rfl k
theorem lw_sw_15 {d L : Nat} {i : Int32} {a b c e : Option VV} {h : PH} {Q : Rs → PH → Prop} (k : Ev d 25 (675, lwT L i a b c e, [], h) Q) : Ev d 25 (40, lwT L i a b c e, [.inl 15], h) Q := Ev.sts 1 (c' := (675, lwT L i a b c e, [], h)) rfl k
theorem lw_sw_16 {d L : Nat} {i : Int32} {a b c e : Option VV} {h : PH} {Q : Rs → PH → Prop} (k : Ev d 25 (688, lwT L i a b c e, [], h) Q) : Ev d 25 (40, lwT L i a b c e, [.inl 16], h) Q := Ev.sts 1 (c' := (688, lwT L i a b c e, [], h)) rfl k
theorem lw_sw_17 {d L : Nat} {i : Int32} {a b c e : Option VV} {h : PH} {Q : Rs → PH → Prop} (k : Ev d 25 (701, lwT L i a b c e, [], h) Q) : Ev d 25 (40, lwT L i a b c e, [.inl 17], h) Q := Ev.sts 1 (c' := (701, lwT L i a b c e, [], h)) rfl k
theorem lw_sw_18 {d L : Nat} {i : Int32} {a b c e : Option VV} {h : PH} {Q : Rs → PH → Prop} (k : Ev d 25 (757, lwT L i a b c e, [], h) Q) : Ev d 25 (40, lwT L i a b c e, [.inl 18], h) Q := Ev.sts 1 (c' := (757, lwT L i a b c e, [], h)) rfl k
theorem lw_sw_19 {d L : Nat} {i : Int32} {a b c e : Option VV} {h : PH} {Q : Rs → PH → Prop} (k : Ev d 25 (813, lwT L i a b c e, [], h) Q) : Ev d 25 (40, lwT L i a b c e, [.inl 19], h) Q := Ev.sts 1 (c' := (813, lwT L i a b c e, [], h)) rfl k
theorem lw_sw_20 {d L : Nat} {i : Int32} {a b c e : Option VV} {h : PH} {Q : Rs → PH → Prop} (k : Ev d 25 (888, lwT L i a b c e, [], h) Q) : Ev d 25 (40, lwT L i a b c e, [.inl 20], h) Q := Ev.sts 1 (c' := (888, lwT L i a b c e, [], h)) rfl k
theorem lw_sw_21 {d L : Nat} {i : Int32} {a b c e : Option VV} {h : PH} {Q : Rs → PH → Prop} (k : Ev d 25 (944, lwT L i a b c e, [], h) Q) : Ev d 25 (40, lwT L i a b c e, [.inl 21], h) Q := Ev.sts 1 (c' := (944, lwT L i a b c e, [], h)) rfl k
theorem lw_sw_22 {d L : Nat} {i : Int32} {a b c e : Option VV} {h : PH} {Q : Rs → PH → Prop} (k : Ev d 25 (1000, lwT L i a b c e, [], h) Q) : Ev d 25 (40, lwT L i a b c e, [.inl 22], h) Q := Ev.sts 1 (c' := (1000, lwT L i a b c e, [], h)) rfl k
theorem lw_sw_23 {d L : Nat} {i : Int32} {a b c e : Option VV} {h : PH} {Q : Rs → PH → Prop} (k : Ev d 25 (1056, lwT L i a b c e, [], h) Q) : Ev d 25 (40, lwT L i a b c e, [.inl 23], h) Q := Ev.sts 1 (c' := (1056, lwT L i a b c e, [], h)) rfl k
theorem lw_sw_24 {d L : Nat} {i : Int32} {a b c e : Option VV} {h : PH} {Q : Rs → PH → Prop} (k : Ev d 25 (1112, lwT L i a b c e, [], h) Q) : Ev d 25 (40, lwT L i a b c e, [.inl 24], h) Q := Ev.sts 1 (c' := (1112, lwT L i a b c e, [], h)) rfl k
theorem lw_sw_25 {d L : Nat} {i : Int32} {a b c e : Option VV} {h : PH} {Q : Rs → PH → Prop} (k : Ev d 25 (1168, lwT L i a b c e, [], h) Q) : Ev d 25 (40, lwT L i a b c e, [.inl 25], h) Q := Ev.sts 1 (c' := (1168, lwT L i a b c e, [], h)) rfl k
theorem lw_sw_26 {d L : Nat} {i : Int32} {a b c e : Option VV} {h : PH} {Q : Rs → PH → Prop} (k : Ev d 25 (1236, lwT L i a b c e, [], h) Q) : Ev d 25 (40, lwT L i a b c e, [.inl 26], h) Q := Ev.sts 1 (c' := (1236, lwT L i a b c e, [], h)) rfl k
theorem lw_sw_27 {d L : Nat} {i : Int32} {a b c e : Option VV} {h : PH} {Q : Rs → PH → Prop} (k : Ev d 25 (1304, lwT L i a b c e, [], h) Q) : Ev d 25 (40, lwT L i a b c e, [.inl 27], h) Q := Ev.sts 1 (c' := (1304, lwT L i a b c e, [], h)) rfl k
theorem lw_sw_28 {d L : Nat} {i : Int32} {a b c e : Option VV} {h : PH} {Q : Rs → PH → Prop} (k : Ev d 25 (1372, lwT L i a b c e, [], h) Q) : Ev d 25 (40, lwT L i a b c e, [.inl 28], h) Q := Ev.sts 1 (c' := (1372, lwT L i a b c e, [], h)) rfl k
theorem lw_sw_29 {d L : Nat} {i : Int32} {a b c e : Option VV} {h : PH} {Q : Rs → PH → Prop} (k : Ev d 25 (1440, lwT L i a b c e, [], h) Q) : Ev d 25 (40, lwT L i a b c e, [.inl 29], h) Q := Ev.sts 1 (c' := (1440, lwT L i a b c e, [], h)) rfl k
theorem lw_sw_30 {d L : Nat} {i : Int32} {a b c e : Option VV} {h : PH} {Q : Rs → PH → Prop} (k : Ev d 25 (1496, lwT L i a b c e, [], h) Q) : Ev d 25 (40, lwT L i a b c e, [.inl 30], h) Q := Ev.sts 1 (c' := (1496, lwT L i a b c e, [], h)) rfl k
theorem lw_sw_31 {d L : Nat} {i : Int32} {a b c e : Option VV} {h : PH} {Q : Rs → PH → Prop} (k : Ev d 25 (1552, lwT L i a b c e, [], h) Q) : Ev d 25 (40, lwT L i a b c e, [.inl 31], h) Q := Ev.sts 1 (c' := (1552, lwT L i a b c e, [], h)) rfl k
theorem lw_sw_32 {d L : Nat} {i : Int32} {a b c e : Option VV} {h : PH} {Q : Rs → PH → Prop} (k : Ev d 25 (1608, lwT L i a b c e, [], h) Q) : Ev d 25 (40, lwT L i a b c e, [.inl 32], h) Q := Ev.sts 1 (c' := (1608, lwT L i a b c e, [], h)) rfl k
theorem lw_sw_33 {d L : Nat} {i : Int32} {a b c e : Option VV} {h : PH} {Q : Rs → PH → Prop} (k : Ev d 25 (1664, lwT L i a b c e, [], h) Q) : Ev d 25 (40, lwT L i a b c e, [.inl 33], h) Q := Ev.sts 1 (c' := (1664, lwT L i a b c e, [], h)) rfl k
theorem lw_sw_34 {d L : Nat} {i : Int32} {a b c e : Option VV} {h : PH} {Q : Rs → PH → Prop} (k : Ev d 25 (1720, lwT L i a b c e, [], h) Q) : Ev d 25 (40, lwT L i a b c e, [.inl 34], h) Q := Ev.sts 1 (c' := (1720, lwT L i a b c e, [], h)) rfl k
theorem lw_sw_35 {d L : Nat} {i : Int32} {a b c e : Option VV} {h : PH} {Q : Rs → PH → Prop} (k : Ev d 25 (1733, lwT L i a b c e, [], h) Q) : Ev d 25 (40, lwT L i a b c e, [.inl 35], h) Q := Ev.sts 1 (c' := (1733, lwT L i a b c e, [], h)) rfl k
theorem lw_sw_36 {d L : Nat} {i : Int32} {a b c e : Option VV} {h : PH} {Q : Rs → PH → Prop} (k : Ev d 25 (1844, lwT L i a b c e, [], h) Q) : Ev d 25 (40, lwT L i a b c e, [.inl 36], h) Q := Ev.sts 1 (c' := (1844, lwT L i a b c e, [], h)) rfl k
theorem lw_sw_37 {d L : Nat} {i : Int32} {a b c e : Option VV} {h : PH} {Q : Rs → PH → Prop} (k : Ev d 25 (1900, lwT L i a b c e, [], h) Q) : Ev d 25 (40, lwT L i a b c e, [.inl 37], h) Q := Ev.sts 1 (c' := (1900, lwT L i a b c e, [], h)) rfl k
theorem lw_sw_38 {d L : Nat} {i : Int32} {a b c e : Option VV} {h : PH} {Q : Rs → PH → Prop} (k : Ev d 25 (1956, lwT L i a b c e, [], h) Q) : Ev d 25 (40, lwT L i a b c e, [.inl 38], h) Q := Ev.sts 1 (c' := (1956, lwT L i a b c e, [], h)) rfl k
theorem lw_sw_39 {d L : Nat} {i : Int32} {a b c e : Option VV} {h : PH} {Q : Rs → PH → Prop} (k : Ev d 25 (2012, lwT L i a b c e, [], h) Q) : Ev d 25 (40, lwT L i a b c e, [.inl 39], h) Q := Ev.sts 1 (c' := (2012, lwT L i a b c e, [], h)) rfl k
theorem lw_sw_40 {d L : Nat} {i : Int32} {a b c e : Option VV} {h : PH} {Q : Rs → PH → Prop} (k : Ev d 25 (2025, lwT L i a b c e, [], h) Q) : Ev d 25 (40, lwT L i a b c e, [.inl 40], h) Q := Ev.sts 1 (c' := (2025, lwT L i a b c e, [], h)) rfl k
theorem lw_sw_41 {d L : Nat} {i : Int32} {a b c e : Option VV} {h : PH} {Q : Rs → PH → Prop} (k : Ev d 25 (2066, lwT L i a b c e, [], h) Q) : Ev d 25 (40, lwT L i a b c e, [.inl 41], h) Q := Ev.sts 1 (c' := (2066, lwT L i a b c e, [], h)) rfl k
theorem lw_sw_42 {d L : Nat} {i : Int32} {a b c e : Option VV} {h : PH} {Q : Rs → PH → Prop} (k : Ev d 25 (2080, lwT L i a b c e, [], h) Q) : Ev d 25 (40, lwT L i a b c e, [.inl 42], h) Q := Ev.sts 1 (c' := (2080, lwT L i a b c e, [], h)) rfl k
theorem lw_sw_43 {d L : Nat} {i : Int32} {a b c e : Option VV} {h : PH} {Q : Rs → PH → Prop} (k : Ev d 25 (2080, lwT L i a b c e, [], h) Q) : Ev d 25 (40, lwT L i a b c e, [.inl 43], h) Q := Ev.sts 1 (c' := (2080, lwT L i a b c e, [], h)) rfl k
theorem lw_sw_44 {d L : Nat} {i : Int32} {a b c e : Option VV} {h : PH} {Q : Rs → PH → Prop} (k : Ev d 25 (2080, lwT L i a b c e, [], h) Q) : Ev d 25 (40, lwT L i a b c e, [.inl 44], h) Q := Ev.sts 1 (c' := (2080, lwT L i a b c e, [], h)) rfl k
theorem lw_sw_45 {d L : Nat} {i : Int32} {a b c e : Option VV} {h : PH} {Q : Rs → PH → Prop} (k : Ev d 25 (2080, lwT L i a b c e, [], h) Q) : Ev d 25 (40, lwT L i a b c e, [.inl 45], h) Q := Ev.sts 1 (c' := (2080, lwT L i a b c e, [], h)) rfl k
theorem lw_sw_46 {d L : Nat} {i : Int32} {a b c e : Option VV} {h : PH} {Q : Rs → PH → Prop} (k : Ev d 25 (2080, lwT L i a b c e, [], h) Q) : Ev d 25 (40, lwT L i a b c e, [.inl 46], h) Q := Ev.sts 1 (c' := (2080, lwT L i a b c e, [], h)) rfl k
theorem lw_sw_47 {d L : Nat} {i : Int32} {a b c e : Option VV} {h : PH} {Q : Rs → PH → Prop} (k : Ev d 25 (2080, lwT L i a b c e, [], h) Q) : Ev d 25 (40, lwT L i a b c e, [.inl 47], h) Q := Ev.sts 1 (c' := (2080, lwT L i a b c e, [], h)) rfl k
theorem lw_sw_48 {d L : Nat} {i : Int32} {a b c e : Option VV} {h : PH} {Q : Rs → PH → Prop} (k : Ev d 25 (2080, lwT L i a b c e, [], h) Q) : Ev d 25 (40, lwT L i a b c e, [.inl 48], h) Q := Ev.sts 1 (c' := (2080, lwT L i a b c e, [], h)) rfl k
theorem lw_sw_49 {d L : Nat} {i : Int32} {a b c e : Option VV} {h : PH} {Q : Rs → PH → Prop} (k : Ev d 25 (2080, lwT L i a b c e, [], h) Q) : Ev d 25 (40, lwT L i a b c e, [.inl 49], h) Q := Ev.sts 1 (c' := (2080, lwT L i a b c e, [], h)) rfl k
theorem lw_sw_50 {d L : Nat} {i : Int32} {a b c e : Option VV} {h : PH} {Q : Rs → PH → Prop} (k : Ev d 25 (2080, lwT L i a b c e, [], h) Q) : Ev d 25 (40, lwT L i a b c e, [.inl 50], h) Q := Ev.sts 1 (c' := (2080, lwT L i a b c e, [], h)) rfl k
theorem lw_sw_51 {d L : Nat} {i : Int32} {a b c e : Option VV} {h : PH} {Q : Rs → PH → Prop} (k : Ev d 25 (2080, lwT L i a b c e, [], h) Q) : Ev d 25 (40, lwT L i a b c e, [.inl 51], h) Q := Ev.sts 1 (c' := (2080, lwT L i a b c e, [], h)) rfl k
theorem lw_sw_52 {d L : Nat} {i : Int32} {a b c e : Option VV} {h : PH} {Q : Rs → PH → Prop} (k : Ev d 25 (2080, lwT L i a b c e, [], h) Q) : Ev d 25 (40, lwT L i a b c e, [.inl 52], h) Q := Ev.sts 1 (c' := (2080, lwT L i a b c e, [], h)) rfl k
theorem lw_sw_53 {d L : Nat} {i : Int32} {a b c e : Option VV} {h : PH} {Q : Rs → PH → Prop} (k : Ev d 25 (2080, lwT L i a b c e, [], h) Q) : Ev d 25 (40, lwT L i a b c e, [.inl 53], h) Q := Ev.sts 1 (c' := (2080, lwT L i a b c e, [], h)) rfl k
theorem lw_sw_54 {d L : Nat} {i : Int32} {a b c e : Option VV} {h : PH} {Q : Rs → PH → Prop} (k : Ev d 25 (2080, lwT L i a b c e, [], h) Q) : Ev d 25 (40, lwT L i a b c e, [.inl 54], h) Q := Ev.sts 1 (c' := (2080, lwT L i a b c e, [], h)) rfl k
theorem lw_sw_55 {d L : Nat} {i : Int32} {a b c e : Option VV} {h : PH} {Q : Rs → PH → Prop} (k : Ev d 25 (2080, lwT L i a b c e, [], h) Q) : Ev d 25 (40, lwT L i a b c e, [.inl 55], h) Q := Ev.sts 1 (c' := (2080, lwT L i a b c e, [], h)) rfl k
theorem lw_sw_56 {d L : Nat} {i : Int32} {a b c e : Option VV} {h : PH} {Q : Rs → PH → Prop} (k : Ev d 25 (2080, lwT L i a b c e, [], h) Q) : Ev d 25 (40, lwT L i a b c e, [.inl 56], h) Q := Ev.sts 1 (c' := (2080, lwT L i a b c e, [], h)) rfl k
theorem lw_sw_57 {d L : Nat} {i : Int32} {a b c e : Option VV} {h : PH} {Q : Rs → PH → Prop} (k : Ev d 25 (2080, lwT L i a b c e, [], h) Q) : Ev d 25 (40, lwT L i a b c e, [.inl 57], h) Q := Ev.sts 1 (c' := (2080, lwT L i a b c e, [], h)) rfl k
theorem lw_sw_58 {d L : Nat} {i : Int32} {a b c e : Option VV} {h : PH} {Q : Rs → PH → Prop} (k : Ev d 25 (2080, lwT L i a b c e, [], h) Q) : Ev d 25 (40, lwT L i a b c e, [.inl 58], h) Q := Ev.sts 1 (c' := (2080, lwT L i a b c e, [], h)) rfl k
theorem lw_sw_59 {d L : Nat} {i : Int32} {a b c e : Option VV} {h : PH} {Q : Rs → PH → Prop} (k : Ev d 25 (2080, lwT L i a b c e, [], h) Q) : Ev d 25 (40, lwT L i a b c e, [.inl 59], h) Q := Ev.sts 1 (c' := (2080, lwT L i a b c e, [], h)) rfl k
theorem lw_sw_60 {d L : Nat} {i : Int32} {a b c e : Option VV} {h : PH} {Q : Rs → PH → Prop} (k : Ev d 25 (2080, lwT L i a b c e, [], h) Q) : Ev d 25 (40, lwT L i a b c e, [.inl 60], h) Q := Ev.sts 1 (c' := (2080, lwT L i a b c e, [], h)) rfl k
theorem lw_sw_61 {d L : Nat} {i : Int32} {a b c e : Option VV} {h : PH} {Q : Rs → PH → Prop} (k : Ev d 25 (2080, lwT L i a b c e, [], h) Q) : Ev d 25 (40, lwT L i a b c e, [.inl 61], h) Q := Ev.sts 1 (c' := (2080, lwT L i a b c e, [], h)) rfl k
theorem lw_sw_62 {d L : Nat} {i : Int32} {a b c e : Option VV} {h : PH} {Q : Rs → PH → Prop} (k : Ev d 25 (2080, lwT L i a b c e, [], h) Q) : Ev d 25 (40, lwT L i a b c e, [.inl 62], h) Q := Ev.sts 1 (c' := (2080, lwT L i a b c e, [], h)) rfl k
theorem lw_sw_63 {d L : Nat} {i : Int32} {a b c e : Option VV} {h : PH} {Q : Rs → PH → Prop} (k : Ev d 25 (2080, lwT L i a b c e, [], h) Q) : Ev d 25 (40, lwT L i a b c e, [.inl 63], h) Q := Ev.sts 1 (c' := (2080, lwT L i a b c e, [], h)) rfl k
theorem i32_nat {n : Nat} (h : n < 2147483648) : (Int32.ofNat n).toInt = n := Int32.toInt_ofNat_of_lt (by omega)
theorem i32_cl {n : Nat} (h : n < 2147483648) : (Int32.ofNat n).toNatClampNeg = n := by
  show (Int32.ofNat n).toInt.toNat = n
  rw [i32_nat h]
  omega
theorem lw_cmp {L n : Nat} (h1 : L ≤ 3072) (h2 : n ≤ 4000) : (Int32.ofNat L - 6 < Int32.ofNat n) ↔ L < n + 6 := by
  have e : (Int32.ofNat L - 6).toInt = (L : Int) - 6 := by
    rw [Int32.toInt_sub, i32_nat (by omega), show (6 : Int32).toInt = 6 from rfl]
    exact Int.bmod_eq_of_le (by omega) (by omega)
  rw [Int32.lt_iff_toInt_lt, e, i32_nat (by omega)]
  omega
/-- the law out of an invariant that each of its calls keeps -/
theorem law_of (Inv : Nat → (Nat → Int32) → Nat → PH → Prop) (h00 : ∀ L xs, L ≤ 3072 → Inv L xs 0 (hIn xs))
    (hst : ∀ L xs t h, L ≤ 3072 → 6 * t + 6 ≤ L → Inv L xs t h → ∀ (a b c e : Option VV) (Q : Rs → PH → Prop), (∀ (a b c e : Option VV) h', Inv L xs (t + 1) h' → Ev 1390 25 (2080, lwT L (Int32.ofNat (6 * t)) a b c e, [], h') Q) → Ev 1390 25 (40, lwT L (Int32.ofNat (6 * t)) a b c e, [.inl (xs (6 * t) &&& 63)], h) Q)
    (hfin : ∀ L xs t h, L ≤ 3072 → 6 * t ≤ L → Inv L xs t h → hN h ≤ 601025 ∧ hS h ≤ 7293034) (hscr : ∀ L xs t h, Inv L xs t h → ∀ j, h.1 0 j = xs j) : LAW_OK := by
  intro L xs hL
  have go : ∀ (k t : Nat) (h : PH) (a b c e : Option VV), L ≤ 6 * (t + k) + 5 → 6 * t ≤ L → Inv L xs t h → Ev 1390 25 (23, lwT L (Int32.ofNat (6 * t)) a b c e, [], h) (fun r h' => r = .inl (some (.inl 1)) ∧ hN h' ≤ 601025 ∧ hS h' ≤ 7293034) := by
    intro k
    induction k with
    | zero =>
      intro t h a b c e h1 h2 hI
      exact lw_out ((lw_cmp hL (by omega)).mpr (by omega)) ⟨rfl, hfin L xs t h hL h2 hI⟩
    | succ k ih =>
      intro t h a b c e h1 h2 hI
      by_cases h3 : L < 6 * t + 6
      · exact lw_out ((lw_cmp hL (by omega)).mpr h3) ⟨rfl, hfin L xs t h hL h2 hI⟩
      · refine lw_in (fun z => h3 ((lw_cmp hL (by omega)).mp z)) ?_ ?_
        · rw [i32_cl (by omega)]
          intro z
          rcases z with z | z
          · rw [Int32.lt_iff_toInt_lt, i32_nat (by omega)] at z
            have : (0 : Int32).toInt = 0 := rfl
            omega
          · omega
        · rw [i32_cl (by omega), hscr L xs t h hI]
          refine hst L xs t h hL (by omega) hI a b c e _ fun a b c e h' hI' => lw_next ?_
          have e1 : Int32.ofNat (6 * t) + 6 = Int32.ofNat (6 * (t + 1)) := by
            rw [Nat.mul_add, Nat.mul_one, Int32.ofNat_add]
            rfl
          rw [e1]
          exact ih (t + 1) h' a b c e (by omega) (by omega) hI'
  have hg := go 513 0 (hIn xs) none none none none (by omega) (by omega) (h00 L xs hL)
  have hg2 : Ev (1384 + 6) 25 (0, entL 25 [scr L], [], h0 xs) (fun r h' => r = .inl (some (.inl 1)) ∧ hN h' ≤ 601025 ∧ hS h' ≤ 7293034) := law_head hg
  obtain ⟨n, r, h', hr, e1, e2, e3⟩ := hg2
  subst e1
  exact ⟨n, 1390, h', Nat.le_refl _, hr, e2, e3⟩
