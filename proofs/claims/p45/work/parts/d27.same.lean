/-! Both sides looked at, whole. -/
theorem wn_len {S : Sta} {M : Ms} {B : Bk} {gv : Nat → Ctx → Int32 → Int32} (ms : MSy S M B gv) (W : WN S) : (∀ w ∈ yO M, w.2.2.2.length ≤ 1000) ∧ ∀ w ∈ yT M, w.2.2.2.length ≤ 1000 := by
  obtain ⟨e1, e2, e3, e4, e5, e6, e7, e8⟩ := id ms
  refine ⟨fun w hw => ?_, fun w hw => ?_⟩
  · have m := mem_rw (tl := tlY B) (f := fY B gv (yC M)) hw rfl
    rw [← e6] at m
    obtain ⟨j, hj, ej⟩ := List.getElem_of_mem m
    have b := (W.2.2.2.2.2.2.2.2.1 w.1).1 j hj
    rw [List.getD_eq_getElem?_getD, List.getElem?_eq_getElem hj] at b
    have b : wB 1000 (wdS S w.1)[j] := b
    rw [ej] at b
    have := b.2.2.2.2.2
    have this : (w.2.2.2.length : Int) ≤ 1000 := this
    omega
  · have m : tO (tlY B) (fY B gv (yC M)) w ∈ tlS S := by rw [e8]; exact List.mem_map.mpr ⟨w, hw, rfl⟩
    obtain ⟨j, hj, ej⟩ := List.getElem_of_mem m
    have b := W.2.2.2.2.2.2.2.2.2.2.2.1 j hj
    rw [List.getD_eq_getElem?_getD, List.getElem?_eq_getElem hj] at b
    have b : wB 1000 (tlS S)[j].2 := b
    rw [ej] at b
    have := b.2.2.2.2.2
    have this : (w.2.2.2.length : Int) ≤ 1000 := this
    omega
theorem ls_same {d sm mn al s0 n0 t : Nat} {u : Q5} {S : Sta} {M : Ms} {B : Bk} {fv gv : Nat → Ctx → Int32 → Int32} {hb h : PH} {Q : Rs → PH → Prop} (vf : VF hb B fv gv) (ht : t ≤ 64) (j : JS hb h sm mn al B fv gv s0 n0 t u S M) (hm : mskM mn M) (q : ∀ h1, nwK h h1 2 16 → Q (.inl (some (.inl (iZ 1)))) h1) : Rn (d + 23) 172 [.inr (.inr (.inr (12, 0, sm))), .inr (.inr (.inr (1, 0, 1)))] h Q := by
  obtain ⟨nn, ca, ka, oa, ta, I, wr, x, bh, ms, mi, li, ub, hc, z, rs, rn⟩ := id j
  have bg := bh_G bh
  have al6 := bf_al bh
  have W := WS_N wr (by omega)
  have hs := x.2.2.2.2.2.2.2.2
  have w5 : (bkS S).2.2.length ≤ 6 := by rw [ms.1]; exact bg.1
  obtain ⟨e1, e2, e3, e4, e5, e6, e7, e8⟩ := id ms
  have ea : (bkS S).2.2.length = al := by rw [e1]; exact al6.2.2.1
  have em : (bkS S).2.1.length = mn := by rw [e1]; exact al6.1
  have cl : (csS S).length = (yC M).length := by rw [e2]; exact List.length_map _
  have lT : (tlS S).length = (yT M).length := by rw [e8]; exact List.length_map _
  obtain ⟨ma, f5, f4, f6, fm⟩ := bf_mo2 bh
  have x1 := Int.emod_nonneg (ntS S : Int) (show (B.1.length : Int) ≠ 0 by omega)
  have x2 := Int.emod_lt_of_pos (ntS S : Int) (show 0 < (B.1.length : Int) by omega)
  have eph : phB (bkS S) (ntS S : Int) = (ntS S : Int) % (B.1.length : Int) := by unfold phB; rw [e1]
  have eal : alB (bkS S) (ntS S : Int) = B.1.getD ((ntS S : Int) % (B.1.length : Int)).toNat 0 := by unfold alB; rw [e1]
  have hnt := W.2.2.2.1
  have hla : Rv (d + 22) 173 [.inr (.inr (.inr (12, 0, sm)))] h (some (.inl (iZ (alB (bkS S) (ntS S : Int))))) h := by
    rw [eal, e3]
    exact ls_allow (M := B.1) (nt := yN M) (ma := ma) x.1 f5 ⟨f4.1, by omega⟩ (fun j hj => (f6 j hj).1) x.2.2.2.2.2.1.1 (by omega)
  refine is_0 (d := d + 20) (n := (yC M).length) (mn := mn) (al := al) (nt := yN M) (ml := B.1.length) (nT := (yT M).length) I W x.2.1.1 x.1 f5 x.2.2.2.2.1.1 (bf_7 bh) (bf_10 bh) x.2.2.2.2.2.1.1 x.2.2.2.2.2.1.2.1 x.2.2.2.2.2.1.2.2 em ea cl e3 e4 e5 lT ⟨f4.1, by omega⟩ (by rw [eph, e3]) (by rw [eph]; exact ⟨x1, x2⟩) hla ?_
  have X2 : nwK h (grow (grow h 8) 8) 2 16 := ⟨rfl, fun _ _ => rfl, fun _ _ => rfl, rfl, by show hS h + 8 + 8 = _; omega⟩
  refine is_lp168 (d := d) (n := (yC M).length) I W w5 ub x bh ms hm rfl (fun h1 n1 y1 y6 y7 y8 y9 y10 => ?_) (yC M).length 0 _ _ _ _ _ _ (by omega) (nwK_s (nwK_s (nwK_s (nwK_s (nwK_s (nwK_s (nwK_s (nwK_s X2 (by omega) (by show hN h + 1 < hN h + 2; omega)) (by omega) (by show hN h + 1 < hN h + 2; omega)) (by omega) (by show hN h + 1 < hN h + 2; omega)) (by omega) (by show hN h + 1 < hN h + 2; omega)) (by omega) (by show hN h + 1 < hN h + 2; omega)) (by omega) (by show hN h + 1 < hN h + 2; omega)) (by omega) (by show hN h + 1 < hN h + 2; omega)) (by omega) (by show hN h + 1 < hN h + 2; omega)) (fun j hj => ?_)
  · have J1 := JS_new j n1
    obtain ⟨nn1, ca1, ka1, oa1, ta1, I1, wr1, z1, bh1, ms1, mi1, li1, ub1, hc1, zr1, rs1, rn1⟩ := id J1
    have tb := tot_b ms1 mi1 li1 W bg (by omega)
    have c42 := (ObB_le (B := B) bg.1).2
    have tot : (yO M).length + (yT M).length ≤ 42 * 70 := by
      have a := mi.2.2.2.1
      rw [pw_mul] at a
      have b : cyB B B.2.2.length 0 * (yC M).length ≤ 42 * 70 := Nat.mul_le_mul c42 (by omega)
      omega
    obtain ⟨ln1, ln2⟩ := wn_len ms1 W
    have sl := sumL_al (f := ltS S) (al := al) (fun g hg => by rw [e7]; exact mi.2.2.2.2 g (by omega)) (6 - al)
    rw [show al + (6 - al) = 6 by omega] at sl
    have sb := sumL_b (f := ltS S) (K := 1000) (fun g => by rw [e7]; exact (tb g).2) al
    refine is_lp295 (d := d) (n := (yC M).length) (h0 := h) I1 W z1.1 bh1 ms1 rfl y1 (fun y8 y9 y10 => ?_) mn 0 _ _ _ _ _ (by omega)
    refine is_lp351 (d := d) (n := (yC M).length) (h0 := h) vf I1 W z1 bh1 ms1 mi1 (by omega) (by omega) ln1 (fun g => by rw [e7]; have := (tb g).2; omega) (fun p y10 => ?_) al 0 0 _ _ _ (by omega) (fun _ _ => Nat.zero_le _) (Nat.zero_le _) (fun g2 _ => by rw [List.drop_zero])
    refine is_lp563 (d := d) (n := (yC M).length) (h0 := h) vf I1 W z1 bh1 ms1 mi1 (by omega) ln2 (fun y5 y9 y10 => ?_) (tlS S).length 0 (-1) 0 0 _ _ (by omega) (by rw [List.drop_zero]; rfl) (by rw [List.drop_zero]; omega) (by omega) (by omega) (fun _ => rfl) (fun c => by omega)
    have fr := ful_rg (tlS S) 0 (-1) 0 (Int.le_refl _) (by omega)
    have fr : -1 ≤ fulR (tlS S) 0 (-1) 0 ∧ fulR (tlS S) 0 (-1) 0 < (0 : Int) + (tlS S).length := fr
    rw [← sl, ← sumL_6]
    by_cases c : (tlS S).length = 0
    · exact is_691a (d := d + 21) I1 W (by omega) (by rw [sumL_6, sl]; omega) ⟨fr.1, by omega⟩ c (by rw [lT]; exact z1.2.2.2.2.1.1) zero_cmp (q h1 n1)
    · exact is_691b (d := d + 21) I1 W (by omega) (by rw [sumL_6, sl]; omega) ⟨fr.1, by omega⟩ (by omega) (mean_ok W (by omega)) (by rw [lT]; exact z1.2.2.2.2.1.1) (mean_cmp W (by omega)) (q h1 n1)
  · rw [if_neg (Nat.not_lt_zero _)]
    refine ⟨?_, ?_⟩
    · have e : h.1 (hN h) j = 0 := z (hN h) (Nat.le_refl _) j
      have hz : (0 : Int32) = iZ (szK (csS S) (iZ (j : Int)) 0) := rfl
      rw [← hz, ← e]
      refine (setI_ne (by omega)).trans ((setI_ne (by omega)).trans ((setI_ne (by omega)).trans ((setI_ne (by omega)).trans ((setI_ne (by omega)).trans ((setI_ne (by omega)).trans ((setI_ne (by omega)).trans ((setI_ne (by omega)).trans rfl)))))))
    · show _ = iZ (-1)
      have j8 : j < 8 := by omega
      obtain rfl | rfl | rfl | rfl | rfl | rfl | rfl | rfl : j = 0 ∨ j = 1 ∨ j = 2 ∨ j = 3 ∨ j = 4 ∨ j = 5 ∨ j = 6 ∨ j = 7 := by omega
      all_goals (repeat (first | exact setI_self _ _ _ _ | refine (setI_ne (by omega)).trans ?_))
