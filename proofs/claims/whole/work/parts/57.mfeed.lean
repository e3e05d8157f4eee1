/-! The reference: wouldTake that fails; trim, feed. -/
theorem mz_wouldTake {d : Nat} {y : Y4} {S : Sta} {h : PH} (I : MI h S y) (W : WN S) {p : Int} {x : Ctx} (hpb : -2147483648 ≤ p ∧ p < 2147483648) (hc : ¬ (0 ≤ p ∧ p < (bkS S).2.1.length)) : Rv (d + 2) 269 [.inr (.inr (.inr (11, 0, 83))), .inl (iZ (p)), .inl (iZ (x.1)), .inl (iZ (x.2.1)), .inl (iZ (x.2.2.1)), .inl (iZ (x.2.2.2))] h (some (.inl (iZ 0))) (setI h 83 0 (iZ 1)) := Rv.of fun Q q => by
  have W0 := W
  obtain ⟨⟨w1, w2, w3, w4, w5, w6⟩, w7, w8, w9, w10, w11, w12, w13, w14, w15, w16, w17, w18⟩ := W0
  have wB : bkN (bkS S) := ⟨w1, w2, w3, w4, w5, w6⟩
  have sh0 := mi_sh I
  have al := alW_len (wdS S) 6 0
  have tl5 := lnL_le (ws := wdS S) (K := 128) (fun g => (w14 g).2) 6 0
  have alB_ := alW_B (ws := wdS S) (N := 1000) (fun g _ => (w14 g).1)
  have on1 := (mi_op I).2.1
  have on2 := (mi_op I).2.2.2.1
  have tn1 := (mi_tm I).2.1
  have tn2 := (mi_tm I).2.2.2.1
  refine Ev.sts 3 (c' := (3, [some (.inr (.inr (.inr (11, 0, 83)))), some (.inl (iZ (p))), some (.inl (iZ (x.1))), some (.inl (iZ (x.2.1))), some (.inl (iZ (x.2.2.1))), some (.inl (iZ (x.2.2.2)))], [.inl (iZ (p)), .inr (.inr (.inr (11, 0, 83))), .inr (.inr (.inr (11, 0, 83)))], h)) rfl ?_
  refine Ev.callw (a := [.inr (.inr (.inr (11, 0, 83))), .inl (iZ (p))]) rfl (mp_isFlock I W ⟨by omega, by omega⟩ (fun z => absurd z hc) (fun _ => ?_))
  refine Ev.brF (p := ¬ (iZ (0)) = (iZ (0))) (c1 := (13, [some (.inr (.inr (.inr (11, 0, 83)))), some (.inl (iZ (p))), some (.inl (iZ (x.1))), some (.inl (iZ (x.2.1))), some (.inl (iZ (x.2.2.1))), some (.inl (iZ (x.2.2.2)))], [.inr (.inr (.inr (11, 0, 83)))], h)) (c2 := (9, [some (.inr (.inr (.inr (11, 0, 83)))), some (.inl (iZ (p))), some (.inl (iZ (x.1))), some (.inl (iZ (x.2.1))), some (.inl (iZ (x.2.2.1))), some (.inl (iZ (x.2.2.2)))], [.inr (.inr (.inr (11, 0, 83)))], h)) (by decide) rfl ?_
  refine Ev.sts 5 (c' := (37, [some (.inr (.inr (.inr (11, 0, 83)))), some (.inl (iZ (p))), some (.inl (iZ (x.1))), some (.inl (iZ (x.2.1))), some (.inl (iZ (x.2.2.1))), some (.inl (iZ (x.2.2.2)))], [.inl (iZ (1))], (setI h 83 0 ((iZ (1)))))) rfl ?_
  refine Ev.brF (p := (iZ (1)) ≤ (iZ (0))) (c1 := (42, [some (.inr (.inr (.inr (11, 0, 83)))), some (.inl (iZ (p))), some (.inl (iZ (x.1))), some (.inl (iZ (x.2.1))), some (.inl (iZ (x.2.2.1))), some (.inl (iZ (x.2.2.2)))], [], (setI h 83 0 ((iZ (1)))))) (c2 := (40, [some (.inr (.inr (.inr (11, 0, 83)))), some (.inl (iZ (p))), some (.inl (iZ (x.1))), some (.inl (iZ (x.2.1))), some (.inl (iZ (x.2.2.1))), some (.inl (iZ (x.2.2.2)))], [], (setI h 83 0 ((iZ (1)))))) (by decide) rfl ?_
  refine Ev.sts 1 (c' := (41, [some (.inr (.inr (.inr (11, 0, 83)))), some (.inl (iZ (p))), some (.inl (iZ (x.1))), some (.inl (iZ (x.2.1))), some (.inl (iZ (x.2.2.1))), some (.inl (iZ (x.2.2.2)))], [.inl (iZ (0))], (setI h 83 0 ((iZ (1)))))) rfl ?_
  exact Ev.ret rfl (q)

theorem my_wouldTake {d : Nat} {y : Y4} {S : Sta} {h : PH} (I : MI h S y) (W : WN S) {p : Int} {x : Ctx} (hc : 0 ≤ p ∧ p < (bkS S).2.1.length) (hx : bX x) (ok : ¬ okX x) : Rv (d + 2) 269 [.inr (.inr (.inr (11, 0, 83))), .inl (iZ (p)), .inl (iZ (x.1)), .inl (iZ (x.2.1)), .inl (iZ (x.2.2.1)), .inl (iZ (x.2.2.2))] h (some (.inl (iZ 0))) (setI h 83 0 (iZ 2)) := Rv.of fun Q q => by
  have W0 := W
  obtain ⟨⟨w1, w2, w3, w4, w5, w6⟩, w7, w8, w9, w10, w11, w12, w13, w14, w15, w16, w17, w18⟩ := W0
  have wB : bkN (bkS S) := ⟨w1, w2, w3, w4, w5, w6⟩
  have sh0 := mi_sh I
  have al := alW_len (wdS S) 6 0
  have tl5 := lnL_le (ws := wdS S) (K := 128) (fun g => (w14 g).2) 6 0
  have alB_ := alW_B (ws := wdS S) (N := 1000) (fun g _ => (w14 g).1)
  have on1 := (mi_op I).2.1
  have on2 := (mi_op I).2.2.2.1
  have tn1 := (mi_tm I).2.1
  have tn2 := (mi_tm I).2.2.2.1
  refine Ev.sts 3 (c' := (3, [some (.inr (.inr (.inr (11, 0, 83)))), some (.inl (iZ (p))), some (.inl (iZ (x.1))), some (.inl (iZ (x.2.1))), some (.inl (iZ (x.2.2.1))), some (.inl (iZ (x.2.2.2)))], [.inl (iZ (p)), .inr (.inr (.inr (11, 0, 83))), .inr (.inr (.inr (11, 0, 83)))], h)) rfl ?_
  refine Ev.callw (a := [.inr (.inr (.inr (11, 0, 83))), .inl (iZ (p))]) rfl (mp_isFlock I W ⟨by omega, by omega⟩ (fun _ => ?_) (fun z => absurd hc z))
  refine Ev.brT (p := ¬ (iZ (1)) = (iZ (0))) (c1 := (13, [some (.inr (.inr (.inr (11, 0, 83)))), some (.inl (iZ (p))), some (.inl (iZ (x.1))), some (.inl (iZ (x.2.1))), some (.inl (iZ (x.2.2.1))), some (.inl (iZ (x.2.2.2)))], [.inr (.inr (.inr (11, 0, 83)))], h)) (c2 := (9, [some (.inr (.inr (.inr (11, 0, 83)))), some (.inl (iZ (p))), some (.inl (iZ (x.1))), some (.inl (iZ (x.2.1))), some (.inl (iZ (x.2.2.1))), some (.inl (iZ (x.2.2.2)))], [.inr (.inr (.inr (11, 0, 83)))], h)) (by decide) rfl ?_
  refine Ev.sts 4 (c' := (19, [some (.inr (.inr (.inr (11, 0, 83)))), some (.inl (iZ (p))), some (.inl (iZ (x.1))), some (.inl (iZ (x.2.1))), some (.inl (iZ (x.2.2.1))), some (.inl (iZ (x.2.2.2)))], [.inl (iZ (x.2.2.2)), .inl (iZ (x.2.2.1)), .inl (iZ (x.2.1)), .inl (iZ (x.1)), .inr (.inr (.inr (11, 0, 83)))], h)) rfl ?_
  refine Ev.callw (a := [.inl (iZ (x.1)), .inl (iZ (x.2.1)), .inl (iZ (x.2.2.1)), .inl (iZ (x.2.2.2))]) rfl (mp_isComma hx (fun z => absurd z ok) (fun _ => ?_))
  refine Ev.brT (p := (iZ (0)) = (iZ (0))) (c1 := (29, [some (.inr (.inr (.inr (11, 0, 83)))), some (.inl (iZ (p))), some (.inl (iZ (x.1))), some (.inl (iZ (x.2.1))), some (.inl (iZ (x.2.2.1))), some (.inl (iZ (x.2.2.2)))], [.inr (.inr (.inr (11, 0, 83)))], h)) (c2 := (25, [some (.inr (.inr (.inr (11, 0, 83)))), some (.inl (iZ (p))), some (.inl (iZ (x.1))), some (.inl (iZ (x.2.1))), some (.inl (iZ (x.2.2.1))), some (.inl (iZ (x.2.2.2)))], [.inr (.inr (.inr (11, 0, 83)))], h)) (by decide) rfl ?_
  refine Ev.sts 4 (c' := (37, [some (.inr (.inr (.inr (11, 0, 83)))), some (.inl (iZ (p))), some (.inl (iZ (x.1))), some (.inl (iZ (x.2.1))), some (.inl (iZ (x.2.2.1))), some (.inl (iZ (x.2.2.2)))], [.inl (iZ (2))], (setI h 83 0 ((iZ (2)))))) rfl ?_
  refine Ev.brF (p := (iZ (2)) ≤ (iZ (0))) (c1 := (42, [some (.inr (.inr (.inr (11, 0, 83)))), some (.inl (iZ (p))), some (.inl (iZ (x.1))), some (.inl (iZ (x.2.1))), some (.inl (iZ (x.2.2.1))), some (.inl (iZ (x.2.2.2)))], [], (setI h 83 0 ((iZ (2)))))) (c2 := (40, [some (.inr (.inr (.inr (11, 0, 83)))), some (.inl (iZ (p))), some (.inl (iZ (x.1))), some (.inl (iZ (x.2.1))), some (.inl (iZ (x.2.2.1))), some (.inl (iZ (x.2.2.2)))], [], (setI h 83 0 ((iZ (2)))))) (by decide) rfl ?_
  refine Ev.sts 1 (c' := (41, [some (.inr (.inr (.inr (11, 0, 83)))), some (.inl (iZ (p))), some (.inl (iZ (x.1))), some (.inl (iZ (x.2.1))), some (.inl (iZ (x.2.2.1))), some (.inl (iZ (x.2.2.2)))], [.inl (iZ (0))], (setI h 83 0 ((iZ (2)))))) rfl ?_
  exact Ev.ret rfl (q)

def tpM (h : PH) (tp : List Int) : Prop := h.1 83 2 = iZ tp.length ∧ ∀ j, j < tp.length → h.1 84 j = iZ (tp.getD j 0)
theorem MI_tp {h h' : PH} {S : Sta} {y : Y4} {tp : List Int} (I : MI h S y) (e2 : h'.2 = h.2) (e : ∀ a, a ≠ 83 → a ≠ 84 → h'.1 a = h.1 a) (es : ∀ k, k ≠ 0 → k ≠ 2 → h'.1 83 k = h.1 83 k) (t : tpM h' tp) : MI h' (mkS tp (eaS S) (bkS S) (csS S) (ntS S) (grS S) (wmS S) (wdS S) (ltS S) (tlS S)) y := by
  obtain ⟨i1, i2, i3, i4, i5, i6, i7, i8, i9, i10, i11, i12, i13, i14⟩ := I
  have hc := i10.2.2.2.2.2.1
  have ht := i11.2.2.2.2.2.1
  have hn : hN h ≤ hN h' := by unfold hN; rw [e2]; exact Nat.le_refl _
  refine ⟨Sh_eq i1 e2, t, (es 11 (by omega) (by omega)).trans i3, bkM_eq (e 93 (by omega) (by omega)) (e 94 (by omega) (by omega)) i4, ?_, (es 25 (by omega) (by omega)).trans i6, (es 26 (by omega) (by omega)).trans i7, (es 27 (by omega) (by omega)).trans i8, ?_, opM_eq i10 (es 30 (by omega) (by omega)) (by rw [e2]) (e _ (aO_ne hc (by omega) (by omega) (by omega)) (aO_ne hc (by omega) (by omega) (by omega))) hn, tmM_eq i11 (es 32 (by omega) (by omega)) (by rw [e2]) (e _ (aO_ne ht (by omega) (by omega) (by omega)) (aO_ne ht (by omega) (by omega) (by omega))) hn, i12, by unfold hN; rw [e2]; exact i13, by unfold kyM; rw [e2]; exact i14⟩
  · rw [es 21 (by omega) (by omega), e 96 (by omega) (by omega), e 97 (by omega) (by omega)]; exact i5
  · rw [e 99 (by omega) (by omega)]; exact i9
theorem tpM_app1 {h : PH} {tp : List Int} {L : Nat} {v x : Int} {w : Int32} (t : tpM h tp) (hL : tp.length = L) (hx : x = (L : Int) + 1) (hw : w = iZ v) : tpM (setI (setI h 84 L w) 83 2 (iZ x)) (tp ++ [v]) := by
  subst hL; subst hx; subst hw
  refine ⟨?_, fun j hj => ?_⟩
  · rw [app_len]; exact setI_self _ _ _ _
  · rw [app_len] at hj
    rw [app_get _ _ _ _ hj, setI_oth (b := 84) (by omega)]
    by_cases z : j = tp.length
    · rw [if_pos z, z, setI_self]
    · rw [if_neg z, setI_ne (by omega)]
      exact t.2 j (by omega)
theorem tpM_trm {h : PH} {tp : List Int} {k : Nat} {x : Int} (hx : x = (k : Int)) (t : tpM h tp) (hk : k ≤ tp.length) : tpM (setI h 83 2 (iZ x)) (tp.take k) := by
  subst hx
  refine ⟨?_, fun j hj => ?_⟩
  · rw [List.length_take, Nat.min_eq_left hk]; exact setI_self _ _ _ _
  · rw [List.length_take] at hj
    rw [setI_oth (b := 84) (by omega), t.2 j (by omega), take_get 0 tp k j (by omega) hk]
/-- the tape's cells alone change -/
def f84 (h h' : PH) : Prop := h'.2 = h.2 ∧ (∀ a, a ≠ 83 → a ≠ 84 → h'.1 a = h.1 a) ∧ ∀ k, k ≠ 2 → h'.1 83 k = h.1 83 k
theorem f84_r (h : PH) : f84 h h := ⟨rfl, fun _ _ _ => rfl, fun _ _ => rfl⟩
theorem f84_w (h : PH) (L : Nat) (w x : Int32) : f84 h (setI (setI h 84 L w) 83 2 x) := ⟨rfl, fun a a1 a2 => by rw [setI_oth a1, setI_oth a2], fun k k1 => (setI_ne (by omega)).trans (setI_ne (by omega))⟩
theorem f84_t {h h1 h2 : PH} (a : f84 h h1) (b : f84 h1 h2) : f84 h h2 := ⟨b.1.trans a.1, fun x p1 p2 => (b.2.1 x p1 p2).trans (a.2.1 x p1 p2), fun k k1 => (b.2.2 k k1).trans (a.2.2 k k1)⟩
theorem ms_trim {d : Nat} {y : Y4} {S : Sta} {h : PH} {Q : Rs → PH → Prop} (I : MI h S y) (W : WN S) {p : Int} {k : Nat} (hp : p = (k : Int)) (hk : k ≤ (tpS S).length) (q : ∀ h1, MI h1 (trmS S k) y → FM pMo h h1 y y → h1.1 83 0 = iZ 0 → Q (.inl (some (.inl (iZ p)))) h1) : Rn (d + 1) 174 [.inr (.inr (.inr (11, 0, 83))), .inl (iZ (p))] h Q := by
  have W0 := W
  obtain ⟨⟨w1, w2, w3, w4, w5, w6⟩, w7, w8, w9, w10, w11, w12, w13, w14, w15, w16, w17, w18⟩ := W0
  have wB : bkN (bkS S) := ⟨w1, w2, w3, w4, w5, w6⟩
  have sh0 := mi_sh I
  have al := alW_len (wdS S) 6 0
  have tl5 := lnL_le (ws := wdS S) (K := 128) (fun g => (w14 g).2) 6 0
  have alB_ := alW_B (ws := wdS S) (N := 1000) (fun g _ => (w14 g).1)
  have on1 := (mi_op I).2.1
  have on2 := (mi_op I).2.2.2.1
  have tn1 := (mi_tm I).2.1
  have tn2 := (mi_tm I).2.2.2.1
  refine Ev.sts 6 (c' := (8, [some (.inr (.inr (.inr (11, 0, 83)))), some (.inl (iZ (p)))], [.inr (.inr (.inr (11, 0, 83))), .inl (iZ (0)), .inl (iZ (p))], (setI h 83 0 ((iZ (0)))))) rfl ?_
  refine Ev.gv (w := (iZ ((tpS S).length))) rfl (mi_tp (MI_th I)).1 ?_
  refine Ev.callw (a := [.inl (iZ (p)), .inl (iZ (0)), .inl (iZ ((tpS S).length))]) rfl (mp_isIn ⟨by omega, by omega⟩ ⟨by omega, by omega⟩ ⟨by omega, by omega⟩ (fun _ => ?_) (fun z => absurd (show _ from ⟨by omega, by omega⟩) z))
  refine Ev.brT (p := ¬ (iZ (1)) = (iZ (0))) (c1 := (23, [some (.inr (.inr (.inr (11, 0, 83)))), some (.inl (iZ (p)))], [], (setI h 83 0 ((iZ (0)))))) (c2 := (17, [some (.inr (.inr (.inr (11, 0, 83)))), some (.inl (iZ (p)))], [], (setI h 83 0 ((iZ (0)))))) (by decide) rfl ?_
  refine Ev.sts 4 (c' := (29, [some (.inr (.inr (.inr (11, 0, 83)))), some (.inl (iZ (p)))], [.inl (iZ (p))], (setI (setI h 83 0 ((iZ (0)))) 83 2 ((iZ (p)))))) rfl ?_
  exact Ev.ret rfl (q _ (MI_tp (tp := (tpS S).take k) (MI_th (v := iZ 0) I) rfl (fun a a1 _ => setI_oth a1) (fun k1 _ k2 => setI_ne (by omega)) (tpM_trm hp (mi_tp (MI_th I)) hk)) (FM_trans FM_83s FM_83s) ((setI_ne (by omega)).trans (setI_self _ _ _ _)))

theorem mz_trim {d : Nat} {y : Y4} {S : Sta} {h : PH} (I : MI h S y) (W : WN S) {p : Int} (hpb : -2147483648 ≤ p ∧ p < 2147483648) (hc : ¬ (0 ≤ p ∧ p ≤ (tpS S).length)) : Rv (d + 1) 174 [.inr (.inr (.inr (11, 0, 83))), .inl (iZ (p))] h (some (.inl (iZ 0))) (setI (setI h 83 0 (iZ 0)) 83 0 (iZ 1)) := Rv.of fun Q q => by
  have W0 := W
  obtain ⟨⟨w1, w2, w3, w4, w5, w6⟩, w7, w8, w9, w10, w11, w12, w13, w14, w15, w16, w17, w18⟩ := W0
  have wB : bkN (bkS S) := ⟨w1, w2, w3, w4, w5, w6⟩
  have sh0 := mi_sh I
  have al := alW_len (wdS S) 6 0
  have tl5 := lnL_le (ws := wdS S) (K := 128) (fun g => (w14 g).2) 6 0
  have alB_ := alW_B (ws := wdS S) (N := 1000) (fun g _ => (w14 g).1)
  have on1 := (mi_op I).2.1
  have on2 := (mi_op I).2.2.2.1
  have tn1 := (mi_tm I).2.1
  have tn2 := (mi_tm I).2.2.2.1
  refine Ev.sts 6 (c' := (8, [some (.inr (.inr (.inr (11, 0, 83)))), some (.inl (iZ (p)))], [.inr (.inr (.inr (11, 0, 83))), .inl (iZ (0)), .inl (iZ (p))], (setI h 83 0 ((iZ (0)))))) rfl ?_
  refine Ev.gv (w := (iZ ((tpS S).length))) rfl (mi_tp (MI_th I)).1 ?_
  refine Ev.callw (a := [.inl (iZ (p)), .inl (iZ (0)), .inl (iZ ((tpS S).length))]) rfl (mp_isIn ⟨by omega, by omega⟩ ⟨by omega, by omega⟩ ⟨by omega, by omega⟩ (fun z => absurd (show _ from ⟨by omega, by omega⟩) hc) (fun _ => ?_))
  refine Ev.brF (p := ¬ (iZ (0)) = (iZ (0))) (c1 := (23, [some (.inr (.inr (.inr (11, 0, 83)))), some (.inl (iZ (p)))], [], (setI h 83 0 ((iZ (0)))))) (c2 := (17, [some (.inr (.inr (.inr (11, 0, 83)))), some (.inl (iZ (p)))], [], (setI h 83 0 ((iZ (0)))))) (by decide) rfl ?_
  refine Ev.sts 2 (c' := (19, [some (.inr (.inr (.inr (11, 0, 83)))), some (.inl (iZ (p)))], [.inl (iZ (1)), .inr (.inr (.inr (11, 0, 83)))], (setI h 83 0 ((iZ (0)))))) rfl ?_
  refine Ev.callv (a := [.inr (.inr (.inr (11, 0, 83))), .inl (iZ (1))]) rfl mp_fail ?_
  exact Ev.ret rfl (q)

