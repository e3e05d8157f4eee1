/-! The class's state stands when the reference has answered; the reference's when the class was taught. -/
theorem qD_le {u : Q5} {N M : Nat} (q : qD u N) (h : N ≤ M) : qD u M := by
  unfold qD qO at *
  omega
theorem CI_keep {h h1 : PH} {S : Sta} {b n : Nat} {u : Q5} (I : CI h S b n u) (w5 : (bkS S).2.2.length ≤ 6) (e : ∀ a, 1 ≤ a → a ≤ 82 → h1.1 a = h.1 a) (eu : ∀ a, qO a (hN h) → ¬ qN u a → h1.1 a = h.1 a) (er : ∀ a k, a ≤ 82 → h1.2.2.1 a k = h.2.2.1 a k) (sh : Sh h1) (en : hN h ≤ hN h1) : CI h1 S b n u := by
  obtain ⟨i1, i2, i3, i4, i5, i6, i7, i8, i9, i10, i11, i12, i13, i14⟩ := I
  have er2 : ∀ a, a ≤ 82 → h1.2.2.1 a = h.2.2.1 a := fun a ha => funext fun k => er a k ha
  refine ⟨sh, i2, (er 1 7 (by decide)).trans i3, (er 2 4 (by decide)).trans i4, ?_, ?_, bkC_T w5 (fun a a1 a2 => e a (by omega) (by omega)) (fun a a1 a2 => er2 a (by omega)) i7, ?_, ?_, ?_, ?_, fun g hg => ?_, ?_, by omega⟩
  · rw [e 4 (by decide) (by decide), e 5 (by decide) (by decide)]; exact i5
  · rw [e 2 (by decide) (by decide)]; exact i6
  · rw [e 1 (by decide) (by decide), e 29 (by decide) (by decide), e 30 (by decide) (by decide)]; exact i8
  · rw [e 1 (by decide) (by decide)]; exact i9
  · rw [e 1 (by decide) (by decide)]; exact i10
  · rw [e 1 (by decide) (by decide)]; exact i11
  · obtain ⟨⟨w1, w2, w3⟩, w4⟩ := i12 g hg
    refine ⟨⟨by rw [e _ (by omega) (by omega)]; exact w1, w2, fun j hj => ?_⟩, by rw [e _ (by omega) (by omega)]; exact w4⟩
    have x := w3 j hj
    unfold wr at x ⊢
    rw [e (33 + 5 * g) (by omega) (by omega), e (34 + 5 * g) (by omega) (by omega), e (35 + 5 * g) (by omega) (by omega), e (36 + 5 * g) (by omega) (by omega)]
    exact x
  · obtain ⟨t1, t2, t3, t4, t5, t6⟩ := i13
    have t5b := t5
    obtain ⟨d1, d2, d3, d4, d5, -⟩ := t5
    refine ⟨by rw [e 62 (by decide) (by decide)]; exact t1, t2, t3, ?_, qD_le t5b en, fun j hj => ?_⟩
    · unfold qR at t4 ⊢
      rw [er2 62 (by decide)]
      exact t4
    · have x := t6 j hj
      unfold qT at x ⊢
      rw [eu u.1 d1 (fun z => z.1 rfl), eu u.2.1 d2 (fun z => z.2.1 rfl), eu u.2.2.1 d3 (fun z => z.2.2.1 rfl), eu u.2.2.2.1 d4 (fun z => z.2.2.2.1 rfl), eu u.2.2.2.2 d5 (fun z => z.2.2.2.2 rfl)]
      exact x
/-- a call of the reference, by its frame -/
theorem CI_FM {h h1 : PH} {S : Sta} {b n : Nat} {u : Q5} {y y1 : Y4} (I : CI h S b n u) (w5 : (bkS S).2.2.length ≤ 6) (f : FM pMo h h1 y y1) (sh : Sh h1) (ao : aO y.2.1 (hN h)) (at_ : aO y.2.2.2 (hN h)) (a1 : qN u y.2.1) (a2 : qN u y.2.2.2) : CI h1 S b n u := by
  obtain ⟨f1, f2, f3, f4, f5, f6, f7, f8, f9, f10⟩ := f
  have hn := ci_hN I
  unfold aO at ao at_
  refine CI_keep I w5 (fun a b1 b2 => f3 a (by unfold pMo; omega) (by omega) (by omega) (by omega)) (fun a q1 q2 => ?_) (fun a k ha => f2 a k (by omega)) sh f4
  unfold qO at q1
  refine f3 a (by unfold pMo; omega) (fun z => q2 (by rw [z]; exact a1)) (fun z => q2 (by rw [z]; exact a2)) q1.2
theorem CI_fV {h h1 : PH} {S : Sta} {b n : Nat} {u : Q5} (I : CI h S b n u) (w5 : (bkS S).2.2.length ≤ 6) (f : fV h h1) (sh : Sh h1) : CI h1 S b n u := by
  obtain ⟨f1, f2, f3, f4, f5, f6⟩ := f
  have hn := ci_hN I
  refine CI_keep I w5 (fun a b1 b2 => f3 a (by unfold pMo; omega) (by omega)) (fun a q1 q2 => ?_) (fun a k ha => by rw [f1]) sh f4
  unfold qO at q1
  exact f3 a (by unfold pMo; omega) q1.2
theorem MI_fW {h h1 : PH} {S : Sta} {y : Y4} (I : MI h S y) (f : fW h h1) (sh : Sh h1) : MI h1 S y := by
  obtain ⟨f1, f2⟩ := f
  obtain ⟨i1, i2, i3, i4, i5, i6, i7, i8, i9, i10, i11, i12, i13, i14⟩ := I
  have ho := i10.2.2.2.2.2.1
  have ht := i11.2.2.2.2.2.1
  unfold aO at ho ht
  have en : hN h1 = hN h := by unfold hN; rw [f1]
  have e : ∀ a, 83 ≤ a → h1.1 a = h.1 a := fun a ha => (f2 a (by unfold pCl; omega)).1
  have r83 : h1.2.2.1 83 = h.2.2.1 83 := (f2 83 (by unfold pCl; omega)).2.2
  refine ⟨sh, by rw [e 83 (by decide), e 84 (by decide)]; exact i2, by rw [e 83 (by decide)]; exact i3, bkM_eq (e 93 (by decide)) (e 94 (by decide)) i4, by rw [e 83 (by decide), e 96 (by decide), e 97 (by decide)]; exact i5, by rw [e 83 (by decide)]; exact i6, by rw [e 83 (by decide)]; exact i7, by rw [e 83 (by decide)]; exact i8, by rw [e 99 (by decide)]; exact i9, opM_eq i10 (by rw [e 83 (by decide)]) (by rw [r83]) (e _ (by omega)) (by omega), tmM_eq i11 (by rw [e 83 (by decide)]) (by rw [r83]) (e _ (by omega)) (by omega), i12, by omega, kyM_e i14 (f2 88 (by unfold pCl; omega)).2.1⟩
