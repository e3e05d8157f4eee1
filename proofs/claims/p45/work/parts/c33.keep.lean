/-! The class stands when rows of others change. -/
theorem qD_le {u : Q5} {N M : Nat} (q : qD u N) (h : N ≤ M) : qD u M := by
  unfold qD qO at *
  omega
theorem CI_keep {h h1 : PH} {S : Sta} {b n : Nat} {u : Q5} (I : CI h S b n u) (w5 : (bkS S).2.2.length ≤ 6) (e : ∀ a, 1 ≤ a → a ≤ 82 → h1.1 a = h.1 a) (eu : ∀ a, qO a (hN h) → ¬ qN u a → h1.1 a = h.1 a) (er : ∀ a k, a ≤ 82 → h1.2.2.1 a k = h.2.2.1 a k) (sh : Sh h1) (en : hN h ≤ hN h1) : CI h1 S b n u := by
  obtain ⟨i1, i2, i3, i4, i5, i6, i7, i8, i9, i10, i11, i12, i13, i14⟩ := I
  have er2 : ∀ a, a ≤ 82 → h1.2.2.1 a = h.2.2.1 a := fun a ha => funext fun k => er a k ha
  refine ⟨sh, i2, (er 1 7 (by decide)).trans i3, (er 2 4 (by decide)).trans i4, ?_, ?_, bkC_T w5 (fun a a1 a2 => e a (by omega) (by omega)) (fun a a1 a2 => er2 a (by omega)) i7, ?_, ?_, ?_, ?_, fun g hg => ?_, ?_, by omega⟩
  · rw [e 4 (by decide) (by decide), e 5 (by decide) (by decide)]; exact i5
  · rw [e 2 (by decide) (by decide)]; exact i6
  · rw [e 1 (by decide) (by decide), e 29 (by decide) (by decide), e 30 (by decide) (by decide)]; exact i8
  · rw [e 1 (by decide) (by decide)]; exact i9
  · rw [e 1 (by decide) (by decide)]; exact i10
  · rw [e 1 (by decide) (by decide)]; exact i11
  · obtain ⟨⟨w1, w2, w3⟩, w4⟩ := i12 g hg
    refine ⟨⟨by rw [e _ (by omega) (by omega)]; exact w1, w2, fun j hj => ?_⟩, by rw [e _ (by omega) (by omega)]; exact w4⟩
    have x := w3 j hj
    unfold wr at x ⊢
    rw [e (33 + 5 * g) (by omega) (by omega), e (34 + 5 * g) (by omega) (by omega), e (35 + 5 * g) (by omega) (by omega), e (36 + 5 * g) (by omega) (by omega)]
    exact x
  · obtain ⟨t1, t2, t3, t4, t5, t6⟩ := i13
    have t5b := t5
    obtain ⟨d1, d2, d3, d4, d5, -⟩ := t5
    refine ⟨by rw [e 62 (by decide) (by decide)]; exact t1, t2, t3, ?_, qD_le t5b en, fun j hj => ?_⟩
    · unfold qR at t4 ⊢
      rw [er2 62 (by decide)]
      exact t4
    · have x := t6 j hj
      unfold qT at x ⊢
      rw [eu u.1 d1 (fun z => z.1 rfl), eu u.2.1 d2 (fun z => z.2.1 rfl), eu u.2.2.1 d3 (fun z => z.2.2.1 rfl), eu u.2.2.2.1 d4 (fun z => z.2.2.2.1 rfl), eu u.2.2.2.2 d5 (fun z => z.2.2.2.2 rfl)]
      exact x

theorem shL_83 : ∀ t ∈ shL, t.1 < 83 := by decide
/-- nothing of the class is written -/
theorem CI_K {h h1 : PH} {S : Sta} {b n : Nat} {u : Q5} (I : CI h S b n u) (w5 : (bkS S).2.2.length ≤ 6) (k : Kp (hN h) nA h h1) : CI h1 S b n u := by
  have hn := ci_hN I
  have e : ∀ a, a < hN h → h1.1 a = h.1 a ∧ h1.2.2.1 a = h.2.2.1 a := fun a ha => k.2.1 a ha (fun z => z)
  have sh : Sh h1 := fun t ht => by rw [(e t.1 (by have := shL_83 t ht; omega)).2]; exact ci_sh I t ht
  exact CI_keep I w5 (fun a b1 b2 => (e a (by omega)).1) (fun a q1 q2 => (e a (by unfold qO at q1; exact q1.2)).1) (fun a j ha => by rw [(e a (by omega)).2]) sh k.2.2.2
