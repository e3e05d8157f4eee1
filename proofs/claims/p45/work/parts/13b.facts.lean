/-! What a call's tables say. -/
theorem cy_all : ((List.range 200).all fun j => Nat.ble (mxl (25 + j)) 41 && (!mini (25 + j) || (decide (mrt (25 + j) = none) && !mst (25 + j))) && (!Nat.beq (25 + j) 213 || (!mst (25 + j) && !mini (25 + j))) && decide (cnm (mow (25 + j)) = (mn (25 + j)).cls) && (!Nat.beq (25 + j) 196 || (!mst (25 + j) && !mini (25 + j)))) = true := by decide +kernel
theorem en_1 : wt 4067 (.sameMethod "CommaStream$Kind" "java/lang/Enum" "ordinal" "()I") = true := by decide +kernel
theorem en_2 : wt 4069 (.selects "CommaStream$Kind" ⟨"CommaStream$Kind", "ordinal", "()I"⟩ (mn 213)) = true := by decide +kernel
theorem en_3 : mn 213 = ⟨"java/lang/Enum", "ordinal", "()I"⟩ := by decide +kernel
theorem ov_3 : mn 207 = ⟨"java/lang/AbstractStringBuilder", "length", "()I"⟩ ∧ mn 196 = ⟨"java/lang/StringBuilder", "length", "()I"⟩ ∧ rcn 196 = "java/lang/StringBuilder" := by decide +kernel
theorem ov_4 : ("java/lang/AbstractStringBuilder" ≠ "java/lang/invoke/MethodHandle" ∧ "java/lang/AbstractStringBuilder" ≠ "java/lang/invoke/VarHandle") ∧ (parseMethodDescriptor "()I").map (fun d => d.parameters.length) = some 0 ∧ mna 196 = 0 := by decide +kernel
theorem cn15_sb : cnm 15 = "java/lang/StringBuilder" := by decide +kernel
theorem en_4 : ("java/lang/Enum" ≠ "java/lang/invoke/MethodHandle" ∧ "java/lang/Enum" ≠ "java/lang/invoke/VarHandle") ∧ (parseMethodDescriptor "()I").map (fun d => d.parameters.length) = some 0 ∧ mna 213 = 0 := by decide +kernel
/-- what a call by link k asks -/
theorem mrc_at {k na y t : Nat} (hk : k < 49152) (h : MR k = some (na, y, t)) (z0 : y ≠ 1000) (z1 : y ≠ 1001) (z2 : y ≠ 1002) (z3 : y ≠ 1003) (z4 : y ≠ 1004) : okM y ∧ na = mna y + (bif mst y then 0 else 1) ∧ Nat.beq t 0 = mst y ∧ (t = 0 ∨ t = 40 ∨ (t < 16 ∧ cnm t = rcn y)) ∧
    ((SUq k = true ∧ k / 2048 = 15 ∧ t = 15 ∧ mini y = false ∧ y ≠ 213 ∧ Cond.sameMethod (mn y).cls (mn y).cls (mn y).name (mn y).desc ∈ TBL ∧ (mn y).cls = "java/lang/AbstractStringBuilder" ∧ (mn y).name ≠ "<init>" ∧ (Cond.methodLink (cnm (k / 2048)) (k % 2048) (mn y)) ∈ TBL) ∨
     (SUq k = false ∧ suq y = false ∧ ((k = 29221 ∧ y = 196 ∧ (Cond.methodLink (cnm (k / 2048)) (k % 2048) (mn 207)) ∈ TBL) ∨ (y ≠ 196 ∧ y = 213 ∧ t = 40 ∧ (Cond.methodLink (cnm (k / 2048)) (k % 2048) ⟨"CommaStream$Kind", "ordinal", "()I"⟩) ∈ TBL) ∨ (y ≠ 196 ∧ y ≠ 213 ∧ t ≠ 40 ∧ MQN k = true ∧ (Cond.methodLinkNest (cnm (k / 2048)) (k % 2048) (mn y) (nh k)) ∈ NW) ∨ (y ≠ 196 ∧ y ≠ 213 ∧ t ≠ 40 ∧ MQN k = false ∧ (Cond.methodLink (cnm (k / 2048)) (k % 2048) (mn y)) ∈ TBL)))) := by
  have hw := mr_at hk h
  have e1 : Nat.beq y 1000 = false := by cases q : Nat.beq y 1000 with | false => rfl | true => exact absurd (Nat.eq_of_beq_eq_true q) z0
  have e2 : Nat.beq y 1001 = false := by cases q : Nat.beq y 1001 with | false => rfl | true => exact absurd (Nat.eq_of_beq_eq_true q) z1
  have e3 : Nat.beq y 1002 = false := by cases q : Nat.beq y 1002 with | false => rfl | true => exact absurd (Nat.eq_of_beq_eq_true q) z2
  have e4 : Nat.beq y 1003 = false := by cases q : Nat.beq y 1003 with | false => rfl | true => exact absurd (Nat.eq_of_beq_eq_true q) z3
  have e5 : Nat.beq y 1004 = false := by cases q : Nat.beq y 1004 with | false => rfl | true => exact absurd (Nat.eq_of_beq_eq_true q) z4
  unfold mrc at hw
  rw [e1, e2, e3, e4, e5] at hw
  dsimp only [cond_false] at hw
  rw [Bool.and_eq_true] at hw
  obtain ⟨hw, hlast⟩ := hw
  simp only [Bool.and_eq_true, Bool.or_eq_true, Bool.not_eq_true', decide_eq_true_eq, Nat.blt_eq, Nat.beq_eq] at hw
  obtain ⟨⟨⟨⟨⟨⟨⟨⟨a1, a2⟩, a3⟩, a3b⟩, a4⟩, a5⟩, a6⟩, a7⟩, -⟩ := hw
  have nb : ∀ {a b : Nat}, Nat.beq a b = false → a ≠ b := fun {a b} q z => by subst z; rw [Nat.beq_refl] at q; cases q
  have a4 := nb a4
  refine ⟨⟨a3, by omega, nb a1, nb a2⟩, a5, a6, ?_, ?_⟩
  · rcases a7 with (q | q) | q
    · exact Or.inl q
    · exact Or.inr (Or.inl q)
    · exact Or.inr (Or.inr q)
  · cases hsu : SUq k with
    | true =>
      rw [hsu] at hlast
      simp only [cond_true, Bool.and_eq_true, Bool.not_eq_true', decide_eq_true_eq, Nat.beq_eq] at hlast
      obtain ⟨⟨⟨⟨⟨⟨⟨⟨c1, c2⟩, c3⟩, c4⟩, c5⟩, c6⟩, c7⟩, c8⟩, c9⟩ := hlast
      exact Or.inl ⟨rfl, c1, c2, c3, nb c5, wt_ok c6, c7, c8, wt_ok c9⟩
    | false =>
      rw [hsu] at hlast
      dsimp only [cond_false] at hlast
      rw [Bool.and_eq_true, Bool.and_eq_true] at hlast
      obtain ⟨⟨c1, c2⟩, c3⟩ := hlast
      simp only [Bool.or_eq_true, Bool.not_eq_true', Nat.beq_eq] at c1 c2
      refine Or.inr ⟨rfl, c1, ?_⟩
      cases hov : Nat.beq k 29221 with
      | true =>
        rw [hov] at c3
        simp only [cond_true, Bool.and_eq_true, Nat.beq_eq] at c3
        exact Or.inl ⟨Nat.eq_of_beq_eq_true hov, c3.1, wt_ok c3.2⟩
      | false =>
        rw [hov] at c3
        have hsb : y ≠ 196 := by
          rcases c2 with q | q
          · exact nb q
          · exact absurd q (nb hov)
        cases h9 : Nat.beq y 213 with
        | true =>
          rw [h9] at c3
          simp only [cond_true, cond_false, Bool.and_eq_true, Nat.beq_eq] at c3
          exact Or.inr (Or.inl ⟨hsb, Nat.eq_of_beq_eq_true h9, c3.2, wt_ok c3.1⟩)
        | false =>
          rw [h9] at c3
          dsimp only [cond_false] at c3
          rw [Bool.and_eq_true, Bool.not_eq_true'] at c3
          obtain ⟨d1, d2⟩ := c3
          cases hq : MQN k with
          | true =>
            rw [hq] at d2
            exact Or.inr (Or.inr (Or.inl ⟨hsb, nb h9, nb d1, rfl, wn_ok d2⟩))
          | false =>
            rw [hq] at d2
            exact Or.inr (Or.inr (Or.inr ⟨hsb, nb h9, nb d1, rfl, wt_ok d2⟩))
theorem cy_at {y : Nat} (h25 : 25 ≤ y) (hy : y < 225) : mxl y ≤ 41 ∧ (mini y = true → mrt y = none ∧ mst y = false) ∧ (y = 213 → mst y = false ∧ mini y = false) ∧ cnm (mow y) = (mn y).cls ∧ (y = 196 → mst y = false ∧ mini y = false) := by
  have h := all_at cy_all (show y - 25 < 200 by omega)
  rw [show 25 + (y - 25) = y by omega] at h
  simp only [Bool.and_eq_true, Bool.or_eq_true, Bool.not_eq_true', decide_eq_true_eq, Nat.ble_eq] at h
  obtain ⟨⟨⟨⟨h1, h2⟩, h3⟩, h4⟩, h5⟩ := h
  refine ⟨h1, fun z => ?_, fun z => ?_, h4, fun z => ?_⟩
  · rcases h2 with q | q
    · rw [z] at q; cases q
    · exact q
  · rcases h3 with q | q
    · subst z; cases q
    · exact q
  · rcases h5 with q | q
    · subst z; cases q
    · exact q
theorem sCall_inv {o m idx pc : Nat} {ls : LV} {st : List VV} {h : PH} {q : Nat × List VV × Cf} (hs : sCall o m idx pc ls st h = some (.inr (.inl q))) :
    ∃ na y t, MR (ky m idx) = some (na, y, t) ∧ (Nat.beq o 2 = Nat.beq t 0) ∧ (Nat.beq o 1 = (mini y || SUq (ky m idx))) ∧ na ≤ st.length ∧ (layA ((st.take na).reverse)).length ≤ mxl y ∧ rcv t ((st.take na).reverse) = true ∧ ((st.drop na).map vcat).sum ≤ 8 ∧ q = (y, (st.take na).reverse, (pc + 3, ls, st.drop na, h)) ∧ y ≠ 1000 ∧ y ≠ 1001 ∧ y ≠ 1002 ∧ y ≠ 1003 ∧ y ≠ 1004 := by
  unfold sCall at hs
  split at hs
  · rename_i na y t hMR
    have nb : ∀ {a b : Nat}, Nat.beq a b = false → a ≠ b := fun {a b} q z => by subst z; rw [Nat.beq_refl] at q; cases q
    cases e1 : Nat.beq y 1000 with
    | true =>
      rw [e1] at hs
      dsimp only [cond_true] at hs
      split at hs
      · cases (bif_t hs).2
      · cases hs
    | false =>
      cases e2 : Nat.beq y 1001 with
      | true =>
        rw [e1, e2] at hs
        dsimp only [cond_true, cond_false] at hs
        have h2 := (bif_t hs).2
        unfold sCopy at h2
        simp only [nx, Bool.cond_eq_ite] at h2
        repeat' (split at h2)
        all_goals cases h2
      | false =>
        cases e3 : Nat.beq y 1002 with
        | true =>
          rw [e1, e2, e3] at hs
          dsimp only [cond_true, cond_false] at hs
          have h2 := (bif_t hs).2
          unfold sMax at h2
          simp only [nx, Bool.cond_eq_ite] at h2
          repeat' (split at h2)
          all_goals cases h2
        | false =>
          cases e4 : Nat.beq y 1003 with
          | true =>
            rw [e1, e2, e3, e4] at hs
            dsimp only [cond_true, cond_false] at hs
            have h2 := (bif_t hs).2
            unfold sMax at h2
            simp only [nx, Bool.cond_eq_ite] at h2
            repeat' (split at h2)
            all_goals cases h2
          | false =>
            cases e5 : Nat.beq y 1004 with
            | true =>
              rw [e1, e2, e3, e4, e5] at hs
              dsimp only [cond_true, cond_false] at hs
              have h2 := (bif_t hs).2
              unfold sClone at h2
              simp only [nx, Bool.cond_eq_ite] at h2
              repeat' (split at h2)
              all_goals cases h2
            | false =>
            rw [e1, e2, e3, e4, e5] at hs
            dsimp only [cond_false] at hs
            obtain ⟨hb, h2⟩ := bif_t hs
            simp only [Bool.and_eq_true, Nat.ble_eq, beq_iff_eq] at hb
            obtain ⟨⟨⟨⟨⟨b1, b2⟩, b3⟩, b4⟩, b5⟩, b6⟩ := hb
            cases h2
            exact ⟨na, y, t, hMR, b1, b2, b3, b4, b5, b6, rfl, nb e1, nb e2, nb e3, nb e4, nb e5⟩
  · cases hs
