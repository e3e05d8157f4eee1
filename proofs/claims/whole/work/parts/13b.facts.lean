/-! What a call's tables say. -/
theorem cy_all : ((List.range 296).all fun y => Nat.ble (mxl y) 41 && (!mini y || (decide (mrt y = none) && !mst y)) && (Nat.blt 24 y || mst y) && (!Nat.beq y 291 || (!mst y && !mini y)) && decide (cnm (mow y) = (mn y).cls)) = true := by decide +kernel
theorem ck_all : ((List.range 38912).all fun k => match MR k with | none => true | some (_, y, t) => Nat.ble 1000 y || ((Nat.blt 24 y || (!MQN k && Nat.beq t 0)) && (!Nat.beq t 43 || decide ((mn y).cls = "java/lang/String")) && (!Nat.beq t 40 || Nat.beq y 291) && (Nat.blt t 12 || Nat.beq t 40 || Nat.beq t 43))) = true := by decide +kernel
theorem en_1 : wt 5119 (.sameMethod "CommaStream$Kind" "java/lang/Enum" "ordinal" "()I") = true := by decide +kernel
theorem en_2 : wt 5121 (.selects "CommaStream$Kind" ⟨"CommaStream$Kind", "ordinal", "()I"⟩ (mn 291)) = true := by decide +kernel
theorem en_3 : mn 291 = ⟨"java/lang/Enum", "ordinal", "()I"⟩ := by decide +kernel
theorem en_4 : ("java/lang/Enum" ≠ "java/lang/invoke/MethodHandle" ∧ "java/lang/Enum" ≠ "java/lang/invoke/VarHandle") ∧ (parseMethodDescriptor "()I").map (fun d => d.parameters.length) = some 0 ∧ mna 291 = 0 := by decide +kernel
/-- what a call by link k asks -/
theorem mrc_at {k na y t : Nat} (hk : k < 38912) (h : MR k = some (na, y, t)) (z0 : y ≠ 1000) (z1 : y ≠ 1001) (z2 : y ≠ 1002) (z3 : y ≠ 1003) : okM y ∧ na = mna y + (bif mst y then 0 else 1) ∧ Nat.beq t 0 = mst y ∧ (t = 0 ∨ t = 40 ∨ t = 43 ∨ cnm t = (mn y).cls) ∧
    ((y = 291 ∧ t = 40 ∧ (Cond.methodLink (cnm (k / 2048)) (k % 2048) ⟨"CommaStream$Kind", "ordinal", "()I"⟩) ∈ TBL) ∨ (y ≠ 291 ∧ MQN k = true ∧ (Cond.methodLinkNest (cnm (k / 2048)) (k % 2048) (mn y) "CommaStream") ∈ NW) ∨ (y ≠ 291 ∧ MQN k = false ∧ (Cond.methodLink (cnm (k / 2048)) (k % 2048) (mn y)) ∈ TBL)) ∧
    (24 < y ∨ (MQN k = false ∧ t = 0)) ∧ (t = 43 → (mn y).cls = "java/lang/String") ∧ (t = 40 → y = 291) ∧ (t < 12 ∨ t = 40 ∨ t = 43) := by
  have hw := mr_at hk h
  have hc := all_at ck_all hk
  rw [h] at hc
  dsimp only at hc
  have e1 : Nat.beq y 1000 = false := by cases q : Nat.beq y 1000 with | false => rfl | true => exact absurd (Nat.eq_of_beq_eq_true q) z0
  have e2 : Nat.beq y 1001 = false := by cases q : Nat.beq y 1001 with | false => rfl | true => exact absurd (Nat.eq_of_beq_eq_true q) z1
  have e3 : Nat.beq y 1002 = false := by cases q : Nat.beq y 1002 with | false => rfl | true => exact absurd (Nat.eq_of_beq_eq_true q) z2
  have e4 : Nat.beq y 1003 = false := by cases q : Nat.beq y 1003 with | false => rfl | true => exact absurd (Nat.eq_of_beq_eq_true q) z3
  unfold mrc at hw
  rw [e1, e2, e3, e4] at hw
  dsimp only [cond_false] at hw
  simp only [Bool.and_eq_true, Bool.or_eq_true, Bool.not_eq_true', decide_eq_true_eq, Nat.blt_eq, Nat.beq_eq] at hw
  obtain ⟨⟨⟨⟨⟨⟨⟨a1, a2⟩, a3⟩, a4⟩, a5⟩, a6⟩, a7⟩, a8⟩ := hw
  have e5 : Nat.ble 1000 y = false := by
    cases q : Nat.ble 1000 y with
    | false => rfl
    | true => have := Nat.le_of_ble_eq_true q; omega
  rw [e5] at hc
  simp only [Bool.false_or, Bool.and_eq_true, Bool.or_eq_true, Bool.not_eq_true', decide_eq_true_eq, Nat.blt_eq, Nat.beq_eq] at hc
  obtain ⟨⟨⟨b1, b2⟩, b3⟩, b4⟩ := hc
  have nb : ∀ {a b : Nat}, Nat.beq a b = false → a ≠ b := fun {a b} q z => by subst z; rw [Nat.beq_refl] at q; cases q
  refine ⟨⟨a3, nb a4, nb a1, nb a2⟩, a5, a6, ?_, ?_, b1, fun z => ?_, fun z => ?_, ?_⟩
  · rcases a7 with ((q | q) | q) | q
    · exact Or.inl q
    · exact Or.inr (Or.inl q)
    · exact Or.inr (Or.inr (Or.inl q))
    · exact Or.inr (Or.inr (Or.inr q))
  · cases h9 : Nat.beq y 291 with
    | true =>
      rw [h9] at a8
      simp only [cond_true, Bool.and_eq_true, Nat.beq_eq] at a8
      exact Or.inl ⟨Nat.eq_of_beq_eq_true h9, a8.2, wt_ok a8.1⟩
    | false =>
      rw [h9] at a8
      cases hq : MQN k with
      | true =>
        rw [hq] at a8
        exact Or.inr (Or.inl ⟨nb h9, rfl, wn_ok a8⟩)
      | false =>
        rw [hq] at a8
        exact Or.inr (Or.inr ⟨nb h9, rfl, wt_ok a8⟩)
  · rcases b2 with q | q
    · exact absurd z (nb q)
    · exact q
  · rcases b3 with q | q
    · exact absurd z (nb q)
    · exact q
  · rcases b4 with (q | q) | q
    · exact Or.inl q
    · exact Or.inr (Or.inl q)
    · exact Or.inr (Or.inr q)
theorem cy_at {y : Nat} (hy : y < 296) : mxl y ≤ 41 ∧ (mini y = true → mrt y = none ∧ mst y = false) ∧ (24 < y ∨ mst y = true) ∧ (y = 291 → mst y = false ∧ mini y = false) ∧ cnm (mow y) = (mn y).cls := by
  have h := all_at cy_all hy
  simp only [Bool.and_eq_true, Bool.or_eq_true, Bool.not_eq_true', decide_eq_true_eq, Nat.blt_eq, Nat.ble_eq] at h
  obtain ⟨⟨⟨⟨h1, h2⟩, h3⟩, h4⟩, h5⟩ := h
  refine ⟨h1, fun z => ?_, h3, fun z => ?_, h5⟩
  · rcases h2 with q | q
    · rw [z] at q; cases q
    · exact q
  · rcases h4 with q | q
    · subst z; cases q
    · exact q
theorem sCall_inv {o m idx pc : Nat} {ls : LV} {st : List VV} {h : PH} {q : Nat × List VV × Cf} (hs : sCall o m idx pc ls st h = some (.inr (.inl q))) :
    ∃ na y t, MR (ky m idx) = some (na, y, t) ∧ (Nat.beq o 2 = Nat.beq t 0) ∧ (Nat.beq o 1 = mini y) ∧ na ≤ st.length ∧ (layA ((st.take na).reverse)).length ≤ mxl y ∧ rcv t ((st.take na).reverse) = true ∧ ((st.drop na).map vcat).sum ≤ 8 ∧ q = (y, (st.take na).reverse, (pc + 3, ls, st.drop na, h)) ∧ y ≠ 1000 ∧ y ≠ 1001 ∧ y ≠ 1002 ∧ y ≠ 1003 := by
  unfold sCall at hs
  split at hs
  · rename_i na y t hMR
    have nb : ∀ {a b : Nat}, Nat.beq a b = false → a ≠ b := fun {a b} q z => by subst z; rw [Nat.beq_refl] at q; cases q
    cases e1 : Nat.beq y 1000 with
    | true =>
      rw [e1] at hs
      dsimp only [cond_true] at hs
      split at hs
      · cases (bif_t hs).2
      · cases hs
    | false =>
      cases e2 : Nat.beq y 1001 with
      | true =>
        rw [e1, e2] at hs
        dsimp only [cond_true, cond_false] at hs
        have h2 := (bif_t hs).2
        unfold sCopy at h2
        simp only [nx, Bool.cond_eq_ite] at h2
        repeat' (split at h2)
        all_goals cases h2
      | false =>
        cases e3 : Nat.beq y 1002 with
        | true =>
          rw [e1, e2, e3] at hs
          dsimp only [cond_true, cond_false] at hs
          have h2 := (bif_t hs).2
          unfold sMax at h2
          simp only [nx, Bool.cond_eq_ite] at h2
          repeat' (split at h2)
          all_goals cases h2
        | false =>
          cases e4 : Nat.beq y 1003 with
          | true =>
            rw [e1, e2, e3, e4] at hs
            dsimp only [cond_true, cond_false] at hs
            have h2 := (bif_t hs).2
            unfold sMax at h2
            simp only [nx, Bool.cond_eq_ite] at h2
            repeat' (split at h2)
            all_goals cases h2
          | false =>
            rw [e1, e2, e3, e4] at hs
            dsimp only [cond_false] at hs
            obtain ⟨hb, h2⟩ := bif_t hs
            simp only [Bool.and_eq_true, Nat.ble_eq, beq_iff_eq] at hb
            obtain ⟨⟨⟨⟨⟨b1, b2⟩, b3⟩, b4⟩, b5⟩, b6⟩ := hb
            cases h2
            exact ⟨na, y, t, hMR, b1, b2, b3, b4, b5, b6, rfl, nb e1, nb e2, nb e3, nb e4⟩
  · cases hs
