/-! The next number and the places in all never fall. -/
theorem bif_q {α : Type} {b : Bool} {x : Option α} {y : α} (h : (bif b then x else none) = some y) : b = true ∧ x = some y := by
  cases b
  · cases h
  · exact ⟨rfl, h⟩
def monoS (h : PH) (s : PStp) : Prop := match s with
  | .inl c' => hN h ≤ hN c'.2.2.2 ∧ hS h ≤ hS c'.2.2.2
  | .inr (.inl q) => q.2.2.2.2.2 = h
  | .inr (.inr q) => hN h ≤ hN q.2 ∧ hS h ≤ hS q.2
theorem mo_sLd (t i n : Nat) {pc : Nat} {ls : LV} {st : List VV} {h : PH} {s : PStp} (hs : sLd t i n pc ls st h = some s) : monoS h s := by
  unfold sLd at hs
  simp only [nx, Bool.cond_eq_ite] at hs
  repeat' (split at hs)
  all_goals (first | (cases hs; done) | (cases hs; exact ⟨Nat.le_refl _, Nat.le_refl _⟩) | (cases hs; exact ⟨Nat.le_succ _, Nat.le_add_right _ _⟩) | (cases hs; rfl))
theorem mo_sSt (t i n : Nat) {pc : Nat} {ls : LV} {st : List VV} {h : PH} {s : PStp} (hs : sSt t i n pc ls st h = some s) : monoS h s := by
  unfold sSt at hs
  simp only [nx, Bool.cond_eq_ite] at hs
  repeat' (split at hs)
  all_goals (first | (cases hs; done) | (cases hs; exact ⟨Nat.le_refl _, Nat.le_refl _⟩) | (cases hs; exact ⟨Nat.le_succ _, Nat.le_add_right _ _⟩) | (cases hs; rfl))
theorem mo_sI2 (f : Int32 → Int32 → Int32) {pc : Nat} {ls : LV} {st : List VV} {h : PH} {s : PStp} (hs : sI2 f pc ls st h = some s) : monoS h s := by
  unfold sI2 at hs
  simp only [nx, Bool.cond_eq_ite] at hs
  repeat' (split at hs)
  all_goals (first | (cases hs; done) | (cases hs; exact ⟨Nat.le_refl _, Nat.le_refl _⟩) | (cases hs; exact ⟨Nat.le_succ _, Nat.le_add_right _ _⟩) | (cases hs; rfl))
theorem mo_sL2 (f : Int64 → Int64 → Int64) {pc : Nat} {ls : LV} {st : List VV} {h : PH} {s : PStp} (hs : sL2 f pc ls st h = some s) : monoS h s := by
  unfold sL2 at hs
  simp only [nx, Bool.cond_eq_ite] at hs
  repeat' (split at hs)
  all_goals (first | (cases hs; done) | (cases hs; exact ⟨Nat.le_refl _, Nat.le_refl _⟩) | (cases hs; exact ⟨Nat.le_succ _, Nat.le_add_right _ _⟩) | (cases hs; rfl))
theorem mo_pushI (x : Int32) (n : Nat) {pc : Nat} {ls : LV} {st : List VV} {h : PH} {s : PStp} (hs : pushI x n pc ls st h = some s) : monoS h s := by
  unfold pushI at hs
  simp only [nx, Bool.cond_eq_ite] at hs
  repeat' (split at hs)
  all_goals (first | (cases hs; done) | (cases hs; exact ⟨Nat.le_refl _, Nat.le_refl _⟩) | (cases hs; exact ⟨Nat.le_succ _, Nat.le_add_right _ _⟩) | (cases hs; rfl))
theorem mo_sIf0 (cd : ClassFile.Cond) (off : Int) {pc : Nat} {ls : LV} {st : List VV} {h : PH} {s : PStp} (hs : sIf0 cd off pc ls st h = some s) : monoS h s := by
  unfold sIf0 at hs
  simp only [nx, Bool.cond_eq_ite, brI] at hs
  repeat' (split at hs)
  all_goals (first | (cases hs; done) | (cases hs; dsimp only [monoS]; split <;> exact ⟨Nat.le_refl _, Nat.le_refl _⟩) | (cases hs; exact ⟨Nat.le_refl _, Nat.le_refl _⟩))
theorem mo_sIf2 (cd : ClassFile.Cond) (off : Int) {pc : Nat} {ls : LV} {st : List VV} {h : PH} {s : PStp} (hs : sIf2 cd off pc ls st h = some s) : monoS h s := by
  unfold sIf2 at hs
  simp only [nx, Bool.cond_eq_ite, brI] at hs
  repeat' (split at hs)
  all_goals (first | (cases hs; done) | (cases hs; dsimp only [monoS]; split <;> exact ⟨Nat.le_refl _, Nat.le_refl _⟩) | (cases hs; exact ⟨Nat.le_refl _, Nat.le_refl _⟩))
theorem mo_sAc (cd : ClassFile.ACond) (off : Int) {pc : Nat} {ls : LV} {st : List VV} {h : PH} {s : PStp} (hs : sAc cd off pc ls st h = some s) : monoS h s := by
  unfold sAc at hs
  simp only [nx, Bool.cond_eq_ite, brI] at hs
  repeat' (split at hs)
  all_goals (first | (cases hs; done) | (cases hs; dsimp only [monoS]; split <;> exact ⟨Nat.le_refl _, Nat.le_refl _⟩) | (cases hs; exact ⟨Nat.le_refl _, Nat.le_refl _⟩))
theorem mo_sNul (off : Int) {pc : Nat} {ls : LV} {st : List VV} {h : PH} {s : PStp} (hs : sNul off pc ls st h = some s) : monoS h s := by
  unfold sNul at hs
  simp only [nx, Bool.cond_eq_ite, brI] at hs
  repeat' (split at hs)
  all_goals (first | (cases hs; done) | (cases hs; dsimp only [monoS]; split <;> exact ⟨Nat.le_refl _, Nat.le_refl _⟩) | (cases hs; exact ⟨Nat.le_refl _, Nat.le_refl _⟩))
theorem mo_sNnl (off : Int) {pc : Nat} {ls : LV} {st : List VV} {h : PH} {s : PStp} (hs : sNnl off pc ls st h = some s) : monoS h s := by
  unfold sNnl at hs
  simp only [nx, Bool.cond_eq_ite, brI] at hs
  repeat' (split at hs)
  all_goals (first | (cases hs; done) | (cases hs; dsimp only [monoS]; split <;> exact ⟨Nat.le_refl _, Nat.le_refl _⟩) | (cases hs; exact ⟨Nat.le_refl _, Nat.le_refl _⟩))
theorem mo_sLen  {pc : Nat} {ls : LV} {st : List VV} {h : PH} {s : PStp} (hs : sLen  pc ls st h = some s) : monoS h s := by
  unfold sLen at hs
  simp only [nx, Bool.cond_eq_ite] at hs
  repeat' (split at hs)
  all_goals (first | (cases hs; done) | (cases hs; exact ⟨Nat.le_refl _, Nat.le_refl _⟩) | (cases hs; exact ⟨Nat.le_succ _, Nat.le_add_right _ _⟩) | (cases hs; rfl))
theorem mo_sIald  {pc : Nat} {ls : LV} {st : List VV} {h : PH} {s : PStp} (hs : sIald  pc ls st h = some s) : monoS h s := by
  unfold sIald at hs
  simp only [nx, Bool.cond_eq_ite] at hs
  repeat' (split at hs)
  all_goals (first | (cases hs; done) | (cases hs; exact ⟨Nat.le_refl _, Nat.le_refl _⟩) | (cases hs; exact ⟨Nat.le_succ _, Nat.le_add_right _ _⟩) | (cases hs; rfl))
theorem mo_sBald  {pc : Nat} {ls : LV} {st : List VV} {h : PH} {s : PStp} (hs : sBald  pc ls st h = some s) : monoS h s := by
  unfold sBald at hs
  simp only [nx, Bool.cond_eq_ite] at hs
  repeat' (split at hs)
  all_goals (first | (cases hs; done) | (cases hs; exact ⟨Nat.le_refl _, Nat.le_refl _⟩) | (cases hs; exact ⟨Nat.le_succ _, Nat.le_add_right _ _⟩) | (cases hs; rfl))
theorem mo_sLald  {pc : Nat} {ls : LV} {st : List VV} {h : PH} {s : PStp} (hs : sLald  pc ls st h = some s) : monoS h s := by
  unfold sLald at hs
  simp only [nx, Bool.cond_eq_ite] at hs
  repeat' (split at hs)
  all_goals (first | (cases hs; done) | (cases hs; exact ⟨Nat.le_refl _, Nat.le_refl _⟩) | (cases hs; exact ⟨Nat.le_succ _, Nat.le_add_right _ _⟩) | (cases hs; rfl))
theorem mo_sAald  {pc : Nat} {ls : LV} {st : List VV} {h : PH} {s : PStp} (hs : sAald  pc ls st h = some s) : monoS h s := by
  unfold sAald at hs
  simp only [nx, Bool.cond_eq_ite] at hs
  repeat' (split at hs)
  all_goals (first | (cases hs; done) | (cases hs; exact ⟨Nat.le_refl _, Nat.le_refl _⟩) | (cases hs; exact ⟨Nat.le_succ _, Nat.le_add_right _ _⟩) | (cases hs; rfl))
theorem mo_sIast  {pc : Nat} {ls : LV} {st : List VV} {h : PH} {s : PStp} (hs : sIast  pc ls st h = some s) : monoS h s := by
  unfold sIast at hs
  simp only [nx, Bool.cond_eq_ite] at hs
  repeat' (split at hs)
  all_goals (first | (cases hs; done) | (cases hs; exact ⟨Nat.le_refl _, Nat.le_refl _⟩) | (cases hs; exact ⟨Nat.le_succ _, Nat.le_add_right _ _⟩) | (cases hs; rfl))
theorem mo_sBast  {pc : Nat} {ls : LV} {st : List VV} {h : PH} {s : PStp} (hs : sBast  pc ls st h = some s) : monoS h s := by
  unfold sBast at hs
  simp only [nx, Bool.cond_eq_ite] at hs
  repeat' (split at hs)
  all_goals (first | (cases hs; done) | (cases hs; exact ⟨Nat.le_refl _, Nat.le_refl _⟩) | (cases hs; exact ⟨Nat.le_succ _, Nat.le_add_right _ _⟩) | (cases hs; rfl))
theorem mo_sLast  {pc : Nat} {ls : LV} {st : List VV} {h : PH} {s : PStp} (hs : sLast  pc ls st h = some s) : monoS h s := by
  unfold sLast at hs
  simp only [nx, Bool.cond_eq_ite] at hs
  repeat' (split at hs)
  all_goals (first | (cases hs; done) | (cases hs; exact ⟨Nat.le_refl _, Nat.le_refl _⟩) | (cases hs; exact ⟨Nat.le_succ _, Nat.le_add_right _ _⟩) | (cases hs; rfl))
theorem mo_sAast  {pc : Nat} {ls : LV} {st : List VV} {h : PH} {s : PStp} (hs : sAast  pc ls st h = some s) : monoS h s := by
  unfold sAast at hs
  simp only [nx, Bool.cond_eq_ite] at hs
  repeat' (split at hs)
  all_goals (first | (cases hs; done) | (cases hs; exact ⟨Nat.le_refl _, Nat.le_refl _⟩) | (cases hs; exact ⟨Nat.le_succ _, Nat.le_add_right _ _⟩) | (cases hs; rfl))
theorem mo_sNewa (ty k : Nat) {pc : Nat} {ls : LV} {st : List VV} {h : PH} {s : PStp} (hs : sNewa ty k pc ls st h = some s) : monoS h s := by
  unfold sNewa at hs
  simp only [nx, Bool.cond_eq_ite] at hs
  repeat' (split at hs)
  all_goals (first | (cases hs; done) | (cases hs; exact ⟨Nat.le_refl _, Nat.le_refl _⟩) | (cases hs; exact ⟨Nat.le_succ _, Nat.le_add_right _ _⟩) | (cases hs; rfl))
theorem mo_sGf (m idx : Nat) {pc : Nat} {ls : LV} {st : List VV} {h : PH} {s : PStp} (hs : sGf m idx pc ls st h = some s) : monoS h s := by
  unfold sGf at hs
  simp only [nx, Bool.cond_eq_ite] at hs
  repeat' (split at hs)
  all_goals (first | (cases hs; done) | (cases hs; exact ⟨Nat.le_refl _, Nat.le_refl _⟩) | (cases hs; exact ⟨Nat.le_succ _, Nat.le_add_right _ _⟩) | (cases hs; rfl))
theorem mo_sPf (m idx : Nat) {pc : Nat} {ls : LV} {st : List VV} {h : PH} {s : PStp} (hs : sPf m idx pc ls st h = some s) : monoS h s := by
  unfold sPf at hs
  simp only [nx, Bool.cond_eq_ite] at hs
  repeat' (split at hs)
  all_goals (first | (cases hs; done) | (cases hs; exact ⟨Nat.le_refl _, Nat.le_refl _⟩) | (cases hs; exact ⟨Nat.le_succ _, Nat.le_add_right _ _⟩) | (cases hs; rfl))
theorem mo_sNew (m idx : Nat) {pc : Nat} {ls : LV} {st : List VV} {h : PH} {s : PStp} (hs : sNew m idx pc ls st h = some s) : monoS h s := by
  unfold sNew at hs
  simp only [nx, Bool.cond_eq_ite] at hs
  repeat' (split at hs)
  all_goals (first | (cases hs; done) | (cases hs; exact ⟨Nat.le_refl _, Nat.le_refl _⟩) | (cases hs; exact ⟨Nat.le_succ _, Nat.le_add_right _ _⟩) | (cases hs; rfl))
theorem mo_sCopy  {pc : Nat} {ls : LV} {st : List VV} {h : PH} {s : PStp} (hs : sCopy  pc ls st h = some s) : monoS h s := by
  unfold sCopy at hs
  simp only [nx, Bool.cond_eq_ite] at hs
  repeat' (split at hs)
  all_goals (first | (cases hs; done) | (cases hs; exact ⟨Nat.le_refl _, Nat.le_refl _⟩) | (cases hs; exact ⟨Nat.le_succ _, Nat.le_add_right _ _⟩) | (cases hs; rfl))
theorem mo_sMax (b : Bool) {pc : Nat} {ls : LV} {st : List VV} {h : PH} {s : PStp} (hs : sMax b pc ls st h = some s) : monoS h s := by
  unfold sMax at hs
  simp only [nx, Bool.cond_eq_ite] at hs
  repeat' (split at hs)
  all_goals (first | (cases hs; done) | (cases hs; exact ⟨Nat.le_refl _, Nat.le_refl _⟩) | (cases hs; exact ⟨Nat.le_succ _, Nat.le_add_right _ _⟩) | (cases hs; rfl))
theorem mo_sClone  {pc : Nat} {ls : LV} {st : List VV} {h : PH} {s : PStp} (hs : sClone  pc ls st h = some s) : monoS h s := by
  unfold sClone at hs
  simp only [nx, Bool.cond_eq_ite] at hs
  repeat' (split at hs)
  all_goals (first | (cases hs; done) | (cases hs; exact ⟨Nat.le_refl _, Nat.le_refl _⟩) | (cases hs; exact ⟨Nat.le_succ _, Nat.le_add_right _ _⟩) | (cases hs; rfl))
theorem mo_sCast (m idx : Nat) {pc : Nat} {ls : LV} {st : List VV} {h : PH} {s : PStp} (hs : sCast m idx pc ls st h = some s) : monoS h s := by
  unfold sCast at hs
  simp only [nx, Bool.cond_eq_ite] at hs
  repeat' (split at hs)
  all_goals (first | (cases hs; done) | (cases hs; exact ⟨Nat.le_refl _, Nat.le_refl _⟩) | (cases hs; exact ⟨Nat.le_succ _, Nat.le_add_right _ _⟩) | (cases hs; rfl))
theorem mo_sCall (o m idx : Nat) {pc : Nat} {ls : LV} {st : List VV} {h : PH} {s : PStp} (hs : sCall o m idx pc ls st h = some s) : monoS h s := by
  unfold sCall at hs
  simp only [nx, Bool.cond_eq_ite, sCopy, sMax, sClone] at hs
  repeat' (split at hs)
  all_goals (first | (cases hs; done) | (cases hs; exact ⟨Nat.le_refl _, Nat.le_refl _⟩) | (cases hs; exact ⟨Nat.le_succ _, Nat.le_add_right _ _⟩) | (cases hs; rfl))
theorem mo_sRetI (m : Nat) {st : List VV} {h : PH} {s : PStp} (hs : sRetI m st h = some s) : monoS h s := by
  unfold sRetI at hs
  simp only [Bool.cond_eq_ite] at hs
  repeat' (split at hs)
  all_goals (first | (cases hs; done) | (cases hs; exact ⟨Nat.le_refl _, Nat.le_refl _⟩) | (cases hs; exact ⟨Nat.le_succ _, Nat.le_add_right _ _⟩) | (cases hs; rfl))
theorem step_mono {m pc : Nat} {ls : LV} {st : List VV} {h : PH} {s : PStp} (hs : step m (pc, ls, st, h) = some s) : monoS h s := by
  unfold step at hs
  dsimp only at hs
  cases hf : fetch m pc with
  | none => rw [hf] at hs; cases hs
  | some i =>
  rw [hf] at hs
  cases i
  all_goals first
    | (cases hs; done)
    | exact mo_sLd _ _ _ hs | exact mo_sSt _ _ _ hs | exact mo_sI2 _ hs | exact mo_sL2 _ hs | exact mo_pushI _ _ hs
    | exact mo_sIf0 _ _ hs | exact mo_sIf2 _ _ hs | exact mo_sAc _ _ hs | exact mo_sNul _ hs | exact mo_sNnl _ hs | exact mo_sCast _ _ hs | exact mo_sLen hs | exact mo_sIald hs | exact mo_sBald hs | exact mo_sLald hs | exact mo_sAald hs
    | exact mo_sIast hs | exact mo_sBast hs | exact mo_sLast hs | exact mo_sAast hs | exact mo_sGf _ _ hs | exact mo_sPf _ _ hs | exact mo_sNew _ _ hs | exact mo_sCall _ _ _ hs | exact mo_sRetI _ hs
    | (simp only [nx, Bool.cond_eq_ite] at hs
       repeat' (split at hs)
       all_goals (first | exact mo_sNewa _ _ hs | (cases hs; done) | (cases hs; exact ⟨Nat.le_refl _, Nat.le_refl _⟩)))
theorem run_mono (n : Nat) : ∀ (d m : Nat) (c : Cf) (x : Rs × PH), run n d m c = some x → hN c.2.2.2 ≤ hN x.2 ∧ hS c.2.2.2 ≤ hS x.2 := by
  induction n with
  | zero => intro d m c x h; exact absurd h (by simp [run])
  | succ n ih =>
    intro d m c x h
    obtain ⟨pc, ls, st, hp⟩ := c
    have h' : runF (run n) d m (pc, ls, st, hp) = some x := h
    unfold runF at h'
    cases hs : step m (pc, ls, st, hp) with
    | none => rw [hs] at h'; cases h'
    | some s =>
      rw [hs] at h'
      have hm := step_mono hs
      match s, h', hm with
      | .inl c', h', hm =>
        have := ih d m c' x h'
        exact ⟨Nat.le_trans hm.1 this.1, Nat.le_trans hm.2 this.2⟩
      | .inr (.inr q), h', hm => cases h'; exact hm
      | .inr (.inl (y, a, c')), h', hm =>
        dsimp only at h'
        have hm : c'.2.2.2 = hp := hm
        match d, h' with
        | d' + 1, h' =>
          dsimp only at h'
          cases hr : run n d' y (0, entL y a, [], c'.2.2.2) with
          | none => rw [hr] at h'; cases h'
          | some q =>
            rw [hr] at h'
            have h1 := ih d' y _ q hr
            rw [hm] at h1
            match q, h', h1 with
            | (.inl v, h2), h', h1 =>
              have h3 := ih (d' + 1) m _ x h'
              exact ⟨Nat.le_trans h1.1 h3.1, Nat.le_trans h1.2 h3.2⟩
            | (.inr e, h2), h', h1 =>
              dsimp only at h'
              replace h' := (bif_q h').2
              cases hh : hnd m pc e with
              | none =>
                rw [hh] at h'
                dsimp only at h'
                cases hb : Nat.blt 24 m with
                | true => rw [hb] at h'; cases h'; exact h1
                | false => rw [hb] at h'; cases h'
              | some pc' =>
                rw [hh] at h'
                dsimp only at h'
                cases hx : hres m pc' with
                | none => rw [hx] at h'; cases h'
                | some x2 => rw [hx] at h'; cases h'; exact h1
