/-! Which instructions neither call nor end. -/
theorem ne_sLd (t i n : Nat) {pc : Nat} {ls : LV} {st : List VV} {h : PH} {q : (Nat × List VV × Cf) ⊕ (Rs × PH)} (hs : sLd t i n pc ls st h = some (.inr q)) : False := by
  unfold sLd at hs
  simp only [nx, Bool.cond_eq_ite] at hs
  repeat' (split at hs)
  all_goals (cases hs)
theorem ne_sSt (t i n : Nat) {pc : Nat} {ls : LV} {st : List VV} {h : PH} {q : (Nat × List VV × Cf) ⊕ (Rs × PH)} (hs : sSt t i n pc ls st h = some (.inr q)) : False := by
  unfold sSt at hs
  simp only [nx, Bool.cond_eq_ite] at hs
  repeat' (split at hs)
  all_goals (cases hs)
theorem ne_sI2 (f : Int32 → Int32 → Int32) {pc : Nat} {ls : LV} {st : List VV} {h : PH} {q : (Nat × List VV × Cf) ⊕ (Rs × PH)} (hs : sI2 f pc ls st h = some (.inr q)) : False := by
  unfold sI2 at hs
  simp only [nx, Bool.cond_eq_ite] at hs
  repeat' (split at hs)
  all_goals (cases hs)
theorem ne_sL2 (f : Int64 → Int64 → Int64) {pc : Nat} {ls : LV} {st : List VV} {h : PH} {q : (Nat × List VV × Cf) ⊕ (Rs × PH)} (hs : sL2 f pc ls st h = some (.inr q)) : False := by
  unfold sL2 at hs
  simp only [nx, Bool.cond_eq_ite] at hs
  repeat' (split at hs)
  all_goals (cases hs)
theorem ne_pushI (x : Int32) (n : Nat) {pc : Nat} {ls : LV} {st : List VV} {h : PH} {q : (Nat × List VV × Cf) ⊕ (Rs × PH)} (hs : pushI x n pc ls st h = some (.inr q)) : False := by
  unfold pushI at hs
  simp only [nx, Bool.cond_eq_ite] at hs
  repeat' (split at hs)
  all_goals (cases hs)
theorem ne_sIf0 (cd : ClassFile.Cond) (off : Int) {pc : Nat} {ls : LV} {st : List VV} {h : PH} {q : (Nat × List VV × Cf) ⊕ (Rs × PH)} (hs : sIf0 cd off pc ls st h = some (.inr q)) : False := by
  unfold sIf0 at hs
  simp only [nx, Bool.cond_eq_ite, brI] at hs
  repeat' (split at hs)
  all_goals (cases hs)
theorem ne_sIf2 (cd : ClassFile.Cond) (off : Int) {pc : Nat} {ls : LV} {st : List VV} {h : PH} {q : (Nat × List VV × Cf) ⊕ (Rs × PH)} (hs : sIf2 cd off pc ls st h = some (.inr q)) : False := by
  unfold sIf2 at hs
  simp only [nx, Bool.cond_eq_ite, brI] at hs
  repeat' (split at hs)
  all_goals (cases hs)
theorem ne_sAc (cd : ClassFile.ACond) (off : Int) {pc : Nat} {ls : LV} {st : List VV} {h : PH} {q : (Nat × List VV × Cf) ⊕ (Rs × PH)} (hs : sAc cd off pc ls st h = some (.inr q)) : False := by
  unfold sAc at hs
  simp only [nx, Bool.cond_eq_ite, brI] at hs
  repeat' (split at hs)
  all_goals (cases hs)
theorem ne_sNul (off : Int) {pc : Nat} {ls : LV} {st : List VV} {h : PH} {q : (Nat × List VV × Cf) ⊕ (Rs × PH)} (hs : sNul off pc ls st h = some (.inr q)) : False := by
  unfold sNul at hs
  simp only [nx, Bool.cond_eq_ite, brI] at hs
  repeat' (split at hs)
  all_goals (cases hs)
theorem ne_sNnl (off : Int) {pc : Nat} {ls : LV} {st : List VV} {h : PH} {q : (Nat × List VV × Cf) ⊕ (Rs × PH)} (hs : sNnl off pc ls st h = some (.inr q)) : False := by
  unfold sNnl at hs
  simp only [nx, Bool.cond_eq_ite, brI] at hs
  repeat' (split at hs)
  all_goals (cases hs)
theorem ne_sLen  {pc : Nat} {ls : LV} {st : List VV} {h : PH} {q : (Nat × List VV × Cf) ⊕ (Rs × PH)} (hs : sLen  pc ls st h = some (.inr q)) : False := by
  unfold sLen at hs
  simp only [nx, Bool.cond_eq_ite] at hs
  repeat' (split at hs)
  all_goals (cases hs)
theorem ne_sIald  {pc : Nat} {ls : LV} {st : List VV} {h : PH} {q : (Nat × List VV × Cf) ⊕ (Rs × PH)} (hs : sIald  pc ls st h = some (.inr q)) : False := by
  unfold sIald at hs
  simp only [nx, Bool.cond_eq_ite] at hs
  repeat' (split at hs)
  all_goals (cases hs)
theorem ne_sBald  {pc : Nat} {ls : LV} {st : List VV} {h : PH} {q : (Nat × List VV × Cf) ⊕ (Rs × PH)} (hs : sBald  pc ls st h = some (.inr q)) : False := by
  unfold sBald at hs
  simp only [nx, Bool.cond_eq_ite] at hs
  repeat' (split at hs)
  all_goals (cases hs)
theorem ne_sLald  {pc : Nat} {ls : LV} {st : List VV} {h : PH} {q : (Nat × List VV × Cf) ⊕ (Rs × PH)} (hs : sLald  pc ls st h = some (.inr q)) : False := by
  unfold sLald at hs
  simp only [nx, Bool.cond_eq_ite] at hs
  repeat' (split at hs)
  all_goals (cases hs)
theorem ne_sAald  {pc : Nat} {ls : LV} {st : List VV} {h : PH} {q : (Nat × List VV × Cf) ⊕ (Rs × PH)} (hs : sAald  pc ls st h = some (.inr q)) : False := by
  unfold sAald at hs
  simp only [nx, Bool.cond_eq_ite] at hs
  repeat' (split at hs)
  all_goals (cases hs)
theorem ne_sIast  {pc : Nat} {ls : LV} {st : List VV} {h : PH} {q : (Nat × List VV × Cf) ⊕ (Rs × PH)} (hs : sIast  pc ls st h = some (.inr q)) : False := by
  unfold sIast at hs
  simp only [nx, Bool.cond_eq_ite] at hs
  repeat' (split at hs)
  all_goals (cases hs)
theorem ne_sBast  {pc : Nat} {ls : LV} {st : List VV} {h : PH} {q : (Nat × List VV × Cf) ⊕ (Rs × PH)} (hs : sBast  pc ls st h = some (.inr q)) : False := by
  unfold sBast at hs
  simp only [nx, Bool.cond_eq_ite] at hs
  repeat' (split at hs)
  all_goals (cases hs)
theorem ne_sLast  {pc : Nat} {ls : LV} {st : List VV} {h : PH} {q : (Nat × List VV × Cf) ⊕ (Rs × PH)} (hs : sLast  pc ls st h = some (.inr q)) : False := by
  unfold sLast at hs
  simp only [nx, Bool.cond_eq_ite] at hs
  repeat' (split at hs)
  all_goals (cases hs)
theorem ne_sAast  {pc : Nat} {ls : LV} {st : List VV} {h : PH} {q : (Nat × List VV × Cf) ⊕ (Rs × PH)} (hs : sAast  pc ls st h = some (.inr q)) : False := by
  unfold sAast at hs
  simp only [nx, Bool.cond_eq_ite] at hs
  repeat' (split at hs)
  all_goals (cases hs)
theorem ne_sNewa (ty k : Nat) {pc : Nat} {ls : LV} {st : List VV} {h : PH} {q : (Nat × List VV × Cf) ⊕ (Rs × PH)} (hs : sNewa ty k pc ls st h = some (.inr q)) : False := by
  unfold sNewa at hs
  simp only [nx, Bool.cond_eq_ite] at hs
  repeat' (split at hs)
  all_goals (cases hs)
theorem ne_sGf (m idx : Nat) {pc : Nat} {ls : LV} {st : List VV} {h : PH} {q : (Nat × List VV × Cf) ⊕ (Rs × PH)} (hs : sGf m idx pc ls st h = some (.inr q)) : False := by
  unfold sGf at hs
  simp only [nx, Bool.cond_eq_ite] at hs
  repeat' (split at hs)
  all_goals (cases hs)
theorem ne_sPf (m idx : Nat) {pc : Nat} {ls : LV} {st : List VV} {h : PH} {q : (Nat × List VV × Cf) ⊕ (Rs × PH)} (hs : sPf m idx pc ls st h = some (.inr q)) : False := by
  unfold sPf at hs
  simp only [nx, Bool.cond_eq_ite] at hs
  repeat' (split at hs)
  all_goals (cases hs)
theorem ne_sCopy  {pc : Nat} {ls : LV} {st : List VV} {h : PH} {q : (Nat × List VV × Cf) ⊕ (Rs × PH)} (hs : sCopy  pc ls st h = some (.inr q)) : False := by
  unfold sCopy at hs
  simp only [nx, Bool.cond_eq_ite] at hs
  repeat' (split at hs)
  all_goals (cases hs)
theorem ne_sMax (b : Bool) {pc : Nat} {ls : LV} {st : List VV} {h : PH} {q : (Nat × List VV × Cf) ⊕ (Rs × PH)} (hs : sMax b pc ls st h = some (.inr q)) : False := by
  unfold sMax at hs
  simp only [nx, Bool.cond_eq_ite] at hs
  repeat' (split at hs)
  all_goals (cases hs)
theorem ne_sClone  {pc : Nat} {ls : LV} {st : List VV} {h : PH} {q : (Nat × List VV × Cf) ⊕ (Rs × PH)} (hs : sClone  pc ls st h = some (.inr q)) : False := by
  unfold sClone at hs
  simp only [nx, Bool.cond_eq_ite] at hs
  repeat' (split at hs)
  all_goals (cases hs)
theorem ne_sCast (m idx : Nat) {pc : Nat} {ls : LV} {st : List VV} {h : PH} {q : (Nat × List VV × Cf) ⊕ (Rs × PH)} (hs : sCast m idx pc ls st h = some (.inr q)) : False := by
  unfold sCast at hs
  simp only [nx, Bool.cond_eq_ite] at hs
  repeat' (split at hs)
  all_goals (cases hs)
theorem ne_sCall {o m idx pc : Nat} {ls : LV} {st : List VV} {h : PH} {q : Rs × PH} (hs : sCall o m idx pc ls st h = some (.inr (.inr q))) : False := by
  unfold sCall at hs
  simp only [nx, Bool.cond_eq_ite] at hs
  repeat' (split at hs)
  all_goals (first | exact ne_sCopy hs | exact ne_sMax _ hs | exact ne_sClone hs | cases hs)
/-- the instructions that may end a method -/
def endI (i : Instr) : Bool := match i with
  | .ireturn | .lreturn | .dreturn | .areturn | .return_ | .new _ => true
  | _ => false
theorem step_end {m pc : Nat} {ls : LV} {st : List VV} {h : PH} {q : Rs × PH} {i : Instr} (hf : fetch m pc = some i) (hs : step m (pc, ls, st, h) = some (.inr (.inr q))) : endI i = true := by
  unfold step at hs
  dsimp only at hs
  rw [hf] at hs
  cases i
  all_goals first
    | rfl | (cases hs; done)
    | exact (ne_sLd _ _ _ hs).elim | exact (ne_sSt _ _ _ hs).elim | exact (ne_sI2 _ hs).elim | exact (ne_sL2 _ hs).elim | exact (ne_pushI _ _ hs).elim
    | exact (ne_sIf0 _ _ hs).elim | exact (ne_sIf2 _ _ hs).elim | exact (ne_sAc _ _ hs).elim | exact (ne_sNul _ hs).elim | exact (ne_sNnl _ hs).elim | exact (ne_sCast _ _ hs).elim | exact (ne_sLen hs).elim | exact (ne_sIald hs).elim | exact (ne_sBald hs).elim | exact (ne_sLald hs).elim | exact (ne_sAald hs).elim
    | exact (ne_sIast hs).elim | exact (ne_sBast hs).elim | exact (ne_sLast hs).elim | exact (ne_sAast hs).elim | exact (ne_sGf _ _ hs).elim | exact (ne_sPf _ _ hs).elim | exact (ne_sCall hs).elim
    | (simp only [nx, Bool.cond_eq_ite] at hs
       repeat' (split at hs)
       all_goals (first | exact (ne_sNewa _ _ hs).elim | cases hs))
/-- the instructions that may call -/
def calI (i : Instr) : Bool := match i with
  | .invokevirtual _ | .invokespecial _ | .invokestatic _ => true
  | _ => false
theorem ne_sNew {m idx pc : Nat} {ls : LV} {st : List VV} {h : PH} {q : Nat × List VV × Cf} (hs : sNew m idx pc ls st h = some (.inr (.inl q))) : False := by
  unfold sNew at hs
  simp only [nx, Bool.cond_eq_ite] at hs
  repeat' (split at hs)
  all_goals (cases hs)
theorem ne_sRetI {m : Nat} {st : List VV} {h : PH} {q : Nat × List VV × Cf} (hs : sRetI m st h = some (.inr (.inl q))) : False := by
  unfold sRetI at hs
  simp only [nx, Bool.cond_eq_ite] at hs
  repeat' (split at hs)
  all_goals (cases hs)
theorem step_cal {m pc : Nat} {ls : LV} {st : List VV} {h : PH} {q : Nat × List VV × Cf} {i : Instr} (hf : fetch m pc = some i) (hs : step m (pc, ls, st, h) = some (.inr (.inl q))) : calI i = true := by
  unfold step at hs
  dsimp only at hs
  rw [hf] at hs
  cases i
  all_goals first
    | rfl | (cases hs; done)
    | exact (ne_sLd _ _ _ hs).elim | exact (ne_sSt _ _ _ hs).elim | exact (ne_sI2 _ hs).elim | exact (ne_sL2 _ hs).elim | exact (ne_pushI _ _ hs).elim
    | exact (ne_sIf0 _ _ hs).elim | exact (ne_sIf2 _ _ hs).elim | exact (ne_sAc _ _ hs).elim | exact (ne_sNul _ hs).elim | exact (ne_sNnl _ hs).elim | exact (ne_sCast _ _ hs).elim | exact (ne_sLen hs).elim | exact (ne_sIald hs).elim | exact (ne_sBald hs).elim | exact (ne_sLald hs).elim | exact (ne_sAald hs).elim
    | exact (ne_sIast hs).elim | exact (ne_sBast hs).elim | exact (ne_sLast hs).elim | exact (ne_sAast hs).elim | exact (ne_sGf _ _ hs).elim | exact (ne_sPf _ _ hs).elim | exact (ne_sNew hs).elim | exact (ne_sRetI hs).elim
    | (simp only [nx, Bool.cond_eq_ite] at hs
       repeat' (split at hs)
       all_goals (first | exact (ne_sNewa _ _ hs).elim | cases hs))
