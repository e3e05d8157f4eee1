/-! An every-goose's row grows by at most one window a step. -/
theorem cev_len' {wd st hr wm : Int} {tl : Nat} {v : Int32} : ∀ (k : Nat) (W : List Win) (s : Int), (cev wd st hr wm tl v k W s).length ≤ W.length + k := by
  intro k
  induction k with
  | zero => intro W s; exact Nat.le_refl _
  | succ k ih =>
    intro W s
    show (if s < 0 then W else cev wd st hr wm tl v k (if hr < s + wd ∧ wm < s + wd then cin wd tl v W s else W) (s - st)).length ≤ W.length + (k + 1)
    by_cases c : s < 0
    · rw [if_pos c]; omega
    · rw [if_neg c]
      refine Nat.le_trans (ih _ _) ?_
      by_cases d : hr < s + wd ∧ wm < s + wd
      · rw [if_pos d]
        have l := (cin_len wd tl v W s).2
        omega
      · rw [if_neg d]; omega
theorem gW_wsB {wd st hi wm n : Int} {W : List Win} (hi1 : hi ≤ 999) (w2 : wd ≤ 200) (h1 : 1 ≤ wd) (hn : n ≤ 1000) (g : gW wd st hi wm n W) : wsB 1000 W := by
  intro j hj
  have e : W.getD j w0 = W[j] := by
    rw [List.getD_eq_getElem?_getD, List.getElem?_eq_getElem hj]; rfl
  rw [e]
  obtain ⟨a1, a2, a3, a4, a5, a6, a7⟩ := g.2 _ (List.getElem_mem hj)
  exact ⟨a1, by omega, by omega, by omega, a6, by omega⟩
