/-! An every-goose's row behind a comma. -/
def gC (wd st hi wm n s : Int) (W : List Win) : Prop := srt W ∧ ∀ w ∈ W, 0 ≤ w.1 ∧ w.1 ≤ hi ∧ w.1 % st = 0 ∧ w.2.1 = w.1 + wd ∧ wm < w.2.1 ∧ 1 ≤ w.2.2.1 ∧ w.2.2.1 ≤ n + 1 ∧ (w.1 ≤ s → w.2.2.1 ≤ n)
theorem gC_W {wd st hi wm n s : Int} {W : List Win} (g : gC wd st hi wm n s W) : gW wd st hi wm (n + 1) W :=
  ⟨g.1, fun w hw => by obtain ⟨a1, a2, a3, a4, a5, a6, a7, a8⟩ := g.2 w hw; exact ⟨a1, a2, a3, a4, a5, a6, a7⟩⟩
theorem gW_C {wd st hi wm n s : Int} {W : List Win} (g : gW wd st hi wm n W) : gC wd st hi wm n s W :=
  ⟨g.1, fun w hw => by obtain ⟨a1, a2, a3, a4, a5, a6, a7⟩ := g.2 w hw; exact ⟨a1, a2, a3, a4, a5, a6, by omega, fun _ => a7⟩⟩
theorem cev_g {wd st hi hr wm n : Int} {tl : Nat} {v : Int32} (hs : 1 ≤ st) (hn : 0 ≤ n) : ∀ (k : Nat) (W : List Win) (s : Int), s % st = 0 → s ≤ hi → gC wd st hi wm n s W → gW wd st hi wm (n + 1) (cev wd st hr wm tl v k W s) := by
  intro k
  induction k with
  | zero => intro W s _ _ g; exact gC_W g
  | succ k ih =>
    intro W s h1 h2 g
    show gW wd st hi wm (n + 1) (if s < 0 then W else cev wd st hr wm tl v k (if hr < s + wd ∧ wm < s + wd then cin wd tl v W s else W) (s - st))
    by_cases c : s < 0
    · rw [if_pos c]; exact gC_W g
    · rw [if_neg c]
      refine ih _ (s - st) (by rw [Int.sub_emod_right]; exact h1) (by omega) ?_
      by_cases d : hr < s + wd ∧ wm < s + wd
      · rw [if_pos d]
        refine ⟨cin_srt W g.1, fun w hw => ?_⟩
        rcases cin_mem W g.1 hw with ⟨i1, i2⟩ | i | ⟨x, i1, i2, i3⟩
        · obtain ⟨a1, a2, a3, a4, a5, a6, a7, a8⟩ := g.2 w i1
          exact ⟨a1, a2, a3, a4, a5, a6, a7, fun z => a8 (by omega)⟩
        · rw [i]
          refine ⟨?_, h2, h1, rfl, d.2, Int.le_refl _, ?_, fun z => ?_⟩
          · show 0 ≤ s; omega
          · show 1 ≤ n + 1; omega
          · replace z : s ≤ s - st := z; omega
        · obtain ⟨a1, a2, a3, a4, a5, a6, a7, a8⟩ := g.2 x i1
          rw [i3]
          have a9 := a8 (by omega)
          refine ⟨?_, h2, h1, ?_, a5, ?_, ?_, fun z => ?_⟩
          · show 0 ≤ s; omega
          · show x.2.1 = s + wd; omega
          · show 1 ≤ x.2.2.1 + 1; omega
          · show x.2.2.1 + 1 ≤ n + 1; omega
          · replace z : s ≤ s - st := z; omega
      · rw [if_neg d]
        exact ⟨g.1, fun w hw => by
          obtain ⟨a1, a2, a3, a4, a5, a6, a7, a8⟩ := g.2 w hw
          exact ⟨a1, a2, a3, a4, a5, a6, a7, fun z => a8 (by omega)⟩⟩
