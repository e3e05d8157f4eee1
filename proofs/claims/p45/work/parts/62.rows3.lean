/-! Counting in one row, step by step. -/
theorem cin_l {wd : Int} {tl : Nat} {v : Int32} {w : Win} {W : List Win} {s : Int} (h : w.1 < s) : cin wd tl v (w :: W) s = w :: cin wd tl v W s := by
  have e : pl (w :: W) s = pl W s + 1 := if_pos h
  by_cases c : pl W s < W.length ∧ (W.getD (pl W s) w0).1 = s
  · rw [cin_p c, cin_p (W := w :: W) (by rw [e]; exact ⟨Nat.succ_lt_succ c.1, c.2⟩), e]; rfl
  · rw [cin_n c, cin_n (W := w :: W) (by rw [e]; exact fun z => c ⟨Nat.lt_of_succ_lt_succ z.1, z.2⟩)]
    exact insW_l (x := (s, s + wd, 1, v)) h
theorem cin_e {wd : Int} {tl : Nat} {v : Int32} {w : Win} {W : List Win} {s : Int} (h : w.1 = s) : cin wd tl v (w :: W) s = (s, w.2.1, w.2.2.1 + 1, jn tl w.2.2.2 v) :: W := by
  have e : pl (w :: W) s = 0 := if_neg (by omega)
  rw [cin_p (W := w :: W) (by rw [e]; exact ⟨Nat.succ_pos _, h⟩), e]; rfl
theorem cin_g {wd : Int} {tl : Nat} {v : Int32} {w : Win} {W : List Win} {s : Int} (h : s < w.1) : cin wd tl v (w :: W) s = (s, s + wd, 1, v) :: w :: W := by
  have e : pl (w :: W) s = 0 := if_neg (by omega)
  rw [cin_n (W := w :: W) (by rw [e]; exact fun z => by have z2 : w.1 = s := z.2; omega)]
  exact insW_r (x := (s, s + wd, 1, v)) (show ¬ w.1 < s by omega)
theorem cin_nil {wd : Int} {tl : Nat} {v : Int32} {s : Int} : cin wd tl v [] s = [(s, s + wd, 1, v)] := by
  rw [cin_n (W := []) (fun z => absurd z.1 (Nat.not_lt_zero _))]; rfl
theorem cin_mem {wd : Int} {tl : Nat} {v : Int32} {s : Int} {y : Win} : ∀ (W : List Win), srt W → y ∈ cin wd tl v W s → (y ∈ W ∧ y.1 ≠ s) ∨ y = (s, s + wd, 1, v) ∨ ∃ w ∈ W, w.1 = s ∧ y = (s, w.2.1, w.2.2.1 + 1, jn tl w.2.2.2 v) := by
  intro W
  induction W with
  | nil => intro _ h; rw [cin_nil] at h; exact .inr (.inl (List.mem_singleton.mp h))
  | cons w W ih =>
    intro p h
    obtain ⟨p1, p2⟩ := List.pairwise_cons.mp p
    by_cases c : w.1 < s
    · rw [cin_l c] at h
      rcases List.mem_cons.mp h with e | e
      · exact .inl ⟨by rw [e]; exact List.mem_cons_self, by rw [e]; omega⟩
      · rcases ih p2 e with ⟨i1, i2⟩ | i | ⟨x, i1, i2, i3⟩
        · exact .inl ⟨List.mem_cons_of_mem _ i1, i2⟩
        · exact .inr (.inl i)
        · exact .inr (.inr ⟨x, List.mem_cons_of_mem _ i1, i2, i3⟩)
    · by_cases c2 : w.1 = s
      · rw [cin_e c2] at h
        rcases List.mem_cons.mp h with e | e
        · exact .inr (.inr ⟨w, List.mem_cons_self, c2, e⟩)
        · exact .inl ⟨List.mem_cons_of_mem _ e, by have := p1 y e; omega⟩
      · rw [cin_g (by omega)] at h
        rcases List.mem_cons.mp h with e | e
        · exact .inr (.inl e)
        · refine .inl ⟨e, ?_⟩
          rcases List.mem_cons.mp e with z | z
          · rw [z]; exact c2
          · have := p1 y z; omega
theorem cin_srt {wd : Int} {tl : Nat} {v : Int32} {s : Int} : ∀ (W : List Win), srt W → srt (cin wd tl v W s) := by
  intro W
  induction W with
  | nil => intro _; rw [cin_nil]; exact List.pairwise_singleton _ _
  | cons w W ih =>
    intro p
    obtain ⟨p1, p2⟩ := List.pairwise_cons.mp p
    by_cases c : w.1 < s
    · rw [cin_l c]
      refine List.pairwise_cons.mpr ⟨fun y hy => ?_, ih p2⟩
      rcases cin_mem W p2 hy with ⟨i1, i2⟩ | i | ⟨x, i1, i2, i3⟩
      · exact p1 y i1
      · rw [i]; exact c
      · rw [i3]; exact c
    · by_cases c2 : w.1 = s
      · rw [cin_e c2]
        exact List.pairwise_cons.mpr ⟨fun y hy => by have := p1 y hy; show s < y.1; omega, p2⟩
      · rw [cin_g (by omega)]
        refine List.pairwise_cons.mpr ⟨fun y hy => ?_, p⟩
        show s < y.1
        rcases List.mem_cons.mp hy with z | z
        · rw [z]; omega
        · have := p1 y z; omega
