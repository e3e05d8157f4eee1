-- trials of the machine
theorem zt_1 (d : Nat) (x : Nat × Nat × Nat) (h : PH) : Rv d m_x_watermark [.inr (.inr (.inr (1, 0, 5)))] h (some (.inl (h.1 5 11))) h := by
  refine Ev.sts 2 (c' := (4, [some (.inr (.inr (.inr (1, 0, 5))))], [.inl (h.1 5 11)], h)) rfl ?_
  exact Ev.ret rfl ⟨rfl, rfl⟩
theorem zt_2 (d : Nat) (a b c : Int32) (h : PH) : Rv d m_Math_max [.inl a, .inl b] h (some (.inl (if b ≤ a then a else b))) h := by
  refine Ev.sts 2 (c' := (2, [some (.inl a), some (.inl b)], [.inl b, .inl a], h)) rfl ?_
  refine Ev.br rfl (fun c => ?_) (fun c => ?_)
  · sorry
  · sorry
