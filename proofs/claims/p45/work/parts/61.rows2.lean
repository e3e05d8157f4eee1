/-! A goose's row stays in order. -/
def srt (W : List Win) : Prop := W.Pairwise (fun x y => x.1 < y.1)
theorem insW_n (x : Win) : insW [] x = [x] := rfl
theorem insW_l {w x : Win} {W : List Win} (h : w.1 < x.1) : insW (w :: W) x = w :: insW W x := by
  have e : pl (w :: W) x.1 = pl W x.1 + 1 := if_pos h
  unfold insW
  rw [e]; rfl
theorem insW_r {w x : Win} {W : List Win} (h : ¬ w.1 < x.1) : insW (w :: W) x = x :: w :: W := by
  have e : pl (w :: W) x.1 = 0 := if_neg h
  unfold insW
  rw [e]; rfl
theorem insW_mem {x y : Win} : ∀ (W : List Win), y ∈ insW W x ↔ y = x ∨ y ∈ W := by
  intro W
  induction W with
  | nil => rw [insW_n]; exact ⟨fun h => .inl (List.mem_singleton.mp h), fun h => h.elim (fun e => List.mem_singleton.mpr e) (fun e => absurd e List.not_mem_nil)⟩
  | cons w W ih =>
    by_cases h : w.1 < x.1
    · rw [insW_l h, List.mem_cons, ih, List.mem_cons]
      exact ⟨fun h => h.elim (fun e => .inr (.inl e)) (fun e => e.elim .inl (fun e => .inr (.inr e))), fun h => h.elim (fun e => .inr (.inl e)) (fun e => e.elim .inl (fun e => .inr (.inr e)))⟩
    · rw [insW_r h, List.mem_cons]
theorem insW_srt {x : Win} : ∀ (W : List Win), srt W → (∀ w ∈ W, w.1 ≠ x.1) → srt (insW W x) := by
  intro W
  induction W with
  | nil => intro _ _; exact List.pairwise_singleton _ _
  | cons w W ih =>
    intro s h
    obtain ⟨p1, p2⟩ := List.pairwise_cons.mp s
    by_cases c : w.1 < x.1
    · rw [insW_l c]
      refine List.pairwise_cons.mpr ⟨fun y hy => ?_, ih p2 (fun v hv => h v (List.mem_cons_of_mem _ hv))⟩
      rcases (insW_mem W).mp hy with e | e
      · rw [e]; exact c
      · exact p1 y e
    · rw [insW_r c]
      have n := h w List.mem_cons_self
      refine List.pairwise_cons.mpr ⟨fun y hy => ?_, s⟩
      rcases List.mem_cons.mp hy with e | e
      · rw [e]; omega
      · have := p1 y e; omega
/-- a start that is there is found at its place -/
theorem pl_here : ∀ (W : List Win) (s : Int), srt W → (∃ w ∈ W, w.1 = s) → pl W s < W.length ∧ (W.getD (pl W s) w0).1 = s := by
  intro W
  induction W with
  | nil => intro s _ h; obtain ⟨w, h, -⟩ := h; exact absurd h List.not_mem_nil
  | cons w W ih =>
    intro s p h
    obtain ⟨p1, p2⟩ := List.pairwise_cons.mp p
    by_cases c : w.1 < s
    · have e : pl (w :: W) s = pl W s + 1 := if_pos c
      obtain ⟨v, hv, ev⟩ := h
      have hv2 : v ∈ W := (List.mem_cons.mp hv).elim (fun z => by rw [z] at ev; omega) (fun z => z)
      obtain ⟨i1, i2⟩ := ih s p2 ⟨v, hv2, ev⟩
      rw [e]
      exact ⟨Nat.succ_lt_succ i1, i2⟩
    · have e : pl (w :: W) s = 0 := if_neg c
      rw [e]
      refine ⟨Nat.succ_pos _, ?_⟩
      show w.1 = s
      obtain ⟨v, hv, ev⟩ := h
      rcases List.mem_cons.mp hv with z | z
      · rw [← z]; exact ev
      · have := p1 v z; omega
theorem srt_un {W : List Win} (s : srt W) (h : ∀ w ∈ W, w.1 < w.2.1) : unW W := by
  refine ⟨?_, h⟩
  exact List.pairwise_map.mpr (s.imp (fun {a b} z => Int.ne_of_lt z))
theorem keepE_srt {W : List Win} {m : Int} (s : srt W) : srt (keepE W m) := s.filter _
/-- what an every-goose's row keeps: hi the greatest hour, n the commas -/
def gW (wd st hi wm : Int) (n : Int) (W : List Win) : Prop := srt W ∧ ∀ w ∈ W, 0 ≤ w.1 ∧ w.1 ≤ hi ∧ w.1 % st = 0 ∧ w.2.1 = w.1 + wd ∧ wm < w.2.1 ∧ 1 ≤ w.2.2.1 ∧ w.2.2.1 ≤ n
theorem gW_hi {wd st hi wm n hi2 n2 : Int} {W : List Win} (g : gW wd st hi wm n W) (h : hi ≤ hi2) (h2 : n ≤ n2) : gW wd st hi2 wm n2 W :=
  ⟨g.1, fun w hw => by obtain ⟨a1, a2, a3, a4, a5, a6, a7⟩ := g.2 w hw; exact ⟨a1, by omega, a3, a4, a5, a6, by omega⟩⟩
theorem gW_keep {wd st hi wm n m : Int} {W : List Win} (g : gW wd st hi wm n W) : gW wd st hi m n (keepE W m) :=
  ⟨keepE_srt g.1, fun w hw => by
    obtain ⟨h1, h2⟩ := List.mem_filter.mp hw
    obtain ⟨a1, a2, a3, a4, a5, a6, a7⟩ := g.2 w h1
    exact ⟨a1, a2, a3, a4, of_decide_eq_true h2, a6, a7⟩⟩
theorem gW_un {wd st hi wm n : Int} {W : List Win} (h1 : 1 ≤ wd) (g : gW wd st hi wm n W) : unW W :=
  srt_un g.1 (fun w hw => by obtain ⟨a1, a2, a3, a4, a5, a6, a7⟩ := g.2 w hw; omega)
