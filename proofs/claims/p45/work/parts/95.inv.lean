/-! The state's invariant. -/
theorem gone_keep (m : Int) : ∀ W : List Win, (goneE W m).length + (keepE W m).length = W.length := by
  intro W
  induction W with
  | nil => rfl
  | cons w W ih =>
    by_cases c : m < w.2.1
    · rw [goneE_n (by omega), keepE_y c, List.length_cons, List.length_cons]; omega
    · rw [goneE_y (by omega), keepE_n c, List.length_cons, List.length_cons]; omega
theorem gnL_keep (ws : Nat → List Win) (m : Int) : ∀ n g, (gnL ws m n g).length + lnL (fun g => keepE (ws g) m) n g = lnL ws n g := by
  intro n
  induction n with
  | zero => intro g; rfl
  | succ n ih =>
    intro g
    have a := ih (g + 1)
    have b := gone_keep m (ws g)
    show ((goneE (ws g) m).map (Prod.mk g) ++ gnL ws m n (g + 1)).length + ((keepE (ws g) m).length + lnL (fun g => keepE (ws g) m) n (g + 1)) = (ws g).length + lnL ws n (g + 1)
    rw [List.length_append, List.length_map]
    omega
theorem gnL_mem {ws : Nat → List Win} {m : Int} {t : Tel} : ∀ n g, t ∈ gnL ws m n g → ∃ k, t.2 ∈ ws k := by
  intro n
  induction n with
  | zero => intro g h; exact absurd h List.not_mem_nil
  | succ n ih =>
    intro g h
    rcases List.mem_append.mp h with a | a
    · obtain ⟨w, h1, h2⟩ := List.mem_map.mp a
      rw [← h2]
      exact ⟨g, (List.mem_filter.mp h1).1⟩
    · exact ih (g + 1) a
def rwG (G : Gs) (hi wm n : Int) (W : List Win) : Prop := (G.2.2.1 = 0 → gG G.2.1 hi wm n W) ∧ (¬ G.2.2.1 = 0 → gW G.2.1 G.2.2.1 hi wm n W)
def bkP (B : Bk) : Prop := (∀ g, g < B.2.2.length → (B.2.2.getD g g0).2.2.1 = 0 ∨ (B.2.2.getD g g0).2.1 < 7 * (B.2.2.getD g g0).2.2.1) ∧ (∀ F ∈ B.2.1, ∀ (x : Ctx) (tk : Int32), ∃ v, (v = iZ 0 ∨ v = iZ 1) ∧ evs F x tk [] [v]) ∧ ∀ g, g < B.2.2.length → (∀ c ∈ (B.2.2.getD g g0).2.2.2.2, okVl c) ∧ ((B.2.2.getD g g0).2.2.2.1 ≠ 0 → ∀ (x : Ctx) (tk : Int32), ∃ v, evs (B.2.2.getD g g0).2.2.2.2 x tk [] [v])
def rowS (S : Sta) (wm : Int) : Prop := ∀ g, (g < (bkS S).2.2.length → rwG ((bkS S).2.2.getD g g0) (grS S) wm (csS S).length (wdS S g)) ∧ ((bkS S).2.2.length ≤ g → wdS S g = [])
/-- the state's invariant: at most N nights; the rows told up to wm -/
def WSr (S : Sta) (N : Nat) (wm : Int) : Prop := bkN (bkS S) ∧ bkP (bkS S) ∧ ((csS S).length ≤ 120 ∧ ∀ j, j < (csS S).length → 0 ≤ ((csS S).getD j cd0).1 ∧ ((csS S).getD j cd0).1 ≤ 999 ∧ 0 ≤ ((csS S).getD j cd0).2.toInt ∧ ((csS S).getD j cd0).2.toInt < 256) ∧ ntS S ≤ N ∧ (-1 ≤ grS S ∧ grS S ≤ 999 ∧ 0 ≤ wmS S ∧ wmS S ≤ 2000 ∧ grS S - 99 ≤ wmS S) ∧ rowS S wm ∧ ((tlS S).length + lnL (wdS S) 6 0 ≤ 42 * (csS S).length ∧ ∀ j, j < (tlS S).length → wB 1000 ((tlS S).getD j t0).2) ∧ ((tpS S).length ≤ 1600 ∧ byT (tpS S))
theorem rwG_B {G : Gs} {hi wm n : Int} {W : List Win} (r : rwG G hi wm n W) (h1 : hi ≤ 999) (hn : n ≤ 1000) (g1 : 1 ≤ G.2.1) (g2 : G.2.1 ≤ 200) (g3 : 0 ≤ G.2.2.1) : wsB 1000 W ∧ unW W := by
  by_cases c : G.2.2.1 = 0
  · exact ⟨gG_wsB h1 g2 hn (r.1 c), gG_un (r.1 c)⟩
  · exact ⟨gW_wsB h1 g2 g1 hn (r.2 c), gW_un g1 (r.2 c)⟩
theorem rwG_l {G : Gs} {hi wm n : Int} {W : List Win} (r : rwG G hi wm n W) (g1 : 1 ≤ G.2.1) (g3 : 0 ≤ G.2.2.1) (h7 : G.2.2.1 = 0 ∨ G.2.1 < 7 * G.2.2.1) (hw : hi - 99 ≤ wm) : W.length ≤ 105 ∨ (W.length : Int) ≤ n := by
  by_cases c : G.2.2.1 = 0
  · exact .inr (gG_len (r.1 c))
  · obtain ⟨s, b⟩ := r.2 c
    exact .inl (row_105 (st := G.2.2.1) (wd := G.2.1) (gr := hi) (wm := wm) (by omega) (by omega) g1 hw s (fun w hw2 => by obtain ⟨a1, a2, a3, a4, a5, a6, a7⟩ := b w hw2; exact ⟨a2, a3, a4, a5⟩))
theorem rwG_keep {G : Gs} {hi wm n m : Int} {W : List Win} (r : rwG G hi wm n W) : rwG G hi m n (keepE W m) := ⟨fun c => gG_keep (r.1 c), fun c => gW_keep (r.2 c)⟩
theorem rwG_hi {G : Gs} {hi wm n hi2 n2 : Int} {W : List Win} (r : rwG G hi wm n W) (h : hi ≤ hi2) (h2 : n ≤ n2) : rwG G hi2 wm n2 W := ⟨fun c => gG_hi (r.1 c) h h2, fun c => gW_hi (r.2 c) h h2⟩
theorem WSr_w {S : Sta} {N : Nat} {wm : Int} (w : WSr S N wm) (g : Nat) : wsB 1000 (wdS S g) ∧ unW (wdS S g) := by
  obtain ⟨w1, w2, w3, w4, w5, w6, w7, w8⟩ := w
  by_cases c : g < (bkS S).2.2.length
  · obtain ⟨b1, b2, b3, b4, b5, b6⟩ := w1.2.2.2.2.2 g c
    exact rwG_B ((w6 g).1 c) w5.2.1 (by omega) b2 b3 b4
  · rw [(w6 g).2 (by omega)]
    exact ⟨fun j hj => absurd hj (Nat.not_lt_zero _), ⟨List.nodup_nil, fun w hw => absurd hw List.not_mem_nil⟩⟩
theorem WS_l {S : Sta} {N : Nat} (w : WSr S N (wmS S)) (g : Nat) : (wdS S g).length ≤ 105 ∨ (wdS S g).length ≤ (csS S).length := by
  obtain ⟨w1, w2, w3, w4, w5, w6, w7, w8⟩ := w
  by_cases c : g < (bkS S).2.2.length
  · obtain ⟨b1, b2, b3, b4, b5, b6⟩ := w1.2.2.2.2.2 g c
    rcases rwG_l ((w6 g).1 c) b2 b4 (w2.1 g c) w5.2.2.2.2 with h | h
    · exact .inl h
    · exact .inr (by omega)
  · rw [(w6 g).2 (by omega)]
    exact .inl (Nat.zero_le _)
theorem WS_N {S : Sta} {N : Nat} (w : WSr S N (wmS S)) (hN : N ≤ 20000) : WN S := by
  have l := WS_l w
  have b := WSr_w w
  obtain ⟨w1, w2, w3, w4, w5, w6, w7, w8⟩ := w
  exact ⟨w1, w3.1, w3.2, by omega, w5.1, w5.2.1, w5.2.2.1, w5.2.2.2.1, fun g => ⟨(b g).1, by rcases l g with h | h <;> omega⟩, fun g hg => (w6 g).2 hg, by omega, w7.2, w8.1⟩
theorem WSr_cap {S : Sta} {N : Nat} {wm : Int} (w : WSr S N wm) : capS S := by
  obtain ⟨w1, w2, w3, w4, w5, w6, w7, w8⟩ := w
  unfold capS
  omega
theorem WSr_tol {S : Sta} {N : Nat} {wm : Int} (w : WSr S N wm) : WSr (tolS S) N (wmS S) := by
  have b := WSr_w w
  obtain ⟨w1, w2, w3, w4, w5, w6, w7, w8⟩ := w
  refine ⟨w1, w2, w3, w4, w5, fun g => ⟨fun c => rwG_keep ((w6 g).1 c), fun c => ?_⟩, ⟨?_, fun j hj => ?_⟩, w8⟩
  · show keepE (wdS S g) (wmS S) = []
    rw [(w6 g).2 c]; rfl
  · have e := gnL_keep (wdS S) (wmS S) 6 0
    show (tlS S ++ gnL (wdS S) (wmS S) 6 0).length + lnL (fun g => keepE (wdS S g) (wmS S)) 6 0 ≤ 42 * (csS S).length
    rw [List.length_append]
    omega
  · replace hj : j < (tlS S ++ gnL (wdS S) (wmS S) 6 0).length := hj
    show wB 1000 ((tlS S ++ gnL (wdS S) (wmS S) 6 0).getD j t0).2
    by_cases c : j < (tlS S).length
    · rw [show (tlS S ++ gnL (wdS S) (wmS S) 6 0).getD j t0 = (tlS S).getD j t0 by rw [List.getD_eq_getElem?_getD, List.getElem?_append_left c, ← List.getD_eq_getElem?_getD]]
      exact w7.2 j c
    · rw [List.length_append] at hj
      have hk : j - (tlS S).length < (gnL (wdS S) (wmS S) 6 0).length := by omega
      rw [show (tlS S ++ gnL (wdS S) (wmS S) 6 0).getD j t0 = (gnL (wdS S) (wmS S) 6 0).getD (j - (tlS S).length) t0 by rw [List.getD_eq_getElem?_getD, List.getElem?_append_right (by omega), ← List.getD_eq_getElem?_getD]]
      obtain ⟨k, hk2⟩ := gnL_mem 6 0 (getD_mem (d := t0) hk)
      obtain ⟨i, hi, e⟩ := List.getElem_of_mem hk2
      have x := (b k).1 i hi
      rw [List.getD_eq_getElem?_getD, List.getElem?_eq_getElem hi, Option.getD_some, e] at x
      exact x
theorem WS_nig {S : Sta} {N : Nat} (w : WSr S N (wmS S)) : WSr (nigS S) (N + 1) (wmS (nigS S)) := by
  unfold nigS
  refine WSr_tol (wm := wmS S) ?_
  have al := alB_b w.1 ((ntS S : Int) + 1)
  obtain ⟨w1, w2, w3, w4, w5, w6, w7, w8⟩ := w
  refine ⟨w1, w2, w3, Nat.succ_le_succ w4, ⟨w5.1, w5.2.1, ?_, ?_, ?_⟩, w6, w7, w8⟩
  · show 0 ≤ max (wmS S) (grS S - alB (bkS S) ((ntS S : Int) + 1)); omega
  · show max (wmS S) (grS S - alB (bkS S) ((ntS S : Int) + 1)) ≤ 2000; omega
  · show grS S - 99 ≤ max (wmS S) (grS S - alB (bkS S) ((ntS S : Int) + 1)); omega
theorem WS_end {S : Sta} {N : Nat} (w : WSr S N (wmS S)) : WSr (endS S) N (wmS (endS S)) := by
  unfold endS
  refine WSr_tol (wm := wmS S) ?_
  obtain ⟨w1, w2, w3, w4, w5, w6, w7, w8⟩ := w
  refine ⟨w1, w2, w3, w4, ⟨w5.1, w5.2.1, by show (0 : Int) ≤ 2000; decide, by show (2000 : Int) ≤ 2000; decide, ?_⟩, w6, w7, w8⟩
  show grS S - 99 ≤ 2000
  omega
