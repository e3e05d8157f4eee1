/-! The invariant: tape, teaching, the start; what a book's programs give. -/
theorem byT_app {a b : List Int} (h : byT a) (h2 : ∀ v ∈ b, -128 ≤ v ∧ v < 128) : byT (a ++ b) := by
  intro j
  unfold by_
  by_cases c : j < a.length
  · rw [List.getD_eq_getElem?_getD, List.getElem?_append_left c, ← List.getD_eq_getElem?_getD]
    exact h j
  · rw [List.getD_eq_getElem?_getD, List.getElem?_append_right (by omega), ← List.getD_eq_getElem?_getD]
    by_cases d : j - a.length < b.length
    · exact h2 _ (getD_mem d)
    · rw [List.getD_eq_getElem?_getD, List.getElem?_eq_none (by omega)]
      exact ⟨by decide, by decide⟩
theorem byT_nil : byT [] := fun j => by
  unfold by_
  rw [List.getD_eq_getElem?_getD, List.getElem?_eq_none (by exact Nat.zero_le j)]
  exact ⟨by decide, by decide⟩
theorem byT_take {a : List Int} (h : byT a) (k : Nat) : byT (a.take k) := by
  intro j
  unfold by_
  by_cases c : j < k
  · rw [List.getD_eq_getElem?_getD, List.getElem?_take_of_lt c, ← List.getD_eq_getElem?_getD]
    exact h j
  · rw [List.getD_eq_getElem?_getD, List.getElem?_eq_none (by rw [List.length_take]; omega)]
    exact ⟨by decide, by decide⟩
theorem bB_b (a : Int32) (s : Int) : -128 ≤ bB a s ∧ bB a s < 128 := by
  unfold bB
  exact ⟨Int8.le_toInt _, Int8.toInt_lt _⟩
theorem by4_b {a : Int32} : ∀ v ∈ by4 a, -128 ≤ v ∧ v < 128 := by
  intro v hv
  unfold by4 at hv
  simp only [List.mem_cons, List.not_mem_nil, or_false] at hv
  rcases hv with e | e | e | e
  all_goals rw [e]; exact bB_b _ _
theorem WS_fed {S : Sta} {N : Nat} {a b c d e : Int32} (w : WSr S N (wmS S)) (hl : (tpS S).length ≤ 1580) : WSr (fedS S a b c d e) N (wmS (fedS S a b c d e)) := by
  obtain ⟨w1, w2, w3, w4, w5, w6, w7, w8⟩ := w
  refine ⟨w1, w2, w3, w4, w5, w6, w7, ?_, ?_⟩
  · show (tpS S ++ (by4 a ++ (by4 b ++ (by4 c ++ (by4 d ++ by4 e))))).length ≤ 1600
    simp only [List.length_append, by4_len]
    omega
  · refine byT_app w8.2 (fun v hv => ?_)
    simp only [List.mem_append] at hv
    rcases hv with h | h | h | h | h
    all_goals exact by4_b _ h
theorem WS_trm {S : Sta} {N k : Nat} (w : WSr S N (wmS S)) : WSr (trmS S k) N (wmS (trmS S k)) := by
  obtain ⟨w1, w2, w3, w4, w5, w6, w7, w8⟩ := w
  refine ⟨w1, w2, w3, w4, w5, w6, w7, ?_, byT_take w8.2 k⟩
  show ((tpS S).take k).length ≤ 1600
  rw [List.length_take]
  omega
theorem WS_ter {S : Sta} {N : Nat} (w : WSr S N (wmS S)) : WSr (terS S) N (wmS (terS S)) := by
  obtain ⟨w1, w2, w3, w4, w5, w6, w7, w8⟩ := w
  exact ⟨w1, w2, w3, w4, w5, w6, w7, Nat.zero_le _, byT_nil⟩
theorem bkO_P {s : Sm} (ok : smOk s) (e0 : (smE s).1 = 0) : bkP (bkO s) := by
  have okt := ok.2.2.2.2.2.1
  have okg := (ok.2.2.2.2.2.2 e0).2
  have lx : (bkO s).2.2.length = (smX s).length := List.length_map _
  have ge : ∀ g, g < (bkO s).2.2.length → (bkO s).2.2.getD g g0 = gsO (smP s) ((smX s).getD g gc0) := fun g hg => by
    rw [lx] at hg
    exact mapgD _ _ gc0 _ _ hg
  refine ⟨fun g hg => ?_, fun F hF x tk => ?_, fun g hg => ?_⟩
  · rw [ge g hg]
    rw [lx] at hg
    obtain ⟨a1, a2, a3, a4, a5, a6, a7, a8, a9, a10, a11, a12, a13, a14⟩ := okg _ (getD_mem (d := gc0) hg)
    show (if ((smX s).getD g gc0).2.1 = 1 then (0 : Int) else ((smX s).getD g gc0).2.2.2.1) = 0 ∨ ((smX s).getD g gc0).2.2.1 < 7 * (if ((smX s).getD g gc0).2.1 = 1 then (0 : Int) else ((smX s).getD g gc0).2.2.2.1)
    by_cases c : ((smX s).getD g gc0).2.1 = 1
    · rw [if_pos c]; exact .inl rfl
    · rw [if_neg c]; exact .inr (a11 (by omega)).2
  · obtain ⟨t, h1, h2⟩ := List.mem_map.mp hF
    rw [← h2]
    exact (okt t h1).2.2 x tk
  · rw [ge g hg]
    rw [lx] at hg
    obtain ⟨a1, a2, a3, a4, a5, a6, a7, a8, a9, a10, a11, a12, a13, a14⟩ := okg _ (getD_mem (d := gc0) hg)
    exact ⟨a13, a14⟩
theorem lnL_0 : ∀ n g, lnL (fun _ => []) n g = 0 := by
  intro n
  induction n with
  | zero => intro g; rfl
  | succ n ih => intro g; show 0 + lnL (fun _ => []) n (g + 1) = 0; rw [ih]
theorem WS_tau {S : Sta} {N : Nat} (w : WSr S N (wmS S)) (e : (rdE (lex (tpS S))).1 = 0) : WSr (tauS S) N (wmS (tauS S)) := by
  obtain ⟨w1, w2, w3, w4, w5, w6, w7, w8⟩ := w
  obtain ⟨ok, e0⟩ := rdS_ok (lex_w w8.1 w8.2) e
  refine ⟨bkO_N ok e0, bkO_P ok e0, ⟨Nat.zero_le _, fun j hj => absurd hj (Nat.not_lt_zero _)⟩, Nat.zero_le _, ⟨by show (-1 : Int) ≤ -1; decide, by show (-1 : Int) ≤ 999; decide, by show (0 : Int) ≤ 0; decide, by show (0 : Int) ≤ 2000; decide, by show (-1 : Int) - 99 ≤ 0; decide⟩, fun g => ⟨fun _ => ⟨fun _ => ⟨List.Pairwise.nil, fun w hw => absurd hw List.not_mem_nil, Int.le_refl _⟩, fun _ => ⟨List.Pairwise.nil, fun w hw => absurd hw List.not_mem_nil⟩⟩, fun _ => rfl⟩, ⟨?_, fun j hj => absurd hj (Nat.not_lt_zero _)⟩, Nat.zero_le _, byT_nil⟩
  show 0 + lnL (fun _ => []) 6 0 ≤ 42 * 0
  rw [lnL_0]
  exact Nat.le_refl _
theorem or_bit : ∀ (k : Fin 8) (n : Fin 256), n.val < 2 ^ k.val → (iZ (n.val : Int) ||| (iZ 1 <<< (iZ (k.val : Int) &&& 31))) = iZ ((n.val + 2 ^ k.val : Nat) : Int) := by decide +kernel
theorem or_no : ∀ (k : Fin 8) (n : Fin 256), (iZ (n.val : Int) ||| (iZ 0 <<< (iZ (k.val : Int) &&& 31))) = iZ (n.val : Int) := by decide +kernel
theorem jR_ex {x : Ctx} : ∀ (F : List (List Cmd)) (k n : Nat), (∀ l ∈ F, ∀ (x : Ctx) (tk : Int32), ∃ v, (v = iZ 0 ∨ v = iZ 1) ∧ evs l x tk [] [v]) → k + F.length ≤ 8 → n < 2 ^ k → ∃ m : Nat, m < 2 ^ (k + F.length) ∧ jR F x k (iZ (n : Int)) (iZ (m : Int)) := by
  intro F
  induction F with
  | nil => intro k n _ _ hn; exact ⟨n, hn, rfl⟩
  | cons l F ih =>
    intro k n hF hk hn
    rw [List.length_cons] at hk
    have n256 : n < 256 := Nat.lt_of_lt_of_le hn (Nat.le_trans (Nat.pow_le_pow_right (by decide) (show k ≤ 8 by omega)) (by decide))
    obtain ⟨v, hv, ev⟩ := hF l List.mem_cons_self x (iZ (n : Int))
    have hF2 : ∀ l ∈ F, ∀ (x : Ctx) (tk : Int32), ∃ v, (v = iZ 0 ∨ v = iZ 1) ∧ evs l x tk [] [v] := fun y hy => hF y (List.mem_cons_of_mem _ hy)
    have p2 : 2 ^ (k + 1) = 2 ^ k + 2 ^ k := by rw [Nat.pow_succ]; omega
    rcases hv with rfl | rfl
    · obtain ⟨m, m1, m2⟩ := ih (k + 1) n hF2 (by omega) (by omega)
      refine ⟨m, by rw [List.length_cons, show k + (F.length + 1) = k + 1 + F.length by omega]; exact m1, _, ev, ?_⟩
      rw [or_no ⟨k, by omega⟩ ⟨n, n256⟩]
      exact m2
    · obtain ⟨m, m1, m2⟩ := ih (k + 1) (n + 2 ^ k) hF2 (by omega) (by omega)
      refine ⟨m, by rw [List.length_cons, show k + (F.length + 1) = k + 1 + F.length by omega]; exact m1, _, ev, ?_⟩
      rw [or_bit ⟨k, by omega⟩ ⟨n, n256⟩ hn]
      exact m2
theorem tk_ex {B : Bk} (x : Ctx) (bn : bkN B) (p : bkP B) : ∃ tk : Int32, jR B.2.1 x 0 (iZ 0) tk ∧ 0 ≤ tk.toInt ∧ tk.toInt < 256 := by
  have f8 := bn.2.2.2.1
  obtain ⟨m, m1, m2⟩ := jR_ex (x := x) B.2.1 0 0 p.2.1 (by omega) (by decide)
  have m3 : m < 256 := Nat.lt_of_lt_of_le m1 (Nat.le_trans (Nat.pow_le_pow_right (by decide) (show 0 + B.2.1.length ≤ 8 by omega)) (by decide))
  refine ⟨iZ (m : Int), m2, ?_⟩
  rw [iZ_toInt (by omega) (by omega)]
  omega
theorem vs_ex {B : Bk} (x : Ctx) (tk : Int32) (p : bkP B) : ∃ vs, vsR B x tk vs ∧ vsR B x (iZ 0) vs := by
  have h : ∀ g : Nat, ∃ v : Int32, g < B.2.2.length → ((B.2.2.getD g g0).2.2.2.1 = 0 ∧ v = iZ 1) ∨ ((B.2.2.getD g g0).2.2.2.1 ≠ 0 ∧ evs (B.2.2.getD g g0).2.2.2.2 x tk [] [v]) := by
    intro g
    by_cases c : g < B.2.2.length
    · by_cases e : (B.2.2.getD g g0).2.2.2.1 = 0
      · exact ⟨iZ 1, fun _ => .inl ⟨e, rfl⟩⟩
      · obtain ⟨v, hv⟩ := (p.2.2 g c).2 e x tk
        exact ⟨v, fun _ => .inr ⟨e, hv⟩⟩
    · exact ⟨iZ 0, fun z => absurd z c⟩
  obtain ⟨vs, hv⟩ := Classical.axiomOfChoice h
  refine ⟨vs, fun g hg => hv g hg, fun g hg => ?_⟩
  rcases hv g hg with a | ⟨a, b⟩
  · exact .inl a
  · exact .inr ⟨a, evs_tk _ _ _ (p.2.2 g hg).1 b⟩
