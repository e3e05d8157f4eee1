/-! Writing and reading: a text that grows by tokens is read as these tokens. -/
abbrev Sg : Type := Nat × Int × Int
def pj (t : Tok) : Sg := (t.1, t.2.2.1, t.2.2.2)
def alN (c : Int) : Bool := isLt c || isDg c
def lstC (l : List Int) : Int := l.getLast?.getD 0
/-- whether a text ends with a letter or a digit -/
def enN (tp : List Int) : Bool := alN (lstC tp)
theorem lst_app (a w : List Int) (h : w ≠ []) : lstC (a ++ w) = lstC w := by
  unfold lstC
  rw [List.getLast?_append]
  cases e : w.getLast? with
  | none => exact absurd (List.getLast?_eq_none_iff.mp e) h
  | some x => rfl
theorem enN_app (a w : List Int) (h : w ≠ []) : enN (a ++ w) = enN w := by unfold enN; rw [lst_app a w h]
theorem by_app (tp r : List Int) (i : Nat) : by_ (tp ++ r) (tp.length + i) = r.getD i 0 := by
  unfold by_
  rw [List.getD_eq_getElem?_getD, List.getD_eq_getElem?_getD, List.getElem?_append_right (by omega), Nat.add_sub_cancel_left]
/-- what one token's letters are -/
def tk1 (w : List Int) (g : Sg) : Prop := (ltL w ∧ w ≠ [] ∧ w.length ≤ 8 ∧ kindW (enc w) ≠ 1 ∧ g = (kindW (enc w), 0, if kindW (enc w) = 2 then enc w else 0)) ∨ (dgL w ∧ w ≠ [] ∧ w.length ≤ 4 ∧ g = (3, nbF w 0, 0)) ∨ (∃ c, w = [c] ∧ isLt c = false ∧ isDg c = false ∧ isBk c = false ∧ kindS c ≠ 1 ∧ g = (kindS c, 0, 0))
theorem tk1_ne {w : List Int} {g : Sg} (h : tk1 w g) : w ≠ [] := by
  rcases h with h | h | ⟨c, h, -⟩
  · exact h.2.1
  · exact h.2.1
  · rw [h]; exact List.cons_ne_nil _ _
/-- a run of one sort, seen from its start -/
theorem rn_run {f : Int → Bool} {T : List Int} (m : Nat) : ∀ k, (∀ j, j < m → k + j < T.length ∧ f (by_ T (k + j)) = true) → ¬ (k + m < T.length ∧ f (by_ T (k + m)) = true) → rn f T k = k + m := by
  induction m with
  | zero => intro k _ h; exact rn_e h
  | succ m ih =>
    intro k h1 h2
    have h := h1 0 (Nat.succ_pos _)
    rw [Nat.add_zero] at h
    rw [rn_s h.1 h.2, ih (k + 1) (fun j hj => by have := h1 (j + 1) (by omega); rw [show k + 1 + j = k + (j + 1) by omega]; exact this) (by rw [show k + 1 + m = k + (m + 1) by omega]; exact h2)]
    omega
theorem lexF_bk {T : List Int} {k n : Nat} (h : k < T.length) (hb : isBk (by_ T k) = true) : lexF T n k = lexF T n (k + 1) := by
  have e := rn_s h hb
  cases n with
  | zero => show (if rn isBk T k < T.length then _ else _) = (if rn isBk T (k + 1) < T.length then _ else _); rw [e]
  | succ n => show (if rn isBk T k < T.length then _ else _) = (if rn isBk T (k + 1) < T.length then _ else _); rw [e]
theorem lexF_tk {T : List Int} {k n : Nat} (h : k < T.length) (hb : isBk (by_ T k) = false) (h1 : (tkA T k).1 ≠ 1) : lexF T (n + 1) k = tkA T k :: lexF T n (tkE T k) := by
  have e : rn isBk T k = k := rn_e (fun z => by rw [hb] at z; cases z.2)
  show (if rn isBk T k < T.length then _ else _) = _
  rw [e, if_pos h, if_neg h1]
theorem lt_bk {c : Int} (h : isLt c = true) : isBk c = false ∧ isDg c = false := by
  have := isLt_t.mp h
  constructor
  · exact decide_eq_false (by omega)
  · exact decide_eq_false (by omega)
theorem dg_bk {c : Int} (h : isDg c = true) : isBk c = false ∧ isLt c = false := by
  have := isDg_t.mp h
  constructor
  · exact decide_eq_false (by omega)
  · exact decide_eq_false (by omega)
/-- one token at k -/
theorem lex_1 {T w : List Int} {g : Sg} {k n : Nat} (t : tk1 w g) (hl : k + w.length ≤ T.length) (hw : ∀ j, j < w.length → by_ T (k + j) = w.getD j 0) (he : k + w.length < T.length → alN (lstC w) = true → alN (by_ T (k + w.length)) = false) : ∃ y, pj y = g ∧ lexF T (n + 1) k = y :: lexF T n (k + w.length) := by
  have w0 : 0 < w.length := List.length_pos_iff.mpr (tk1_ne t)
  have b0 : by_ T k = w.getD 0 0 := hw 0 w0
  have gm : ∀ j, j < w.length → w.getD j 0 ∈ w := fun j hj => by rw [List.getD_eq_getElem?_getD, List.getElem?_eq_getElem hj]; exact List.getElem_mem hj
  have sl : slc T w.length k = w := (slc_eq T w w.length k).mpr ⟨rfl, hw⟩
  have la : lstC w ∈ w := by
    unfold lstC
    rw [List.getLast?_eq_some_getLast (tk1_ne t)]
    exact List.getLast_mem _
  rcases t with ⟨t1, t2, t3, t4, rfl⟩ | ⟨t1, t2, t3, rfl⟩ | ⟨c, rfl, c1, c2, c3, c4, rfl⟩
  · have a0 : isLt (by_ T k) = true := by rw [b0]; exact isLt_t.mpr (t1 _ (gm 0 w0))
    have al : alN (lstC w) = true := by unfold alN; rw [isLt_t.mpr (t1 _ la)]; rfl
    have run : rn isLt T k = k + w.length := rn_run w.length k (fun j hj => ⟨by omega, by rw [hw j hj]; exact isLt_t.mpr (t1 _ (gm j hj))⟩) (fun z => by
      have := he z.1 al
      unfold alN at this
      rw [z.2] at this; cases this)
    have eE : tkE T k = k + w.length := by unfold tkE; rw [if_pos a0, run]
    have eA : tkA T k = (kindW (enc w), (k : Int), 0, if kindW (enc w) = 2 then enc w else 0) := by
      unfold tkA
      rw [if_pos a0, eE, if_pos (by omega)]
      unfold wdO
      rw [Nat.add_sub_cancel_left, sl]
    refine ⟨tkA T k, by rw [eA]; rfl, ?_⟩
    rw [lexF_tk (by omega) (lt_bk a0).1 (by rw [eA]; exact t4), eE]
  · have a0 : isDg (by_ T k) = true := by rw [b0]; exact isDg_t.mpr (t1 _ (gm 0 w0))
    have al : alN (lstC w) = true := by unfold alN; rw [isDg_t.mpr (t1 _ la), Bool.or_true]
    have nl : ¬ isLt (by_ T k) = true := by rw [(dg_bk a0).2]; decide
    have run : rn isDg T k = k + w.length := rn_run w.length k (fun j hj => ⟨by omega, by rw [hw j hj]; exact isDg_t.mpr (t1 _ (gm j hj))⟩) (fun z => by
      have := he z.1 al
      unfold alN at this
      rw [z.2, Bool.or_true] at this; cases this)
    have eE : tkE T k = k + w.length := by unfold tkE; rw [if_neg nl, if_pos a0, run]
    have eA : tkA T k = (3, (k : Int), nbF w 0, 0) := by
      unfold tkA
      rw [if_neg nl, if_pos a0, eE, if_pos (by omega)]
      unfold nbO
      rw [Nat.add_sub_cancel_left, sl]
    refine ⟨tkA T k, by rw [eA]; rfl, ?_⟩
    rw [lexF_tk (by omega) (dg_bk a0).1 (by rw [eA]; show 3 ≠ 1; decide), eE]
  · have b1 : by_ T k = c := b0
    have nl : ¬ isLt (by_ T k) = true := by rw [b1, c1]; decide
    have nd : ¬ isDg (by_ T k) = true := by rw [b1, c2]; decide
    have eE : tkE T k = k + 1 := by unfold tkE; rw [if_neg nl, if_neg nd]
    have eA : tkA T k = (kindS c, (k : Int), 0, 0) := by unfold tkA; rw [if_neg nl, if_neg nd, b1]
    refine ⟨tkA T k, by rw [eA]; rfl, ?_⟩
    rw [lexF_tk (by have : k + 1 ≤ T.length := hl; omega) (by rw [b1]; exact c3) (by rw [eA]; exact c4), eE]
    rfl
/-- whatever follows that does not prolong its end, the text is read as the tokens ks first -/
def LXs (tp : List Int) (ks : List Sg) : Prop := ∀ (rest : List Int) (n : Nat), ks.length ≤ n → (rest ≠ [] → enN tp = true → alN (rest.getD 0 0) = false) → ∃ tks : List Tok, tks.map pj = ks ∧ lexF (tp ++ rest) n 0 = tks ++ lexF (tp ++ rest) (n - ks.length) tp.length
theorem LXs_nil : LXs [] [] := fun rest n _ _ => ⟨[], rfl, rfl⟩
theorem LXs_bk {tp : List Int} {ks : List Sg} {c : Int} (h : LXs tp ks) (hc : isBk c = true) : LXs (tp ++ [c]) ks ∧ enN (tp ++ [c]) = false := by
  have nc : alN c = false := by
    unfold alN
    have := isBk_t.mp hc
    rw [Bool.or_eq_false_iff]
    exact ⟨decide_eq_false (by omega), decide_eq_false (by omega)⟩
  refine ⟨fun rest n hn _ => ?_, by rw [enN_app _ _ (List.cons_ne_nil _ _)]; exact nc⟩
  obtain ⟨tks, h1, h2⟩ := h (c :: rest) n hn (fun _ _ => nc)
  have e : tp ++ [c] ++ rest = tp ++ c :: rest := by rw [List.append_assoc]; rfl
  refine ⟨tks, h1, ?_⟩
  rw [e, h2, lexF_bk (T := tp ++ c :: rest) (k := tp.length) (by rw [List.length_append]; show tp.length < tp.length + (rest.length + 1); omega) (by have := by_app tp (c :: rest) 0; rw [Nat.add_zero] at this; rw [this]; exact hc), List.length_append]
  rfl
theorem LXs_tk {tp w : List Int} {ks : List Sg} {g : Sg} (h : LXs tp ks) (t : tk1 w g) (hj : enN tp = true → alN (w.getD 0 0) = false) : LXs (tp ++ w) (ks ++ [g]) ∧ enN (tp ++ w) = enN w := by
  have wn := tk1_ne t
  have w0 : 0 < w.length := List.length_pos_iff.mpr wn
  have ew := enN_app tp w wn
  refine ⟨fun rest n hn hr => ?_, ew⟩
  rw [List.length_append] at hn
  replace hn : ks.length + 1 ≤ n := hn
  have g0 : ∀ j, j < w.length → (w ++ rest).getD j 0 = w.getD j 0 := fun j hj => by rw [List.getD_eq_getElem?_getD, List.getD_eq_getElem?_getD, List.getElem?_append_left hj]
  obtain ⟨tks, h1, h2⟩ := h (w ++ rest) n (by omega) (fun _ z => by rw [g0 0 w0]; exact hj z)
  have e : tp ++ w ++ rest = tp ++ (w ++ rest) := List.append_assoc ..
  have hl : (tp ++ (w ++ rest)).length = tp.length + w.length + rest.length := by rw [List.length_append, List.length_append]; omega
  obtain ⟨y, y1, y2⟩ := lex_1 (T := tp ++ (w ++ rest)) (k := tp.length) (n := n - ks.length - 1) t (by omega) (fun j hj => by rw [by_app, g0 j hj]) (fun l a => by
    rw [by_app, List.getD_eq_getElem?_getD, List.getElem?_append_right (Nat.le_refl _), Nat.sub_self, ← List.getD_eq_getElem?_getD]
    have r0 : rest ≠ [] := by
      intro z
      rw [z] at hl
      have : ([] : List Int).length = 0 := rfl
      rw [z] at l
      omega
    exact hr r0 (by rw [ew]; exact a))
  refine ⟨tks ++ [y], by rw [List.map_append, h1]; show ks ++ [pj y] = _; rw [y1], ?_⟩
  rw [e, h2, show n - ks.length = n - ks.length - 1 + 1 by omega, y2, List.append_assoc, List.length_append, List.length_append]
  show tks ++ (y :: lexF _ _ _) = tks ++ ([y] ++ lexF _ (n - (ks.length + 1)) _)
  rw [show n - (ks.length + 1) = n - ks.length - 1 by omega]
  rfl
/-- the whole text -/
theorem LXs_end {tp : List Int} {ks : List Sg} (h : LXs tp ks) (hk : ks.length ≤ 400) : ∃ (tks : List Tok) (y : Tok), tks.map pj = ks ∧ y.1 = 0 ∧ y.2.2.1 = 0 ∧ y.2.2.2 = 0 ∧ lex tp = tks ++ [y] := by
  obtain ⟨tks, h1, h2⟩ := h [] 400 hk (fun z => absurd rfl z)
  rw [List.append_nil] at h2
  have e : rn isBk tp tp.length = tp.length := rn_e (fun z => by omega)
  refine ⟨tks, (0, (tp.length : Int), 0, 0), h1, rfl, rfl, rfl, ?_⟩
  show lexF tp 400 0 = _
  rw [h2]
  congr 1
  cases 400 - ks.length with
  | zero => show (if rn isBk tp tp.length < tp.length then _ else _) = _; rw [e, if_neg (Nat.lt_irrefl _)]
  | succ n => show (if rn isBk tp tp.length < tp.length then _ else _) = _; rw [e, if_neg (Nat.lt_irrefl _)]
