/-! The class's windows of a goose: counting a comma, looking at what is over. -/
/-- what two values make together -/
def mx (a b : Int32) : Int32 := if a < b then b else a
def mi (a b : Int32) : Int32 := if b < a then b else a
def jn (tl : Nat) (a b : Int32) : Int32 := if tl = 2 then mx a b else if tl = 3 then mi a b else a + b
theorem jn_2 {tl : Nat} {a b : Int32} (h : tl = 2) : jn tl a b = if a < b then b else a := by rw [jn, if_pos h]; rfl
theorem jn_3 {tl : Nat} {a b : Int32} (h : tl = 3) : jn tl a b = if b < a then b else a := by rw [jn, if_neg (by omega), if_pos h]; rfl
theorem jn_s {tl : Nat} {a b : Int32} (h : tl ≠ 2) (h' : tl ≠ 3) : jn tl a b = a + b := by rw [jn, if_neg h, if_neg h']
/-- a goose of the class at ga -/
def gooC (h : PH) (ga : Nat) (wd st : Int) (tl : Nat) : Prop := h.1 ga 2 = iZ wd ∧ h.1 ga 3 = iZ st ∧ h.2.2.1 ga 4 = (40, 0, 21 + tl) ∧ tl < 4 ∧ 1 ≤ wd ∧ wd ≤ 200 ∧ 1 ≤ st ∧ st ≤ 200
theorem gooC_eq {h h' : PH} {ga : Nat} {wd st : Int} {tl : Nat} (go : gooC h ga wd st tl) (e : h'.1 ga = h.1 ga) (e2 : h'.2 = h.2) : gooC h' ga wd st tl := by
  unfold gooC
  rw [e, e2]
  exact go
theorem sp_joined {d ga tl : Nat} {wd st : Int} {a b : Int32} {h : PH} (go : gooC h ga wd st tl) : Rv d 95 [.inr (.inr (.inr (4, 0, ga))), .inl (a), .inl (b)] h (some (.inl (jn tl a b))) h := Rv.of fun Q q => by
  refine Ev.sts 1 (c' := (1, [some (.inr (.inr (.inr (4, 0, ga)))), some (.inl (a)), some (.inl (b))], [.inr (.inr (.inr (4, 0, ga)))], h)) rfl ?_
  refine Ev.gfr (r := (40, 0, 21 + tl)) rfl go.2.2.1 ?_
  refine Ev.sts 1 (c' := (7, [some (.inr (.inr (.inr (4, 0, ga)))), some (.inl (a)), some (.inl (b))], [.inr (.inr (.inr (40, 0, 23))), .inr (.inr (.inr (40, 0, 21 + tl)))], h)) rfl ?_
  refine Ev.br (p := ¬ 21 + tl = 23) (c1 := (16, [some (.inr (.inr (.inr (4, 0, ga)))), some (.inl (a)), some (.inl (b))], [], h)) (c2 := (10, [some (.inr (.inr (.inr (4, 0, ga)))), some (.inl (a)), some (.inl (b))], [], h)) rfl (fun c0 => ?_) (fun c0 => ?_)
  · refine Ev.sts 1 (c' := (17, [some (.inr (.inr (.inr (4, 0, ga)))), some (.inl (a)), some (.inl (b))], [.inr (.inr (.inr (4, 0, ga)))], h)) rfl ?_
    refine Ev.gfr (r := (40, 0, 21 + tl)) rfl go.2.2.1 ?_
    refine Ev.sts 1 (c' := (23, [some (.inr (.inr (.inr (4, 0, ga)))), some (.inl (a)), some (.inl (b))], [.inr (.inr (.inr (40, 0, 24))), .inr (.inr (.inr (40, 0, 21 + tl)))], h)) rfl ?_
    refine Ev.br (p := ¬ 21 + tl = 24) (c1 := (32, [some (.inr (.inr (.inr (4, 0, ga)))), some (.inl (a)), some (.inl (b))], [], h)) (c2 := (26, [some (.inr (.inr (.inr (4, 0, ga)))), some (.inl (a)), some (.inl (b))], [], h)) rfl (fun c1 => ?_) (fun c1 => ?_)
    · refine Ev.sts 3 (c' := (35, [some (.inr (.inr (.inr (4, 0, ga)))), some (.inl (a)), some (.inl (b))], [.inl ((a + b))], h)) rfl ?_
      exact Ev.ret rfl (by rw [jn_s (by omega) (by omega)] at q; exact q)
    · refine Ev.sts 3 (c' := (31, [some (.inr (.inr (.inr (4, 0, ga)))), some (.inl (a)), some (.inl (b))], [.inl ((if b < a then b else a))], h)) rfl ?_
      exact Ev.ret rfl (by rw [jn_3 (by omega)] at q; exact q)
  · refine Ev.sts 3 (c' := (15, [some (.inr (.inr (.inr (4, 0, ga)))), some (.inl (a)), some (.inl (b))], [.inl ((if a < b then b else a))], h)) rfl ?_
    exact Ev.ret rfl (by rw [jn_2 (by omega)] at q; exact q)

/-- how many windows end at m or ahead -/
def cntO : List Win → Int → Nat
  | [], _ => 0
  | w :: W, m => (if w.2.1 ≤ m then 1 else 0) + cntO W m
def fstE : List Win → Int → Int
  | [], a => a
  | w :: W, a => fstE W (min a w.2.1)
theorem drop_get {α : Type} (d : α) (W : List α) : ∀ (k : Nat), k < W.length → W.drop k = W.getD k d :: W.drop (k + 1) := by
  induction W with
  | nil => intro k hk; exact absurd hk (Nat.not_lt_zero _)
  | cons w W ih =>
    intro k hk
    match k with
    | 0 => rfl
    | k + 1 => exact ih k (by simpa using hk)
theorem cntO_le (W : List Win) (m : Int) : cntO W m ≤ W.length := by
  induction W with
  | nil => exact Nat.le_refl _
  | cons w W ih =>
    show (if w.2.1 ≤ m then 1 else 0) + cntO W m ≤ W.length + 1
    split <;> omega




/-- a comma of value v in the window that starts at s -/
def cin (wd : Int) (tl : Nat) (v : Int32) (W : List Win) (s : Int) : List Win :=
  if pl W s < W.length ∧ (W.getD (pl W s) w0).1 = s then W.set (pl W s) (s, (W.getD (pl W s) w0).2.1, (W.getD (pl W s) w0).2.2.1 + 1, jn tl (W.getD (pl W s) w0).2.2.2 v) else insW W (s, s + wd, 1, v)
theorem cin_p {wd : Int} {tl : Nat} {v : Int32} {W : List Win} {s : Int} (c : pl W s < W.length ∧ (W.getD (pl W s) w0).1 = s) : cin wd tl v W s = W.set (pl W s) (s, (W.getD (pl W s) w0).2.1, (W.getD (pl W s) w0).2.2.1 + 1, jn tl (W.getD (pl W s) w0).2.2.2 v) := if_pos c
theorem cin_n {wd : Int} {tl : Nat} {v : Int32} {W : List Win} {s : Int} (c : ¬ (pl W s < W.length ∧ (W.getD (pl W s) w0).1 = s)) : cin wd tl v W s = insW W (s, s + wd, 1, v) := if_neg c
theorem cin_len (wd : Int) (tl : Nat) (v : Int32) (W : List Win) (s : Int) : W.length ≤ (cin wd tl v W s).length ∧ (cin wd tl v W s).length ≤ W.length + 1 := by
  unfold cin
  split
  · rw [List.length_set]; omega
  · rw [insW_len]; omega
theorem cin_B {wd : Int} {tl : Nat} {v : Int32} {W : List Win} {s N : Int} (hn : wsB N W) (hN : 0 ≤ N) (h1 : 0 ≤ s) (h2 : s < 1000) (h3 : 1 ≤ wd) (h4 : wd ≤ 200) : wsB (N + 1) (cin wd tl v W s) := by
  intro j hj
  have hl := (cin_len wd tl v W s).2
  by_cases c : pl W s < W.length ∧ (W.getD (pl W s) w0).1 = s
  · rw [cin_p c] at hj ⊢
    rw [List.length_set] at hj
    rw [set_get _ _ _ _ c.1]
    by_cases c1 : j = pl W s
    · rw [if_pos c1]
      obtain ⟨b1, b2, b3, b4, b5, b6⟩ := hn _ c.1
      exact ⟨h1, h2, b3, b4, by show 1 ≤ _ + 1; omega, by show _ + 1 ≤ N + 1; omega⟩
    · rw [if_neg c1]
      obtain ⟨b1, b2, b3, b4, b5, b6⟩ := hn _ hj
      exact ⟨b1, b2, b3, b4, b5, by omega⟩
  · rw [cin_n c] at hj ⊢
    rw [insW_len] at hj
    rw [insW_get]
    have hp := pl_le W s
    show wB (N + 1) (if j < pl W s then W.getD j w0 else if j = pl W s then (s, s + wd, 1, v) else W.getD (j - 1) w0)
    by_cases c1 : j < pl W s
    · rw [if_pos c1]
      obtain ⟨b1, b2, b3, b4, b5, b6⟩ := hn j (by omega)
      exact ⟨b1, b2, b3, b4, b5, by omega⟩
    · by_cases c2 : j = pl W s
      · rw [if_neg c1, if_pos c2]
        exact ⟨h1, h2, by show 0 ≤ s + wd; omega, by show s + wd < 1300; omega, by show (1 : Int) ≤ 1; omega, by show 1 ≤ N + 1; omega⟩
      · rw [if_neg c1, if_neg c2]
        obtain ⟨b1, b2, b3, b4, b5, b6⟩ := hn (j - 1) (by omega)
        exact ⟨b1, b2, b3, b4, b5, by omega⟩
theorem cin_set {h : PH} {g : Nat} {W : List Win} {s : Int} {tl : Nat} {v : Int32} {wd : Int} (hw : winC h g W) (c : pl W s < W.length ∧ (W.getD (pl W s) w0).1 = s) : winC (setW h g (pl W s) (iZ s, iZ (W.getD (pl W s) w0).2.1, iZ ((W.getD (pl W s) w0).2.2.1 + 1), jn tl (W.getD (pl W s) w0).2.2.2 v)) g (cin wd tl v W s) := by
  rw [cin_p c]
  refine ⟨?_, by rw [List.length_set]; exact hw.2.1, ?_⟩
  · rw [List.length_set]
    exact (congrFun (setW_oth (by omega)) 4).trans hw.1
  · intro j hj
    rw [List.length_set] at hj
    rw [wr_setW, set_get _ _ _ _ c.1]
    by_cases c1 : j = pl W s
    · rw [if_pos c1, if_pos c1]; rfl
    · rw [if_neg c1, if_neg c1]; exact hw.2.2 j hj
theorem sp_countIn {d g ga tl : Nat} {s N wd st : Int} {v : Int32} {W : List Win} {h : PH} {Q : Rs → PH → Prop} (sh : Sh h) (hg : g < 6) (hw : winC h g W) (hn : wsB N W) (hN : N ≤ 1900) (hl : W.length < 128) (go : gooC h ga wd st tl) (hs : 0 ≤ s ∧ s < 1000) (q : ∀ h1, fw g h h1 → winC h1 g (cin wd tl v W s) → Q (.inl none) h1) : Rn (d + 3) 158 [.inr (.inr (.inr (10, 0, (32 + 5 * g)))), .inr (.inr (.inr (4, 0, ga))), .inl (iZ (s)), .inl (v)] h Q := by
  have hp := pl_le W s
  obtain ⟨g1, g2, g3, g4, g5, g6, g7, g8⟩ := go
  have go : gooC h ga wd st tl := ⟨g1, g2, g3, g4, g5, g6, g7, g8⟩
  refine Ev.sts 2 (c' := (2, [some (.inr (.inr (.inr (10, 0, (32 + 5 * g))))), some (.inr (.inr (.inr (4, 0, ga)))), some (.inl (iZ (s))), some (.inl (v)), none], [.inl (iZ (s)), .inr (.inr (.inr (10, 0, (32 + 5 * g))))], h)) rfl ?_
  refine Ev.callv (a := [.inr (.inr (.inr (10, 0, (32 + 5 * g)))), .inl (iZ (s))]) rfl (sp_placeFor sh hg hw hn hN ⟨by omega, by omega⟩) ?_
  refine Ev.sts 3 (c' := (10, [some (.inr (.inr (.inr (10, 0, (32 + 5 * g))))), some (.inr (.inr (.inr (4, 0, ga)))), some (.inl (iZ (s))), some (.inl (v)), some (.inl (iZ (pl W s)))], [.inr (.inr (.inr (10, 0, (32 + 5 * g)))), .inl (iZ (pl W s))], h)) rfl ?_
  refine Ev.gv (w := (iZ (W.length))) rfl hw.1 ?_
  refine Ev.brc (p := (iZ (W.length)) ≤ (iZ (pl W s))) (q := ((W.length : Int)) ≤ (pl W s)) (c1 := (73, [some (.inr (.inr (.inr (10, 0, (32 + 5 * g))))), some (.inr (.inr (.inr (4, 0, ga)))), some (.inl (iZ (s))), some (.inl (v)), some (.inl (iZ (pl W s)))], [], h)) (c2 := (16, [some (.inr (.inr (.inr (10, 0, (32 + 5 * g))))), some (.inr (.inr (.inr (4, 0, ga)))), some (.inl (iZ (s))), some (.inl (v)), some (.inl (iZ (pl W s)))], [], h)) rfl (iZ_le ⟨by omega, by omega⟩ ⟨by omega, by omega⟩) (fun c0 => ?_) (fun c0 => ?_)
  · refine Ev.sts 4 (c' := (77, [some (.inr (.inr (.inr (10, 0, (32 + 5 * g))))), some (.inr (.inr (.inr (4, 0, ga)))), some (.inl (iZ (s))), some (.inl (v)), some (.inl (iZ (pl W s)))], [.inr (.inr (.inr (4, 0, ga))), .inl (iZ (s)), .inl (iZ (s)), .inr (.inr (.inr (10, 0, (32 + 5 * g))))], h)) rfl ?_
    refine Ev.gv (w := (iZ (wd))) rfl go.1 ?_
    refine Ev.gv (w := (iZ (s + wd))) rfl (iZ_add _ _) ?_
    refine Ev.sts 2 (c' := (83, [some (.inr (.inr (.inr (10, 0, (32 + 5 * g))))), some (.inr (.inr (.inr (4, 0, ga)))), some (.inl (iZ (s))), some (.inl (v)), some (.inl (iZ (pl W s)))], [.inl (v), .inl (iZ (1)), .inl (iZ (s + wd)), .inl (iZ (s)), .inr (.inr (.inr (10, 0, (32 + 5 * g))))], h)) rfl ?_
    refine Ev.callw (a := [.inr (.inr (.inr (10, 0, (32 + 5 * g)))), .inl (iZ (s)), .inl (iZ (s + wd)), .inl (iZ (1)), .inl (v)]) rfl (sp_insert sh hg hw hn hN (by omega) ⟨by omega, by omega⟩ (fun h1 f1 w1 => ?_))
    have e := cin_n (wd := wd) (tl := tl) (v := v) (W := W) (s := s) (by omega)
    rw [e] at q
    exact Ev.ret rfl (q _ f1 w1)
  · obtain ⟨b1, b2, b3, b4, b5, b6⟩ := hn (pl W s) (by omega)
    refine Ev.sts 1 (c' := (17, [some (.inr (.inr (.inr (10, 0, (32 + 5 * g))))), some (.inr (.inr (.inr (4, 0, ga)))), some (.inl (iZ (s))), some (.inl (v)), some (.inl (iZ (pl W s)))], [.inr (.inr (.inr (10, 0, (32 + 5 * g))))], h)) rfl ?_
    refine Ev.gfr (r := (20, 128, (33 + 5 * g))) rfl (sh_w0 sh hg) ?_
    refine Ev.sts 1 (c' := (22, [some (.inr (.inr (.inr (10, 0, (32 + 5 * g))))), some (.inr (.inr (.inr (4, 0, ga)))), some (.inl (iZ (s))), some (.inl (v)), some (.inl (iZ (pl W s)))], [.inl (iZ (pl W s)), .inr (.inr (.inr (20, 128, (33 + 5 * g))))], h)) rfl ?_
    refine Ev.callv (a := [.inr (.inr (.inr (20, 128, (33 + 5 * g)))), .inl (iZ (pl W s))]) rfl (sp_at (k := pl W s) (by omega) (by omega) (by omega) (winC_s hw (by omega))) ?_
    refine Ev.sts 1 (c' := (26, [some (.inr (.inr (.inr (10, 0, (32 + 5 * g))))), some (.inr (.inr (.inr (4, 0, ga)))), some (.inl (iZ (s))), some (.inl (v)), some (.inl (iZ (pl W s)))], [.inl (iZ (s)), .inl (iZ ((W.getD (pl W s) w0).1))], h)) rfl ?_
    refine Ev.brc (p := ¬ (iZ ((W.getD (pl W s) w0).1)) = (iZ (s))) (q := ¬ (((W.getD (pl W s) w0).1 : Int)) = s) (c1 := (73, [some (.inr (.inr (.inr (10, 0, (32 + 5 * g))))), some (.inr (.inr (.inr (4, 0, ga)))), some (.inl (iZ (s))), some (.inl (v)), some (.inl (iZ (pl W s)))], [], h)) (c2 := (29, [some (.inr (.inr (.inr (10, 0, (32 + 5 * g))))), some (.inr (.inr (.inr (4, 0, ga)))), some (.inl (iZ (s))), some (.inl (v)), some (.inl (iZ (pl W s)))], [], h)) rfl (not_congr (iZ_eq ⟨by omega, by omega⟩ ⟨by omega, by omega⟩)) (fun c1 => ?_) (fun c1 => ?_)
    · refine Ev.sts 4 (c' := (77, [some (.inr (.inr (.inr (10, 0, (32 + 5 * g))))), some (.inr (.inr (.inr (4, 0, ga)))), some (.inl (iZ (s))), some (.inl (v)), some (.inl (iZ (pl W s)))], [.inr (.inr (.inr (4, 0, ga))), .inl (iZ (s)), .inl (iZ (s)), .inr (.inr (.inr (10, 0, (32 + 5 * g))))], h)) rfl ?_
      refine Ev.gv (w := (iZ (wd))) rfl go.1 ?_
      refine Ev.gv (w := (iZ (s + wd))) rfl (iZ_add _ _) ?_
      refine Ev.sts 2 (c' := (83, [some (.inr (.inr (.inr (10, 0, (32 + 5 * g))))), some (.inr (.inr (.inr (4, 0, ga)))), some (.inl (iZ (s))), some (.inl (v)), some (.inl (iZ (pl W s)))], [.inl (v), .inl (iZ (1)), .inl (iZ (s + wd)), .inl (iZ (s)), .inr (.inr (.inr (10, 0, (32 + 5 * g))))], h)) rfl ?_
      refine Ev.callw (a := [.inr (.inr (.inr (10, 0, (32 + 5 * g)))), .inl (iZ (s)), .inl (iZ (s + wd)), .inl (iZ (1)), .inl (v)]) rfl (sp_insert sh hg hw hn hN (by omega) ⟨by omega, by omega⟩ (fun h1 f1 w1 => ?_))
      have e := cin_n (wd := wd) (tl := tl) (v := v) (W := W) (s := s) (by omega)
      rw [e] at q
      exact Ev.ret rfl (q _ f1 w1)
    · refine Ev.sts 4 (c' := (34, [some (.inr (.inr (.inr (10, 0, (32 + 5 * g))))), some (.inr (.inr (.inr (4, 0, ga)))), some (.inl (iZ (s))), some (.inl (v)), some (.inl (iZ (pl W s)))], [.inr (.inr (.inr (10, 0, (32 + 5 * g)))), .inl (iZ (s)), .inl (iZ (pl W s)), .inr (.inr (.inr (10, 0, (32 + 5 * g))))], h)) rfl ?_
      refine Ev.gfr (r := (20, 128, (34 + 5 * g))) rfl (sh_w1 sh hg) ?_
      refine Ev.sts 1 (c' := (39, [some (.inr (.inr (.inr (10, 0, (32 + 5 * g))))), some (.inr (.inr (.inr (4, 0, ga)))), some (.inl (iZ (s))), some (.inl (v)), some (.inl (iZ (pl W s)))], [.inl (iZ (pl W s)), .inr (.inr (.inr (20, 128, (34 + 5 * g)))), .inl (iZ (s)), .inl (iZ (pl W s)), .inr (.inr (.inr (10, 0, (32 + 5 * g))))], h)) rfl ?_
      refine Ev.callv (a := [.inr (.inr (.inr (20, 128, (34 + 5 * g)))), .inl (iZ (pl W s))]) rfl (sp_at (k := pl W s) (by omega) (by omega) (by omega) (winC_e hw (by omega))) ?_
      refine Ev.sts 1 (c' := (43, [some (.inr (.inr (.inr (10, 0, (32 + 5 * g))))), some (.inr (.inr (.inr (4, 0, ga)))), some (.inl (iZ (s))), some (.inl (v)), some (.inl (iZ (pl W s)))], [.inr (.inr (.inr (10, 0, (32 + 5 * g)))), .inl (iZ ((W.getD (pl W s) w0).2.1)), .inl (iZ (s)), .inl (iZ (pl W s)), .inr (.inr (.inr (10, 0, (32 + 5 * g))))], h)) rfl ?_
      refine Ev.gfr (r := (20, 128, (35 + 5 * g))) rfl (sh_w2 sh hg) ?_
      refine Ev.sts 1 (c' := (48, [some (.inr (.inr (.inr (10, 0, (32 + 5 * g))))), some (.inr (.inr (.inr (4, 0, ga)))), some (.inl (iZ (s))), some (.inl (v)), some (.inl (iZ (pl W s)))], [.inl (iZ (pl W s)), .inr (.inr (.inr (20, 128, (35 + 5 * g)))), .inl (iZ ((W.getD (pl W s) w0).2.1)), .inl (iZ (s)), .inl (iZ (pl W s)), .inr (.inr (.inr (10, 0, (32 + 5 * g))))], h)) rfl ?_
      refine Ev.callv (a := [.inr (.inr (.inr (20, 128, (35 + 5 * g)))), .inl (iZ (pl W s))]) rfl (sp_at (k := pl W s) (by omega) (by omega) (by omega) (winC_c hw (by omega))) ?_
      refine Ev.sts 1 (c' := (52, [some (.inr (.inr (.inr (10, 0, (32 + 5 * g))))), some (.inr (.inr (.inr (4, 0, ga)))), some (.inl (iZ (s))), some (.inl (v)), some (.inl (iZ (pl W s)))], [.inl (iZ (1)), .inl (iZ ((W.getD (pl W s) w0).2.2.1)), .inl (iZ ((W.getD (pl W s) w0).2.1)), .inl (iZ (s)), .inl (iZ (pl W s)), .inr (.inr (.inr (10, 0, (32 + 5 * g))))], h)) rfl ?_
      refine Ev.gv (w := (iZ (((W.getD (pl W s) w0).2.2.1) + 1))) rfl (iZ_add _ _) ?_
      refine Ev.sts 2 (c' := (55, [some (.inr (.inr (.inr (10, 0, (32 + 5 * g))))), some (.inr (.inr (.inr (4, 0, ga)))), some (.inl (iZ (s))), some (.inl (v)), some (.inl (iZ (pl W s)))], [.inr (.inr (.inr (10, 0, (32 + 5 * g)))), .inr (.inr (.inr (4, 0, ga))), .inl (iZ (((W.getD (pl W s) w0).2.2.1) + 1)), .inl (iZ ((W.getD (pl W s) w0).2.1)), .inl (iZ (s)), .inl (iZ (pl W s)), .inr (.inr (.inr (10, 0, (32 + 5 * g))))], h)) rfl ?_
      refine Ev.gfr (r := (20, 128, (36 + 5 * g))) rfl (sh_w3 sh hg) ?_
      refine Ev.sts 1 (c' := (60, [some (.inr (.inr (.inr (10, 0, (32 + 5 * g))))), some (.inr (.inr (.inr (4, 0, ga)))), some (.inl (iZ (s))), some (.inl (v)), some (.inl (iZ (pl W s)))], [.inl (iZ (pl W s)), .inr (.inr (.inr (20, 128, (36 + 5 * g)))), .inr (.inr (.inr (4, 0, ga))), .inl (iZ (((W.getD (pl W s) w0).2.2.1) + 1)), .inl (iZ ((W.getD (pl W s) w0).2.1)), .inl (iZ (s)), .inl (iZ (pl W s)), .inr (.inr (.inr (10, 0, (32 + 5 * g))))], h)) rfl ?_
      refine Ev.callv (a := [.inr (.inr (.inr (20, 128, (36 + 5 * g)))), .inl (iZ (pl W s))]) rfl (sp_at (k := pl W s) (by omega) (by omega) (by omega) (winC_v hw (by omega))) ?_
      refine Ev.sts 1 (c' := (64, [some (.inr (.inr (.inr (10, 0, (32 + 5 * g))))), some (.inr (.inr (.inr (4, 0, ga)))), some (.inl (iZ (s))), some (.inl (v)), some (.inl (iZ (pl W s)))], [.inl (v), .inl ((W.getD (pl W s) w0).2.2.2), .inr (.inr (.inr (4, 0, ga))), .inl (iZ (((W.getD (pl W s) w0).2.2.1) + 1)), .inl (iZ ((W.getD (pl W s) w0).2.1)), .inl (iZ (s)), .inl (iZ (pl W s)), .inr (.inr (.inr (10, 0, (32 + 5 * g))))], h)) rfl ?_
      refine Ev.callv (a := [.inr (.inr (.inr (4, 0, ga))), .inl ((W.getD (pl W s) w0).2.2.2), .inl (v)]) rfl (sp_joined go) ?_
      refine Ev.callv (a := [.inr (.inr (.inr (10, 0, (32 + 5 * g)))), .inl (iZ (pl W s)), .inl (iZ (s)), .inl (iZ ((W.getD (pl W s) w0).2.1)), .inl (iZ (((W.getD (pl W s) w0).2.2.1) + 1)), .inl ((jn tl ((W.getD (pl W s) w0).2.2.2) v))]) rfl (sp_set (p := pl W s) (w := ((iZ (s)), (iZ ((W.getD (pl W s) w0).2.1)), (iZ (((W.getD (pl W s) w0).2.2.1) + 1)), (jn tl ((W.getD (pl W s) w0).2.2.2) v))) (Sh_eq sh rfl) hg (by omega) (by omega)) ?_
      refine Ev.sts 1 (c' := (86, [some (.inr (.inr (.inr (10, 0, (32 + 5 * g))))), some (.inr (.inr (.inr (4, 0, ga)))), some (.inl (iZ (s))), some (.inl (v)), some (.inl (iZ (pl W s)))], [], (setW h g (pl W s) ((iZ (s)), (iZ ((W.getD (pl W s) w0).2.1)), (iZ (((W.getD (pl W s) w0).2.2.1) + 1)), (jn tl ((W.getD (pl W s) w0).2.2.2) v))))) rfl ?_
      exact Ev.ret rfl (q _ (fw_setW _ _ _ _) (cin_set hw ⟨by omega, by omega⟩))

/-- a comma in windows by steps -/
def cev (wd st hr wm : Int) (tl : Nat) (v : Int32) : Nat → List Win → Int → List Win
  | 0, W, _ => W
  | n + 1, W, s => if s < 0 then W else cev wd st hr wm tl v n (if hr < s + wd ∧ wm < s + wd then cin wd tl v W s else W) (s - st)
theorem sp_lastStart {d ga tl : Nat} {hr wd st : Int} {h : PH} (go : gooC h ga wd st tl) (hh : 0 ≤ hr ∧ hr < 1000) : Rv d 94 [.inr (.inr (.inr (4, 0, ga))), .inl (iZ (hr))] h (some (.inl (iZ (hr - hr % st)))) h := Rv.of fun Q q => by
  obtain ⟨g1, g2, g3, g4, g5, g6, g7, g8⟩ := go
  have go : gooC h ga wd st tl := ⟨g1, g2, g3, g4, g5, g6, g7, g8⟩
  refine Ev.sts 1 (c' := (1, [some (.inr (.inr (.inr (4, 0, ga)))), some (.inl (iZ (hr)))], [.inr (.inr (.inr (4, 0, ga)))], h)) rfl ?_
  refine Ev.gv (w := (iZ (st))) rfl go.2.1 ?_
  refine Ev.sts 1 (c' := (5, [some (.inr (.inr (.inr (4, 0, ga)))), some (.inl (iZ (hr)))], [.inl (iZ (1)), .inl (iZ (st))], h)) rfl ?_
  refine Ev.brT (p := (iZ (1)) ≤ (iZ (st))) (c1 := (12, [some (.inr (.inr (.inr (4, 0, ga)))), some (.inl (iZ (hr)))], [], h)) (c2 := (8, [some (.inr (.inr (.inr (4, 0, ga)))), some (.inl (iZ (hr)))], [], h)) ((iZ_le ⟨by omega, by omega⟩ ⟨by omega, by omega⟩).mpr (by omega)) rfl ?_
  refine Ev.sts 3 (c' := (15, [some (.inr (.inr (.inr (4, 0, ga)))), some (.inl (iZ (hr)))], [.inr (.inr (.inr (4, 0, ga))), .inl (iZ (hr)), .inl (iZ (hr))], h)) rfl ?_
  refine Ev.gv (w := (iZ (st))) rfl go.2.1 ?_
  refine Ev.pv (p := (iZ (st)) = 0) (v := .inl ((iZ (hr)) - (iZ (hr)) / (iZ (st)) * (iZ (st)))) (w := .inl (iZ (hr % st))) (iZ_n0 (by omega) (by omega)) rfl (congrArg vI (iZ_rem (by omega) (by omega) (by omega) (by omega))) ?_
  refine Ev.gv (w := (iZ (hr - (hr % st)))) rfl (iZ_sub _ _) ?_
  exact Ev.ret rfl (q)

theorem sp_isLate {d ga tl : Nat} {hr wm wd st : Int} {h : PH} {Q : Rs → PH → Prop} (go : gooC h ga wd st tl) (hh : 0 ≤ hr ∧ hr < 1000) (hm : -2147483648 ≤ wm ∧ wm < 2147483648) (k1 : hr - hr % st + wd ≤ wm → Q (.inl (some (.inl (iZ 1)))) h) (k0 : ¬ hr - hr % st + wd ≤ wm → Q (.inl (some (.inl (iZ 0)))) h) : Rn (d + 1) 93 [.inr (.inr (.inr (4, 0, ga))), .inl (iZ (hr)), .inl (iZ (wm))] h Q := by
  obtain ⟨g1, g2, g3, g4, g5, g6, g7, g8⟩ := go
  have go : gooC h ga wd st tl := ⟨g1, g2, g3, g4, g5, g6, g7, g8⟩
  have m1 := Int.emod_nonneg hr (show st ≠ 0 by omega)
  have m2 := Int.emod_lt_of_pos hr (show 0 < st by omega)
  refine Ev.sts 2 (c' := (2, [some (.inr (.inr (.inr (4, 0, ga)))), some (.inl (iZ (hr))), some (.inl (iZ (wm)))], [.inl (iZ (hr)), .inr (.inr (.inr (4, 0, ga)))], h)) rfl ?_
  refine Ev.callv (a := [.inr (.inr (.inr (4, 0, ga))), .inl (iZ (hr))]) rfl (sp_lastStart go ⟨by omega, by omega⟩) ?_
  refine Ev.sts 1 (c' := (6, [some (.inr (.inr (.inr (4, 0, ga)))), some (.inl (iZ (hr))), some (.inl (iZ (wm)))], [.inr (.inr (.inr (4, 0, ga))), .inl (iZ (hr - hr % st))], h)) rfl ?_
  refine Ev.gv (w := (iZ (wd))) rfl go.1 ?_
  refine Ev.gv (w := (iZ ((hr - hr % st) + wd))) rfl (iZ_add _ _) ?_
  refine Ev.sts 1 (c' := (11, [some (.inr (.inr (.inr (4, 0, ga)))), some (.inl (iZ (hr))), some (.inl (iZ (wm)))], [.inl (iZ (wm)), .inl (iZ ((hr - hr % st) + wd))], h)) rfl ?_
  refine Ev.brc (p := (iZ (wm)) < (iZ ((hr - hr % st) + wd))) (q := ((wm : Int)) < ((hr - hr % st) + wd)) (c1 := (18, [some (.inr (.inr (.inr (4, 0, ga)))), some (.inl (iZ (hr))), some (.inl (iZ (wm)))], [], h)) (c2 := (14, [some (.inr (.inr (.inr (4, 0, ga)))), some (.inl (iZ (hr))), some (.inl (iZ (wm)))], [], h)) rfl (iZ_lt ⟨by omega, by omega⟩ ⟨by omega, by omega⟩) (fun c0 => ?_) (fun c0 => ?_)
  · refine Ev.sts 1 (c' := (19, [some (.inr (.inr (.inr (4, 0, ga)))), some (.inl (iZ (hr))), some (.inl (iZ (wm)))], [.inl (iZ (0))], h)) rfl ?_
    exact Ev.ret rfl (k0 (by omega))
  · refine Ev.sts 2 (c' := (19, [some (.inr (.inr (.inr (4, 0, ga)))), some (.inl (iZ (hr))), some (.inl (iZ (wm)))], [.inl (iZ (1))], h)) rfl ?_
    exact Ev.ret rfl (k1 (by omega))

theorem sp_ce_lp {d g ga tl : Nat} {hr wm wd st : Int} {v : Int32} {Q : Rs → PH → Prop} (hg : g < 6) (hga : ga < 31 ∨ 62 < ga) (hh : 0 ≤ hr ∧ hr < 1000) (hm : 0 ≤ wm ∧ wm < 3000) (n : Nat) : ∀ (h : PH) (W : List Win) (N s : Int) (i : Nat) (a7 : Option VV), Sh h → winC h g W → wsB N W → 0 ≤ N → W.length + n ≤ 128 → N + n ≤ 1900 → gooC h ga wd st tl → -300 ≤ s ∧ s < 1000 → i + n = 7 → (∀ h1, fw g h h1 → winC h1 g (cev wd st hr wm tl v n W s) → Q (.inl none) h1) → Ev (d + 4) 157 (10, [some (.inr (.inr (.inr (10, 0, (32 + 5 * g))))), some (.inr (.inr (.inr (4, 0, ga)))), some (.inl (iZ (hr))), some (.inl (v)), some (.inl (iZ (wm))), some (.inl (iZ (s))), some (.inl (iZ (i))), a7], [], h) Q := by
  induction n with
  | zero =>
    intro h W N s i a7 sh hw hn hN0 hl hN go hs hi q
    obtain ⟨g1, g2, g3, g4, g5, g6, g7, g8⟩ := go
    have go : gooC h ga wd st tl := ⟨g1, g2, g3, g4, g5, g6, g7, g8⟩
    refine Ev.sts 2 (c' := (14, [some (.inr (.inr (.inr (10, 0, (32 + 5 * g))))), some (.inr (.inr (.inr (4, 0, ga)))), some (.inl (iZ (hr))), some (.inl (v)), some (.inl (iZ (wm))), some (.inl (iZ (s))), some (.inl (iZ (i))), a7], [.inl (iZ (7)), .inl (iZ (i))], h)) rfl ?_
    refine Ev.brT (p := (iZ (7)) ≤ (iZ (i))) (c1 := (67, [some (.inr (.inr (.inr (10, 0, (32 + 5 * g))))), some (.inr (.inr (.inr (4, 0, ga)))), some (.inl (iZ (hr))), some (.inl (v)), some (.inl (iZ (wm))), some (.inl (iZ (s))), some (.inl (iZ (i))), a7], [], h)) (c2 := (17, [some (.inr (.inr (.inr (10, 0, (32 + 5 * g))))), some (.inr (.inr (.inr (4, 0, ga)))), some (.inl (iZ (hr))), some (.inl (v)), some (.inl (iZ (wm))), some (.inl (iZ (s))), some (.inl (iZ (i))), a7], [], h)) ((iZ_le ⟨by omega, by omega⟩ ⟨by omega, by omega⟩).mpr (by omega)) rfl ?_
    exact Ev.ret rfl (q _ (fw_refl _ _) hw)
  | succ n ih =>
    intro h W N s i a7 sh hw hn hN0 hl hN1 go hs hi q
    obtain ⟨g1, g2, g3, g4, g5, g6, g7, g8⟩ := go
    have go : gooC h ga wd st tl := ⟨g1, g2, g3, g4, g5, g6, g7, g8⟩
    have hN : N ≤ 1900 := by omega
    refine Ev.sts 2 (c' := (14, [some (.inr (.inr (.inr (10, 0, (32 + 5 * g))))), some (.inr (.inr (.inr (4, 0, ga)))), some (.inl (iZ (hr))), some (.inl (v)), some (.inl (iZ (wm))), some (.inl (iZ (s))), some (.inl (iZ (i))), a7], [.inl (iZ (7)), .inl (iZ (i))], h)) rfl ?_
    refine Ev.brF (p := (iZ (7)) ≤ (iZ (i))) (c1 := (67, [some (.inr (.inr (.inr (10, 0, (32 + 5 * g))))), some (.inr (.inr (.inr (4, 0, ga)))), some (.inl (iZ (hr))), some (.inl (v)), some (.inl (iZ (wm))), some (.inl (iZ (s))), some (.inl (iZ (i))), a7], [], h)) (c2 := (17, [some (.inr (.inr (.inr (10, 0, (32 + 5 * g))))), some (.inr (.inr (.inr (4, 0, ga)))), some (.inl (iZ (hr))), some (.inl (v)), some (.inl (iZ (wm))), some (.inl (iZ (s))), some (.inl (iZ (i))), a7], [], h)) (fun c_ => absurd ((iZ_le ⟨by omega, by omega⟩ ⟨by omega, by omega⟩).mp c_) (by omega)) rfl ?_
    refine Ev.sts 1 (c' := (19, [some (.inr (.inr (.inr (10, 0, (32 + 5 * g))))), some (.inr (.inr (.inr (4, 0, ga)))), some (.inl (iZ (hr))), some (.inl (v)), some (.inl (iZ (wm))), some (.inl (iZ (s))), some (.inl (iZ (i))), a7], [.inl (iZ (s))], h)) rfl ?_
    refine Ev.brc (p := (iZ (s)) < (iZ (0))) (q := ((s : Int)) < 0) (c1 := (67, [some (.inr (.inr (.inr (10, 0, (32 + 5 * g))))), some (.inr (.inr (.inr (4, 0, ga)))), some (.inl (iZ (hr))), some (.inl (v)), some (.inl (iZ (wm))), some (.inl (iZ (s))), some (.inl (iZ (i))), a7], [], h)) (c2 := (22, [some (.inr (.inr (.inr (10, 0, (32 + 5 * g))))), some (.inr (.inr (.inr (4, 0, ga)))), some (.inl (iZ (hr))), some (.inl (v)), some (.inl (iZ (wm))), some (.inl (iZ (s))), some (.inl (iZ (i))), a7], [], h)) rfl (iZ_lt ⟨by omega, by omega⟩ ⟨by omega, by omega⟩) (fun c0 => ?_) (fun c0 => ?_)
    · have e : cev wd st hr wm tl v (n + 1) W s = W := if_pos (by omega)
      rw [e] at q
      exact Ev.ret rfl (q _ (fw_refl _ _) hw)
    · refine Ev.sts 2 (c' := (25, [some (.inr (.inr (.inr (10, 0, (32 + 5 * g))))), some (.inr (.inr (.inr (4, 0, ga)))), some (.inl (iZ (hr))), some (.inl (v)), some (.inl (iZ (wm))), some (.inl (iZ (s))), some (.inl (iZ (i))), a7], [.inr (.inr (.inr (4, 0, ga))), .inl (iZ (s))], h)) rfl ?_
      refine Ev.gv (w := (iZ (wd))) rfl go.1 ?_
      refine Ev.gv (w := (iZ (s + wd))) rfl (iZ_add _ _) ?_
      refine Ev.sts 3 (c' := (34, [some (.inr (.inr (.inr (10, 0, (32 + 5 * g))))), some (.inr (.inr (.inr (4, 0, ga)))), some (.inl (iZ (hr))), some (.inl (v)), some (.inl (iZ (wm))), some (.inl (iZ (s))), some (.inl (iZ (i))), some (.inl (iZ (s + wd)))], [.inl (iZ (hr)), .inl (iZ (s + wd))], h)) rfl ?_
      refine Ev.brc (p := (iZ (s + wd)) ≤ (iZ (hr))) (q := ((s + wd : Int)) ≤ hr) (c1 := (52, [some (.inr (.inr (.inr (10, 0, (32 + 5 * g))))), some (.inr (.inr (.inr (4, 0, ga)))), some (.inl (iZ (hr))), some (.inl (v)), some (.inl (iZ (wm))), some (.inl (iZ (s))), some (.inl (iZ (i))), some (.inl (iZ (s + wd)))], [], h)) (c2 := (37, [some (.inr (.inr (.inr (10, 0, (32 + 5 * g))))), some (.inr (.inr (.inr (4, 0, ga)))), some (.inl (iZ (hr))), some (.inl (v)), some (.inl (iZ (wm))), some (.inl (iZ (s))), some (.inl (iZ (i))), some (.inl (iZ (s + wd)))], [], h)) rfl (iZ_le ⟨by omega, by omega⟩ ⟨by omega, by omega⟩) (fun c1 => ?_) (fun c1 => ?_)
      · refine Ev.sts 2 (c' := (55, [some (.inr (.inr (.inr (10, 0, (32 + 5 * g))))), some (.inr (.inr (.inr (4, 0, ga)))), some (.inl (iZ (hr))), some (.inl (v)), some (.inl (iZ (wm))), some (.inl (iZ (s))), some (.inl (iZ (i))), some (.inl (iZ (s + wd)))], [.inr (.inr (.inr (4, 0, ga))), .inl (iZ (s))], h)) rfl ?_
        refine Ev.gv (w := (iZ (st))) rfl go.2.1 ?_
        refine Ev.gv (w := (iZ (s - st))) rfl (iZ_sub _ _) ?_
        refine Ev.sts 1 (c' := (61, [some (.inr (.inr (.inr (10, 0, (32 + 5 * g))))), some (.inr (.inr (.inr (4, 0, ga)))), some (.inl (iZ (hr))), some (.inl (v)), some (.inl (iZ (wm))), some (.inl (iZ (s - st))), some (.inl (iZ (i))), some (.inl (iZ (s + wd)))], [], h)) rfl ?_
        refine Ev.stc (c1 := (64, [some (.inr (.inr (.inr (10, 0, (32 + 5 * g))))), some (.inr (.inr (.inr (4, 0, ga)))), some (.inl (iZ (hr))), some (.inl (v)), some (.inl (iZ (wm))), some (.inl (iZ (s - st))), some (.inl ((iZ (i)) + (iZ (1)))), some (.inl (iZ (s + wd)))], [], h)) (c2 := (64, [some (.inr (.inr (.inr (10, 0, (32 + 5 * g))))), some (.inr (.inr (.inr (4, 0, ga)))), some (.inl (iZ (hr))), some (.inl (v)), some (.inl (iZ (wm))), some (.inl (iZ (s - st))), some (.inl (iZ (i + 1))), some (.inl (iZ (s + wd)))], [], h)) rfl (by rw [iZ_add]) ?_
        refine Ev.sts 1 (c' := (10, [some (.inr (.inr (.inr (10, 0, (32 + 5 * g))))), some (.inr (.inr (.inr (4, 0, ga)))), some (.inl (iZ (hr))), some (.inl (v)), some (.inl (iZ (wm))), some (.inl (iZ (s - st))), some (.inl (iZ (i + 1))), some (.inl (iZ (s + wd)))], [], h)) rfl ?_
        refine ih h W (N + 1) (s - st) (i + 1) _ sh hw (fun j hj => ?_) (by omega) (by omega) (by omega) go (by omega) (by omega) (fun h2 f2 w2 => q h2 f2 ?_)
        · obtain ⟨b1, b2, b3, b4, b5, b6⟩ := hn j hj
          exact ⟨b1, b2, b3, b4, b5, by omega⟩
        have e : cev wd st hr wm tl v (n + 1) W s = cev wd st hr wm tl v n W (s - st) := by
          show (if s < 0 then W else _) = _
          rw [if_neg (by omega), if_neg (fun z => by omega)]
        rw [e]; exact w2
      · refine Ev.sts 2 (c' := (41, [some (.inr (.inr (.inr (10, 0, (32 + 5 * g))))), some (.inr (.inr (.inr (4, 0, ga)))), some (.inl (iZ (hr))), some (.inl (v)), some (.inl (iZ (wm))), some (.inl (iZ (s))), some (.inl (iZ (i))), some (.inl (iZ (s + wd)))], [.inl (iZ (wm)), .inl (iZ (s + wd))], h)) rfl ?_
        refine Ev.brc (p := (iZ (s + wd)) ≤ (iZ (wm))) (q := ((s + wd : Int)) ≤ wm) (c1 := (52, [some (.inr (.inr (.inr (10, 0, (32 + 5 * g))))), some (.inr (.inr (.inr (4, 0, ga)))), some (.inl (iZ (hr))), some (.inl (v)), some (.inl (iZ (wm))), some (.inl (iZ (s))), some (.inl (iZ (i))), some (.inl (iZ (s + wd)))], [], h)) (c2 := (44, [some (.inr (.inr (.inr (10, 0, (32 + 5 * g))))), some (.inr (.inr (.inr (4, 0, ga)))), some (.inl (iZ (hr))), some (.inl (v)), some (.inl (iZ (wm))), some (.inl (iZ (s))), some (.inl (iZ (i))), some (.inl (iZ (s + wd)))], [], h)) rfl (iZ_le ⟨by omega, by omega⟩ ⟨by omega, by omega⟩) (fun c2 => ?_) (fun c2 => ?_)
        · refine Ev.sts 2 (c' := (55, [some (.inr (.inr (.inr (10, 0, (32 + 5 * g))))), some (.inr (.inr (.inr (4, 0, ga)))), some (.inl (iZ (hr))), some (.inl (v)), some (.inl (iZ (wm))), some (.inl (iZ (s))), some (.inl (iZ (i))), some (.inl (iZ (s + wd)))], [.inr (.inr (.inr (4, 0, ga))), .inl (iZ (s))], h)) rfl ?_
          refine Ev.gv (w := (iZ (st))) rfl go.2.1 ?_
          refine Ev.gv (w := (iZ (s - st))) rfl (iZ_sub _ _) ?_
          refine Ev.sts 1 (c' := (61, [some (.inr (.inr (.inr (10, 0, (32 + 5 * g))))), some (.inr (.inr (.inr (4, 0, ga)))), some (.inl (iZ (hr))), some (.inl (v)), some (.inl (iZ (wm))), some (.inl (iZ (s - st))), some (.inl (iZ (i))), some (.inl (iZ (s + wd)))], [], h)) rfl ?_
          refine Ev.stc (c1 := (64, [some (.inr (.inr (.inr (10, 0, (32 + 5 * g))))), some (.inr (.inr (.inr (4, 0, ga)))), some (.inl (iZ (hr))), some (.inl (v)), some (.inl (iZ (wm))), some (.inl (iZ (s - st))), some (.inl ((iZ (i)) + (iZ (1)))), some (.inl (iZ (s + wd)))], [], h)) (c2 := (64, [some (.inr (.inr (.inr (10, 0, (32 + 5 * g))))), some (.inr (.inr (.inr (4, 0, ga)))), some (.inl (iZ (hr))), some (.inl (v)), some (.inl (iZ (wm))), some (.inl (iZ (s - st))), some (.inl (iZ (i + 1))), some (.inl (iZ (s + wd)))], [], h)) rfl (by rw [iZ_add]) ?_
          refine Ev.sts 1 (c' := (10, [some (.inr (.inr (.inr (10, 0, (32 + 5 * g))))), some (.inr (.inr (.inr (4, 0, ga)))), some (.inl (iZ (hr))), some (.inl (v)), some (.inl (iZ (wm))), some (.inl (iZ (s - st))), some (.inl (iZ (i + 1))), some (.inl (iZ (s + wd)))], [], h)) rfl ?_
          refine ih h W (N + 1) (s - st) (i + 1) _ sh hw (fun j hj => ?_) (by omega) (by omega) (by omega) go (by omega) (by omega) (fun h2 f2 w2 => q h2 f2 ?_)
          · obtain ⟨b1, b2, b3, b4, b5, b6⟩ := hn j hj
            exact ⟨b1, b2, b3, b4, b5, by omega⟩
          have e : cev wd st hr wm tl v (n + 1) W s = cev wd st hr wm tl v n W (s - st) := by
            show (if s < 0 then W else _) = _
            rw [if_neg (by omega), if_neg (fun z => by omega)]
          rw [e]; exact w2
        · refine Ev.sts 4 (c' := (49, [some (.inr (.inr (.inr (10, 0, (32 + 5 * g))))), some (.inr (.inr (.inr (4, 0, ga)))), some (.inl (iZ (hr))), some (.inl (v)), some (.inl (iZ (wm))), some (.inl (iZ (s))), some (.inl (iZ (i))), some (.inl (iZ (s + wd)))], [.inl (v), .inl (iZ (s)), .inr (.inr (.inr (4, 0, ga))), .inr (.inr (.inr (10, 0, (32 + 5 * g))))], h)) rfl ?_
          refine Ev.callw (a := [.inr (.inr (.inr (10, 0, (32 + 5 * g)))), .inr (.inr (.inr (4, 0, ga))), .inl (iZ (s)), .inl (v)]) rfl (sp_countIn sh hg hw hn hN (by omega) go ⟨by omega, by omega⟩ (fun h1 f1 w1 => ?_))
          refine Ev.sts 2 (c' := (55, [some (.inr (.inr (.inr (10, 0, (32 + 5 * g))))), some (.inr (.inr (.inr (4, 0, ga)))), some (.inl (iZ (hr))), some (.inl (v)), some (.inl (iZ (wm))), some (.inl (iZ (s))), some (.inl (iZ (i))), some (.inl (iZ (s + wd)))], [.inr (.inr (.inr (4, 0, ga))), .inl (iZ (s))], h1)) rfl ?_
          refine Ev.gv (w := (iZ (st))) rfl ((congrFun (f1.2.1 ga (by omega)) 3).trans go.2.1) ?_
          refine Ev.gv (w := (iZ (s - st))) rfl (iZ_sub _ _) ?_
          refine Ev.sts 1 (c' := (61, [some (.inr (.inr (.inr (10, 0, (32 + 5 * g))))), some (.inr (.inr (.inr (4, 0, ga)))), some (.inl (iZ (hr))), some (.inl (v)), some (.inl (iZ (wm))), some (.inl (iZ (s - st))), some (.inl (iZ (i))), some (.inl (iZ (s + wd)))], [], h1)) rfl ?_
          refine Ev.stc (c1 := (64, [some (.inr (.inr (.inr (10, 0, (32 + 5 * g))))), some (.inr (.inr (.inr (4, 0, ga)))), some (.inl (iZ (hr))), some (.inl (v)), some (.inl (iZ (wm))), some (.inl (iZ (s - st))), some (.inl ((iZ (i)) + (iZ (1)))), some (.inl (iZ (s + wd)))], [], h1)) (c2 := (64, [some (.inr (.inr (.inr (10, 0, (32 + 5 * g))))), some (.inr (.inr (.inr (4, 0, ga)))), some (.inl (iZ (hr))), some (.inl (v)), some (.inl (iZ (wm))), some (.inl (iZ (s - st))), some (.inl (iZ (i + 1))), some (.inl (iZ (s + wd)))], [], h1)) rfl (by rw [iZ_add]) ?_
          refine Ev.sts 1 (c' := (10, [some (.inr (.inr (.inr (10, 0, (32 + 5 * g))))), some (.inr (.inr (.inr (4, 0, ga)))), some (.inl (iZ (hr))), some (.inl (v)), some (.inl (iZ (wm))), some (.inl (iZ (s - st))), some (.inl (iZ (i + 1))), some (.inl (iZ (s + wd)))], [], h1)) rfl ?_
          have hB := cin_B (wd := wd) (tl := tl) (v := v) (s := s) hn hN0 (by omega) (by omega) (by omega) (by omega)
          have hL := cin_len wd tl v W s
          refine ih h1 (cin wd tl v W s) (N + 1) (s - st) (i + 1) _ (Sh_eq sh f1.1) w1 hB (by omega) (by omega) (by omega) (gooC_eq go (f1.2.1 ga (by omega)) f1.1) (by omega) (by omega) (fun h2 f2 w2 => q h2 (fw_trans f1 f2) ?_)
          have e : cev wd st hr wm tl v (n + 1) W s = cev wd st hr wm tl v n (cin wd tl v W s) (s - st) := by
            show (if s < 0 then W else _) = _
            rw [if_neg (by omega), if_pos ⟨by omega, by omega⟩]
          rw [e]; exact w2

theorem sp_countEvery {d g ga tl : Nat} {hr wm wd st N : Int} {v : Int32} {W : List Win} {h : PH} {Q : Rs → PH → Prop} (sh : Sh h) (hg : g < 6) (hw : winC h g W) (hn : wsB N W) (hN0 : 0 ≤ N) (hN : N ≤ 1800) (hl : W.length ≤ 121) (go : gooC h ga wd st tl) (hga : ga < 31 ∨ 62 < ga) (hh : 0 ≤ hr ∧ hr < 1000) (hm : 0 ≤ wm ∧ wm < 3000) (q : ∀ h1, fw g h h1 → winC h1 g (cev wd st hr wm tl v 7 W (hr - hr % st)) → Q (.inl none) h1) : Rn (d + 4) 157 [.inr (.inr (.inr (10, 0, (32 + 5 * g)))), .inr (.inr (.inr (4, 0, ga))), .inl (iZ (hr)), .inl (v), .inl (iZ (wm))] h Q := by
  obtain ⟨g1, g2, g3, g4, g5, g6, g7, g8⟩ := go
  have go : gooC h ga wd st tl := ⟨g1, g2, g3, g4, g5, g6, g7, g8⟩
  have m1 := Int.emod_nonneg hr (show st ≠ 0 by omega)
  have m2 := Int.emod_lt_of_pos hr (show 0 < st by omega)
  refine Ev.sts 2 (c' := (2, [some (.inr (.inr (.inr (10, 0, (32 + 5 * g))))), some (.inr (.inr (.inr (4, 0, ga)))), some (.inl (iZ (hr))), some (.inl (v)), some (.inl (iZ (wm))), none, none, none], [.inl (iZ (hr)), .inr (.inr (.inr (4, 0, ga)))], h)) rfl ?_
  refine Ev.callv (a := [.inr (.inr (.inr (4, 0, ga))), .inl (iZ (hr))]) rfl (sp_lastStart go ⟨by omega, by omega⟩) ?_
  refine Ev.sts 3 (c' := (10, [some (.inr (.inr (.inr (10, 0, (32 + 5 * g))))), some (.inr (.inr (.inr (4, 0, ga)))), some (.inl (iZ (hr))), some (.inl (v)), some (.inl (iZ (wm))), some (.inl (iZ (hr - hr % st))), some (.inl (iZ (0))), none], [], h)) rfl ?_
  exact sp_ce_lp hg hga hh hm 7 h W N (hr - hr % st) 0 none sh hw hn hN0 (by omega) (by omega) go ⟨by omega, by omega⟩ (by omega) q

