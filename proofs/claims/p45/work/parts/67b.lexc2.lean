/-! The class cuts the tape into tokens: kinds, numbers, the row. -/
theorem slc_s {tp : List Int} {k e : Nat} (h : k < e) : slc tp (e - k) k = by_ tp k :: slc tp (e - (k + 1)) (k + 1) := by
  rw [show e - k = (e - (k + 1)) + 1 by omega]; rfl
theorem slc_0 {tp : List Int} {k e : Nat} (h : e ≤ k) : slc tp (e - k) k = [] := by
  rw [show e - k = 0 by omega]; rfl
/-- what is no number: its kind by its text -/
theorem tkA_nd {tp : List Int} {a : Nat} (h : a < tp.length) (d : ¬ isDg (by_ tp a) = true) : (tkA tp a).1 = kdS txts 0 (slc tp (tkE tp a - a) a) (if isLt (by_ tp a) = true ∧ tkE tp a - a ≤ 8 then 2 else 1) := by
  have e := tkE_b h
  have sl := slc_len tp (tkE tp a - a) a
  unfold tkA
  by_cases c : isLt (by_ tp a) = true
  · rw [if_pos c]
    by_cases h8 : tkE tp a - a ≤ 8
    · rw [if_pos h8, show (if isLt (by_ tp a) = true ∧ tkE tp a - a ≤ 8 then 2 else 1) = 2 from if_pos ⟨c, h8⟩, kd_word (tkE_lt c) (fun z => by rw [z] at sl; simp at sl; omega)]
      rfl
    · rw [if_neg h8, if_neg (fun z => h8 z.2), kd_long (by omega)]
  · rw [if_neg c, if_neg d, if_neg (fun z => c z.1)]
    have e2 : tkE tp a = a + 1 := by unfold tkE; rw [if_neg c, if_neg d]
    rw [e2, show a + 1 - a = 1 by omega]
    rfl
theorem tkA_dg {tp : List Int} {a : Nat} (d : isDg (by_ tp a) = true) : (tkA tp a).1 = if tkE tp a - a ≤ 4 then 3 else 1 := by
  have c : ¬ isLt (by_ tp a) = true := fun z => by
    have := isLt_t.mp z
    have := isDg_t.mp d
    omega
  unfold tkA
  rw [if_neg c, if_pos d]
  split <;> rfl
theorem sl_kd_0 {d a : Nat} {j7 : Option VV} {tp : List Int} {h : PH} {Q : Rs → PH → Prop} (sh : Sh h) (t : tpC h tp) (ht : tp.length ≤ 1600) (hb : byT tp) (ha : a < tkE tp a) (he : tkE tp a ≤ tp.length) (q : Q (.inl (some (.inr (.inr (.inr (40, 0, (if isLt (by_ tp a) = true ∧ tkE tp a - a ≤ 8 then 2 else 1))))))) h) : Ev (d + 1) 144 (55, [some (.inr (.inr (.inr (9, 0, 3)))), some (.inl (iZ (a))), some (.inl (iZ (tkE tp a))), some (.inl (iZ (by_ tp a % 256))), some (.inr (.inr (.inr (41, 38, 0)))), some (.inl (iZ (38))), some (.inl (iZ (38))), j7], [], h) Q := by
  refine Ev.sts 2 (c' := (59, [some (.inr (.inr (.inr (9, 0, 3)))), some (.inl (iZ (a))), some (.inl (iZ (tkE tp a))), some (.inl (iZ (by_ tp a % 256))), some (.inr (.inr (.inr (41, 38, 0)))), some (.inl (iZ (38))), some (.inl (iZ (38))), j7], [.inl (iZ (38)), .inl (iZ (38))], h)) rfl ?_
  refine Ev.brT (p := (iZ (38)) ≤ (iZ (38))) (c1 := (95, [some (.inr (.inr (.inr (9, 0, 3)))), some (.inl (iZ (a))), some (.inl (iZ (tkE tp a))), some (.inl (iZ (by_ tp a % 256))), some (.inr (.inr (.inr (41, 38, 0)))), some (.inl (iZ (38))), some (.inl (iZ (38))), j7], [], h)) (c2 := (62, [some (.inr (.inr (.inr (9, 0, 3)))), some (.inl (iZ (a))), some (.inl (iZ (tkE tp a))), some (.inl (iZ (by_ tp a % 256))), some (.inr (.inr (.inr (41, 38, 0)))), some (.inl (iZ (38))), some (.inl (iZ (38))), j7], [], h)) (by decide) rfl ?_
  refine Ev.sts 1 (c' := (96, [some (.inr (.inr (.inr (9, 0, 3)))), some (.inl (iZ (a))), some (.inl (iZ (tkE tp a))), some (.inl (iZ (by_ tp a % 256))), some (.inr (.inr (.inr (41, 38, 0)))), some (.inl (iZ (38))), some (.inl (iZ (38))), j7], [.inl (iZ (by_ tp a % 256))], h)) rfl ?_
  refine Ev.callw (a := [.inl (iZ (by_ tp a % 256))]) rfl (sl_isLt (hb a) (fun c0 => ?_) (fun c0 => ?_))
  · refine Ev.brF (p := (iZ (1)) = (iZ (0))) (c1 := (116, [some (.inr (.inr (.inr (9, 0, 3)))), some (.inl (iZ (a))), some (.inl (iZ (tkE tp a))), some (.inl (iZ (by_ tp a % 256))), some (.inr (.inr (.inr (41, 38, 0)))), some (.inl (iZ (38))), some (.inl (iZ (38))), j7], [], h)) (c2 := (102, [some (.inr (.inr (.inr (9, 0, 3)))), some (.inl (iZ (a))), some (.inl (iZ (tkE tp a))), some (.inl (iZ (by_ tp a % 256))), some (.inr (.inr (.inr (41, 38, 0)))), some (.inl (iZ (38))), some (.inl (iZ (38))), j7], [], h)) (by decide) rfl ?_
    refine Ev.sts 2 (c' := (104, [some (.inr (.inr (.inr (9, 0, 3)))), some (.inl (iZ (a))), some (.inl (iZ (tkE tp a))), some (.inl (iZ (by_ tp a % 256))), some (.inr (.inr (.inr (41, 38, 0)))), some (.inl (iZ (38))), some (.inl (iZ (38))), j7], [.inl (iZ (a)), .inl (iZ (tkE tp a))], h)) rfl ?_
    refine Ev.gv (w := (iZ ((tkE tp a) - a))) rfl (iZ_sub _ _) ?_
    refine Ev.sts 1 (c' := (107, [some (.inr (.inr (.inr (9, 0, 3)))), some (.inl (iZ (a))), some (.inl (iZ (tkE tp a))), some (.inl (iZ (by_ tp a % 256))), some (.inr (.inr (.inr (41, 38, 0)))), some (.inl (iZ (38))), some (.inl (iZ (38))), j7], [.inl (iZ (8)), .inl (iZ ((tkE tp a) - a))], h)) rfl ?_
    refine Ev.brc (p := (iZ (8)) < (iZ ((tkE tp a) - a))) (q := ((8 : Int)) < ((tkE tp a) - a)) (c1 := (116, [some (.inr (.inr (.inr (9, 0, 3)))), some (.inl (iZ (a))), some (.inl (iZ (tkE tp a))), some (.inl (iZ (by_ tp a % 256))), some (.inr (.inr (.inr (41, 38, 0)))), some (.inl (iZ (38))), some (.inl (iZ (38))), j7], [], h)) (c2 := (110, [some (.inr (.inr (.inr (9, 0, 3)))), some (.inl (iZ (a))), some (.inl (iZ (tkE tp a))), some (.inl (iZ (by_ tp a % 256))), some (.inr (.inr (.inr (41, 38, 0)))), some (.inl (iZ (38))), some (.inl (iZ (38))), j7], [], h)) rfl (iZ_lt ⟨by omega, by omega⟩ ⟨by omega, by omega⟩) (fun c1 => ?_) (fun c1 => ?_)
    · refine Ev.sts 1 (c' := (119, [some (.inr (.inr (.inr (9, 0, 3)))), some (.inl (iZ (a))), some (.inl (iZ (tkE tp a))), some (.inl (iZ (by_ tp a % 256))), some (.inr (.inr (.inr (41, 38, 0)))), some (.inl (iZ (38))), some (.inl (iZ (38))), j7], [.inr (.inr (.inr (40, 0, 1)))], h)) rfl ?_
      exact Ev.ret rfl ((by first | (rw [if_pos ⟨by assumption, by omega⟩] at q; exact q) | (rw [if_neg (fun z_ => by first | omega | exact absurd z_.1 (by assumption))] at q; exact q)))
    · refine Ev.sts 2 (c' := (119, [some (.inr (.inr (.inr (9, 0, 3)))), some (.inl (iZ (a))), some (.inl (iZ (tkE tp a))), some (.inl (iZ (by_ tp a % 256))), some (.inr (.inr (.inr (41, 38, 0)))), some (.inl (iZ (38))), some (.inl (iZ (38))), j7], [.inr (.inr (.inr (40, 0, 2)))], h)) rfl ?_
      exact Ev.ret rfl ((by first | (rw [if_pos ⟨by assumption, by omega⟩] at q; exact q) | (rw [if_neg (fun z_ => by first | omega | exact absurd z_.1 (by assumption))] at q; exact q)))
  · refine Ev.brT (p := (iZ (0)) = (iZ (0))) (c1 := (116, [some (.inr (.inr (.inr (9, 0, 3)))), some (.inl (iZ (a))), some (.inl (iZ (tkE tp a))), some (.inl (iZ (by_ tp a % 256))), some (.inr (.inr (.inr (41, 38, 0)))), some (.inl (iZ (38))), some (.inl (iZ (38))), j7], [], h)) (c2 := (102, [some (.inr (.inr (.inr (9, 0, 3)))), some (.inl (iZ (a))), some (.inl (iZ (tkE tp a))), some (.inl (iZ (by_ tp a % 256))), some (.inr (.inr (.inr (41, 38, 0)))), some (.inl (iZ (38))), some (.inl (iZ (38))), j7], [], h)) (by decide) rfl ?_
    refine Ev.sts 1 (c' := (119, [some (.inr (.inr (.inr (9, 0, 3)))), some (.inl (iZ (a))), some (.inl (iZ (tkE tp a))), some (.inl (iZ (by_ tp a % 256))), some (.inr (.inr (.inr (41, 38, 0)))), some (.inl (iZ (38))), some (.inl (iZ (38))), j7], [.inr (.inr (.inr (40, 0, 1)))], h)) rfl ?_
    exact Ev.ret rfl ((by first | (rw [if_pos ⟨by assumption, by omega⟩] at q; exact q) | (rw [if_neg (fun z_ => by first | omega | exact absurd z_.1 (by assumption))] at q; exact q)))

theorem sl_kd_lp {d a f : Nat} {tp : List Int} {h : PH} {Q : Rs → PH → Prop} (sh : Sh h) (t : tpC h tp) (ht : tp.length ≤ 1600) (hb : byT tp) (ha : a < tkE tp a) (he : tkE tp a ≤ tp.length) (z0 : ∀ j7 : Option VV, Q (.inl (some (.inr (.inr (.inr (40, 0, f)))))) h → Ev (d + 5) 144 (55, [some (.inr (.inr (.inr (9, 0, 3)))), some (.inl (iZ (a))), some (.inl (iZ (tkE tp a))), some (.inl (iZ (by_ tp a % 256))), some (.inr (.inr (.inr (41, 38, 0)))), some (.inl (iZ (38))), some (.inl (iZ (38))), j7], [], h) Q) (m : Nat) : ∀ (k : Nat) (j7 : Option VV), k + m = 38 → Q (.inl (some (.inr (.inr (.inr (40, 0, kdS (txts.drop k) k (slc tp (tkE tp a - a) a) f)))))) h → Ev (d + 5) 144 (55, [some (.inr (.inr (.inr (9, 0, 3)))), some (.inl (iZ (a))), some (.inl (iZ (tkE tp a))), some (.inl (iZ (by_ tp a % 256))), some (.inr (.inr (.inr (41, 38, 0)))), some (.inl (iZ (38))), some (.inl (iZ (k))), j7], [], h) Q := by
  induction m with
  | zero =>
    intro k j7 h1 q
    obtain rfl : k = 38 := by omega
    exact z0 j7 q
  | succ m ih =>
    intro k j7 h1 q
    rw [drop_getD ([] : List Int) txts k (by show k < 38; omega)] at q
    replace q : Q (.inl (some (.inr (.inr (.inr (40, 0, if slc tp (tkE tp a - a) a = txts.getD k [] then k else kdS (txts.drop (k + 1)) (k + 1) (slc tp (tkE tp a - a) a) f)))))) h := q
    refine Ev.sts 2 (c' := (59, [some (.inr (.inr (.inr (9, 0, 3)))), some (.inl (iZ (a))), some (.inl (iZ (tkE tp a))), some (.inl (iZ (by_ tp a % 256))), some (.inr (.inr (.inr (41, 38, 0)))), some (.inl (iZ (38))), some (.inl (iZ (k))), j7], [.inl (iZ (38)), .inl (iZ (k))], h)) rfl ?_
    refine Ev.brF (p := (iZ (38)) ≤ (iZ (k))) (c1 := (95, [some (.inr (.inr (.inr (9, 0, 3)))), some (.inl (iZ (a))), some (.inl (iZ (tkE tp a))), some (.inl (iZ (by_ tp a % 256))), some (.inr (.inr (.inr (41, 38, 0)))), some (.inl (iZ (38))), some (.inl (iZ (k))), j7], [], h)) (c2 := (62, [some (.inr (.inr (.inr (9, 0, 3)))), some (.inl (iZ (a))), some (.inl (iZ (tkE tp a))), some (.inl (iZ (by_ tp a % 256))), some (.inr (.inr (.inr (41, 38, 0)))), some (.inl (iZ (38))), some (.inl (iZ (k))), j7], [], h)) (fun c_ => absurd ((iZ_le ⟨by omega, by omega⟩ ⟨by omega, by omega⟩).mp c_) (by omega)) rfl ?_
    refine Ev.sts 2 (c' := (66, [some (.inr (.inr (.inr (9, 0, 3)))), some (.inl (iZ (a))), some (.inl (iZ (tkE tp a))), some (.inl (iZ (by_ tp a % 256))), some (.inr (.inr (.inr (41, 38, 0)))), some (.inl (iZ (38))), some (.inl (iZ (k))), j7], [.inl (iZ (k)), .inr (.inr (.inr (41, 38, 0)))], h)) rfl ?_
    refine Ev.ldv (j := (iZ (k))) (n := 38) (w := .inr (.inr (.inr (40, 0, k)))) (iZ_in (by omega) (by omega) (by omega)) rfl (by rw [iZ_ix (n := k) (by omega) (by omega)]) ?_
    refine Ev.sts 2 (c' := (70, [some (.inr (.inr (.inr (9, 0, 3)))), some (.inl (iZ (a))), some (.inl (iZ (tkE tp a))), some (.inl (iZ (by_ tp a % 256))), some (.inr (.inr (.inr (41, 38, 0)))), some (.inl (iZ (38))), some (.inl (iZ (k))), some (.inr (.inr (.inr (40, 0, k))))], [.inr (.inr (.inr (9, 0, 3)))], h)) rfl ?_
    refine Ev.gfr (r := (6, 0, 4)) rfl (sh_3_0 sh) ?_
    refine Ev.sts 4 (c' := (80, [some (.inr (.inr (.inr (9, 0, 3)))), some (.inl (iZ (a))), some (.inl (iZ (tkE tp a))), some (.inl (iZ (by_ tp a % 256))), some (.inr (.inr (.inr (41, 38, 0)))), some (.inl (iZ (38))), some (.inl (iZ (k))), some (.inr (.inr (.inr (40, 0, k))))], [.inl (iZ (tkE tp a)), .inl (iZ (a)), .inr (.inr (.inr (43, 0, (tid k)))), .inr (.inr (.inr (6, 0, 4)))], h)) rfl ?_
    refine Ev.callw (a := [.inr (.inr (.inr (6, 0, 4))), .inr (.inr (.inr (43, 0, (tid k)))), .inl (iZ (a)), .inl (iZ (tkE tp a))]) rfl (sl_stands sh t ht hb (txO_k k (by omega)) ha he (fun c0 => ?_) (fun c0 => ?_))
    · refine Ev.brF (p := (iZ (1)) = (iZ (0))) (c1 := (89, [some (.inr (.inr (.inr (9, 0, 3)))), some (.inl (iZ (a))), some (.inl (iZ (tkE tp a))), some (.inl (iZ (by_ tp a % 256))), some (.inr (.inr (.inr (41, 38, 0)))), some (.inl (iZ (38))), some (.inl (iZ (k))), some (.inr (.inr (.inr (40, 0, k))))], [], h)) (c2 := (86, [some (.inr (.inr (.inr (9, 0, 3)))), some (.inl (iZ (a))), some (.inl (iZ (tkE tp a))), some (.inl (iZ (by_ tp a % 256))), some (.inr (.inr (.inr (41, 38, 0)))), some (.inl (iZ (38))), some (.inl (iZ (k))), some (.inr (.inr (.inr (40, 0, k))))], [], h)) (by decide) rfl ?_
      refine Ev.sts 1 (c' := (88, [some (.inr (.inr (.inr (9, 0, 3)))), some (.inl (iZ (a))), some (.inl (iZ (tkE tp a))), some (.inl (iZ (by_ tp a % 256))), some (.inr (.inr (.inr (41, 38, 0)))), some (.inl (iZ (38))), some (.inl (iZ (k))), some (.inr (.inr (.inr (40, 0, k))))], [.inr (.inr (.inr (40, 0, k)))], h)) rfl ?_
      rw [if_pos (by assumption)] at q
      exact Ev.ret rfl q
    · refine Ev.brT (p := (iZ (0)) = (iZ (0))) (c1 := (89, [some (.inr (.inr (.inr (9, 0, 3)))), some (.inl (iZ (a))), some (.inl (iZ (tkE tp a))), some (.inl (iZ (by_ tp a % 256))), some (.inr (.inr (.inr (41, 38, 0)))), some (.inl (iZ (38))), some (.inl (iZ (k))), some (.inr (.inr (.inr (40, 0, k))))], [], h)) (c2 := (86, [some (.inr (.inr (.inr (9, 0, 3)))), some (.inl (iZ (a))), some (.inl (iZ (tkE tp a))), some (.inl (iZ (by_ tp a % 256))), some (.inr (.inr (.inr (41, 38, 0)))), some (.inl (iZ (38))), some (.inl (iZ (k))), some (.inr (.inr (.inr (40, 0, k))))], [], h)) (by decide) rfl ?_
      refine Ev.stc (c1 := (92, [some (.inr (.inr (.inr (9, 0, 3)))), some (.inl (iZ (a))), some (.inl (iZ (tkE tp a))), some (.inl (iZ (by_ tp a % 256))), some (.inr (.inr (.inr (41, 38, 0)))), some (.inl (iZ (38))), some (.inl ((iZ (k)) + (iZ (1)))), some (.inr (.inr (.inr (40, 0, k))))], [], h)) (c2 := (92, [some (.inr (.inr (.inr (9, 0, 3)))), some (.inl (iZ (a))), some (.inl (iZ (tkE tp a))), some (.inl (iZ (by_ tp a % 256))), some (.inr (.inr (.inr (41, 38, 0)))), some (.inl (iZ (38))), some (.inl (iZ (k + 1))), some (.inr (.inr (.inr (40, 0, k))))], [], h)) rfl (by rw [iZ_add]) ?_
      refine Ev.sts 1 (c' := (55, [some (.inr (.inr (.inr (9, 0, 3)))), some (.inl (iZ (a))), some (.inl (iZ (tkE tp a))), some (.inl (iZ (by_ tp a % 256))), some (.inr (.inr (.inr (41, 38, 0)))), some (.inl (iZ (38))), some (.inl (iZ (k + 1))), some (.inr (.inr (.inr (40, 0, k))))], [], h)) rfl ?_
      rw [if_neg (by assumption)] at q
      exact ih (k + 1) _ (by omega) q

theorem sl_kindOf {d a : Nat} {tp : List Int} {h : PH} (sh : Sh h) (t : tpC h tp) (ht : tp.length ≤ 1600) (hb : byT tp) (h0 : a < tp.length) : Rv (d + 5) 144 [.inr (.inr (.inr (9, 0, 3))), .inl (iZ (a)), .inl (iZ (tkE tp a))] h (some (.inr (.inr (.inr (40, 0, (tkA tp a).1))))) h := Rv.of fun Q q => by
  obtain ⟨ha, he⟩ := tkE_b h0
  refine Ev.sts 2 (c' := (2, [some (.inr (.inr (.inr (9, 0, 3)))), some (.inl (iZ (a))), some (.inl (iZ (tkE tp a))), none, none, none, none, none], [.inl (iZ (tkE tp a)), .inl (iZ (a))], h)) rfl ?_
  refine Ev.brT (p := (iZ (a)) < (iZ (tkE tp a))) (c1 := (9, [some (.inr (.inr (.inr (9, 0, 3)))), some (.inl (iZ (a))), some (.inl (iZ (tkE tp a))), none, none, none, none, none], [], h)) (c2 := (5, [some (.inr (.inr (.inr (9, 0, 3)))), some (.inl (iZ (a))), some (.inl (iZ (tkE tp a))), none, none, none, none, none], [], h)) ((iZ_lt ⟨by omega, by omega⟩ ⟨by omega, by omega⟩).mpr (by omega)) rfl ?_
  refine Ev.sts 1 (c' := (10, [some (.inr (.inr (.inr (9, 0, 3)))), some (.inl (iZ (a))), some (.inl (iZ (tkE tp a))), none, none, none, none, none], [.inr (.inr (.inr (9, 0, 3)))], h)) rfl ?_
  refine Ev.gfr (r := (6, 0, 4)) rfl (sh_3_0 sh) ?_
  refine Ev.sts 1 (c' := (14, [some (.inr (.inr (.inr (9, 0, 3)))), some (.inl (iZ (a))), some (.inl (iZ (tkE tp a))), none, none, none, none, none], [.inl (iZ (a)), .inr (.inr (.inr (6, 0, 4)))], h)) rfl ?_
  refine Ev.callv (a := [.inr (.inr (.inr (6, 0, 4))), .inl (iZ (a))]) rfl (sl_byteAt (k := a) sh t ht hb (by omega) (by omega)) ?_
  refine Ev.sts 2 (c' := (19, [some (.inr (.inr (.inr (9, 0, 3)))), some (.inl (iZ (a))), some (.inl (iZ (tkE tp a))), some (.inl (iZ (by_ tp a % 256))), none, none, none, none], [.inl (iZ (by_ tp a % 256))], h)) rfl ?_
  refine Ev.callw (a := [.inl (iZ (by_ tp a % 256))]) rfl (sl_isDg (hb a) (fun c0 => ?_) (fun c0 => ?_))
  · refine Ev.brF (p := (iZ (1)) = (iZ (0))) (c1 := (42, [some (.inr (.inr (.inr (9, 0, 3)))), some (.inl (iZ (a))), some (.inl (iZ (tkE tp a))), some (.inl (iZ (by_ tp a % 256))), none, none, none, none], [], h)) (c2 := (25, [some (.inr (.inr (.inr (9, 0, 3)))), some (.inl (iZ (a))), some (.inl (iZ (tkE tp a))), some (.inl (iZ (by_ tp a % 256))), none, none, none, none], [], h)) (by decide) rfl ?_
    refine Ev.sts 2 (c' := (27, [some (.inr (.inr (.inr (9, 0, 3)))), some (.inl (iZ (a))), some (.inl (iZ (tkE tp a))), some (.inl (iZ (by_ tp a % 256))), none, none, none, none], [.inl (iZ (a)), .inl (iZ (tkE tp a))], h)) rfl ?_
    refine Ev.gv (w := (iZ ((tkE tp a) - a))) rfl (iZ_sub _ _) ?_
    refine Ev.sts 1 (c' := (29, [some (.inr (.inr (.inr (9, 0, 3)))), some (.inl (iZ (a))), some (.inl (iZ (tkE tp a))), some (.inl (iZ (by_ tp a % 256))), none, none, none, none], [.inl (iZ (4)), .inl (iZ ((tkE tp a) - a))], h)) rfl ?_
    refine Ev.brc (p := (iZ ((tkE tp a) - a)) ≤ (iZ (4))) (q := (((tkE tp a) - a : Int)) ≤ 4) (c1 := (38, [some (.inr (.inr (.inr (9, 0, 3)))), some (.inl (iZ (a))), some (.inl (iZ (tkE tp a))), some (.inl (iZ (by_ tp a % 256))), none, none, none, none], [], h)) (c2 := (32, [some (.inr (.inr (.inr (9, 0, 3)))), some (.inl (iZ (a))), some (.inl (iZ (tkE tp a))), some (.inl (iZ (by_ tp a % 256))), none, none, none, none], [], h)) rfl (iZ_le ⟨by omega, by omega⟩ ⟨by omega, by omega⟩) (fun c1 => ?_) (fun c1 => ?_)
    · refine Ev.sts 1 (c' := (41, [some (.inr (.inr (.inr (9, 0, 3)))), some (.inl (iZ (a))), some (.inl (iZ (tkE tp a))), some (.inl (iZ (by_ tp a % 256))), none, none, none, none], [.inr (.inr (.inr (40, 0, 3)))], h)) rfl ?_
      exact Ev.ret rfl ((by rw [tkA_dg (by assumption)] at q; first | (rw [if_pos (by omega)] at q; exact q) | (rw [if_neg (by omega)] at q; exact q)))
    · refine Ev.sts 2 (c' := (41, [some (.inr (.inr (.inr (9, 0, 3)))), some (.inl (iZ (a))), some (.inl (iZ (tkE tp a))), some (.inl (iZ (by_ tp a % 256))), none, none, none, none], [.inr (.inr (.inr (40, 0, 1)))], h)) rfl ?_
      exact Ev.ret rfl ((by rw [tkA_dg (by assumption)] at q; first | (rw [if_pos (by omega)] at q; exact q) | (rw [if_neg (by omega)] at q; exact q)))
  · refine Ev.brT (p := (iZ (0)) = (iZ (0))) (c1 := (42, [some (.inr (.inr (.inr (9, 0, 3)))), some (.inl (iZ (a))), some (.inl (iZ (tkE tp a))), some (.inl (iZ (by_ tp a % 256))), none, none, none, none], [], h)) (c2 := (25, [some (.inr (.inr (.inr (9, 0, 3)))), some (.inl (iZ (a))), some (.inl (iZ (tkE tp a))), some (.inl (iZ (by_ tp a % 256))), none, none, none, none], [], h)) (by decide) rfl ?_
    refine Ev.sts 7 (c' := (55, [some (.inr (.inr (.inr (9, 0, 3)))), some (.inl (iZ (a))), some (.inl (iZ (tkE tp a))), some (.inl (iZ (by_ tp a % 256))), some (.inr (.inr (.inr (41, 38, 0)))), some (.inl (iZ (38))), some (.inl (iZ (0))), none], [], h)) rfl ?_
    refine sl_kd_lp sh t ht hb ha he (fun j7 q2 => sl_kd_0 sh t ht hb ha he q2) 38 0 _ (by omega) ?_
    rw [List.drop_zero, ← tkA_nd h0 (by assumption)]
    exact q

theorem sl_kindOf_e {d : Nat} {x y : Int} {h : PH} (hxy : y ≤ x) (hx : 0 ≤ x ∧ x ≤ 1600) (hy : 0 ≤ y ∧ y ≤ 1600) : Rv d 144 [.inr (.inr (.inr (9, 0, 3))), .inl (iZ (x)), .inl (iZ (y))] h (some (.inr (.inr (.inr (40, 0, 0))))) h := Rv.of fun Q q => by
  refine Ev.sts 2 (c' := (2, [some (.inr (.inr (.inr (9, 0, 3)))), some (.inl (iZ (x))), some (.inl (iZ (y))), none, none, none, none, none], [.inl (iZ (y)), .inl (iZ (x))], h)) rfl ?_
  refine Ev.brF (p := (iZ (x)) < (iZ (y))) (c1 := (9, [some (.inr (.inr (.inr (9, 0, 3)))), some (.inl (iZ (x))), some (.inl (iZ (y))), none, none, none, none, none], [], h)) (c2 := (5, [some (.inr (.inr (.inr (9, 0, 3)))), some (.inl (iZ (x))), some (.inl (iZ (y))), none, none, none, none, none], [], h)) (fun c_ => absurd ((iZ_lt ⟨by omega, by omega⟩ ⟨by omega, by omega⟩).mp c_) (by omega)) rfl ?_
  refine Ev.sts 1 (c' := (8, [some (.inr (.inr (.inr (9, 0, 3)))), some (.inl (iZ (x))), some (.inl (iZ (y))), none, none, none, none, none], [.inr (.inr (.inr (40, 0, 0)))], h)) rfl ?_
  exact Ev.ret rfl (q)

theorem sl_nb_lp {d e : Nat} {a : Int} {tp : List Int} {h : PH} {Q : Rs → PH → Prop} (sh : Sh h) (t : tpC h tp) (ht : tp.length ≤ 1600) (hb : byT tp) (he : e ≤ tp.length) (m : Nat) : ∀ (k : Nat) (w : Int), k ≤ e → e < k + m → (∀ j, k ≤ j → j < e → isDg (by_ tp j) = true) → Q (.inl (some (.inl (iZ (nbF (slc tp (e - k) k) w))))) h → Ev (d + 1) 107 (5, [some (.inr (.inr (.inr (6, 0, 4)))), some (.inl (iZ (a))), some (.inl (iZ (e))), some (.inl (iZ (w))), some (.inl (iZ (k)))], [], h) Q := by
  induction m with
  | zero => intro k w h1 h2 hd q; omega
  | succ m ih =>
    intro k w h1 h2 hd q
    refine Ev.sts 2 (c' := (8, [some (.inr (.inr (.inr (6, 0, 4)))), some (.inl (iZ (a))), some (.inl (iZ (e))), some (.inl (iZ (w))), some (.inl (iZ (k)))], [.inl (iZ (e)), .inl (iZ (k))], h)) rfl ?_
    refine Ev.brc (p := (iZ (e)) ≤ (iZ (k))) (q := ((e : Int)) ≤ k) (c1 := (32, [some (.inr (.inr (.inr (6, 0, 4)))), some (.inl (iZ (a))), some (.inl (iZ (e))), some (.inl (iZ (w))), some (.inl (iZ (k)))], [], h)) (c2 := (11, [some (.inr (.inr (.inr (6, 0, 4)))), some (.inl (iZ (a))), some (.inl (iZ (e))), some (.inl (iZ (w))), some (.inl (iZ (k)))], [], h)) rfl (iZ_le ⟨by omega, by omega⟩ ⟨by omega, by omega⟩) (fun c0 => ?_) (fun c0 => ?_)
    · refine Ev.sts 1 (c' := (33, [some (.inr (.inr (.inr (6, 0, 4)))), some (.inl (iZ (a))), some (.inl (iZ (e))), some (.inl (iZ (w))), some (.inl (iZ (k)))], [.inl (iZ (w))], h)) rfl ?_
      rw [slc_0 (by omega)] at q
      exact Ev.ret rfl q
    · refine Ev.sts 2 (c' := (14, [some (.inr (.inr (.inr (6, 0, 4)))), some (.inl (iZ (a))), some (.inl (iZ (e))), some (.inl (iZ (w))), some (.inl (iZ (k)))], [.inl (iZ (10)), .inl (iZ (w))], h)) rfl ?_
      refine Ev.gv (w := (iZ (w * 10))) rfl (iZ_mul _ _) ?_
      refine Ev.sts 2 (c' := (18, [some (.inr (.inr (.inr (6, 0, 4)))), some (.inl (iZ (a))), some (.inl (iZ (e))), some (.inl (iZ (w))), some (.inl (iZ (k)))], [.inl (iZ (k)), .inr (.inr (.inr (6, 0, 4))), .inl (iZ (w * 10))], h)) rfl ?_
      refine Ev.callv (a := [.inr (.inr (.inr (6, 0, 4))), .inl (iZ (k))]) rfl (sl_byteAt (k := k) sh t ht hb (by omega) (by omega)) ?_
      refine Ev.gv (w := (iZ ((w * 10) + (by_ tp k % 256)))) rfl (iZ_add _ _) ?_
      refine Ev.sts 1 (c' := (24, [some (.inr (.inr (.inr (6, 0, 4)))), some (.inl (iZ (a))), some (.inl (iZ (e))), some (.inl (iZ (w))), some (.inl (iZ (k)))], [.inl (iZ (48)), .inl (iZ ((w * 10) + (by_ tp k % 256)))], h)) rfl ?_
      refine Ev.gv (w := (iZ (((w * 10) + (by_ tp k % 256)) - 48))) rfl (iZ_sub _ _) ?_
      refine Ev.sts 1 (c' := (26, [some (.inr (.inr (.inr (6, 0, 4)))), some (.inl (iZ (a))), some (.inl (iZ (e))), some (.inl (iZ (((w * 10) + (by_ tp k % 256)) - 48))), some (.inl (iZ (k)))], [], h)) rfl ?_
      refine Ev.stc (c1 := (29, [some (.inr (.inr (.inr (6, 0, 4)))), some (.inl (iZ (a))), some (.inl (iZ (e))), some (.inl (iZ (((w * 10) + (by_ tp k % 256)) - 48))), some (.inl ((iZ (k)) + (iZ (1))))], [], h)) (c2 := (29, [some (.inr (.inr (.inr (6, 0, 4)))), some (.inl (iZ (a))), some (.inl (iZ (e))), some (.inl (iZ (((w * 10) + (by_ tp k % 256)) - 48))), some (.inl (iZ (k + 1)))], [], h)) rfl (by rw [iZ_add]) ?_
      refine Ev.sts 1 (c' := (5, [some (.inr (.inr (.inr (6, 0, 4)))), some (.inl (iZ (a))), some (.inl (iZ (e))), some (.inl (iZ (((w * 10) + (by_ tp k % 256)) - 48))), some (.inl (iZ (k + 1)))], [], h)) rfl ?_
      have e5 : by_ tp k % 256 = by_ tp k := by have := isDg_t.mp (hd k (Nat.le_refl _) (by omega)); omega
      refine ih (k + 1) _ (by omega) (by omega) (fun j h1 h2 => hd j (by omega) h2) ?_
      rw [slc_s (by omega)] at q
      rw [e5]
      exact q

theorem sl_number {d a e : Nat} {tp : List Int} {h : PH} (sh : Sh h) (t : tpC h tp) (ht : tp.length ≤ 1600) (hb : byT tp) (ha : a ≤ e) (he : e ≤ tp.length) (hd : ∀ j, a ≤ j → j < e → isDg (by_ tp j) = true) : Rv (d + 1) 107 [.inr (.inr (.inr (6, 0, 4))), .inl (iZ (a)), .inl (iZ (e))] h (some (.inl (iZ (nbO tp a e)))) h := Rv.of fun Q q => by
  refine Ev.sts 4 (c' := (5, [some (.inr (.inr (.inr (6, 0, 4)))), some (.inl (iZ (a))), some (.inl (iZ (e))), some (.inl (iZ (0))), some (.inl (iZ (a)))], [], h)) rfl ?_
  exact sl_nb_lp sh t ht hb he (e + 1) a 0 (by omega) (by omega) hd q

def b32 : Nat → Int
  | 0 => 1
  | n + 1 => b32 n * 32
theorem b32_7 {n : Nat} (h : n ≤ 7) : b32 n ≤ 34359738368 := by
  have e : ∀ b : Fin 8, b32 b.val ≤ 34359738368 := by decide +kernel
  exact e ⟨n, by omega⟩
theorem sl_wd_lp {d e : Nat} {a : Int} {tp : List Int} {h : PH} {Q : Rs → PH → Prop} (sh : Sh h) (t : tpC h tp) (ht : tp.length ≤ 1600) (hb : byT tp) (he : e ≤ tp.length) (m : Nat) : ∀ (k n : Nat) (w : Int), k ≤ e → e < k + m → n + (e - k) ≤ 8 → (∀ j, k ≤ j → j < e → isLt (by_ tp j) = true) → (0 ≤ w ∧ w + 1 ≤ b32 n) → Q (.inl (some (.inr (.inl (lz (enF (slc tp (e - k) k) w)))))) h → Ev (d + 1) 108 (5, [some (.inr (.inr (.inr (6, 0, 4)))), some (.inl (iZ (a))), some (.inl (iZ (e))), some (.inr (.inl (lz w))), none, some (.inl (iZ (k)))], [], h) Q := by
  induction m with
  | zero => intro k n w h1 h2 h3 hd hw q; omega
  | succ m ih =>
    intro k n w h1 h2 h3 hd hw q
    refine Ev.sts 2 (c' := (8, [some (.inr (.inr (.inr (6, 0, 4)))), some (.inl (iZ (a))), some (.inl (iZ (e))), some (.inr (.inl (lz w))), none, some (.inl (iZ (k)))], [.inl (iZ (e)), .inl (iZ (k))], h)) rfl ?_
    refine Ev.brc (p := (iZ (e)) ≤ (iZ (k))) (q := ((e : Int)) ≤ k) (c1 := (34, [some (.inr (.inr (.inr (6, 0, 4)))), some (.inl (iZ (a))), some (.inl (iZ (e))), some (.inr (.inl (lz w))), none, some (.inl (iZ (k)))], [], h)) (c2 := (11, [some (.inr (.inr (.inr (6, 0, 4)))), some (.inl (iZ (a))), some (.inl (iZ (e))), some (.inr (.inl (lz w))), none, some (.inl (iZ (k)))], [], h)) rfl (iZ_le ⟨by omega, by omega⟩ ⟨by omega, by omega⟩) (fun c0 => ?_) (fun c0 => ?_)
    · refine Ev.sts 1 (c' := (35, [some (.inr (.inr (.inr (6, 0, 4)))), some (.inl (iZ (a))), some (.inl (iZ (e))), some (.inr (.inl (lz w))), none, some (.inl (iZ (k)))], [.inr (.inl (lz w))], h)) rfl ?_
      rw [slc_0 (by omega)] at q
      exact Ev.ret rfl q
    · refine Ev.sts 5 (c' := (17, [some (.inr (.inr (.inr (6, 0, 4)))), some (.inl (iZ (a))), some (.inl (iZ (e))), some (.inr (.inl (lz w))), none, some (.inl (iZ (k)))], [.inl (iZ (k)), .inr (.inr (.inr (6, 0, 4))), .inr (.inl ((lz w <<< (((iZ (5))).toInt64 &&& 63))))], h)) rfl ?_
      refine Ev.callv (a := [.inr (.inr (.inr (6, 0, 4))), .inl (iZ (k))]) rfl (sl_byteAt (k := k) sh t ht hb (by omega) (by omega)) ?_
      refine Ev.sts 1 (c' := (22, [some (.inr (.inr (.inr (6, 0, 4)))), some (.inl (iZ (a))), some (.inl (iZ (e))), some (.inr (.inl (lz w))), none, some (.inl (iZ (k)))], [.inl (iZ (97)), .inl (iZ (by_ tp k % 256)), .inr (.inl ((lz w <<< (((iZ (5))).toInt64 &&& 63))))], h)) rfl ?_
      refine Ev.gv (w := (iZ ((by_ tp k % 256) - 97))) rfl (iZ_sub _ _) ?_
      refine Ev.sts 1 (c' := (24, [some (.inr (.inr (.inr (6, 0, 4)))), some (.inl (iZ (a))), some (.inl (iZ (e))), some (.inr (.inl (lz w))), none, some (.inl (iZ (k)))], [.inl (iZ (1)), .inl (iZ ((by_ tp k % 256) - 97)), .inr (.inl ((lz w <<< (((iZ (5))).toInt64 &&& 63))))], h)) rfl ?_
      refine Ev.gv (w := (iZ (((by_ tp k % 256) - 97) + 1))) rfl (iZ_add _ _) ?_
      refine Ev.sts 3 (c' := (28, [some (.inr (.inr (.inr (6, 0, 4)))), some (.inl (iZ (a))), some (.inl (iZ (e))), some (.inr (.inl (((lz w <<< (((iZ (5))).toInt64 &&& 63)) ||| ((iZ (((by_ tp k % 256) - 97) + 1))).toInt64)))), none, some (.inl (iZ (k)))], [], h)) rfl ?_
      refine Ev.stc (c1 := (31, [some (.inr (.inr (.inr (6, 0, 4)))), some (.inl (iZ (a))), some (.inl (iZ (e))), some (.inr (.inl (((lz w <<< (((iZ (5))).toInt64 &&& 63)) ||| ((iZ (((by_ tp k % 256) - 97) + 1))).toInt64)))), none, some (.inl ((iZ (k)) + (iZ (1))))], [], h)) (c2 := (31, [some (.inr (.inr (.inr (6, 0, 4)))), some (.inl (iZ (a))), some (.inl (iZ (e))), some (.inr (.inl (((lz w <<< (((iZ (5))).toInt64 &&& 63)) ||| ((iZ (((by_ tp k % 256) - 97) + 1))).toInt64)))), none, some (.inl (iZ (k + 1)))], [], h)) rfl (by rw [iZ_add]) ?_
      refine Ev.sts 1 (c' := (5, [some (.inr (.inr (.inr (6, 0, 4)))), some (.inl (iZ (a))), some (.inl (iZ (e))), some (.inr (.inl (((lz w <<< (((iZ (5))).toInt64 &&& 63)) ||| ((iZ (((by_ tp k % 256) - 97) + 1))).toInt64)))), none, some (.inl (iZ (k + 1)))], [], h)) rfl ?_
      have c5 := isLt_t.mp (hd k (Nat.le_refl _) (by omega))
      have e5 : by_ tp k % 256 = by_ tp k := by omega
      have b7 := b32_7 (n := n) (by omega)
      rw [show ((((by_ tp k % 256) - 97) + 1 : Int)) = by_ tp k - 96 by omega, lz_sh ⟨hw.1, by omega⟩ ⟨by omega, by omega⟩]
      refine ih (k + 1) (n + 1) _ (by omega) (by omega) (by omega) (fun j h1 h2 => hd j (by omega) h2) ⟨by omega, by show w * 32 + (by_ tp k - 96) + 1 ≤ b32 n * 32; omega⟩ ?_
      rw [slc_s (by omega)] at q
      exact q

theorem sl_word {d a e : Nat} {tp : List Int} {h : PH} (sh : Sh h) (t : tpC h tp) (ht : tp.length ≤ 1600) (hb : byT tp) (ha : a ≤ e) (he : e ≤ tp.length) (h8 : e - a ≤ 8) (hd : ∀ j, a ≤ j → j < e → isLt (by_ tp j) = true) : Rv (d + 1) 108 [.inr (.inr (.inr (6, 0, 4))), .inl (iZ (a)), .inl (iZ (e))] h (some (.inr (.inl (lz (wdO tp a e))))) h := Rv.of fun Q q => by
  refine Ev.sts 4 (c' := (5, [some (.inr (.inr (.inr (6, 0, 4)))), some (.inl (iZ (a))), some (.inl (iZ (e))), some (.inr (.inl ((0 : Int64)))), none, some (.inl (iZ (a)))], [], h)) rfl ?_
  exact sl_wd_lp sh t ht hb he (e + 1) a 0 0 (by omega) (by omega) (by omega) hd ⟨Int.le_refl _, Int.le_refl _⟩ q

theorem Sh_6 {h : PH} {k : Nat} {v : VR} (s : Sh h) : Sh (setR h 6 k v) := Sh_R s rfl
/-- a token is put into the class's rows -/
def adT (h : PH) (n kk : Nat) (f nu wd : Int) : PH := setI (setL (setI (setI (setR h 6 n (40, 0, kk)) 7 n (iZ f)) 8 n (iZ nu)) 9 n (lz wd)) 3 5 (iZ ((n : Int) + 1))
theorem lz_0 : lz 0 = (0 : Int64) := rfl
theorem sl_add {d n kk f e : Nat} {tp : List Int} {h : PH} (sh : Sh h) (t : tpC h tp) (ht : tp.length ≤ 1600) (hb : byT tp) (hs : h.1 3 5 = iZ n) (hn : n ≤ 400) (hf : f ≤ e) (he : e ≤ tp.length) (hd : kk = 3 → ∀ j, f ≤ j → j < e → isDg (by_ tp j) = true) (hl : kk = 2 → e - f ≤ 8 ∧ ∀ j, f ≤ j → j < e → isLt (by_ tp j) = true) : Rv (d + 2) 145 [.inr (.inr (.inr (9, 0, 3))), .inr (.inr (.inr (40, 0, kk))), .inl (iZ (f)), .inl (iZ (e))] h (none) (adT h n kk f (if kk = 3 then nbO tp f e else 0) (if kk = 2 then wdO tp f e else 0)) := Rv.of fun Q q => by
  refine Ev.sts 1 (c' := (1, [some (.inr (.inr (.inr (9, 0, 3)))), some (.inr (.inr (.inr (40, 0, kk)))), some (.inl (iZ (f))), some (.inl (iZ (e)))], [.inr (.inr (.inr (9, 0, 3)))], h)) rfl ?_
  refine Ev.gv (w := (iZ (n))) rfl hs ?_
  refine Ev.brF (p := (iZ (n)) < (iZ (0))) (c1 := (143, [some (.inr (.inr (.inr (9, 0, 3)))), some (.inr (.inr (.inr (40, 0, kk)))), some (.inl (iZ (f))), some (.inl (iZ (e)))], [], h)) (c2 := (7, [some (.inr (.inr (.inr (9, 0, 3)))), some (.inr (.inr (.inr (40, 0, kk)))), some (.inl (iZ (f))), some (.inl (iZ (e)))], [], h)) (fun c_ => absurd ((iZ_lt ⟨by omega, by omega⟩ ⟨by omega, by omega⟩).mp c_) (by omega)) rfl ?_
  refine Ev.sts 1 (c' := (8, [some (.inr (.inr (.inr (9, 0, 3)))), some (.inr (.inr (.inr (40, 0, kk)))), some (.inl (iZ (f))), some (.inl (iZ (e)))], [.inr (.inr (.inr (9, 0, 3)))], h)) rfl ?_
  refine Ev.gv (w := (iZ (n))) rfl hs ?_
  refine Ev.sts 1 (c' := (12, [some (.inr (.inr (.inr (9, 0, 3)))), some (.inr (.inr (.inr (40, 0, kk)))), some (.inl (iZ (f))), some (.inl (iZ (e)))], [.inr (.inr (.inr (9, 0, 3))), .inl (iZ (n))], h)) rfl ?_
  refine Ev.gfr (r := (23, 401, 6)) rfl (sh_3_1 (h := h) sh) ?_
  refine Ev.sts 1 (c' := (16, [some (.inr (.inr (.inr (9, 0, 3)))), some (.inr (.inr (.inr (40, 0, kk)))), some (.inl (iZ (f))), some (.inl (iZ (e)))], [.inl (iZ (401)), .inl (iZ (n))], h)) rfl ?_
  refine Ev.brF (p := (iZ (401)) ≤ (iZ (n))) (c1 := (143, [some (.inr (.inr (.inr (9, 0, 3)))), some (.inr (.inr (.inr (40, 0, kk)))), some (.inl (iZ (f))), some (.inl (iZ (e)))], [], h)) (c2 := (19, [some (.inr (.inr (.inr (9, 0, 3)))), some (.inr (.inr (.inr (40, 0, kk)))), some (.inl (iZ (f))), some (.inl (iZ (e)))], [], h)) (fun c_ => absurd ((iZ_le ⟨by omega, by omega⟩ ⟨by omega, by omega⟩).mp c_) (by omega)) rfl ?_
  refine Ev.sts 1 (c' := (20, [some (.inr (.inr (.inr (9, 0, 3)))), some (.inr (.inr (.inr (40, 0, kk)))), some (.inl (iZ (f))), some (.inl (iZ (e)))], [.inr (.inr (.inr (9, 0, 3)))], h)) rfl ?_
  refine Ev.gv (w := (iZ (n))) rfl hs ?_
  refine Ev.sts 1 (c' := (24, [some (.inr (.inr (.inr (9, 0, 3)))), some (.inr (.inr (.inr (40, 0, kk)))), some (.inl (iZ (f))), some (.inl (iZ (e)))], [.inr (.inr (.inr (9, 0, 3))), .inl (iZ (n))], h)) rfl ?_
  refine Ev.gfr (r := (20, 401, 7)) rfl (sh_3_2 (h := h) sh) ?_
  refine Ev.sts 1 (c' := (28, [some (.inr (.inr (.inr (9, 0, 3)))), some (.inr (.inr (.inr (40, 0, kk)))), some (.inl (iZ (f))), some (.inl (iZ (e)))], [.inl (iZ (401)), .inl (iZ (n))], h)) rfl ?_
  refine Ev.brF (p := (iZ (401)) ≤ (iZ (n))) (c1 := (143, [some (.inr (.inr (.inr (9, 0, 3)))), some (.inr (.inr (.inr (40, 0, kk)))), some (.inl (iZ (f))), some (.inl (iZ (e)))], [], h)) (c2 := (31, [some (.inr (.inr (.inr (9, 0, 3)))), some (.inr (.inr (.inr (40, 0, kk)))), some (.inl (iZ (f))), some (.inl (iZ (e)))], [], h)) (fun c_ => absurd ((iZ_le ⟨by omega, by omega⟩ ⟨by omega, by omega⟩).mp c_) (by omega)) rfl ?_
  refine Ev.sts 1 (c' := (32, [some (.inr (.inr (.inr (9, 0, 3)))), some (.inr (.inr (.inr (40, 0, kk)))), some (.inl (iZ (f))), some (.inl (iZ (e)))], [.inr (.inr (.inr (9, 0, 3)))], h)) rfl ?_
  refine Ev.gv (w := (iZ (n))) rfl hs ?_
  refine Ev.sts 1 (c' := (36, [some (.inr (.inr (.inr (9, 0, 3)))), some (.inr (.inr (.inr (40, 0, kk)))), some (.inl (iZ (f))), some (.inl (iZ (e)))], [.inr (.inr (.inr (9, 0, 3))), .inl (iZ (n))], h)) rfl ?_
  refine Ev.gfr (r := (20, 401, 8)) rfl (sh_3_3 (h := h) sh) ?_
  refine Ev.sts 1 (c' := (40, [some (.inr (.inr (.inr (9, 0, 3)))), some (.inr (.inr (.inr (40, 0, kk)))), some (.inl (iZ (f))), some (.inl (iZ (e)))], [.inl (iZ (401)), .inl (iZ (n))], h)) rfl ?_
  refine Ev.brF (p := (iZ (401)) ≤ (iZ (n))) (c1 := (143, [some (.inr (.inr (.inr (9, 0, 3)))), some (.inr (.inr (.inr (40, 0, kk)))), some (.inl (iZ (f))), some (.inl (iZ (e)))], [], h)) (c2 := (43, [some (.inr (.inr (.inr (9, 0, 3)))), some (.inr (.inr (.inr (40, 0, kk)))), some (.inl (iZ (f))), some (.inl (iZ (e)))], [], h)) (fun c_ => absurd ((iZ_le ⟨by omega, by omega⟩ ⟨by omega, by omega⟩).mp c_) (by omega)) rfl ?_
  refine Ev.sts 1 (c' := (44, [some (.inr (.inr (.inr (9, 0, 3)))), some (.inr (.inr (.inr (40, 0, kk)))), some (.inl (iZ (f))), some (.inl (iZ (e)))], [.inr (.inr (.inr (9, 0, 3)))], h)) rfl ?_
  refine Ev.gv (w := (iZ (n))) rfl hs ?_
  refine Ev.sts 1 (c' := (48, [some (.inr (.inr (.inr (9, 0, 3)))), some (.inr (.inr (.inr (40, 0, kk)))), some (.inl (iZ (f))), some (.inl (iZ (e)))], [.inr (.inr (.inr (9, 0, 3))), .inl (iZ (n))], h)) rfl ?_
  refine Ev.gfr (r := (21, 401, 9)) rfl (sh_3_4 (h := h) sh) ?_
  refine Ev.sts 1 (c' := (52, [some (.inr (.inr (.inr (9, 0, 3)))), some (.inr (.inr (.inr (40, 0, kk)))), some (.inl (iZ (f))), some (.inl (iZ (e)))], [.inl (iZ (401)), .inl (iZ (n))], h)) rfl ?_
  refine Ev.brF (p := (iZ (401)) ≤ (iZ (n))) (c1 := (143, [some (.inr (.inr (.inr (9, 0, 3)))), some (.inr (.inr (.inr (40, 0, kk)))), some (.inl (iZ (f))), some (.inl (iZ (e)))], [], h)) (c2 := (55, [some (.inr (.inr (.inr (9, 0, 3)))), some (.inr (.inr (.inr (40, 0, kk)))), some (.inl (iZ (f))), some (.inl (iZ (e)))], [], h)) (fun c_ => absurd ((iZ_le ⟨by omega, by omega⟩ ⟨by omega, by omega⟩).mp c_) (by omega)) rfl ?_
  refine Ev.sts 1 (c' := (56, [some (.inr (.inr (.inr (9, 0, 3)))), some (.inr (.inr (.inr (40, 0, kk)))), some (.inl (iZ (f))), some (.inl (iZ (e)))], [.inr (.inr (.inr (9, 0, 3)))], h)) rfl ?_
  refine Ev.gfr (r := (23, 401, 6)) rfl (sh_3_1 (h := h) sh) ?_
  refine Ev.sts 1 (c' := (60, [some (.inr (.inr (.inr (9, 0, 3)))), some (.inr (.inr (.inr (40, 0, kk)))), some (.inl (iZ (f))), some (.inl (iZ (e)))], [.inr (.inr (.inr (9, 0, 3))), .inr (.inr (.inr (23, 401, 6)))], h)) rfl ?_
  refine Ev.gv (w := (iZ (n))) rfl hs ?_
  refine Ev.sts 1 (c' := (64, [some (.inr (.inr (.inr (9, 0, 3)))), some (.inr (.inr (.inr (40, 0, kk)))), some (.inl (iZ (f))), some (.inl (iZ (e)))], [.inr (.inr (.inr (40, 0, kk))), .inl (iZ (n)), .inr (.inr (.inr (23, 401, 6)))], h)) rfl ?_
  refine Ev.sto (j := (iZ (n))) (n := 401) (h2 := (setR h 6 n (40, 0, kk))) (iZ_in (by omega) (by omega) (by omega)) rfl (by rw [iZ_ix (n := n) (by omega) (by omega)]) ?_
  refine Ev.sts 1 (c' := (66, [some (.inr (.inr (.inr (9, 0, 3)))), some (.inr (.inr (.inr (40, 0, kk)))), some (.inl (iZ (f))), some (.inl (iZ (e)))], [.inr (.inr (.inr (9, 0, 3)))], (setR h 6 n (40, 0, kk)))) rfl ?_
  refine Ev.gfr (r := (20, 401, 7)) rfl (sh_3_2 (h := h) sh) ?_
  refine Ev.sts 1 (c' := (70, [some (.inr (.inr (.inr (9, 0, 3)))), some (.inr (.inr (.inr (40, 0, kk)))), some (.inl (iZ (f))), some (.inl (iZ (e)))], [.inr (.inr (.inr (9, 0, 3))), .inr (.inr (.inr (20, 401, 7)))], (setR h 6 n (40, 0, kk)))) rfl ?_
  refine Ev.gv (w := (iZ (n))) rfl hs ?_
  refine Ev.sts 1 (c' := (74, [some (.inr (.inr (.inr (9, 0, 3)))), some (.inr (.inr (.inr (40, 0, kk)))), some (.inl (iZ (f))), some (.inl (iZ (e)))], [.inl (iZ (f)), .inl (iZ (n)), .inr (.inr (.inr (20, 401, 7)))], (setR h 6 n (40, 0, kk)))) rfl ?_
  refine Ev.sto (j := (iZ (n))) (n := 401) (h2 := (setI (setR h 6 n (40, 0, kk)) 7 n ((iZ (f))))) (iZ_in (by omega) (by omega) (by omega)) rfl (by rw [iZ_ix (n := n) (by omega) (by omega)]) ?_
  refine Ev.sts 1 (c' := (76, [some (.inr (.inr (.inr (9, 0, 3)))), some (.inr (.inr (.inr (40, 0, kk)))), some (.inl (iZ (f))), some (.inl (iZ (e)))], [.inr (.inr (.inr (9, 0, 3)))], (setI (setR h 6 n (40, 0, kk)) 7 n ((iZ (f)))))) rfl ?_
  refine Ev.gfr (r := (20, 401, 8)) rfl (sh_3_3 (h := h) sh) ?_
  refine Ev.sts 1 (c' := (80, [some (.inr (.inr (.inr (9, 0, 3)))), some (.inr (.inr (.inr (40, 0, kk)))), some (.inl (iZ (f))), some (.inl (iZ (e)))], [.inr (.inr (.inr (9, 0, 3))), .inr (.inr (.inr (20, 401, 8)))], (setI (setR h 6 n (40, 0, kk)) 7 n ((iZ (f)))))) rfl ?_
  refine Ev.gv (w := (iZ (n))) rfl hs ?_
  refine Ev.sts 2 (c' := (87, [some (.inr (.inr (.inr (9, 0, 3)))), some (.inr (.inr (.inr (40, 0, kk)))), some (.inl (iZ (f))), some (.inl (iZ (e)))], [.inr (.inr (.inr (40, 0, 3))), .inr (.inr (.inr (40, 0, kk))), .inl (iZ (n)), .inr (.inr (.inr (20, 401, 8)))], (setI (setR h 6 n (40, 0, kk)) 7 n ((iZ (f)))))) rfl ?_
  refine Ev.br (p := ¬ kk = 3) (c1 := (102, [some (.inr (.inr (.inr (9, 0, 3)))), some (.inr (.inr (.inr (40, 0, kk)))), some (.inl (iZ (f))), some (.inl (iZ (e)))], [.inl (iZ (n)), .inr (.inr (.inr (20, 401, 8)))], (setI (setR h 6 n (40, 0, kk)) 7 n ((iZ (f)))))) (c2 := (90, [some (.inr (.inr (.inr (9, 0, 3)))), some (.inr (.inr (.inr (40, 0, kk)))), some (.inl (iZ (f))), some (.inl (iZ (e)))], [.inl (iZ (n)), .inr (.inr (.inr (20, 401, 8)))], (setI (setR h 6 n (40, 0, kk)) 7 n ((iZ (f)))))) rfl (fun c0 => ?_) (fun c0 => ?_)
  · refine Ev.sts 1 (c' := (103, [some (.inr (.inr (.inr (9, 0, 3)))), some (.inr (.inr (.inr (40, 0, kk)))), some (.inl (iZ (f))), some (.inl (iZ (e)))], [.inl (iZ (0)), .inl (iZ (n)), .inr (.inr (.inr (20, 401, 8)))], (setI (setR h 6 n (40, 0, kk)) 7 n ((iZ (f)))))) rfl ?_
    refine Ev.sto (j := (iZ (n))) (n := 401) (h2 := (setI (setI (setR h 6 n (40, 0, kk)) 7 n ((iZ (f)))) 8 n ((iZ (0))))) (iZ_in (by omega) (by omega) (by omega)) rfl (by rw [iZ_ix (n := n) (by omega) (by omega)]) ?_
    refine Ev.sts 1 (c' := (105, [some (.inr (.inr (.inr (9, 0, 3)))), some (.inr (.inr (.inr (40, 0, kk)))), some (.inl (iZ (f))), some (.inl (iZ (e)))], [.inr (.inr (.inr (9, 0, 3)))], (setI (setI (setR h 6 n (40, 0, kk)) 7 n ((iZ (f)))) 8 n ((iZ (0)))))) rfl ?_
    refine Ev.gfr (r := (21, 401, 9)) rfl (sh_3_4 (h := h) sh) ?_
    refine Ev.sts 1 (c' := (109, [some (.inr (.inr (.inr (9, 0, 3)))), some (.inr (.inr (.inr (40, 0, kk)))), some (.inl (iZ (f))), some (.inl (iZ (e)))], [.inr (.inr (.inr (9, 0, 3))), .inr (.inr (.inr (21, 401, 9)))], (setI (setI (setR h 6 n (40, 0, kk)) 7 n ((iZ (f)))) 8 n ((iZ (0)))))) rfl ?_
    refine Ev.gv (w := (iZ (n))) rfl hs ?_
    refine Ev.sts 2 (c' := (116, [some (.inr (.inr (.inr (9, 0, 3)))), some (.inr (.inr (.inr (40, 0, kk)))), some (.inl (iZ (f))), some (.inl (iZ (e)))], [.inr (.inr (.inr (40, 0, 2))), .inr (.inr (.inr (40, 0, kk))), .inl (iZ (n)), .inr (.inr (.inr (21, 401, 9)))], (setI (setI (setR h 6 n (40, 0, kk)) 7 n ((iZ (f)))) 8 n ((iZ (0)))))) rfl ?_
    refine Ev.br (p := ¬ kk = 2) (c1 := (131, [some (.inr (.inr (.inr (9, 0, 3)))), some (.inr (.inr (.inr (40, 0, kk)))), some (.inl (iZ (f))), some (.inl (iZ (e)))], [.inl (iZ (n)), .inr (.inr (.inr (21, 401, 9)))], (setI (setI (setR h 6 n (40, 0, kk)) 7 n ((iZ (f)))) 8 n ((iZ (0)))))) (c2 := (119, [some (.inr (.inr (.inr (9, 0, 3)))), some (.inr (.inr (.inr (40, 0, kk)))), some (.inl (iZ (f))), some (.inl (iZ (e)))], [.inl (iZ (n)), .inr (.inr (.inr (21, 401, 9)))], (setI (setI (setR h 6 n (40, 0, kk)) 7 n ((iZ (f)))) 8 n ((iZ (0)))))) rfl (fun c1 => ?_) (fun c1 => ?_)
    · refine Ev.sts 1 (c' := (132, [some (.inr (.inr (.inr (9, 0, 3)))), some (.inr (.inr (.inr (40, 0, kk)))), some (.inl (iZ (f))), some (.inl (iZ (e)))], [.inr (.inl ((0 : Int64))), .inl (iZ (n)), .inr (.inr (.inr (21, 401, 9)))], (setI (setI (setR h 6 n (40, 0, kk)) 7 n ((iZ (f)))) 8 n ((iZ (0)))))) rfl ?_
      refine Ev.sto (j := (iZ (n))) (n := 401) (h2 := (setL (setI (setI (setR h 6 n (40, 0, kk)) 7 n ((iZ (f)))) 8 n ((iZ (0)))) 9 n ((0 : Int64)))) (iZ_in (by omega) (by omega) (by omega)) rfl (by rw [iZ_ix (n := n) (by omega) (by omega)]) ?_
      refine Ev.sts 2 (c' := (135, [some (.inr (.inr (.inr (9, 0, 3)))), some (.inr (.inr (.inr (40, 0, kk)))), some (.inl (iZ (f))), some (.inl (iZ (e)))], [.inr (.inr (.inr (9, 0, 3))), .inr (.inr (.inr (9, 0, 3)))], (setL (setI (setI (setR h 6 n (40, 0, kk)) 7 n ((iZ (f)))) 8 n ((iZ (0)))) 9 n ((0 : Int64))))) rfl ?_
      refine Ev.gv (w := (iZ (n))) rfl hs ?_
      refine Ev.sts 1 (c' := (139, [some (.inr (.inr (.inr (9, 0, 3)))), some (.inr (.inr (.inr (40, 0, kk)))), some (.inl (iZ (f))), some (.inl (iZ (e)))], [.inl (iZ (1)), .inl (iZ (n)), .inr (.inr (.inr (9, 0, 3)))], (setL (setI (setI (setR h 6 n (40, 0, kk)) 7 n ((iZ (f)))) 8 n ((iZ (0)))) 9 n ((0 : Int64))))) rfl ?_
      refine Ev.gv (w := (iZ (n + 1))) rfl (iZ_add _ _) ?_
      refine Ev.sts 1 (c' := (143, [some (.inr (.inr (.inr (9, 0, 3)))), some (.inr (.inr (.inr (40, 0, kk)))), some (.inl (iZ (f))), some (.inl (iZ (e)))], [], (setI (setL (setI (setI (setR h 6 n (40, 0, kk)) 7 n ((iZ (f)))) 8 n ((iZ (0)))) 9 n ((0 : Int64))) 3 5 ((iZ (n + 1)))))) rfl ?_
      first | rw [if_pos (Classical.not_not.mp c0)] at q | rw [if_neg c0] at q
      first | rw [if_pos (Classical.not_not.mp c1)] at q | rw [if_neg c1] at q
      exact Ev.ret rfl q
    · refine Ev.sts 1 (c' := (120, [some (.inr (.inr (.inr (9, 0, 3)))), some (.inr (.inr (.inr (40, 0, kk)))), some (.inl (iZ (f))), some (.inl (iZ (e)))], [.inr (.inr (.inr (9, 0, 3))), .inl (iZ (n)), .inr (.inr (.inr (21, 401, 9)))], (setI (setI (setR h 6 n (40, 0, kk)) 7 n ((iZ (f)))) 8 n ((iZ (0)))))) rfl ?_
      refine Ev.gfr (r := (6, 0, 4)) rfl (sh_3_0 (h := h) sh) ?_
      refine Ev.sts 2 (c' := (125, [some (.inr (.inr (.inr (9, 0, 3)))), some (.inr (.inr (.inr (40, 0, kk)))), some (.inl (iZ (f))), some (.inl (iZ (e)))], [.inl (iZ (e)), .inl (iZ (f)), .inr (.inr (.inr (6, 0, 4))), .inl (iZ (n)), .inr (.inr (.inr (21, 401, 9)))], (setI (setI (setR h 6 n (40, 0, kk)) 7 n ((iZ (f)))) 8 n ((iZ (0)))))) rfl ?_
      refine Ev.callv (a := [.inr (.inr (.inr (6, 0, 4))), .inl (iZ (f)), .inl (iZ (e))]) rfl (sl_word (Sh_eq (Sh_6 (k := n) (v := (40, 0, kk)) sh) rfl) (show tpC _ tp from t) ht hb hf he (hl (by first | exact c1 | exact Classical.not_not.mp c1)).1 (hl (by first | exact c1 | exact Classical.not_not.mp c1)).2) ?_
      refine Ev.sts 1 (c' := (132, [some (.inr (.inr (.inr (9, 0, 3)))), some (.inr (.inr (.inr (40, 0, kk)))), some (.inl (iZ (f))), some (.inl (iZ (e)))], [.inr (.inl (lz (wdO tp f e))), .inl (iZ (n)), .inr (.inr (.inr (21, 401, 9)))], (setI (setI (setR h 6 n (40, 0, kk)) 7 n ((iZ (f)))) 8 n ((iZ (0)))))) rfl ?_
      refine Ev.sto (j := (iZ (n))) (n := 401) (h2 := (setL (setI (setI (setR h 6 n (40, 0, kk)) 7 n ((iZ (f)))) 8 n ((iZ (0)))) 9 n (lz (wdO tp f e)))) (iZ_in (by omega) (by omega) (by omega)) rfl (by rw [iZ_ix (n := n) (by omega) (by omega)]) ?_
      refine Ev.sts 2 (c' := (135, [some (.inr (.inr (.inr (9, 0, 3)))), some (.inr (.inr (.inr (40, 0, kk)))), some (.inl (iZ (f))), some (.inl (iZ (e)))], [.inr (.inr (.inr (9, 0, 3))), .inr (.inr (.inr (9, 0, 3)))], (setL (setI (setI (setR h 6 n (40, 0, kk)) 7 n ((iZ (f)))) 8 n ((iZ (0)))) 9 n (lz (wdO tp f e))))) rfl ?_
      refine Ev.gv (w := (iZ (n))) rfl hs ?_
      refine Ev.sts 1 (c' := (139, [some (.inr (.inr (.inr (9, 0, 3)))), some (.inr (.inr (.inr (40, 0, kk)))), some (.inl (iZ (f))), some (.inl (iZ (e)))], [.inl (iZ (1)), .inl (iZ (n)), .inr (.inr (.inr (9, 0, 3)))], (setL (setI (setI (setR h 6 n (40, 0, kk)) 7 n ((iZ (f)))) 8 n ((iZ (0)))) 9 n (lz (wdO tp f e))))) rfl ?_
      refine Ev.gv (w := (iZ (n + 1))) rfl (iZ_add _ _) ?_
      refine Ev.sts 1 (c' := (143, [some (.inr (.inr (.inr (9, 0, 3)))), some (.inr (.inr (.inr (40, 0, kk)))), some (.inl (iZ (f))), some (.inl (iZ (e)))], [], (setI (setL (setI (setI (setR h 6 n (40, 0, kk)) 7 n ((iZ (f)))) 8 n ((iZ (0)))) 9 n (lz (wdO tp f e))) 3 5 ((iZ (n + 1)))))) rfl ?_
      first | rw [if_pos (Classical.not_not.mp c0)] at q | rw [if_neg c0] at q
      first | rw [if_pos (Classical.not_not.mp c1)] at q | rw [if_neg c1] at q
      exact Ev.ret rfl q
  · refine Ev.sts 1 (c' := (91, [some (.inr (.inr (.inr (9, 0, 3)))), some (.inr (.inr (.inr (40, 0, kk)))), some (.inl (iZ (f))), some (.inl (iZ (e)))], [.inr (.inr (.inr (9, 0, 3))), .inl (iZ (n)), .inr (.inr (.inr (20, 401, 8)))], (setI (setR h 6 n (40, 0, kk)) 7 n ((iZ (f)))))) rfl ?_
    refine Ev.gfr (r := (6, 0, 4)) rfl (sh_3_0 (h := h) sh) ?_
    refine Ev.sts 2 (c' := (96, [some (.inr (.inr (.inr (9, 0, 3)))), some (.inr (.inr (.inr (40, 0, kk)))), some (.inl (iZ (f))), some (.inl (iZ (e)))], [.inl (iZ (e)), .inl (iZ (f)), .inr (.inr (.inr (6, 0, 4))), .inl (iZ (n)), .inr (.inr (.inr (20, 401, 8)))], (setI (setR h 6 n (40, 0, kk)) 7 n ((iZ (f)))))) rfl ?_
    refine Ev.callv (a := [.inr (.inr (.inr (6, 0, 4))), .inl (iZ (f)), .inl (iZ (e))]) rfl (sl_number (Sh_eq (Sh_6 (k := n) (v := (40, 0, kk)) sh) rfl) (show tpC _ tp from t) ht hb hf he (hd (by first | exact c0 | exact Classical.not_not.mp c0))) ?_
    refine Ev.sts 1 (c' := (103, [some (.inr (.inr (.inr (9, 0, 3)))), some (.inr (.inr (.inr (40, 0, kk)))), some (.inl (iZ (f))), some (.inl (iZ (e)))], [.inl (iZ (nbO tp f e)), .inl (iZ (n)), .inr (.inr (.inr (20, 401, 8)))], (setI (setR h 6 n (40, 0, kk)) 7 n ((iZ (f)))))) rfl ?_
    refine Ev.sto (j := (iZ (n))) (n := 401) (h2 := (setI (setI (setR h 6 n (40, 0, kk)) 7 n ((iZ (f)))) 8 n ((iZ (nbO tp f e))))) (iZ_in (by omega) (by omega) (by omega)) rfl (by rw [iZ_ix (n := n) (by omega) (by omega)]) ?_
    refine Ev.sts 1 (c' := (105, [some (.inr (.inr (.inr (9, 0, 3)))), some (.inr (.inr (.inr (40, 0, kk)))), some (.inl (iZ (f))), some (.inl (iZ (e)))], [.inr (.inr (.inr (9, 0, 3)))], (setI (setI (setR h 6 n (40, 0, kk)) 7 n ((iZ (f)))) 8 n ((iZ (nbO tp f e)))))) rfl ?_
    refine Ev.gfr (r := (21, 401, 9)) rfl (sh_3_4 (h := h) sh) ?_
    refine Ev.sts 1 (c' := (109, [some (.inr (.inr (.inr (9, 0, 3)))), some (.inr (.inr (.inr (40, 0, kk)))), some (.inl (iZ (f))), some (.inl (iZ (e)))], [.inr (.inr (.inr (9, 0, 3))), .inr (.inr (.inr (21, 401, 9)))], (setI (setI (setR h 6 n (40, 0, kk)) 7 n ((iZ (f)))) 8 n ((iZ (nbO tp f e)))))) rfl ?_
    refine Ev.gv (w := (iZ (n))) rfl hs ?_
    refine Ev.sts 2 (c' := (116, [some (.inr (.inr (.inr (9, 0, 3)))), some (.inr (.inr (.inr (40, 0, kk)))), some (.inl (iZ (f))), some (.inl (iZ (e)))], [.inr (.inr (.inr (40, 0, 2))), .inr (.inr (.inr (40, 0, kk))), .inl (iZ (n)), .inr (.inr (.inr (21, 401, 9)))], (setI (setI (setR h 6 n (40, 0, kk)) 7 n ((iZ (f)))) 8 n ((iZ (nbO tp f e)))))) rfl ?_
    refine Ev.br (p := ¬ kk = 2) (c1 := (131, [some (.inr (.inr (.inr (9, 0, 3)))), some (.inr (.inr (.inr (40, 0, kk)))), some (.inl (iZ (f))), some (.inl (iZ (e)))], [.inl (iZ (n)), .inr (.inr (.inr (21, 401, 9)))], (setI (setI (setR h 6 n (40, 0, kk)) 7 n ((iZ (f)))) 8 n ((iZ (nbO tp f e)))))) (c2 := (119, [some (.inr (.inr (.inr (9, 0, 3)))), some (.inr (.inr (.inr (40, 0, kk)))), some (.inl (iZ (f))), some (.inl (iZ (e)))], [.inl (iZ (n)), .inr (.inr (.inr (21, 401, 9)))], (setI (setI (setR h 6 n (40, 0, kk)) 7 n ((iZ (f)))) 8 n ((iZ (nbO tp f e)))))) rfl (fun c1 => ?_) (fun c1 => ?_)
    · refine Ev.sts 1 (c' := (132, [some (.inr (.inr (.inr (9, 0, 3)))), some (.inr (.inr (.inr (40, 0, kk)))), some (.inl (iZ (f))), some (.inl (iZ (e)))], [.inr (.inl ((0 : Int64))), .inl (iZ (n)), .inr (.inr (.inr (21, 401, 9)))], (setI (setI (setR h 6 n (40, 0, kk)) 7 n ((iZ (f)))) 8 n ((iZ (nbO tp f e)))))) rfl ?_
      refine Ev.sto (j := (iZ (n))) (n := 401) (h2 := (setL (setI (setI (setR h 6 n (40, 0, kk)) 7 n ((iZ (f)))) 8 n ((iZ (nbO tp f e)))) 9 n ((0 : Int64)))) (iZ_in (by omega) (by omega) (by omega)) rfl (by rw [iZ_ix (n := n) (by omega) (by omega)]) ?_
      refine Ev.sts 2 (c' := (135, [some (.inr (.inr (.inr (9, 0, 3)))), some (.inr (.inr (.inr (40, 0, kk)))), some (.inl (iZ (f))), some (.inl (iZ (e)))], [.inr (.inr (.inr (9, 0, 3))), .inr (.inr (.inr (9, 0, 3)))], (setL (setI (setI (setR h 6 n (40, 0, kk)) 7 n ((iZ (f)))) 8 n ((iZ (nbO tp f e)))) 9 n ((0 : Int64))))) rfl ?_
      refine Ev.gv (w := (iZ (n))) rfl hs ?_
      refine Ev.sts 1 (c' := (139, [some (.inr (.inr (.inr (9, 0, 3)))), some (.inr (.inr (.inr (40, 0, kk)))), some (.inl (iZ (f))), some (.inl (iZ (e)))], [.inl (iZ (1)), .inl (iZ (n)), .inr (.inr (.inr (9, 0, 3)))], (setL (setI (setI (setR h 6 n (40, 0, kk)) 7 n ((iZ (f)))) 8 n ((iZ (nbO tp f e)))) 9 n ((0 : Int64))))) rfl ?_
      refine Ev.gv (w := (iZ (n + 1))) rfl (iZ_add _ _) ?_
      refine Ev.sts 1 (c' := (143, [some (.inr (.inr (.inr (9, 0, 3)))), some (.inr (.inr (.inr (40, 0, kk)))), some (.inl (iZ (f))), some (.inl (iZ (e)))], [], (setI (setL (setI (setI (setR h 6 n (40, 0, kk)) 7 n ((iZ (f)))) 8 n ((iZ (nbO tp f e)))) 9 n ((0 : Int64))) 3 5 ((iZ (n + 1)))))) rfl ?_
      first | rw [if_pos (Classical.not_not.mp c0)] at q | rw [if_neg c0] at q
      first | rw [if_pos (Classical.not_not.mp c1)] at q | rw [if_neg c1] at q
      exact Ev.ret rfl q
    · refine Ev.sts 1 (c' := (120, [some (.inr (.inr (.inr (9, 0, 3)))), some (.inr (.inr (.inr (40, 0, kk)))), some (.inl (iZ (f))), some (.inl (iZ (e)))], [.inr (.inr (.inr (9, 0, 3))), .inl (iZ (n)), .inr (.inr (.inr (21, 401, 9)))], (setI (setI (setR h 6 n (40, 0, kk)) 7 n ((iZ (f)))) 8 n ((iZ (nbO tp f e)))))) rfl ?_
      refine Ev.gfr (r := (6, 0, 4)) rfl (sh_3_0 (h := h) sh) ?_
      refine Ev.sts 2 (c' := (125, [some (.inr (.inr (.inr (9, 0, 3)))), some (.inr (.inr (.inr (40, 0, kk)))), some (.inl (iZ (f))), some (.inl (iZ (e)))], [.inl (iZ (e)), .inl (iZ (f)), .inr (.inr (.inr (6, 0, 4))), .inl (iZ (n)), .inr (.inr (.inr (21, 401, 9)))], (setI (setI (setR h 6 n (40, 0, kk)) 7 n ((iZ (f)))) 8 n ((iZ (nbO tp f e)))))) rfl ?_
      refine Ev.callv (a := [.inr (.inr (.inr (6, 0, 4))), .inl (iZ (f)), .inl (iZ (e))]) rfl (sl_word (Sh_eq (Sh_6 (k := n) (v := (40, 0, kk)) sh) rfl) (show tpC _ tp from t) ht hb hf he (hl (by first | exact c1 | exact Classical.not_not.mp c1)).1 (hl (by first | exact c1 | exact Classical.not_not.mp c1)).2) ?_
      refine Ev.sts 1 (c' := (132, [some (.inr (.inr (.inr (9, 0, 3)))), some (.inr (.inr (.inr (40, 0, kk)))), some (.inl (iZ (f))), some (.inl (iZ (e)))], [.inr (.inl (lz (wdO tp f e))), .inl (iZ (n)), .inr (.inr (.inr (21, 401, 9)))], (setI (setI (setR h 6 n (40, 0, kk)) 7 n ((iZ (f)))) 8 n ((iZ (nbO tp f e)))))) rfl ?_
      refine Ev.sto (j := (iZ (n))) (n := 401) (h2 := (setL (setI (setI (setR h 6 n (40, 0, kk)) 7 n ((iZ (f)))) 8 n ((iZ (nbO tp f e)))) 9 n (lz (wdO tp f e)))) (iZ_in (by omega) (by omega) (by omega)) rfl (by rw [iZ_ix (n := n) (by omega) (by omega)]) ?_
      refine Ev.sts 2 (c' := (135, [some (.inr (.inr (.inr (9, 0, 3)))), some (.inr (.inr (.inr (40, 0, kk)))), some (.inl (iZ (f))), some (.inl (iZ (e)))], [.inr (.inr (.inr (9, 0, 3))), .inr (.inr (.inr (9, 0, 3)))], (setL (setI (setI (setR h 6 n (40, 0, kk)) 7 n ((iZ (f)))) 8 n ((iZ (nbO tp f e)))) 9 n (lz (wdO tp f e))))) rfl ?_
      refine Ev.gv (w := (iZ (n))) rfl hs ?_
      refine Ev.sts 1 (c' := (139, [some (.inr (.inr (.inr (9, 0, 3)))), some (.inr (.inr (.inr (40, 0, kk)))), some (.inl (iZ (f))), some (.inl (iZ (e)))], [.inl (iZ (1)), .inl (iZ (n)), .inr (.inr (.inr (9, 0, 3)))], (setL (setI (setI (setR h 6 n (40, 0, kk)) 7 n ((iZ (f)))) 8 n ((iZ (nbO tp f e)))) 9 n (lz (wdO tp f e))))) rfl ?_
      refine Ev.gv (w := (iZ (n + 1))) rfl (iZ_add _ _) ?_
      refine Ev.sts 1 (c' := (143, [some (.inr (.inr (.inr (9, 0, 3)))), some (.inr (.inr (.inr (40, 0, kk)))), some (.inl (iZ (f))), some (.inl (iZ (e)))], [], (setI (setL (setI (setI (setR h 6 n (40, 0, kk)) 7 n ((iZ (f)))) 8 n ((iZ (nbO tp f e)))) 9 n (lz (wdO tp f e))) 3 5 ((iZ (n + 1)))))) rfl ?_
      first | rw [if_pos (Classical.not_not.mp c0)] at q | rw [if_neg c0] at q
      first | rw [if_pos (Classical.not_not.mp c1)] at q | rw [if_neg c1] at q
      exact Ev.ret rfl q

theorem kS_23 (c : Int) : ¬ kindS c = 3 ∧ ¬ kindS c = 2 := by
  show ¬ kdS txts 0 [c] 1 = 3 ∧ ¬ kdS txts 0 [c] 1 = 2
  rw [show kdS txts 0 [c] 1 = kdS (txts.drop 4) 4 [c] 1 from by
    show (if [c] = [] then 0 else if [c] = [] then 1 else if [c] = [] then 2 else if [c] = [] then 3 else kdS (txts.drop 4) 4 [c] 1) = _
    rw [if_neg (List.cons_ne_nil _ _), if_neg (List.cons_ne_nil _ _), if_neg (List.cons_ne_nil _ _), if_neg (List.cons_ne_nil _ _)]]
  have g : ∀ (A : List (List Int)) (k : Nat), 4 ≤ k → ¬ kdS A k [c] 1 = 3 ∧ ¬ kdS A k [c] 1 = 2 := by
    intro A
    induction A with
    | nil => intro k _; exact ⟨by show ¬ 1 = 3; decide, by show ¬ 1 = 2; decide⟩
    | cons t A ih =>
      intro k hk
      show ¬ (if [c] = t then k else kdS A (k + 1) [c] 1) = 3 ∧ ¬ (if [c] = t then k else kdS A (k + 1) [c] 1) = 2
      split
      · omega
      · exact ih (k + 1) (by omega)
  exact g _ 4 (Nat.le_refl _)
theorem tk_tok {tp : List Int} {f : Nat} (h : f < tp.length) : ((tkA tp f).1, (f : Int), (if (tkA tp f).1 = 3 then nbO tp f (tkE tp f) else 0), (if (tkA tp f).1 = 2 then wdO tp f (tkE tp f) else 0)) = tkA tp f := by
  unfold tkA
  by_cases c : isLt (by_ tp f) = true
  · rw [if_pos c]
    by_cases h8 : tkE tp f - f ≤ 8
    · rw [if_pos h8]
      obtain ⟨w1, w2⟩ := wdO_b h c h8
      have k3 : ¬ kindW (wdO tp f (tkE tp f)) = 3 := by
        rcases kindW_k (w := wdO tp f (tkE tp f)) (by omega) with ⟨a, -⟩ | ⟨a, -, -⟩ <;> omega
      show (kindW (wdO tp f (tkE tp f)), (f : Int), (if kindW (wdO tp f (tkE tp f)) = 3 then _ else 0), (if kindW (wdO tp f (tkE tp f)) = 2 then _ else 0)) = _
      rw [if_neg k3]
    · rw [if_neg h8]; rfl
  · rw [if_neg c]
    by_cases d : isDg (by_ tp f) = true
    · rw [if_pos d]
      by_cases h4 : tkE tp f - f ≤ 4
      · rw [if_pos h4]; rfl
      · rw [if_neg h4]; rfl
    · rw [if_neg d]
      show (kindS (by_ tp f), (f : Int), (if kindS (by_ tp f) = 3 then _ else 0), (if kindS (by_ tp f) = 2 then _ else 0)) = _
      rw [if_neg (kS_23 _).1, if_neg (kS_23 _).2]
theorem tk_dg {tp : List Int} {f : Nat} (h : f < tp.length) (k : (tkA tp f).1 = 3) : ∀ j, f ≤ j → j < tkE tp f → isDg (by_ tp j) = true := by
  have e := tkE_b h
  by_cases d : isDg (by_ tp f) = true
  · have c : ¬ isLt (by_ tp f) = true := fun z => by
      have := isLt_t.mp z
      have := isDg_t.mp d
      omega
    unfold tkE
    rw [if_neg c, if_pos d]
    exact fun j h1 h2 => (rn_all j h1 h2).2
  · exfalso
    have t := tk_tok h
    unfold tkA at k
    by_cases c : isLt (by_ tp f) = true
    · rw [if_pos c] at k
      by_cases h8 : tkE tp f - f ≤ 8
      · rw [if_pos h8] at k
        obtain ⟨w1, w2⟩ := wdO_b h c h8
        replace k : kindW (wdO tp f (tkE tp f)) = 3 := k
        rcases kindW_k (w := wdO tp f (tkE tp f)) (by omega) with ⟨a, -⟩ | ⟨a, -, -⟩ <;> omega
      · rw [if_neg h8] at k; exact absurd k (by show ¬ 1 = 3; decide)
    · rw [if_neg c, if_neg d] at k
      exact absurd k (kS_23 _).1
theorem tk_lt {tp : List Int} {f : Nat} (h : f < tp.length) (k : (tkA tp f).1 = 2) : tkE tp f - f ≤ 8 ∧ ∀ j, f ≤ j → j < tkE tp f → isLt (by_ tp j) = true := by
  by_cases c : isLt (by_ tp f) = true
  · have a : ∀ j, f ≤ j → j < tkE tp f → isLt (by_ tp j) = true := by
      unfold tkE
      rw [if_pos c]
      exact fun j h1 h2 => (rn_all j h1 h2).2
    refine ⟨?_, a⟩
    unfold tkA at k
    rw [if_pos c] at k
    by_cases h8 : tkE tp f - f ≤ 8
    · exact h8
    · rw [if_neg h8] at k; exact absurd k (by show ¬ 1 = 2; decide)
  · exfalso
    unfold tkA at k
    rw [if_neg c] at k
    by_cases d : isDg (by_ tp f) = true
    · rw [if_pos d] at k
      by_cases h4 : tkE tp f - f ≤ 4
      · rw [if_pos h4] at k; exact absurd k (by show ¬ 3 = 2; decide)
      · rw [if_neg h4] at k; exact absurd k (by show ¬ 1 = 2; decide)
    · rw [if_neg d] at k
      exact absurd k (kS_23 _).2
