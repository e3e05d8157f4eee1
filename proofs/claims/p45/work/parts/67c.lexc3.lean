/-! The class cuts the tape into tokens: the loop. -/
def tkJ (h : PH) (j : Nat) (t : Tok) : Prop := h.2.2.1 6 j = (40, 0, t.1) ∧ h.1 7 j = iZ t.2.1 ∧ h.1 8 j = iZ t.2.2.1 ∧ h.2.1 9 j = lz t.2.2.2
/-- the class's rows of tokens show T -/
def tkC (h : PH) (T : List Tok) : Prop := h.1 3 5 = iZ T.length ∧ ∀ j, j < T.length → tkJ h j (T.getD j tk0)
def adK (h : PH) (n : Nat) (t : Tok) : PH := adT h n t.1 t.2.1 t.2.2.1 t.2.2.2
def fK (h h' : PH) : Prop := h'.2.2.2 = h.2.2.2 ∧ (∀ a, a ≠ 3 → a ≠ 7 → a ≠ 8 → h'.1 a = h.1 a) ∧ (∀ k, k ≠ 5 → h'.1 3 k = h.1 3 k) ∧ (∀ a, a ≠ 9 → h'.2.1 a = h.2.1 a) ∧ (∀ a, a ≠ 6 → h'.2.2.1 a = h.2.2.1 a)
theorem fK_r (h : PH) : fK h h := ⟨rfl, fun _ _ _ _ => rfl, fun _ _ => rfl, fun _ _ => rfl, fun _ _ => rfl⟩
theorem fK_t {h h1 h2 : PH} (a : fK h h1) (b : fK h1 h2) : fK h h2 := ⟨b.1.trans a.1, fun x x1 x2 x3 => (b.2.1 x x1 x2 x3).trans (a.2.1 x x1 x2 x3), fun k x1 => (b.2.2.1 k x1).trans (a.2.2.1 k x1), fun x x1 => (b.2.2.2.1 x x1).trans (a.2.2.2.1 x x1), fun x x1 => (b.2.2.2.2 x x1).trans (a.2.2.2.2 x x1)⟩
theorem setL_oth {h : PH} {a k b : Nat} {v : Int64} (e : b ≠ a) : (setL h a k v).2.1 b = h.2.1 b := by
  funext j
  exact if_neg (fun z => e z.1)
theorem setL_ne {h : PH} {a k b j : Nat} {v : Int64} (e : ¬ (b = a ∧ j = k)) : (setL h a k v).2.1 b j = h.2.1 b j := if_neg e
theorem setL_self (h : PH) (a k : Nat) (v : Int64) : (setL h a k v).2.1 a k = v := if_pos ⟨rfl, rfl⟩
theorem Sh_R2 {h h' : PH} (s : Sh h) (e : h'.2.2 = h.2.2) : Sh h' := fun t ht => by rw [e]; exact s t ht
theorem setR_self (h : PH) (a k : Nat) (v : VR) : (setR h a k v).2.2.1 a k = v := by
  show (if a = a ∧ k = k then v else h.2.2.1 a k) = v
  rw [if_pos ⟨rfl, rfl⟩]
theorem setR_ne {h : PH} {a k b j : Nat} {v : VR} (e : ¬ (b = a ∧ j = k)) : (setR h a k v).2.2.1 b j = h.2.2.1 b j := if_neg e
theorem setR_oth {h : PH} {a k b : Nat} {v : VR} (e : b ≠ a) : (setR h a k v).2.2.1 b = h.2.2.1 b := by
  funext j
  exact if_neg (fun z => e z.1)
theorem adT_1 (h : PH) (n kk : Nat) (f nu wd : Int) : (adT h n kk f nu wd).1 = (setI (setI (setI h 7 n (iZ f)) 8 n (iZ nu)) 3 5 (iZ ((n : Int) + 1))).1 := rfl
theorem adT_2 (h : PH) (n kk : Nat) (f nu wd : Int) : (adT h n kk f nu wd).2.1 = (setL h 9 n (lz wd)).2.1 := rfl
theorem adT_3 (h : PH) (n kk : Nat) (f nu wd : Int) : (adT h n kk f nu wd).2.2.1 = (setR h 6 n (40, 0, kk)).2.2.1 := rfl
theorem fK_ad (h : PH) (n : Nat) (t : Tok) : fK h (adK h n t) := by
  unfold adK
  refine ⟨rfl, fun a a1 a2 a3 => ?_, fun k k1 => ?_, fun a a1 => ?_, fun a a1 => ?_⟩
  · rw [adT_1, setI_oth a1, setI_oth a3, setI_oth a2]
  · rw [adT_1, setI_ne (by omega), setI_ne (by omega), setI_ne (by omega)]
  · rw [adT_2, setL_oth a1]
  · rw [adT_3, setR_oth a1]
theorem tkC_ad {h : PH} {T : List Tok} {n : Nat} (t : Tok) (hn : T.length = n) (c : tkC h T) : tkC (adK h n t) (T ++ [t]) := by
  subst hn
  unfold adK
  refine ⟨?_, fun j hj => ?_⟩
  · rw [adT_1, setI_self, List.length_append]
    rfl
  · rw [List.length_append] at hj
    replace hj : j < T.length + 1 := hj
    unfold tkJ
    rw [adT_1, adT_2, adT_3, setI_ne (b := 7) (by omega), setI_ne (b := 7) (by omega), setI_ne (b := 8) (by omega)]
    by_cases e : j = T.length
    · subst e
      rw [setI_self, setI_self, setL_self, setR_self, show (T ++ [t]).getD T.length tk0 = t from by rw [List.getD_eq_getElem?_getD, List.getElem?_concat_length]; rfl]
      exact ⟨rfl, rfl, rfl, rfl⟩
    · obtain ⟨c1, c2, c3, c4⟩ := c.2 j (by omega)
      rw [setI_ne (by omega), setI_ne (by omega), setL_ne (by omega), setR_ne (by omega), show (T ++ [t]).getD j tk0 = T.getD j tk0 from by rw [List.getD_eq_getElem?_getD, List.getElem?_append_left (by omega), ← List.getD_eq_getElem?_getD]]
      exact ⟨c1, c2, c3, c4⟩
theorem shL_6 : ∀ t ∈ shL, t.1 ≠ 6 := by decide
theorem Sh_fK {h h' : PH} (s : Sh h) (f : fK h h') : Sh h' := fun t ht => by rw [f.2.2.2.2 t.1 (shL_6 t ht)]; exact s t ht
theorem tpC_fK {h h' : PH} {tp : List Int} (t : tpC h tp) (f : fK h h') : tpC h' tp := ⟨by rw [f.2.1 4 (by decide) (by decide) (by decide)]; exact t.1, fun j hj => by rw [f.2.1 5 (by decide) (by decide) (by decide)]; exact t.2 j hj⟩
theorem sl_cutA {d k f i kk : Nat} {j4 : Option VV} {tp : List Int} {h : PH} {Q : Rs → PH → Prop} (sh : Sh h) (t : tpC h tp) (ht : tp.length ≤ 1600) (hb : byT tp) (hk : k ≤ tp.length) (hf : rn isBk tp k = f) (h0 : f < tp.length) (hs : h.1 3 5 = iZ i) (hi : i < 400) (k1 : 2 ≤ kk) (q : ∀ j4 : Option VV, Ev (d + 6) 138 (18, [some (.inr (.inr (.inr (9, 0, 3)))), some (.inl (iZ (tkE tp f))), some (.inr (.inr (.inr (40, 0, (tkA tp f).1)))), some (.inl (iZ (i + 1))), j4], [], (adK h i (tkA tp f))) Q) : Ev (d + 6) 138 (18, [some (.inr (.inr (.inr (9, 0, 3)))), some (.inl (iZ (k))), some (.inr (.inr (.inr (40, 0, kk)))), some (.inl (iZ (i))), j4], [], h) Q := by
  refine Ev.sts 2 (c' := (22, [some (.inr (.inr (.inr (9, 0, 3)))), some (.inl (iZ (k))), some (.inr (.inr (.inr (40, 0, kk)))), some (.inl (iZ (i))), j4], [.inl (iZ (400)), .inl (iZ (i))], h)) rfl ?_
  refine Ev.brF (p := (iZ (400)) < (iZ (i))) (c1 := (93, [some (.inr (.inr (.inr (9, 0, 3)))), some (.inl (iZ (k))), some (.inr (.inr (.inr (40, 0, kk)))), some (.inl (iZ (i))), j4], [], h)) (c2 := (25, [some (.inr (.inr (.inr (9, 0, 3)))), some (.inl (iZ (k))), some (.inr (.inr (.inr (40, 0, kk)))), some (.inl (iZ (i))), j4], [], h)) (fun c_ => absurd ((iZ_lt ⟨by omega, by omega⟩ ⟨by omega, by omega⟩).mp c_) (by omega)) rfl ?_
  refine Ev.sts 2 (c' := (29, [some (.inr (.inr (.inr (9, 0, 3)))), some (.inl (iZ (k))), some (.inr (.inr (.inr (40, 0, kk)))), some (.inl (iZ (i))), j4], [.inr (.inr (.inr (40, 0, 0))), .inr (.inr (.inr (40, 0, kk)))], h)) rfl ?_
  refine Ev.brF (p := kk = 0) (c1 := (93, [some (.inr (.inr (.inr (9, 0, 3)))), some (.inl (iZ (k))), some (.inr (.inr (.inr (40, 0, kk)))), some (.inl (iZ (i))), j4], [], h)) (c2 := (32, [some (.inr (.inr (.inr (9, 0, 3)))), some (.inl (iZ (k))), some (.inr (.inr (.inr (40, 0, kk)))), some (.inl (iZ (i))), j4], [], h)) (by omega) rfl ?_
  refine Ev.sts 2 (c' := (36, [some (.inr (.inr (.inr (9, 0, 3)))), some (.inl (iZ (k))), some (.inr (.inr (.inr (40, 0, kk)))), some (.inl (iZ (i))), j4], [.inr (.inr (.inr (40, 0, 1))), .inr (.inr (.inr (40, 0, kk)))], h)) rfl ?_
  refine Ev.brF (p := kk = 1) (c1 := (93, [some (.inr (.inr (.inr (9, 0, 3)))), some (.inl (iZ (k))), some (.inr (.inr (.inr (40, 0, kk)))), some (.inl (iZ (i))), j4], [], h)) (c2 := (39, [some (.inr (.inr (.inr (9, 0, 3)))), some (.inl (iZ (k))), some (.inr (.inr (.inr (40, 0, kk)))), some (.inl (iZ (i))), j4], [], h)) (by omega) rfl ?_
  refine Ev.sts 2 (c' := (41, [some (.inr (.inr (.inr (9, 0, 3)))), some (.inl (iZ (k))), some (.inr (.inr (.inr (40, 0, kk)))), some (.inl (iZ (i))), j4], [.inl (iZ (k)), .inr (.inr (.inr (9, 0, 3)))], h)) rfl ?_
  refine Ev.callv (a := [.inr (.inr (.inr (9, 0, 3))), .inl (iZ (k))]) rfl (Rv.mono (sl_blanks (k := k) sh t ht hb (by omega) hk) (by rw [hf]) rfl) ?_
  refine Ev.sts 3 (c' := (49, [some (.inr (.inr (.inr (9, 0, 3)))), some (.inl (iZ (k))), some (.inr (.inr (.inr (40, 0, kk)))), some (.inl (iZ (i))), some (.inl (iZ (f)))], [.inl (iZ (f)), .inr (.inr (.inr (9, 0, 3)))], h)) rfl ?_
  refine Ev.callv (a := [.inr (.inr (.inr (9, 0, 3))), .inl (iZ (f))]) rfl (sl_token (k := f) sh t ht hb (by omega) h0) ?_
  refine Ev.sts 4 (c' := (57, [some (.inr (.inr (.inr (9, 0, 3)))), some (.inl (iZ (tkE tp f))), some (.inr (.inr (.inr (40, 0, kk)))), some (.inl (iZ (i))), some (.inl (iZ (f)))], [.inl (iZ (tkE tp f)), .inl (iZ (f)), .inr (.inr (.inr (9, 0, 3)))], h)) rfl ?_
  refine Ev.callv (a := [.inr (.inr (.inr (9, 0, 3))), .inl (iZ (f)), .inl (iZ (tkE tp f))]) rfl (sl_kindOf sh t ht hb h0) ?_
  refine Ev.sts 3 (c' := (65, [some (.inr (.inr (.inr (9, 0, 3)))), some (.inl (iZ (tkE tp f))), some (.inr (.inr (.inr (40, 0, (tkA tp f).1)))), some (.inl (iZ (i))), some (.inl (iZ (f)))], [.inl (iZ (400)), .inl (iZ (i))], h)) rfl ?_
  refine Ev.brT (p := ¬ (iZ (i)) = (iZ (400))) (c1 := (79, [some (.inr (.inr (.inr (9, 0, 3)))), some (.inl (iZ (tkE tp f))), some (.inr (.inr (.inr (40, 0, (tkA tp f).1)))), some (.inl (iZ (i))), some (.inl (iZ (f)))], [], h)) (c2 := (68, [some (.inr (.inr (.inr (9, 0, 3)))), some (.inl (iZ (tkE tp f))), some (.inr (.inr (.inr (40, 0, (tkA tp f).1)))), some (.inl (iZ (i))), some (.inl (iZ (f)))], [], h)) ((not_congr (iZ_eq ⟨by omega, by omega⟩ ⟨by omega, by omega⟩)).mpr (by omega)) rfl ?_
  refine Ev.sts 4 (c' := (84, [some (.inr (.inr (.inr (9, 0, 3)))), some (.inl (iZ (tkE tp f))), some (.inr (.inr (.inr (40, 0, (tkA tp f).1)))), some (.inl (iZ (i))), some (.inl (iZ (f)))], [.inl (iZ (tkE tp f)), .inl (iZ (f)), .inr (.inr (.inr (40, 0, (tkA tp f).1))), .inr (.inr (.inr (9, 0, 3)))], h)) rfl ?_
  refine Ev.callv (a := [.inr (.inr (.inr (9, 0, 3))), .inr (.inr (.inr (40, 0, (tkA tp f).1))), .inl (iZ (f)), .inl (iZ (tkE tp f))]) rfl (Rv.mono (sl_add (n := i) (kk := (tkA tp f).1) (f := f) (e := tkE tp f) sh t ht hb hs (by omega) (Nat.le_of_lt (tkE_b h0).1) (tkE_b h0).2 (tk_dg h0) (tk_lt h0)) rfl (congrArg (adK h i) (tk_tok h0))) ?_
  refine Ev.stc (c1 := (90, [some (.inr (.inr (.inr (9, 0, 3)))), some (.inl (iZ (tkE tp f))), some (.inr (.inr (.inr (40, 0, (tkA tp f).1)))), some (.inl ((iZ (i)) + (iZ (1)))), some (.inl (iZ (f)))], [], (adK h i (tkA tp f)))) (c2 := (90, [some (.inr (.inr (.inr (9, 0, 3)))), some (.inl (iZ (tkE tp f))), some (.inr (.inr (.inr (40, 0, (tkA tp f).1)))), some (.inl (iZ (i + 1))), some (.inl (iZ (f)))], [], (adK h i (tkA tp f)))) rfl (by rw [iZ_add]) ?_
  refine Ev.sts 1 (c' := (18, [some (.inr (.inr (.inr (9, 0, 3)))), some (.inl (iZ (tkE tp f))), some (.inr (.inr (.inr (40, 0, (tkA tp f).1)))), some (.inl (iZ (i + 1))), some (.inl (iZ (f)))], [], (adK h i (tkA tp f)))) rfl ?_
  exact q _

theorem sl_cutB {d k f kk : Nat} {j4 : Option VV} {tp : List Int} {h : PH} {Q : Rs → PH → Prop} (sh : Sh h) (t : tpC h tp) (ht : tp.length ≤ 1600) (hb : byT tp) (hk : k ≤ tp.length) (hf : rn isBk tp k = f) (h0 : f < tp.length) (hs : h.1 3 5 = iZ ((400 : Nat) : Int)) (k1 : 2 ≤ kk) (q : ∀ j4 : Option VV, Ev (d + 6) 138 (18, [some (.inr (.inr (.inr (9, 0, 3)))), some (.inl (iZ (tkE tp f))), some (.inr (.inr (.inr (40, 0, 1)))), some (.inl (iZ (401))), j4], [], (adK h 400 (1, (f : Int), 0, 0))) Q) : Ev (d + 6) 138 (18, [some (.inr (.inr (.inr (9, 0, 3)))), some (.inl (iZ (k))), some (.inr (.inr (.inr (40, 0, kk)))), some (.inl (iZ (400))), j4], [], h) Q := by
  refine Ev.sts 2 (c' := (22, [some (.inr (.inr (.inr (9, 0, 3)))), some (.inl (iZ (k))), some (.inr (.inr (.inr (40, 0, kk)))), some (.inl (iZ (400))), j4], [.inl (iZ (400)), .inl (iZ (400))], h)) rfl ?_
  refine Ev.brF (p := (iZ (400)) < (iZ (400))) (c1 := (93, [some (.inr (.inr (.inr (9, 0, 3)))), some (.inl (iZ (k))), some (.inr (.inr (.inr (40, 0, kk)))), some (.inl (iZ (400))), j4], [], h)) (c2 := (25, [some (.inr (.inr (.inr (9, 0, 3)))), some (.inl (iZ (k))), some (.inr (.inr (.inr (40, 0, kk)))), some (.inl (iZ (400))), j4], [], h)) (by decide) rfl ?_
  refine Ev.sts 2 (c' := (29, [some (.inr (.inr (.inr (9, 0, 3)))), some (.inl (iZ (k))), some (.inr (.inr (.inr (40, 0, kk)))), some (.inl (iZ (400))), j4], [.inr (.inr (.inr (40, 0, 0))), .inr (.inr (.inr (40, 0, kk)))], h)) rfl ?_
  refine Ev.brF (p := kk = 0) (c1 := (93, [some (.inr (.inr (.inr (9, 0, 3)))), some (.inl (iZ (k))), some (.inr (.inr (.inr (40, 0, kk)))), some (.inl (iZ (400))), j4], [], h)) (c2 := (32, [some (.inr (.inr (.inr (9, 0, 3)))), some (.inl (iZ (k))), some (.inr (.inr (.inr (40, 0, kk)))), some (.inl (iZ (400))), j4], [], h)) (by omega) rfl ?_
  refine Ev.sts 2 (c' := (36, [some (.inr (.inr (.inr (9, 0, 3)))), some (.inl (iZ (k))), some (.inr (.inr (.inr (40, 0, kk)))), some (.inl (iZ (400))), j4], [.inr (.inr (.inr (40, 0, 1))), .inr (.inr (.inr (40, 0, kk)))], h)) rfl ?_
  refine Ev.brF (p := kk = 1) (c1 := (93, [some (.inr (.inr (.inr (9, 0, 3)))), some (.inl (iZ (k))), some (.inr (.inr (.inr (40, 0, kk)))), some (.inl (iZ (400))), j4], [], h)) (c2 := (39, [some (.inr (.inr (.inr (9, 0, 3)))), some (.inl (iZ (k))), some (.inr (.inr (.inr (40, 0, kk)))), some (.inl (iZ (400))), j4], [], h)) (by omega) rfl ?_
  refine Ev.sts 2 (c' := (41, [some (.inr (.inr (.inr (9, 0, 3)))), some (.inl (iZ (k))), some (.inr (.inr (.inr (40, 0, kk)))), some (.inl (iZ (400))), j4], [.inl (iZ (k)), .inr (.inr (.inr (9, 0, 3)))], h)) rfl ?_
  refine Ev.callv (a := [.inr (.inr (.inr (9, 0, 3))), .inl (iZ (k))]) rfl (Rv.mono (sl_blanks (k := k) sh t ht hb (by omega) hk) (by rw [hf]) rfl) ?_
  refine Ev.sts 3 (c' := (49, [some (.inr (.inr (.inr (9, 0, 3)))), some (.inl (iZ (k))), some (.inr (.inr (.inr (40, 0, kk)))), some (.inl (iZ (400))), some (.inl (iZ (f)))], [.inl (iZ (f)), .inr (.inr (.inr (9, 0, 3)))], h)) rfl ?_
  refine Ev.callv (a := [.inr (.inr (.inr (9, 0, 3))), .inl (iZ (f))]) rfl (sl_token (k := f) sh t ht hb (by omega) h0) ?_
  refine Ev.sts 4 (c' := (57, [some (.inr (.inr (.inr (9, 0, 3)))), some (.inl (iZ (tkE tp f))), some (.inr (.inr (.inr (40, 0, kk)))), some (.inl (iZ (400))), some (.inl (iZ (f)))], [.inl (iZ (tkE tp f)), .inl (iZ (f)), .inr (.inr (.inr (9, 0, 3)))], h)) rfl ?_
  refine Ev.callv (a := [.inr (.inr (.inr (9, 0, 3))), .inl (iZ (f)), .inl (iZ (tkE tp f))]) rfl (sl_kindOf sh t ht hb h0) ?_
  refine Ev.sts 3 (c' := (65, [some (.inr (.inr (.inr (9, 0, 3)))), some (.inl (iZ (tkE tp f))), some (.inr (.inr (.inr (40, 0, (tkA tp f).1)))), some (.inl (iZ (400))), some (.inl (iZ (f)))], [.inl (iZ (400)), .inl (iZ (400))], h)) rfl ?_
  refine Ev.brF (p := ¬ (iZ (400)) = (iZ (400))) (c1 := (79, [some (.inr (.inr (.inr (9, 0, 3)))), some (.inl (iZ (tkE tp f))), some (.inr (.inr (.inr (40, 0, (tkA tp f).1)))), some (.inl (iZ (400))), some (.inl (iZ (f)))], [], h)) (c2 := (68, [some (.inr (.inr (.inr (9, 0, 3)))), some (.inl (iZ (tkE tp f))), some (.inr (.inr (.inr (40, 0, (tkA tp f).1)))), some (.inl (iZ (400))), some (.inl (iZ (f)))], [], h)) (by decide) rfl ?_
  refine Ev.sts 2 (c' := (72, [some (.inr (.inr (.inr (9, 0, 3)))), some (.inl (iZ (tkE tp f))), some (.inr (.inr (.inr (40, 0, (tkA tp f).1)))), some (.inl (iZ (400))), some (.inl (iZ (f)))], [.inr (.inr (.inr (40, 0, 0))), .inr (.inr (.inr (40, 0, (tkA tp f).1)))], h)) rfl ?_
  refine Ev.brF (p := (tkA tp f).1 = 0) (c1 := (79, [some (.inr (.inr (.inr (9, 0, 3)))), some (.inl (iZ (tkE tp f))), some (.inr (.inr (.inr (40, 0, (tkA tp f).1)))), some (.inl (iZ (400))), some (.inl (iZ (f)))], [], h)) (c2 := (75, [some (.inr (.inr (.inr (9, 0, 3)))), some (.inl (iZ (tkE tp f))), some (.inr (.inr (.inr (40, 0, (tkA tp f).1)))), some (.inl (iZ (400))), some (.inl (iZ (f)))], [], h)) ((by have := (tkA_b ht hb h0).2.2; omega)) rfl ?_
  refine Ev.sts 6 (c' := (84, [some (.inr (.inr (.inr (9, 0, 3)))), some (.inl (iZ (tkE tp f))), some (.inr (.inr (.inr (40, 0, 1)))), some (.inl (iZ (400))), some (.inl (iZ (f)))], [.inl (iZ (tkE tp f)), .inl (iZ (f)), .inr (.inr (.inr (40, 0, 1))), .inr (.inr (.inr (9, 0, 3)))], h)) rfl ?_
  refine Ev.callv (a := [.inr (.inr (.inr (9, 0, 3))), .inr (.inr (.inr (40, 0, 1))), .inl (iZ (f)), .inl (iZ (tkE tp f))]) rfl (Rv.mono (sl_add (n := 400) (kk := 1) (f := f) (e := tkE tp f) sh t ht hb hs (by omega) (Nat.le_of_lt (tkE_b h0).1) (tkE_b h0).2 (fun z_ => absurd z_ (by decide)) (fun z_ => absurd z_ (by decide))) rfl rfl) ?_
  refine Ev.stc (c1 := (90, [some (.inr (.inr (.inr (9, 0, 3)))), some (.inl (iZ (tkE tp f))), some (.inr (.inr (.inr (40, 0, 1)))), some (.inl ((iZ (400)) + (iZ (1)))), some (.inl (iZ (f)))], [], (adK h 400 (1, (f : Int), 0, 0)))) (c2 := (90, [some (.inr (.inr (.inr (9, 0, 3)))), some (.inl (iZ (tkE tp f))), some (.inr (.inr (.inr (40, 0, 1)))), some (.inl (iZ (401))), some (.inl (iZ (f)))], [], (adK h 400 (1, (f : Int), 0, 0)))) rfl (by rw [iZ_add]; rfl) ?_
  refine Ev.sts 1 (c' := (18, [some (.inr (.inr (.inr (9, 0, 3)))), some (.inl (iZ (tkE tp f))), some (.inr (.inr (.inr (40, 0, 1)))), some (.inl (iZ (401))), some (.inl (iZ (f)))], [], (adK h 400 (1, (f : Int), 0, 0)))) rfl ?_
  exact q _

theorem sl_cutC {d k f i kk : Nat} {j4 : Option VV} {tp : List Int} {h : PH} {Q : Rs → PH → Prop} (sh : Sh h) (t : tpC h tp) (ht : tp.length ≤ 1600) (hb : byT tp) (hk : k ≤ tp.length) (hf : rn isBk tp k = f) (h0 : f = tp.length) (hs : h.1 3 5 = iZ i) (hi : i ≤ 400) (k1 : 2 ≤ kk) (q : ∀ j4 : Option VV, Ev (d + 3) 138 (18, [some (.inr (.inr (.inr (9, 0, 3)))), some (.inl (iZ (tp.length))), some (.inr (.inr (.inr (40, 0, 0)))), some (.inl (iZ (i + 1))), j4], [], (adK h i (0, (f : Int), 0, 0))) Q) : Ev (d + 3) 138 (18, [some (.inr (.inr (.inr (9, 0, 3)))), some (.inl (iZ (k))), some (.inr (.inr (.inr (40, 0, kk)))), some (.inl (iZ (i))), j4], [], h) Q := by
  refine Ev.sts 2 (c' := (22, [some (.inr (.inr (.inr (9, 0, 3)))), some (.inl (iZ (k))), some (.inr (.inr (.inr (40, 0, kk)))), some (.inl (iZ (i))), j4], [.inl (iZ (400)), .inl (iZ (i))], h)) rfl ?_
  refine Ev.brF (p := (iZ (400)) < (iZ (i))) (c1 := (93, [some (.inr (.inr (.inr (9, 0, 3)))), some (.inl (iZ (k))), some (.inr (.inr (.inr (40, 0, kk)))), some (.inl (iZ (i))), j4], [], h)) (c2 := (25, [some (.inr (.inr (.inr (9, 0, 3)))), some (.inl (iZ (k))), some (.inr (.inr (.inr (40, 0, kk)))), some (.inl (iZ (i))), j4], [], h)) (fun c_ => absurd ((iZ_lt ⟨by omega, by omega⟩ ⟨by omega, by omega⟩).mp c_) (by omega)) rfl ?_
  refine Ev.sts 2 (c' := (29, [some (.inr (.inr (.inr (9, 0, 3)))), some (.inl (iZ (k))), some (.inr (.inr (.inr (40, 0, kk)))), some (.inl (iZ (i))), j4], [.inr (.inr (.inr (40, 0, 0))), .inr (.inr (.inr (40, 0, kk)))], h)) rfl ?_
  refine Ev.brF (p := kk = 0) (c1 := (93, [some (.inr (.inr (.inr (9, 0, 3)))), some (.inl (iZ (k))), some (.inr (.inr (.inr (40, 0, kk)))), some (.inl (iZ (i))), j4], [], h)) (c2 := (32, [some (.inr (.inr (.inr (9, 0, 3)))), some (.inl (iZ (k))), some (.inr (.inr (.inr (40, 0, kk)))), some (.inl (iZ (i))), j4], [], h)) (by omega) rfl ?_
  refine Ev.sts 2 (c' := (36, [some (.inr (.inr (.inr (9, 0, 3)))), some (.inl (iZ (k))), some (.inr (.inr (.inr (40, 0, kk)))), some (.inl (iZ (i))), j4], [.inr (.inr (.inr (40, 0, 1))), .inr (.inr (.inr (40, 0, kk)))], h)) rfl ?_
  refine Ev.brF (p := kk = 1) (c1 := (93, [some (.inr (.inr (.inr (9, 0, 3)))), some (.inl (iZ (k))), some (.inr (.inr (.inr (40, 0, kk)))), some (.inl (iZ (i))), j4], [], h)) (c2 := (39, [some (.inr (.inr (.inr (9, 0, 3)))), some (.inl (iZ (k))), some (.inr (.inr (.inr (40, 0, kk)))), some (.inl (iZ (i))), j4], [], h)) (by omega) rfl ?_
  refine Ev.sts 2 (c' := (41, [some (.inr (.inr (.inr (9, 0, 3)))), some (.inl (iZ (k))), some (.inr (.inr (.inr (40, 0, kk)))), some (.inl (iZ (i))), j4], [.inl (iZ (k)), .inr (.inr (.inr (9, 0, 3)))], h)) rfl ?_
  refine Ev.callv (a := [.inr (.inr (.inr (9, 0, 3))), .inl (iZ (k))]) rfl (Rv.mono (sl_blanks (k := k) sh t ht hb (by omega) hk) (by rw [hf]) rfl) ?_
  refine Ev.sts 3 (c' := (49, [some (.inr (.inr (.inr (9, 0, 3)))), some (.inl (iZ (k))), some (.inr (.inr (.inr (40, 0, kk)))), some (.inl (iZ (i))), some (.inl (iZ (f)))], [.inl (iZ (f)), .inr (.inr (.inr (9, 0, 3)))], h)) rfl ?_
  refine Ev.callv (a := [.inr (.inr (.inr (9, 0, 3))), .inl (iZ (f))]) rfl (sl_token_e sh t ht hb (by omega)) ?_
  refine Ev.sts 4 (c' := (57, [some (.inr (.inr (.inr (9, 0, 3)))), some (.inl (iZ (tp.length))), some (.inr (.inr (.inr (40, 0, kk)))), some (.inl (iZ (i))), some (.inl (iZ (f)))], [.inl (iZ (tp.length)), .inl (iZ (f)), .inr (.inr (.inr (9, 0, 3)))], h)) rfl ?_
  refine Ev.callv (a := [.inr (.inr (.inr (9, 0, 3))), .inl (iZ (f)), .inl (iZ (tp.length))]) rfl (sl_kindOf_e (by omega) ⟨by omega, by omega⟩ ⟨by omega, by omega⟩) ?_
  refine Ev.sts 3 (c' := (65, [some (.inr (.inr (.inr (9, 0, 3)))), some (.inl (iZ (tp.length))), some (.inr (.inr (.inr (40, 0, 0)))), some (.inl (iZ (i))), some (.inl (iZ (f)))], [.inl (iZ (400)), .inl (iZ (i))], h)) rfl ?_
  refine Ev.brc (p := ¬ (iZ (i)) = (iZ (400))) (q := ¬ ((i : Int)) = 400) (c1 := (79, [some (.inr (.inr (.inr (9, 0, 3)))), some (.inl (iZ (tp.length))), some (.inr (.inr (.inr (40, 0, 0)))), some (.inl (iZ (i))), some (.inl (iZ (f)))], [], h)) (c2 := (68, [some (.inr (.inr (.inr (9, 0, 3)))), some (.inl (iZ (tp.length))), some (.inr (.inr (.inr (40, 0, 0)))), some (.inl (iZ (i))), some (.inl (iZ (f)))], [], h)) rfl (not_congr (iZ_eq ⟨by omega, by omega⟩ ⟨by omega, by omega⟩)) (fun c0 => ?_) (fun c0 => ?_)
  · refine Ev.sts 4 (c' := (84, [some (.inr (.inr (.inr (9, 0, 3)))), some (.inl (iZ (tp.length))), some (.inr (.inr (.inr (40, 0, 0)))), some (.inl (iZ (i))), some (.inl (iZ (f)))], [.inl (iZ (tp.length)), .inl (iZ (f)), .inr (.inr (.inr (40, 0, 0))), .inr (.inr (.inr (9, 0, 3)))], h)) rfl ?_
    refine Ev.callv (a := [.inr (.inr (.inr (9, 0, 3))), .inr (.inr (.inr (40, 0, 0))), .inl (iZ (f)), .inl (iZ (tp.length))]) rfl (Rv.mono (sl_add (n := i) (kk := 0) (f := f) (e := tp.length) sh t ht hb hs (by omega) (by omega) (Nat.le_refl _) (fun z_ => absurd z_ (by decide)) (fun z_ => absurd z_ (by decide))) rfl rfl) ?_
    refine Ev.stc (c1 := (90, [some (.inr (.inr (.inr (9, 0, 3)))), some (.inl (iZ (tp.length))), some (.inr (.inr (.inr (40, 0, 0)))), some (.inl ((iZ (i)) + (iZ (1)))), some (.inl (iZ (f)))], [], (adK h i (0, (f : Int), 0, 0)))) (c2 := (90, [some (.inr (.inr (.inr (9, 0, 3)))), some (.inl (iZ (tp.length))), some (.inr (.inr (.inr (40, 0, 0)))), some (.inl (iZ (i + 1))), some (.inl (iZ (f)))], [], (adK h i (0, (f : Int), 0, 0)))) rfl (by rw [iZ_add]) ?_
    refine Ev.sts 1 (c' := (18, [some (.inr (.inr (.inr (9, 0, 3)))), some (.inl (iZ (tp.length))), some (.inr (.inr (.inr (40, 0, 0)))), some (.inl (iZ (i + 1))), some (.inl (iZ (f)))], [], (adK h i (0, (f : Int), 0, 0)))) rfl ?_
    exact q _
  · refine Ev.sts 2 (c' := (72, [some (.inr (.inr (.inr (9, 0, 3)))), some (.inl (iZ (tp.length))), some (.inr (.inr (.inr (40, 0, 0)))), some (.inl (iZ (i))), some (.inl (iZ (f)))], [.inr (.inr (.inr (40, 0, 0))), .inr (.inr (.inr (40, 0, 0)))], h)) rfl ?_
    refine Ev.brT (p := 0 = 0) (c1 := (79, [some (.inr (.inr (.inr (9, 0, 3)))), some (.inl (iZ (tp.length))), some (.inr (.inr (.inr (40, 0, 0)))), some (.inl (iZ (i))), some (.inl (iZ (f)))], [], h)) (c2 := (75, [some (.inr (.inr (.inr (9, 0, 3)))), some (.inl (iZ (tp.length))), some (.inr (.inr (.inr (40, 0, 0)))), some (.inl (iZ (i))), some (.inl (iZ (f)))], [], h)) (by decide) rfl ?_
    refine Ev.sts 4 (c' := (84, [some (.inr (.inr (.inr (9, 0, 3)))), some (.inl (iZ (tp.length))), some (.inr (.inr (.inr (40, 0, 0)))), some (.inl (iZ (i))), some (.inl (iZ (f)))], [.inl (iZ (tp.length)), .inl (iZ (f)), .inr (.inr (.inr (40, 0, 0))), .inr (.inr (.inr (9, 0, 3)))], h)) rfl ?_
    refine Ev.callv (a := [.inr (.inr (.inr (9, 0, 3))), .inr (.inr (.inr (40, 0, 0))), .inl (iZ (f)), .inl (iZ (tp.length))]) rfl (Rv.mono (sl_add (n := i) (kk := 0) (f := f) (e := tp.length) sh t ht hb hs (by omega) (by omega) (Nat.le_refl _) (fun z_ => absurd z_ (by decide)) (fun z_ => absurd z_ (by decide))) rfl rfl) ?_
    refine Ev.stc (c1 := (90, [some (.inr (.inr (.inr (9, 0, 3)))), some (.inl (iZ (tp.length))), some (.inr (.inr (.inr (40, 0, 0)))), some (.inl ((iZ (i)) + (iZ (1)))), some (.inl (iZ (f)))], [], (adK h i (0, (f : Int), 0, 0)))) (c2 := (90, [some (.inr (.inr (.inr (9, 0, 3)))), some (.inl (iZ (tp.length))), some (.inr (.inr (.inr (40, 0, 0)))), some (.inl (iZ (i + 1))), some (.inl (iZ (f)))], [], (adK h i (0, (f : Int), 0, 0)))) rfl (by rw [iZ_add]) ?_
    refine Ev.sts 1 (c' := (18, [some (.inr (.inr (.inr (9, 0, 3)))), some (.inl (iZ (tp.length))), some (.inr (.inr (.inr (40, 0, 0)))), some (.inl (iZ (i + 1))), some (.inl (iZ (f)))], [], (adK h i (0, (f : Int), 0, 0)))) rfl ?_
    exact q _

theorem sl_cut_x {d kk i : Nat} {j4 : Option VV} {to : Int} {h : PH} {Q : Rs → PH → Prop} (k1 : kk ≤ 1) (hi : i ≤ 401) (q : Q (.inl none) h) : Ev d 138 (18, [some (.inr (.inr (.inr (9, 0, 3)))), some (.inl (iZ (to))), some (.inr (.inr (.inr (40, 0, kk)))), some (.inl (iZ (i))), j4], [], h) Q := by
  refine Ev.sts 2 (c' := (22, [some (.inr (.inr (.inr (9, 0, 3)))), some (.inl (iZ (to))), some (.inr (.inr (.inr (40, 0, kk)))), some (.inl (iZ (i))), j4], [.inl (iZ (400)), .inl (iZ (i))], h)) rfl ?_
  refine Ev.brc (p := (iZ (400)) < (iZ (i))) (q := ((400 : Int)) < i) (c1 := (93, [some (.inr (.inr (.inr (9, 0, 3)))), some (.inl (iZ (to))), some (.inr (.inr (.inr (40, 0, kk)))), some (.inl (iZ (i))), j4], [], h)) (c2 := (25, [some (.inr (.inr (.inr (9, 0, 3)))), some (.inl (iZ (to))), some (.inr (.inr (.inr (40, 0, kk)))), some (.inl (iZ (i))), j4], [], h)) rfl (iZ_lt ⟨by omega, by omega⟩ ⟨by omega, by omega⟩) (fun c0 => ?_) (fun c0 => ?_)
  · exact Ev.ret rfl (q)
  · refine Ev.sts 2 (c' := (29, [some (.inr (.inr (.inr (9, 0, 3)))), some (.inl (iZ (to))), some (.inr (.inr (.inr (40, 0, kk)))), some (.inl (iZ (i))), j4], [.inr (.inr (.inr (40, 0, 0))), .inr (.inr (.inr (40, 0, kk)))], h)) rfl ?_
    refine Ev.br (p := kk = 0) (c1 := (93, [some (.inr (.inr (.inr (9, 0, 3)))), some (.inl (iZ (to))), some (.inr (.inr (.inr (40, 0, kk)))), some (.inl (iZ (i))), j4], [], h)) (c2 := (32, [some (.inr (.inr (.inr (9, 0, 3)))), some (.inl (iZ (to))), some (.inr (.inr (.inr (40, 0, kk)))), some (.inl (iZ (i))), j4], [], h)) rfl (fun c1 => ?_) (fun c1 => ?_)
    · exact Ev.ret rfl (q)
    · refine Ev.sts 2 (c' := (36, [some (.inr (.inr (.inr (9, 0, 3)))), some (.inl (iZ (to))), some (.inr (.inr (.inr (40, 0, kk)))), some (.inl (iZ (i))), j4], [.inr (.inr (.inr (40, 0, 1))), .inr (.inr (.inr (40, 0, kk)))], h)) rfl ?_
      refine Ev.br (p := kk = 1) (c1 := (93, [some (.inr (.inr (.inr (9, 0, 3)))), some (.inl (iZ (to))), some (.inr (.inr (.inr (40, 0, kk)))), some (.inl (iZ (i))), j4], [], h)) (c2 := (39, [some (.inr (.inr (.inr (9, 0, 3)))), some (.inl (iZ (to))), some (.inr (.inr (.inr (40, 0, kk)))), some (.inl (iZ (i))), j4], [], h)) rfl (fun c2 => ?_) (fun c2 => ?_)
      · exact Ev.ret rfl (q)
      · refine Ev.sts 2 (c' := (41, [some (.inr (.inr (.inr (9, 0, 3)))), some (.inl (iZ (to))), some (.inr (.inr (.inr (40, 0, kk)))), some (.inl (iZ (i))), j4], [.inl (iZ (to)), .inr (.inr (.inr (9, 0, 3)))], h)) rfl ?_
        omega

theorem sl_cut_lp {d : Nat} {tp : List Int} {Q : Rs → PH → Prop} (ht : tp.length ≤ 1600) (hb : byT tp) (n : Nat) : ∀ (i k kk : Nat) (j4 : Option VV) (h : PH) (P : List Tok), n + i = 400 → P.length = i → k ≤ tp.length → 2 ≤ kk → Sh h → tpC h tp → tkC h P → (∀ h1, tkC h1 (P ++ lexF tp n k) → fK h h1 → Q (.inl none) h1) → Ev (d + 6) 138 (18, [some (.inr (.inr (.inr (9, 0, 3)))), some (.inl (iZ (k))), some (.inr (.inr (.inr (40, 0, kk)))), some (.inl (iZ (i))), j4], [], h) Q := by
  induction n with
  | zero =>
    intro i k kk j4 h P hn hP hk k1 sh t c q
    obtain rfl : i = 400 := by omega
    have l := rn_le (f := isBk) hk
    by_cases h0 : rn isBk tp k < tp.length
    · refine sl_cutB sh t ht hb hk rfl h0 (by rw [← hP]; exact c.1) k1 (fun j4 => sl_cut_x (d := d + 6) (i := 401) (by decide) (by decide) (q _ ?_ (fK_ad _ _ _)))
      rw [show lexF tp 0 k = [(1, (rn isBk tp k : Int), 0, 0)] from if_pos h0]
      exact tkC_ad _ hP c
    · refine sl_cutC (d := d + 3) sh t ht hb hk rfl (by omega) (by rw [← hP]; exact c.1) (Nat.le_refl _) k1 (fun j4 => sl_cut_x (d := d + 6) (i := 401) (by decide) (by decide) (q _ ?_ (fK_ad _ _ _)))
      rw [show lexF tp 0 k = [(0, (rn isBk tp k : Int), 0, 0)] from if_neg h0]
      exact tkC_ad _ hP c
  | succ n ih =>
    intro i k kk j4 h P hn hP hk k1 sh t c q
    have l := rn_le (f := isBk) hk
    by_cases h0 : rn isBk tp k < tp.length
    · obtain ⟨a1, a2, a3⟩ := tkA_b ht hb h0
      have e0 : lexF tp (n + 1) k = if (tkA tp (rn isBk tp k)).1 = 1 then [tkA tp (rn isBk tp k)] else tkA tp (rn isBk tp k) :: lexF tp n (tkE tp (rn isBk tp k)) := if_pos h0
      rw [e0] at q
      refine sl_cutA sh t ht hb hk rfl h0 (by rw [← hP]; exact c.1) (by omega) k1 (fun j4 => ?_)
      have c1 := tkC_ad (tkA tp (rn isBk tp k)) hP c
      have f1 := fK_ad h i (tkA tp (rn isBk tp k))
      by_cases e : (tkA tp (rn isBk tp k)).1 = 1
      · rw [if_pos e] at q
        exact sl_cut_x (d := d + 6) (i := i + 1) (by omega) (by omega) (q _ c1 f1)
      · rw [if_neg e] at q
        refine ih (i + 1) (tkE tp (rn isBk tp k)) _ j4 _ (P ++ [tkA tp (rn isBk tp k)]) (by omega) (by rw [List.length_append, hP]; rfl) (tkE_b h0).2 (by omega) (Sh_fK sh f1) (tpC_fK t f1) c1 (fun h1 d1 g1 => q h1 ?_ (fK_t f1 g1))
        rw [List.append_assoc] at d1
        exact d1
    · refine sl_cutC (d := d + 3) sh t ht hb hk rfl (by omega) (by rw [← hP]; exact c.1) (by omega) k1 (fun j4 => sl_cut_x (d := d + 6) (i := i + 1) (by decide) (by omega) (q _ ?_ (fK_ad _ _ _)))
      rw [show lexF tp (n + 1) k = [(0, (rn isBk tp k : Int), 0, 0)] from if_neg h0]
      exact tkC_ad _ hP c
theorem sl_cut {d : Nat} {tp : List Int} {h : PH} {Q : Rs → PH → Prop} (sh : Sh h) (t : tpC h tp) (ht : tp.length ≤ 1600) (hb : byT tp) (q : ∀ h1, tkC h1 (lex tp) → h1.1 3 6 = iZ 0 → fK (setI h 3 6 (iZ 0)) h1 → Q (.inl none) h1) : Rn (d + 6) 138 [.inr (.inr (.inr (9, 0, 3)))] h Q := by
  refine Ev.sts 12 (c' := (18, [some (.inr (.inr (.inr (9, 0, 3)))), some (.inl (iZ (0))), some (.inr (.inr (.inr (40, 0, 30)))), some (.inl (iZ (0))), none], [], (setI (setI h 3 5 ((iZ (0)))) 3 6 ((iZ (0)))))) rfl ?_
  have f0 : fK (setI h 3 6 (iZ 0)) (setI (setI h 3 5 (iZ 0)) 3 6 (iZ 0)) := ⟨rfl, fun a a1 _ _ => by rw [setI_oth a1, setI_oth a1, setI_oth a1], fun k k1 => by by_cases y : k = 6 <;> first | (subst y; rw [setI_self, setI_self]) | rw [setI_ne (by omega), setI_ne (by omega), setI_ne (by omega)], fun _ _ => rfl, fun _ _ => rfl⟩
  refine sl_cut_lp ht hb 400 0 0 30 _ _ [] rfl rfl (Nat.zero_le _) (by decide) (Sh_eq sh rfl) ⟨(congrFun (setI_oth (by decide)) 1).trans ((congrFun (setI_oth (by decide)) 1).trans t.1), fun j hj => (congrFun (setI_oth (by decide)) j).trans ((congrFun (setI_oth (by decide)) j).trans (t.2 j hj))⟩ ⟨(setI_ne (by decide)).trans (setI_self _ _ _ _), fun j hj => absurd hj (Nat.not_lt_zero _)⟩ (fun h1 c1 f1 => q h1 c1 (by rw [f1.2.2.1 6 (by decide)]; exact setI_self _ _ _ _) (fK_t f0 f1))

