/-! The stream by hand: a comma in one goose. -/
/-- what it took: K1 an open window, K2 a window that a comma is in -/
def RMy (K1 K2 : Nat) (h h1 : PH) (o o1 c : Nat) : Prop := hS h1 + pw K1 o1 ≤ hS h + pw K1 o + pw K2 c ∧ hN h1 + 2 * o1 ≤ hN h + 2 * o + 4 * c
theorem RMy_r (K1 K2 : Nat) (h : PH) (o : Nat) : RMy K1 K2 h h o o 0 := ⟨Nat.le_refl _, Nat.le_refl _⟩
theorem RMy_t {K1 K2 : Nat} {h h1 h2 : PH} {o o1 o2 c c2 : Nat} (a : RMy K1 K2 h h1 o o1 c) (b : RMy K1 K2 h1 h2 o1 o2 c2) : RMy K1 K2 h h2 o o2 (c + c2) := by
  have e := pw_add K2 c c2
  exact ⟨by have := a.1; have := b.1; omega, by have := a.2; have := b.2; omega⟩
theorem gall {P : Wn → Prop} {L : List Wn} (h : ∀ x ∈ L, P x) (h0 : P wn0) (j : Nat) : P (L.getD j wn0) := by
  by_cases z : j < L.length
  · exact h _ (getD_mem z)
  · rw [List.getD_eq_getElem?_getD, List.getElem?_eq_none (by omega)]; exact h0
/-- a window's numbers, wide -/
def wnC (w : Wn) : Prop := w.1 < 6 ∧ 0 ≤ w.2.1 ∧ w.2.1 ≤ 1200 ∧ 0 ≤ w.2.2.1 ∧ w.2.2.1 ≤ 1300
theorem wnC_0 : wnC wn0 := ⟨by decide, by decide, by decide, by decide, by decide⟩
/-- how many commas the windows of g have -/
def cntG (g : Nat) : List Wn → Nat
  | [] => 0
  | x :: L => (if x.1 = g then x.2.2.2.length else 0) + cntG g L
/-- both windows' rows are copied -/
theorem cp_lp {d sm n g rw tb kb ga wl wr ol og nb b k : Nat} {hr : Int} {h0 : PH} {Q : Rs → PH → Prop} (hl : wl ≤ 5000 ∧ ol ≤ 5000) (h3 : 3 ≤ wl ∧ 3 ≤ ol) (hnb : nb + 3 = wl + ol) (hb : b = hN h0) (hw : wr < b) (ho : og < b) (q : ∀ h1, nwI h0 h1 nb → (∀ j, j < nb → h1.1 b j = if j < wl then h0.1 wr j else h0.1 og (j - wl + 3)) → Ev d 179 (286, [some (.inr (.inr (.inr (12, 0, sm)))), some (.inr (.inr (.inr (20, 4, rw)))), some (.inr (.inr (.inr (26, 8, tb)))), some (.inl (iZ ((n : Int)))), some (.inr (.inr (.inr (29, (n + 1), kb)))), some (.inl (iZ (hr))), some (.inl (iZ ((g : Int)))), some (.inr (.inr (.inr (20, 4, ga)))), some (.inl (iZ (0))), some (.inr (.inr (.inr (20, wl, wr)))), some (.inl (iZ ((k : Int)))), some (.inr (.inr (.inr (20, ol, og)))), some (.inr (.inr (.inr (20, nb, b)))), some (.inl (iZ ((nb : Int))))], [], h1) Q) (m : Nat) : ∀ (i : Nat) (h : PH), i + m = nb → nwI h0 h nb → (∀ j, j < i → h.1 b j = if j < wl then h0.1 wr j else h0.1 og (j - wl + 3)) → Ev d 179 (240, [some (.inr (.inr (.inr (12, 0, sm)))), some (.inr (.inr (.inr (20, 4, rw)))), some (.inr (.inr (.inr (26, 8, tb)))), some (.inl (iZ ((n : Int)))), some (.inr (.inr (.inr (29, (n + 1), kb)))), some (.inl (iZ (hr))), some (.inl (iZ ((g : Int)))), some (.inr (.inr (.inr (20, 4, ga)))), some (.inl (iZ (0))), some (.inr (.inr (.inr (20, wl, wr)))), some (.inl (iZ ((k : Int)))), some (.inr (.inr (.inr (20, ol, og)))), some (.inr (.inr (.inr (20, nb, b)))), some (.inl (iZ ((i : Int))))], [], h) Q := by
  induction m with
  | zero =>
    intro i h hi x y
    obtain rfl : i = nb := by omega
    exact cg_240 (d := d) hl h3 hnb (Nat.le_refl _) (fun _ => q h x y) (fun c => by omega) (fun c => by omega)
  | succ m ih =>
    intro i h hi x y
    subst hb
    have er : h.1 wr = h0.1 wr := x.2.1 wr (by omega)
    have eo : h.1 og = h0.1 og := x.2.1 og (by omega)
    refine cg_240 (d := d) hl h3 hnb (by omega) (fun c => by omega) (fun _ c => ?_) (fun _ c => ?_)
    · exact ih (i + 1) _ (by omega) (nwI_s x) (fun j hj => by
        by_cases e : j = i
        · rw [e, if_pos c, setI_self, er]
        · rw [setI_ne (fun z => e z.2)]; exact y j (by omega))
    · exact ih (i + 1) _ (by omega) (nwI_s x) (fun j hj => by
        by_cases e : j = i
        · rw [e, if_neg c, setI_self, eo]
        · rw [setI_ne (fun z => e z.2)]; exact y j (by omega))
/-- two windows are one -/
theorem SM_mrg {h h1 h2 : PH} {sm ca ka oa ta m nb wl wr ol og : Nat} {u : Q5} {C : List (Ctx × Int32)} {K R T : List Wn} {v w : Wn} {nt : Nat} {gr mk : Int} {lt : Nat → Nat} {fl fr : Nat → Nat} (x : SMh h sm u ca ka oa ta (mkM C (K ++ v :: R) T nt gr mk lt)) (o : oWs h sm u oa fl fr (K ++ v :: R)) (hm : (K ++ v :: R).length = m + 1) (hu : qD u (hN h)) (hw : wRw h wl wr w) (hv : wRw h ol og v) (hnb : nb + 3 = wl + ol) (x1 : nwI h h1 nb) (y1 : ∀ j, j < nb → h1.1 (hN h) j = if j < wl then h.1 wr j else h.1 og (j - wl + 3)) (x2 : nwR (setI (setI h1 (hN h) 1 (iZ (min w.2.1 v.2.1))) (hN h) 2 (iZ (max w.2.2.1 v.2.2.1))) h2 m) (o3 : ∀ j, j < m → h2.2.2.1 (hN (setI (setI h1 (hN h) 1 (iZ (min w.2.1 v.2.1))) (hN h) 2 (iZ (max w.2.2.1 v.2.2.1)))) j = (20, fl (skp K.length j), fr (skp K.length j))) : SMh (setR h2 sm 3 (28, m, hN (setI (setI h1 (hN h) 1 (iZ (min w.2.1 v.2.1))) (hN h) 2 (iZ (max w.2.2.1 v.2.2.1))))) sm u ca ka (hN h + 1) ta (mkM C (K ++ R) T nt gr mk lt) ∧ SI sm sm h (setR h2 sm 3 (28, m, hN (setI (setI h1 (hN h) 1 (iZ (min w.2.1 v.2.1))) (hN h) 2 (iZ (max w.2.2.1 v.2.2.1))))) ∧ hN (setR h2 sm 3 (28, m, hN (setI (setI h1 (hN h) 1 (iZ (min w.2.1 v.2.1))) (hN h) 2 (iZ (max w.2.2.1 v.2.2.1))))) = hN h + 2 ∧ hS (setR h2 sm 3 (28, m, hN (setI (setI h1 (hN h) 1 (iZ (min w.2.1 v.2.1))) (hN h) 2 (iZ (max w.2.2.1 v.2.2.1))))) = hS h + nb + m ∧ wRw (setR h2 sm 3 (28, m, hN (setI (setI h1 (hN h) 1 (iZ (min w.2.1 v.2.1))) (hN h) 2 (iZ (max w.2.2.1 v.2.2.1))))) nb (hN h) (w.1, min w.2.1 v.2.1, max w.2.2.1 v.2.2.1, w.2.2.2 ++ v.2.2.2) ∧ pI sm u (hN h + 1) (hN h) := by
  have x8 := x.2.2.2.2.2.2.2.2
  obtain ⟨a1, a2, a3, a4⟩ := x1
  obtain ⟨b1, b2, b3, b4⟩ := x2
  have gN : hN (setI (setI h1 (hN h) 1 (iZ (min w.2.1 v.2.1))) (hN h) 2 (iZ (max w.2.2.1 v.2.2.1))) = hN h + 1 := a3
  have gS : hS (setI (setI h1 (hN h) 1 (iZ (min w.2.1 v.2.1))) (hN h) 2 (iZ (max w.2.2.1 v.2.2.1))) = hS h + nb := a4
  have gR : (setI (setI h1 (hN h) 1 (iZ (min w.2.1 v.2.1))) (hN h) 2 (iZ (max w.2.2.1 v.2.2.1))).2.2.1 = h.2.2.1 := a1
  rw [gN] at b2 b3 o3 ⊢
  rw [gS] at b4
  have gI : ∀ a, a ≠ hN h → (setI (setI h1 (hN h) 1 (iZ (min w.2.1 v.2.1))) (hN h) 2 (iZ (max w.2.2.1 v.2.2.1))).1 a = h.1 a := fun a ha => (setI_oth ha).trans ((setI_oth ha).trans (a2 a ha))
  have lm : (K ++ R).length = m := by
    rw [List.length_append] at hm ⊢
    rw [List.length_cons] at hm
    omega
  have I : ∀ a, a ≠ hN h → (setR h2 sm 3 (28, m, hN h + 1)).1 a = h.1 a := fun a ha => (congrFun b1 a).trans (gI a ha)
  have rr : ∀ a, a ≠ sm → a ≠ hN h + 1 → (setR h2 sm 3 (28, m, hN h + 1)).2.2.1 a = h.2.2.1 a := fun a p1 p2 => (setR_oth p1).trans ((b2 a p2).trans (congrFun gR a))
  have rs : ∀ k, k ≠ 3 → (setR h2 sm 3 (28, m, hN h + 1)).2.2.1 sm k = h.2.2.1 sm k := fun k p1 => (setR_ne (fun z => p1 z.2)).trans ((congrFun (b2 sm (by omega)) k).trans (congrFun (congrFun gR sm) k))
  have nn : hN (setR h2 sm 3 (28, m, hN h + 1)) = hN h + 2 := b3
  have S : SI sm sm h (setR h2 sm 3 (28, m, hN h + 1)) := ⟨fun a p1 _ _ => I a (by omega), fun a p1 p2 _ => rr a p2 (by omega), fun a p1 => I a (by omega), by omega⟩
  have qn : qN u (hN h) := by
    obtain ⟨⟨_, d1⟩, ⟨_, d2⟩, ⟨_, d3⟩, ⟨_, d4⟩, ⟨_, d5⟩, _⟩ := hu
    exact ⟨by omega, by omega, by omega, by omega, by omega⟩
  refine ⟨SM_op x S (.inl rfl) rs (I sm (by omega)) (I (sm + 5) (by omega)) ⟨?_, ⟨by omega, by omega⟩, fun j => fl (skp K.length j), fun j => fr (skp K.length j), fun j hj => ?_⟩ (.inr (by omega)), S, nn, ?_, ?_, ⟨by omega, by omega, qn⟩⟩
  · rw [lm]; exact setR_self _ _ _ _
  · rw [lm] at hj
    dsimp only
    obtain ⟨y1, ⟨p1, p2, p3⟩, y3⟩ := o (skp K.length j) (by rw [hm]; exact skp_lt hj)
    refine ⟨(setR_ne (by omega)).trans (o3 j hj), ⟨p1, by omega, p3⟩, ?_⟩
    rw [skp_get (x := v) K j]
    exact wRw_e (I _ (by omega)) y3
  · show hS h2 = _
    omega
  · obtain ⟨w1, w2, w3, w4, w5⟩ := hw
    obtain ⟨v1, v2, v3, v4, v5⟩ := hv
    have J : ∀ j, j ≠ 1 → j ≠ 2 → j < nb → (setR h2 sm 3 (28, m, hN h + 1)).1 (hN h) j = if j < wl then h.1 wr j else h.1 og (j - wl + 3) := fun j p1 p2 p3 => (congrFun (congrFun b1 (hN h)) j).trans ((setI_ne (fun z => p2 z.2)).trans ((setI_ne (fun z => p1 z.2)).trans (y1 j p3)))
    have ln : (w.2.2.2 ++ v.2.2.2).length = w.2.2.2.length + v.2.2.2.length := List.length_append
    refine ⟨by show nb = 3 + (w.2.2.2 ++ v.2.2.2).length; omega, ?_, ?_, ?_, fun k hk => ?_⟩
    · rw [J 0 (by decide) (by decide) (by omega), if_pos (by omega)]; exact w2
    · exact (congrFun (congrFun b1 (hN h)) 1).trans ((setI_ne (by omega)).trans (setI_self _ _ _ _))
    · exact (congrFun (congrFun b1 (hN h)) 2).trans (setI_self _ _ _ _)
    · have hk : k < (w.2.2.2 ++ v.2.2.2).length := hk
      rw [J (3 + k) (by omega) (by omega) (by omega)]
      show _ = iZ (((w.2.2.2 ++ v.2.2.2).getD k 0 : Nat) : Int)
      by_cases c : k < w.2.2.2.length
      · rw [if_pos (by omega), w5 k c, List.getD_eq_getElem?_getD, List.getD_eq_getElem?_getD, List.getElem?_append_left c]
      · rw [if_neg (by omega), show 3 + k - wl + 3 = 3 + (k - w.2.2.2.length) by omega, v5 (k - w.2.2.2.length) (by omega), List.getD_eq_getElem?_getD, List.getD_eq_getElem?_getD, List.getElem?_append_right (by omega)]
theorem gp_lp {d sm n g rw tb kb ga ca ka ta K1 : Nat} {hr wd : Int} {u : Q5} {C : List (Ctx × Int32)} {T : List Wn} {nt : Nat} {gr mk : Int} {lt : Nat → Nat} {Q : Rs → PH → Prop} (hg : g < 6) (hwd : 1 ≤ wd ∧ wd ≤ 200) (hhr : 0 ≤ hr ∧ hr ≤ 999) (hga : ga < sm) (hK1 : K1 ≤ 5000) (R : List Wn) : ∀ (K : List Wn) (w : Wn) (wl wr oa : Nat) (x11 x12 x13 : Option VV) (h : PH), SMh h sm u ca ka oa ta (mkM C (K ++ R) T nt gr mk lt) → qD u (hN h) → pI sm u (hN h) wr → wRw h wl wr w → wnC w → h.1 ga 1 = iZ wd → (K ++ R).length + 80 ≤ K1 → (∀ y ∈ K ++ R, wnC y) → w.2.2.2.length + cntG g R ≤ 70 → (∀ h1 oa1 wl1 wr1 k1 x11 x12 x13, SMh h1 sm u ca ka oa1 ta (mkM C (K ++ mgK g hr wd R) T nt gr mk lt) → pI sm u (hN h1) wr1 → wRw h1 wl1 wr1 (mgF g hr wd R w) → wnC (mgF g hr wd R w) → SI sm sm h h1 → (oa1 = oa ∨ hN h ≤ oa1) → hS h1 + pw K1 (K ++ mgK g hr wd R).length ≤ hS h + pw K1 (K ++ R).length → hN h1 + 2 * (K ++ mgK g hr wd R).length ≤ hN h + 2 * (K ++ R).length → Ev (d + 1) 179 (342, [some (.inr (.inr (.inr (12, 0, sm)))), some (.inr (.inr (.inr (20, 4, rw)))), some (.inr (.inr (.inr (26, 8, tb)))), some (.inl (iZ ((n : Int)))), some (.inr (.inr (.inr (29, (n + 1), kb)))), some (.inl (iZ (hr))), some (.inl (iZ ((g : Int)))), some (.inr (.inr (.inr (20, 4, ga)))), some (.inl (iZ (0))), some (.inr (.inr (.inr (20, wl1, wr1)))), some (.inl (iZ (k1))), x11, x12, x13], [], h1) Q) → Ev (d + 1) 179 (170, [some (.inr (.inr (.inr (12, 0, sm)))), some (.inr (.inr (.inr (20, 4, rw)))), some (.inr (.inr (.inr (26, 8, tb)))), some (.inl (iZ ((n : Int)))), some (.inr (.inr (.inr (29, (n + 1), kb)))), some (.inl (iZ (hr))), some (.inl (iZ ((g : Int)))), some (.inr (.inr (.inr (20, 4, ga)))), some (.inl (iZ (0))), some (.inr (.inr (.inr (20, wl, wr)))), some (.inl (iZ ((K.length : Int)))), x11, x12, x13], [], h) Q := by
  induction R with
  | nil =>
    intro K w wl wr oa x11 x12 x13 h x hu pw_ hw wc g1_ hl hB hc q
    obtain ⟨x0, xc, xk, x3, x4, x5, x6, x7, x8⟩ := id x
    have x3 : sOw h sm u 3 oa (K ++ []) := x3
    have e7 : h.1 sm 7 = iZ mk := x5.2.2
    obtain ⟨e3, l3, fl, fr, o⟩ := x3
    have lK : (K ++ [] : List Wn).length = K.length := by rw [List.append_nil]
    exact cg_170 (d := d + 1) (by omega) (by omega) hg hwd hhr e3 o g1_ (gall hB wnC_0) (fun _ => q h oa wl wr _ _ _ _ x pw_ hw wc (SI_r _ _ _) (.inl rfl) (Nat.le_refl _) (Nat.le_refl _)) (fun c => by omega) (fun c => by omega)
  | cons v R ih =>
    intro K w wl wr oa x11 x12 x13 h x hu pw_ hw wc g1_ hl hB hc q
    obtain ⟨x0, xc, xk, x3, x4, x5, x6, x7, x8⟩ := id x
    have x3 : sOw h sm u 3 oa (K ++ v :: R) := x3
    have e7 : h.1 sm 7 = iZ mk := x5.2.2
    obtain ⟨e3, l3, fl, fr, o⟩ := x3
    have lK : (K ++ v :: R).length = K.length + R.length + 1 := by rw [List.length_append, List.length_cons]; omega
    have am := app_mid (x := v) (R := R) K
    refine cg_170 (d := d + 1) (by omega) (by omega) hg hwd hhr e3 o g1_ (gall hB wnC_0) (fun c => by omega) (fun _ c => ?_) (fun _ c => ?_)
    · rw [am] at c
      have ea : K ++ v :: R = (K ++ [v]) ++ R := by rw [List.append_assoc]; rfl
      have e5 : (K ++ [v]).length = K.length + 1 := by rw [List.length_append]; rfl
      have hc2 : w.2.2.2.length + cntG g R ≤ 70 := by
        have : cntG g (v :: R) = (if v.1 = g then v.2.2.2.length else 0) + cntG g R := rfl
        omega
      have i := ih (K ++ [v]) w wl wr oa (some (.inr (.inr (.inr (20, fl K.length, fr K.length))))) x12 x13 h (by rw [← ea]; exact x) hu pw_ hw wc g1_ (by rw [← ea]; exact hl) (by rw [← ea]; exact hB) hc2 (fun h1 oa1 wl1 wr1 k1 y11 y12 y13 y p1 p2 p3 s co r1 r2 => by
        rw [mgK_n c, mgF_n c] at q
        rw [show (K ++ [v]) ++ mgK g hr wd R = K ++ v :: mgK g hr wd R by rw [List.append_assoc]; rfl] at y r1 r2
        rw [← ea] at r1 r2
        exact q h1 oa1 wl1 wr1 k1 y11 y12 y13 y p1 p2 p3 s co r1 r2)
      rw [e5] at i
      exact i
    · rw [am] at c
      have hK : K.length < (K ++ v :: R).length := by omega
      obtain ⟨y1, ⟨p1, p2, p3⟩, y3⟩ := o K.length hK
      rw [am] at y3
      have hv := hB v (List.mem_append_right _ List.mem_cons_self)
      have cg : cntG g (v :: R) = v.2.2.2.length + cntG g R := by show (if v.1 = g then v.2.2.2.length else 0) + cntG g R = _; rw [if_pos c.1]
      have w1 := hw.1
      have v1 := y3.1
      obtain ⟨nb, hnb⟩ : ∃ nb, nb + 3 = wl + fl K.length := ⟨wl + fl K.length - 3, by omega⟩
      have lKR : (K ++ R).length = K.length + R.length := List.length_append
      refine cg_224 (d := d + 1) (ol := fl K.length) (og := fr K.length) (nb := nb) ⟨by omega, by omega⟩ hnb ?_
      refine cp_lp (d := d + 1) ⟨by omega, by omega⟩ ⟨by omega, by omega⟩ hnb rfl pw_.2.1 p2 (fun h1 X1 Y1 => ?_) nb 0 _ (by omega) (nwI_g h nb) (fun j hj => absurd hj (Nat.not_lt_zero _))
      have i1 : ∀ a, a < hN h → h1.1 a = h.1 a := fun a ha => X1.2.1 a (by omega)
      have ws := pw_.2.1
      refine cg_286 (d := d) (w := w) (v := v) (m := K.length + R.length) (L := K ++ v :: R) (oa := oa) (fl := fl) (fr := fr) ⟨by omega, by omega⟩ ⟨by omega, by omega⟩ hnb ⟨by omega, by omega⟩ ⟨wc.2.1, wc.2.2.1, wc.2.2.2.1, wc.2.2.2.2⟩ ⟨hv.2.1, hv.2.2.1, hv.2.2.2.1, hv.2.2.2.2⟩ (by rw [i1 wr ws]; exact hw.2.2.1) (by rw [i1 wr ws]; exact hw.2.2.2.1) (by rw [i1 _ p2]; exact y3.2.2.1) (by rw [i1 _ p2]; exact y3.2.2.2.1) (by omega) (by omega) hK (by rw [X1.1]; exact e3) (by have := X1.2.2.1; omega) (fun j hj => by rw [X1.1]; exact (o j hj).1) (fun h2 X2 O3 => ?_)
      obtain ⟨Y, S, n2, m2, W, PW⟩ := SM_mrg x o (by omega) hu hw y3 hnb X1 Y1 X2 O3
      have wc2 : wnC (w.1, min w.2.1 v.2.1, max w.2.2.1 v.2.2.1, w.2.2.2 ++ v.2.2.2) := by
        obtain ⟨c1, c2, c3, c4, c5⟩ := wc
        obtain ⟨d1, d2, d3, d4, d5⟩ := hv
        exact ⟨c1, by show 0 ≤ min w.2.1 v.2.1; omega, by show min w.2.1 v.2.1 ≤ 1200; omega, by show 0 ≤ max w.2.2.1 v.2.2.1; omega, by show max w.2.2.1 v.2.2.1 ≤ 1300; omega⟩
      have la : (w.2.2.2 ++ v.2.2.2).length = w.2.2.2.length + v.2.2.2.length := List.length_append
      refine ih K (w.1, min w.2.1 v.2.1, max w.2.2.1 v.2.2.1, w.2.2.2 ++ v.2.2.2) nb (hN h) (hN h + 1) _ _ _ _ Y (qD_le hu (by omega)) ⟨PW.1, by omega, PW.2.2⟩ W wc2 ?_ (by omega) (fun y hy => hB y ?_) (by show (w.2.2.2 ++ v.2.2.2).length + cntG g R ≤ 70; omega) (fun h3 oa1 wl1 wr1 k1 y11 y12 y13 y q1 q2 q3 s co r1 r2 => ?_)
      · rw [S.1 ga (by omega) (by omega) (by omega)]; exact g1_
      · rcases List.mem_append.mp hy with a | a
        · exact List.mem_append_left _ a
        · exact List.mem_append_right _ (List.mem_cons_of_mem _ a)
      · rw [mgK_y c, mgF_y c] at q
        have e1 : pw K1 (K ++ v :: R).length = pw K1 (K ++ R).length + K1 := by rw [lK, lKR]; rfl
        exact q h3 oa1 wl1 wr1 k1 y11 y12 y13 y q1 q2 q3 (SI_t S s (.inr (.inr rfl))) (by omega) (by omega) (by omega)
/-- a window is put, of one new row -/
theorem SM_put {d sm ca ka oa ta wl wr : Nat} {u : Q5} {M : Ms} {w : Wn} {h : PH} (x : SMh h sm u ca ka oa ta M) (hl : (yO M).length ≤ 5000) (hw : wRw h wl wr w) (pw_ : pI sm u (hN h) wr) (wc : wnC w) (hB : ∀ y ∈ yO M, wnC y) : ∀ Q1 : Rs → PH → Prop, (∀ h1, (SMh h1 sm u ca ka (hN h) ta (mkM (yC M) (putL (yO M) w) (yT M) (yN M) (yG M) (yK M) (yL M)) ∧ SI sm sm h h1 ∧ h1.1 = h.1 ∧ hN h1 = hN h + 1 ∧ hS h1 = hS h + ((yO M).length + 1)) → Q1 (.inl none) h1) → Rn d 181 [.inr (.inr (.inr (12, 0, sm))), .inr (.inr (.inr (20, wl, wr)))] h Q1 := by
  intro Q1 q
  obtain ⟨x0, xc, xk, ⟨e3, l3, fl, fr, o⟩, x4, x5, x6, x7, x8⟩ := id x
  refine ls_put (d := d) hl e3 l3.2 x8.2 o hw pw_ (fun j => ?_) ⟨wc.1, wc.2.1, wc.2.2.1⟩ (fun h1 fl1 fr1 s er e1 r3 o1 n1 m1 => q h1 ⟨?_, s, e1, n1, m1⟩)
  · have := gall hB wnC_0 j
    exact ⟨this.1, this.2.1, this.2.2.1⟩
  · exact SM_op x s (.inl rfl) er (by rw [e1]) (by rw [e1]) ⟨r3, ⟨by omega, by omega⟩, fl1, fr1, o1⟩ (.inr (Nat.le_refl _))
/-- a new row for a new window -/
def nwW (h : PH) (a b c e : Int) : PH := setI (setI (setI (setI (grow h 4) (hN h) 0 (iZ a)) (hN h) 1 (iZ b)) (hN h) 2 (iZ c)) (hN h) 3 (iZ e)
theorem nwW_ok {h : PH} {sm g n : Nat} {s e : Int} {u : Q5} (hu : qD u (hN h)) (hs : sm + 5 < hN h) : nwI h (nwW h (g : Int) s e (n : Int)) 4 ∧ wRw (nwW h (g : Int) s e (n : Int)) 4 (hN h) (g, s, e, [n]) ∧ pI sm u (hN (nwW h (g : Int) s e (n : Int))) (hN h) := by
  have qn : qN u (hN h) := by
    obtain ⟨⟨_, d1⟩, ⟨_, d2⟩, ⟨_, d3⟩, ⟨_, d4⟩, ⟨_, d5⟩, _⟩ := hu
    exact ⟨by omega, by omega, by omega, by omega, by omega⟩
  refine ⟨nwI_s (nwI_s (nwI_s (nwI_s (nwI_g h 4)))), ⟨rfl, ?_, ?_, ?_, fun k hk => ?_⟩, ⟨hs, Nat.lt_succ_self _, qn⟩⟩
  · exact (setI_ne (by omega)).trans ((setI_ne (by omega)).trans ((setI_ne (by omega)).trans (setI_self _ _ _ _)))
  · exact (setI_ne (by omega)).trans ((setI_ne (by omega)).trans (setI_self _ _ _ _))
  · exact (setI_ne (by omega)).trans (setI_self _ _ _ _)
  · have hk : k < 1 := hk
    obtain rfl : k = 0 := by omega
    exact setI_self _ _ _ _
theorem SM_nwI {h h1 : PH} {sm ca ka oa ta n : Nat} {u : Q5} {M : Ms} (x : SMh h sm u ca ka oa ta M) (y : nwI h h1 n) : SMh h1 sm u ca ka oa ta M := by
  have l := x.2.2.2.2.2.2.2.2.2
  exact SM_new x (nwI_SI y) (fun k => by rw [y.1]) (y.2.1 sm (by omega)) (y.2.1 (sm + 5) (by omega))
theorem se_lp {d sm n g rw tb kb ga oa : Nat} {hr s : Int} {u : Q5} {L : List Wn} {fl fr : Nat → Nat} {x12 x13 : Option VV} {h : PH} {Q : Rs → PH → Prop} (hn : L.length ≤ 5000) (hg : g < 6) (hs : 0 ≤ s ∧ s ≤ 1300) (e3 : h.2.2.1 sm 3 = (28, L.length, oa)) (o : oWs h sm u oa fl fr L) (hB : ∀ y ∈ L, wnC y) (q0 : (∀ j, j < L.length → ¬ ((L.getD j wn0).1 = g ∧ (L.getD j wn0).2.1 = s)) → Ev d 179 (450, [some (.inr (.inr (.inr (12, 0, sm)))), some (.inr (.inr (.inr (20, 4, rw)))), some (.inr (.inr (.inr (26, 8, tb)))), some (.inl (iZ ((n : Int)))), some (.inr (.inr (.inr (29, (n + 1), kb)))), some (.inl (iZ (hr))), some (.inl (iZ ((g : Int)))), some (.inr (.inr (.inr (20, 4, ga)))), some (.inl (iZ (1))), some (.inl (iZ (s))), some (.inl (iZ (-1))), some (.inl (iZ ((L.length : Int)))), x12, x13], [], h) Q) (q1 : ∀ i, i < L.length → ((L.getD i wn0).1 = g ∧ (L.getD i wn0).2.1 = s) → Ev d 179 (450, [some (.inr (.inr (.inr (12, 0, sm)))), some (.inr (.inr (.inr (20, 4, rw)))), some (.inr (.inr (.inr (26, 8, tb)))), some (.inl (iZ ((n : Int)))), some (.inr (.inr (.inr (29, (n + 1), kb)))), some (.inl (iZ (hr))), some (.inl (iZ ((g : Int)))), some (.inr (.inr (.inr (20, 4, ga)))), some (.inl (iZ (1))), some (.inl (iZ (s))), some (.inl (iZ ((i : Int)))), some (.inl (iZ ((L.length : Int)))), x12, x13], [], h) Q) (m : Nat) : ∀ (k : Nat) (a : Int), k + m = L.length → ((a = -1 ∧ ∀ j, j < k → ¬ ((L.getD j wn0).1 = g ∧ (L.getD j wn0).2.1 = s)) ∨ ∃ i : Nat, i < k ∧ a = (i : Int) ∧ ((L.getD i wn0).1 = g ∧ (L.getD i wn0).2.1 = s)) → Ev d 179 (402, [some (.inr (.inr (.inr (12, 0, sm)))), some (.inr (.inr (.inr (20, 4, rw)))), some (.inr (.inr (.inr (26, 8, tb)))), some (.inl (iZ ((n : Int)))), some (.inr (.inr (.inr (29, (n + 1), kb)))), some (.inl (iZ (hr))), some (.inl (iZ ((g : Int)))), some (.inr (.inr (.inr (20, 4, ga)))), some (.inl (iZ (1))), some (.inl (iZ (s))), some (.inl (iZ (a))), some (.inl (iZ ((k : Int)))), x12, x13], [], h) Q := by
  induction m with
  | zero =>
    intro k a hk c
    obtain rfl : k = L.length := by omega
    refine cg_402 (d := d) hn (Nat.le_refl _) hg hs e3 o (gall hB wnC_0) (fun _ => ?_) (fun z => by omega) (fun z => by omega)
    rcases c with ⟨rfl, c⟩ | ⟨i, hi, rfl, c⟩
    · exact q0 c
    · exact q1 i hi c
  | succ m ih =>
    intro k a hk c
    refine cg_402 (d := d) hn (by omega) hg hs e3 o (gall hB wnC_0) (fun z => by omega) (fun _ z => ?_) (fun _ z => ?_)
    · exact ih (k + 1) (k : Int) (by omega) (.inr ⟨k, Nat.lt_succ_self _, rfl, z⟩)
    · refine ih (k + 1) a (by omega) ?_
      rcases c with ⟨e, c⟩ | ⟨i, hi, e, c⟩
      · exact .inl ⟨e, fun j hj => by
          by_cases w : j = k
          · rw [w]; exact z
          · exact c j (by omega)⟩
      · exact .inr ⟨i, by omega, e, c⟩
theorem mo_lp {d sm n g rw tb kb ga a oa ol og b : Nat} {hr s : Int} {L : List Wn} {x13 : Option VV} {h0 : PH} {Q : Rs → PH → Prop} (ha : a < L.length) (hn : L.length ≤ 5000) (hol : ol ≤ 5000) (hb : b = hN h0) (ho : og < b) (e3 : h0.2.2.1 sm 3 = (28, L.length, oa)) (eo : h0.2.2.1 oa a = (20, ol, og)) (q : ∀ h1, nwI h0 h1 (ol + 1) → (∀ j, j < ol → h1.1 b j = h0.1 og j) → Ev d 179 (537, [some (.inr (.inr (.inr (12, 0, sm)))), some (.inr (.inr (.inr (20, 4, rw)))), some (.inr (.inr (.inr (26, 8, tb)))), some (.inl (iZ ((n : Int)))), some (.inr (.inr (.inr (29, (n + 1), kb)))), some (.inl (iZ (hr))), some (.inl (iZ ((g : Int)))), some (.inr (.inr (.inr (20, 4, ga)))), some (.inl (iZ (1))), some (.inl (iZ (s))), some (.inl (iZ ((a : Int)))), some (.inr (.inr (.inr (20, (ol + 1), b)))), some (.inl (iZ ((ol : Int)))), x13], [], h1) Q) (m : Nat) : ∀ (i : Nat) (h : PH), i + m = ol → nwI h0 h (ol + 1) → (∀ j, j < i → h.1 b j = h0.1 og j) → Ev d 179 (506, [some (.inr (.inr (.inr (12, 0, sm)))), some (.inr (.inr (.inr (20, 4, rw)))), some (.inr (.inr (.inr (26, 8, tb)))), some (.inl (iZ ((n : Int)))), some (.inr (.inr (.inr (29, (n + 1), kb)))), some (.inl (iZ (hr))), some (.inl (iZ ((g : Int)))), some (.inr (.inr (.inr (20, 4, ga)))), some (.inl (iZ (1))), some (.inl (iZ (s))), some (.inl (iZ ((a : Int)))), some (.inr (.inr (.inr (20, (ol + 1), b)))), some (.inl (iZ ((i : Int)))), x13], [], h) Q := by
  induction m with
  | zero =>
    intro i h hi x y
    obtain rfl : i = ol := by omega
    exact cg_506 (d := d) ha hn hol (Nat.le_refl _) (by rw [x.1]; exact e3) (by rw [x.1]; exact eo) (fun _ => q h x y) (fun c => by omega)
  | succ m ih =>
    intro i h hi x y
    subst hb
    have eo2 : h.1 og = h0.1 og := x.2.1 og (by omega)
    refine cg_506 (d := d) ha hn hol (by omega) (by rw [x.1]; exact e3) (by rw [x.1]; exact eo) (fun c => by omega) (fun c => ?_)
    exact ih (i + 1) _ (by omega) (nwI_s x) (fun j hj => by
      by_cases e : j = i
      · rw [e, setI_self, eo2]
      · rw [setI_ne (fun z => e z.2)]; exact y j (by omega))
/-- one more comma in a window -/
theorem SM_more {h h1 : PH} {sm ca ka oa ta a ol og n : Nat} {u : Q5} {M : Ms} {fl fr : Nat → Nat} (x : SMh h sm u ca ka oa ta M) (hu : qD u (hN h)) (o : oWs h sm u oa fl fr (yO M)) (ha : a < (yO M).length) (e1 : fl a = ol) (e2 : fr a = og) (X1 : nwI h h1 (ol + 1)) (Y1 : ∀ j, j < ol → h1.1 (hN h) j = h.1 og j) : SMh (setR (setI h1 (hN h) ol (iZ (n : Int))) oa a (20, (ol + 1), (hN h))) sm u ca ka oa ta (mkM (yC M) ((yO M).set a (((yO M).getD a wn0).1, ((yO M).getD a wn0).2.1, ((yO M).getD a wn0).2.2.1, ((yO M).getD a wn0).2.2.2 ++ [n])) (yT M) (yN M) (yG M) (yK M) (yL M)) ∧ SI sm oa h (setR (setI h1 (hN h) ol (iZ (n : Int))) oa a (20, (ol + 1), (hN h))) ∧ hN (setR (setI h1 (hN h) ol (iZ (n : Int))) oa a (20, (ol + 1), (hN h))) = hN h + 1 ∧ hS (setR (setI h1 (hN h) ol (iZ (n : Int))) oa a (20, (ol + 1), (hN h))) = hS h + (ol + 1) := by
  have x8 := x.2.2.2.2.2.2.2.2
  have l3 := x.2.2.2.1.2.1
  have e3 := x.2.2.2.1.1
  obtain ⟨a1, a2, a3, a4⟩ := X1
  have I : ∀ b, b ≠ hN h → (setR (setI h1 (hN h) ol (iZ (n : Int))) oa a (20, (ol + 1), (hN h))).1 b = h.1 b := fun b hb => (setI_oth hb).trans (a2 b hb)
  have rr : ∀ b, b ≠ oa → (setR (setI h1 (hN h) ol (iZ (n : Int))) oa a (20, (ol + 1), (hN h))).2.2.1 b = h.2.2.1 b := fun b hb => (setR_oth hb).trans (congrFun a1 b)
  have nn : hN (setR (setI h1 (hN h) ol (iZ (n : Int))) oa a (20, (ol + 1), (hN h))) = hN h + 1 := a3
  have S : SI sm oa h (setR (setI h1 (hN h) ol (iZ (n : Int))) oa a (20, (ol + 1), (hN h))) := ⟨fun b p1 _ _ => I b (by omega), fun b _ _ p3 => rr b p3, fun b p1 => I b (by omega), by omega⟩
  have qn : qN u (hN h) := by
    obtain ⟨⟨_, d1⟩, ⟨_, d2⟩, ⟨_, d3⟩, ⟨_, d4⟩, ⟨_, d5⟩, _⟩ := hu
    exact ⟨by omega, by omega, by omega, by omega, by omega⟩
  refine ⟨SM_op x S (.inr rfl) (fun k _ => congrFun (rr sm (by omega)) k) (I sm (by omega)) (I (sm + 5) (by omega)) ⟨?_, ⟨l3.1, by omega⟩, fun j => if j = a then ol + 1 else fl j, fun j => if j = a then hN h else fr j, fun j hj => ?_⟩ (.inl rfl), S, nn, a4⟩
  · rw [List.length_set, congrFun (rr sm (by omega)) 3]; exact e3
  · rw [List.length_set] at hj
    dsimp only
    obtain ⟨y1, ⟨p1, p2, p3⟩, y3⟩ := o j hj
    by_cases c : j = a
    · rw [if_pos c, if_pos c, set_get wn0 _ _ a ha j, if_pos c]
      subst c
      refine ⟨setR_self _ _ _ _, ⟨by omega, by omega, qn⟩, ?_⟩
      obtain ⟨w1, w2, w3, w4, w5⟩ := y3
      rw [e1] at w1
      rw [e2] at w2 w3 w4 w5
      have J : ∀ i, i < ol → (setR (setI h1 (hN h) ol (iZ (n : Int))) oa j (20, (ol + 1), (hN h))).1 (hN h) i = h.1 og i := fun i hi => (setI_ne (by omega)).trans (Y1 i hi)
      have lns : (((yO M).getD j wn0).2.2.2 ++ [n]).length = ((yO M).getD j wn0).2.2.2.length + 1 := by rw [List.length_append]; rfl
      refine ⟨by show ol + 1 = 3 + (((yO M).getD j wn0).2.2.2 ++ [n]).length; omega, by rw [J 0 (by omega)]; exact w2, by rw [J 1 (by omega)]; exact w3, by rw [J 2 (by omega)]; exact w4, fun k hk => ?_⟩
      have hk : k < (((yO M).getD j wn0).2.2.2 ++ [n]).length := hk
      show _ = iZ (((((yO M).getD j wn0).2.2.2 ++ [n]).getD k 0 : Nat) : Int)
      by_cases c : k < ((yO M).getD j wn0).2.2.2.length
      · rw [J (3 + k) (by omega), w5 k c, getD_app0 _ _ _ _ c]
      · have ek : k = ((yO M).getD j wn0).2.2.2.length := by omega
        rw [ek, getD_app1, show 3 + ((yO M).getD j wn0).2.2.2.length = ol by omega]
        exact setI_self _ _ _ _
    · rw [if_neg c, if_neg c, set_get wn0 _ _ a ha j, if_neg c]
      refine ⟨(setR_ne (fun z => c z.2)).trans ((congrFun (congrFun a1 oa) j).trans y1), ⟨p1, by omega, p3⟩, wRw_e (I _ (by omega)) y3⟩
theorem ev_lp {d sm n g rw tb kb ga ca ka ta K1 K2 Ob : Nat} {hr wd st : Int} {u : Q5} {C : List (Ctx × Int32)} {T : List Wn} {nt : Nat} {gr mk : Int} {lt : Nat → Nat} {Q : Rs → PH → Prop} (hg : g < 6) (hst : 1 ≤ st ∧ st ≤ 200) (hwd : 1 ≤ wd ∧ wd ≤ 200) (hhr : 0 ≤ hr ∧ hr ≤ 999) (hmk : 0 ≤ mk ∧ mk ≤ 2000) (hga : ga < sm) (hOb : Ob ≤ 4000) (hK2 : K1 + Ob + 80 ≤ K2) (m : Nat) : ∀ (L : List Wn) (s ii : Int) (oa : Nat) (x10 x11 x12 x13 : Option VV) (h : PH), hr - s < m → (0 ≤ s ∧ s ≤ 1300) → SMh h sm u ca ka oa ta (mkM C L T nt gr mk lt) → qD u (hN h) → h.1 ga 1 = iZ wd → h.1 ga 2 = iZ st → sL L → L.length + nvY wd st hr mk m s ≤ Ob → (∀ y ∈ L, wnC y) → (∀ y ∈ L, y.1 = g → s ≤ y.2.1 → y.2.2.2.length ≤ 70) → (∀ h1 oa1 i1 s1 x10 x11 x12 x13, SMh h1 sm u ca ka oa1 ta (mkM C (evY wd st hr mk g n m L s) T nt gr mk lt) → i1 = (if nvY wd st hr mk m s = 0 then ii else 1) → SI sm oa h h1 → (oa1 = oa ∨ hN h ≤ oa1) → RMy K1 K2 h h1 L.length (evY wd st hr mk g n m L s).length (nvY wd st hr mk m s) → Ev (d + 1) 179 (567, [some (.inr (.inr (.inr (12, 0, sm)))), some (.inr (.inr (.inr (20, 4, rw)))), some (.inr (.inr (.inr (26, 8, tb)))), some (.inl (iZ ((n : Int)))), some (.inr (.inr (.inr (29, (n + 1), kb)))), some (.inl (iZ (hr))), some (.inl (iZ ((g : Int)))), some (.inr (.inr (.inr (20, 4, ga)))), some (.inl (iZ (i1))), some (.inl (iZ (s1))), x10, x11, x12, x13], [], h1) Q) → Ev (d + 1) 179 (357, [some (.inr (.inr (.inr (12, 0, sm)))), some (.inr (.inr (.inr (20, 4, rw)))), some (.inr (.inr (.inr (26, 8, tb)))), some (.inl (iZ ((n : Int)))), some (.inr (.inr (.inr (29, (n + 1), kb)))), some (.inl (iZ (hr))), some (.inl (iZ ((g : Int)))), some (.inr (.inr (.inr (20, 4, ga)))), some (.inl (iZ (ii))), some (.inl (iZ (s))), x10, x11, x12, x13], [], h) Q := by
  induction m with
  | zero =>
    intro L s ii oa x10 x11 x12 x13 h hf hs x hu g1_ g2_ sl hl hB hC q
    exact cg_357 (d := d + 1) (mk := mk) hst hwd hhr hmk hs g1_ g2_ x.2.2.2.2.2.1.2.2 (fun _ => q h oa ii s _ _ _ _ x rfl (SI_r _ _ _) (.inl rfl) (RMy_r _ _ _ _)) (fun c => by omega) (fun c => by omega)
  | succ m ih =>
    intro L s ii oa x10 x11 x12 x13 h hf hs x hu g1_ g2_ sl hl hB hC q
    obtain ⟨x0, xc, xk, x3, x4, x5, x6, x7, x8⟩ := id x
    have x3 : sOw h sm u 3 oa (L) := x3
    have e7 : h.1 sm 7 = iZ mk := x5.2.2
    obtain ⟨e3, l3, fl, fr, o⟩ := x3
    refine cg_357 (d := d + 1) hst hwd hhr hmk hs g1_ g2_ e7 (fun c => ?_) (fun c c2 => ?_) (fun c c2 => ?_)
    · have q2 := q h oa ii s x10 x11 x12 x13
      rw [evY_e c, nvY_e c] at q2
      exact q2 x rfl (SI_r _ _ _) (.inl rfl) (RMy_r _ _ _ _)
    · rw [evY_s c, nvY_s c, if_neg c2, if_neg c2, Nat.zero_add] at q
      rw [nvY_s c, if_neg c2, Nat.zero_add] at hl
      exact ih L (s + st) ii oa x10 x11 x12 x13 h (by omega) ⟨by omega, by omega⟩ x hu g1_ g2_ sl hl hB (fun y hy e1 e2 => hC y hy e1 (by omega)) q
    · rw [evY_s c, nvY_s c, if_pos c2, if_pos c2] at q
      rw [nvY_s c, if_pos c2] at hl
      have NEW : ∀ (h1 : PH) (oa1 : Nat) (y10 y11 y12 y13 : Option VV), SMh h1 sm u ca ka oa1 ta (mkM C (adL g n s (s + wd) L) T nt gr mk lt) → SI sm oa h h1 → (oa1 = oa ∨ hN h ≤ oa1) → RMy K1 K2 h h1 L.length (adL g n s (s + wd) L).length 1 → Ev (d + 1) 179 (357, [some (.inr (.inr (.inr (12, 0, sm)))), some (.inr (.inr (.inr (20, 4, rw)))), some (.inr (.inr (.inr (26, 8, tb)))), some (.inl (iZ ((n : Int)))), some (.inr (.inr (.inr (29, (n + 1), kb)))), some (.inl (iZ (hr))), some (.inl (iZ ((g : Int)))), some (.inr (.inr (.inr (20, 4, ga)))), some (.inl (iZ (1))), some (.inl (iZ (s + st))), y10, y11, y12, y13], [], h1) Q := by
        intro h1 oa1 y10 y11 y12 y13 y S co rm
        have al := adL_len (g := g) (n := n) (s := s) (e := s + wd) L
        refine ih (adL g n s (s + wd) L) (s + st) 1 oa1 y10 y11 y12 y13 h1 (by omega) ⟨by omega, by omega⟩ y (qD_le hu S.2.2.2) (by rw [S.1 ga (by omega) (by omega) (by omega)]; exact g1_) (by rw [S.1 ga (by omega) (by omega) (by omega)]; exact g2_) (adL_s L sl) (by omega) (fun z hz => ?_) (fun z hz f1 f2 => ?_) (fun h2 oa2 i1 s1 z10 z11 z12 z13 z ei S2 co2 rm2 => ?_)
        · rcases adL_mem L hz with a | a | ⟨v, hv, v1, v2, a⟩
          · exact hB z a
          · rw [a]; exact ⟨hg, by show 0 ≤ s; omega, by show s ≤ 1200; omega, by show 0 ≤ s + wd; omega, by show s + wd ≤ 1300; omega⟩
          · rw [a]; exact hB v hv
        · rcases adL_mem L hz with a | a | ⟨v, hv, v1, v2, a⟩
          · exact hC z a f1 (by omega)
          · rw [a]; show 1 ≤ 70; decide
          · rw [a] at f2
            have f2 : s + st ≤ v.2.1 := f2
            omega
        · refine q h2 oa2 i1 s1 z10 z11 z12 z13 z ?_ (SI_t S S2 (by omega)) (by have := S.2.2.2; omega) (RMy_t rm rm2)
          rw [ei, if_neg (show ¬ 1 + nvY wd st hr mk m (s + st) = 0 by omega)]
          split <;> rfl
      refine cg_393 (d := d + 1) ?_
      refine se_lp (d := d + 1) (by show L.length ≤ 5000; omega) hg hs e3 o hB (fun no => ?_) (fun i hi ye => ?_) L.length 0 (-1) (by omega) (.inl ⟨rfl, fun j hj => absurd hj (Nat.not_lt_zero _)⟩)
      · have ea : adL g n s (s + wd) L = putL L (g, s, s + wd, [n]) := adL_put L (fun y hy e => by
          obtain ⟨j, hj, ej⟩ := List.getElem_of_mem hy
          refine no j hj ?_
          rw [List.getD_eq_getElem?_getD, List.getElem?_eq_getElem hj]
          show L[j].1 = g ∧ L[j].2.1 = s
          rw [ej]; exact e)
        obtain ⟨N1, N2, N3⟩ := nwW_ok (h := h) (g := g) (n := n) (s := s) (e := s + wd) hu x8.2
        have y := SM_nwI x N1
        have p := SM_put (d := d) y (by show L.length ≤ 5000; omega) N2 N3 ⟨hg, by show 0 ≤ s; omega, by show s ≤ 1200; omega, by show 0 ≤ s + wd; omega, by show s + wd ≤ 1300; omega⟩ hB
        have hN1 : hN (nwW h (g : Int) s (s + wd) (n : Int)) = hN h + 1 := rfl
        have hS1 : hS (nwW h (g : Int) s (s + wd) (n : Int)) = hS h + 4 := rfl
        refine cg_450n (d := d) (wd := wd) (st := st) (by omega) g1_ (fun h1 P1 => ?_) p (fun h1 P1 => ?_)
        · rw [P1.2.2.1, N1.2.1 ga (by omega)]; exact g2_
        · obtain ⟨Y, S, i1, n1, m1⟩ := P1
          have S0 := SI_t (nwI_SI (sm := sm) N1) S (.inl rfl)
          have lp := putL_len L (g, s, s + wd, [n])
          refine NEW h1 _ _ _ _ _ (by rw [ea]; exact Y) (SI_n S0) (.inr (by omega)) ?_
          rw [ea, lp]
          have m1 : hS h1 = hS (nwW h (g : Int) s (s + wd) (n : Int)) + (L.length + 1) := m1
          have e1 : pw K1 (L.length + 1) = pw K1 L.length + K1 := rfl
          have e2 : pw K2 1 = 0 + K2 := rfl
          exact ⟨by omega, by omega⟩
      · have ea := adL_set (g := g) (n := n) (s := s) (e := s + wd) L i sl hi ye
        obtain ⟨y1, ⟨p1, p2, p3⟩, y3⟩ := o i hi
        have ln := hC _ (getD_mem (d := wn0) hi) ye.1 (by omega)
        have w1 := y3.1
        refine cg_450y (d := d + 1) (a := i) (L := L) (ol := fl i) (og := fr i) hi (by omega) (by omega) e3 y1 ?_
        refine mo_lp (d := d + 1) hi (by omega) (by omega) rfl p2 e3 y1 (fun h1 X1 Y1 => ?_) (fl i) 0 _ (by omega) (nwI_g h (fl i + 1)) (fun j hj => absurd hj (Nat.not_lt_zero _))
        refine cg_537 (d := d + 1) (st := st) hi (by omega) (by omega) (by omega) (by rw [X1.2.1 ga (by omega)]; exact g2_) (by rw [X1.1]; exact e3) ?_
        obtain ⟨Y, S, n1, m1⟩ := SM_more (n := n) x hu o hi rfl rfl X1 Y1
        have Y2 : SMh (setR (setI h1 (hN h) (fl i) (iZ (n : Int))) oa i (20, (fl i + 1), (hN h))) sm u ca ka oa ta (mkM C (adL g n s (s + wd) L) T nt gr mk lt) := by
          rw [ea]
          have yy : (L.getD i wn0).1 = g := ye.1
          have ys : (L.getD i wn0).2.1 = s := ye.2
          have : mkM C (L.set i (g, s, (L.getD i wn0).2.2.1, (L.getD i wn0).2.2.2 ++ [n])) T nt gr mk lt = mkM C (L.set i ((L.getD i wn0).1, (L.getD i wn0).2.1, (L.getD i wn0).2.2.1, (L.getD i wn0).2.2.2 ++ [n])) T nt gr mk lt := by rw [yy, ys]
          rw [this]; exact Y
        refine NEW _ oa _ _ _ _ Y2 S (.inl rfl) ?_
        rw [ea, List.length_set]
        have e2 : pw K2 1 = 0 + K2 := rfl
        exact ⟨by omega, by omega⟩
/-- a comma in one goose -/
theorem cg_one {d sm n g rw tb kb ga ca ka oa ta K1 K2 Ob : Nat} {hr : Int} {u : Q5} {G : Gs} {M : Ms} {x8 x9 x10 x11 x12 x13 : Option VV} {h : PH} {Q : Rs → PH → Prop} (hg : g < 6) (gb : goB G) (hhr : 0 ≤ hr ∧ hr ≤ 999) (hmk : 0 ≤ yK M ∧ yK M ≤ 2000) (hga : ga < sm) (hOb : Ob + 80 ≤ K1 ∧ K1 ≤ 4000) (hK2 : K1 + Ob + 80 ≤ K2) (x : SMh h sm u ca ka oa ta M) (hu : qD u (hN h)) (g1_ : h.1 ga 1 = iZ G.2.1) (g2_ : h.1 ga 2 = iZ G.2.2.1) (sl : sL (yO M)) (hl : (yO M).length + nuY G hr (yK M) ≤ Ob) (hB : ∀ y ∈ yO M, wnC y) (hC1 : G.2.2.1 = 0 → cntG g (yO M) ≤ 69) (hC2 : G.2.2.1 ≠ 0 → ∀ y ∈ yO M, y.1 = g → y.2.2.2.length ≤ 70) (q : ∀ h1 oa1 x8 x9 x10 x11 x12 x13, SMh h1 sm u ca ka oa1 ta (mkM (yC M) (goY G g n hr (yK M) (yO M)) (yT M) (yN M) (yG M) (yK M) (fun g2 => if g2 = g then yL M g + (if nuY G hr (yK M) = 0 then 1 else 0) else yL M g2)) → SI sm oa h h1 → (oa1 = oa ∨ hN h ≤ oa1) → RMy K1 K2 h h1 (yO M).length (goY G g n hr (yK M) (yO M)).length (nuY G hr (yK M)) → Ev (d + 1) 179 (78, [some (.inr (.inr (.inr (12, 0, sm)))), some (.inr (.inr (.inr (20, 4, rw)))), some (.inr (.inr (.inr (26, 8, tb)))), some (.inl (iZ ((n : Int)))), some (.inr (.inr (.inr (29, (n + 1), kb)))), some (.inl (iZ (hr))), some (.inl (iZ ((g : Int) + 1))), some (.inr (.inr (.inr (20, 4, ga)))), x8, x9, x10, x11, x12, x13], [], h1) Q) : Ev (d + 1) 179 (114, [some (.inr (.inr (.inr (12, 0, sm)))), some (.inr (.inr (.inr (20, 4, rw)))), some (.inr (.inr (.inr (26, 8, tb)))), some (.inl (iZ ((n : Int)))), some (.inr (.inr (.inr (29, (n + 1), kb)))), some (.inl (iZ (hr))), some (.inl (iZ ((g : Int)))), some (.inr (.inr (.inr (20, 4, ga)))), x8, x9, x10, x11, x12, x13], [], h) Q := by
  obtain ⟨b1, b2, b3, b4, b5⟩ := gb
  obtain ⟨x0, xc, xk, x3, x4, x5, x6, x7, x8_⟩ := id x
  have fin : ∀ (h1 : PH) (oa1 : Nat) (i1 : Int) (O1 : List Wn) (c : Nat) (y9 y10 y11 y12 y13 : Option VV), SMh h1 sm u ca ka oa1 ta (mkM (yC M) O1 (yT M) (yN M) (yG M) (yK M) (yL M)) → O1 = goY G g n hr (yK M) (yO M) → c = nuY G hr (yK M) → (i1 = if c = 0 then 0 else 1) → SI sm oa h h1 → (oa1 = oa ∨ hN h ≤ oa1) → RMy K1 K2 h h1 (yO M).length O1.length c → Ev (d + 1) 179 (567, [some (.inr (.inr (.inr (12, 0, sm)))), some (.inr (.inr (.inr (20, 4, rw)))), some (.inr (.inr (.inr (26, 8, tb)))), some (.inl (iZ ((n : Int)))), some (.inr (.inr (.inr (29, (n + 1), kb)))), some (.inl (iZ (hr))), some (.inl (iZ ((g : Int)))), some (.inr (.inr (.inr (20, 4, ga)))), some (.inl (iZ (i1))), y9, y10, y11, y12, y13], [], h1) Q := by
    intro h1 oa1 i1 O1 c y9 y10 y11 y12 y13 y eo ec ei S co rm
    subst eo ec
    by_cases z : nuY G hr (yK M) = 0
    · rw [if_pos z] at ei
      subst ei
      have sl8 := y.2.2.2.2.2.2.1
      have s8 := y.2.2.2.2.2.2.2.2.2
      refine cg_5670 (d := d + 1) (lg := yL M g) hg sl8.1 (sl8.2 g hg) ?_
      have S2 : SI sm sm h1 (setI h1 (sm + 5) g (iZ ((yL M g : Int) + 1))) := ⟨fun a _ _ p3 => setI_oth p3, fun _ _ _ _ => rfl, fun a p1 => setI_oth (by have p1 : hN h1 ≤ a := p1; omega), Nat.le_refl _⟩
      have Y2 : SMh (setI h1 (sm + 5) g (iZ ((yL M g : Int) + 1))) sm u ca ka oa1 ta (mkM (yC M) (goY G g n hr (yK M) (yO M)) (yT M) (yN M) (yG M) (yK M) (fun g2 => if g2 = g then yL M g + (if nuY G hr (yK M) = 0 then 1 else 0) else yL M g2)) := by
        obtain ⟨w0, w1, w2, w3, w4, w5, w6, w7, w8⟩ := y
        have l1 := w1.2.1
        have l2 := w2.2.1
        have l3 := w3.2.1
        have l4 := w4.2.1
        refine ⟨w0, sCm_SI S2 (by omega) rfl w1, sTk_SI S2 (by omega) rfl w2, sOw_SI S2 (by omega) rfl w3, sOw_SI S2 (by omega) rfl w4, sNm_e (setI_oth (by omega)) w5, ⟨w6.1, fun g2 hg2 => ?_⟩, w7, w8⟩
        show _ = iZ (((if g2 = g then yL M g + (if nuY G hr (yK M) = 0 then 1 else 0) else yL M g2 : Nat)) : Int)
        by_cases e : g2 = g
        · rw [if_pos e, if_pos z, e, setI_self]
          rw [show ((yL M g + 1 : Nat) : Int) = (yL M g : Int) + 1 by omega]
        · rw [if_neg e, setI_ne (fun k => e k.2)]; exact w6.2 g2 hg2
      have lo := y.2.2.2.1.2.1
      exact q _ oa1 _ _ _ _ _ _ Y2 (SI_t S S2 (.inr (.inr rfl))) co rm
    · rw [if_neg z] at ei
      subst ei
      refine cg_5671 (d := d + 1) ?_
      have Y2 : SMh h1 sm u ca ka oa1 ta (mkM (yC M) (goY G g n hr (yK M) (yO M)) (yT M) (yN M) (yG M) (yK M) (fun g2 => if g2 = g then yL M g + (if nuY G hr (yK M) = 0 then 1 else 0) else yL M g2)) := by
        have e : (fun g2 => if g2 = g then yL M g + (if nuY G hr (yK M) = 0 then 1 else 0) else yL M g2) = yL M := by
          funext g2
          by_cases e : g2 = g
          · rw [if_pos e, if_neg z, e, Nat.add_zero]
          · rw [if_neg e]
        rw [e]; exact y
      exact q _ oa1 _ _ _ _ _ _ Y2 S co rm
  refine cg_114 (d := d + 1) (wd := G.2.1) (st := G.2.2.1) (mk := yK M) ⟨b3, by omega⟩ ⟨b1, b2⟩ hhr hmk (by omega) g1_ g2_ x5.2.2 (fun c c2 => ?_) (fun c c2 => ?_) (fun c => ?_)
  · refine fin h oa 0 (yO M) 0 _ _ _ _ _ x ?_ ?_ rfl (SI_r _ _ _) (.inl rfl) (RMy_r _ _ _ _)
    · unfold goY; rw [if_pos c, if_neg c2]
    · unfold nuY; rw [if_pos c, if_neg c2]
  · have ec : nuY G hr (yK M) = 1 := by unfold nuY; rw [if_pos c, if_pos c2]
    rw [ec] at hl
    obtain ⟨N1, N2, N3⟩ := nwW_ok (h := h) (g := g) (n := n) (s := hr) (e := hr + G.2.1) hu x8_.2
    have y := SM_nwI x N1
    have hN1 : hN (nwW h (g : Int) hr (hr + G.2.1) (n : Int)) = hN h + 1 := rfl
    have hS1 : hS (nwW h (g : Int) hr (hr + G.2.1) (n : Int)) = hS h + 4 := rfl
    have hc := hC1 c
    refine gp_lp (d := d) (K1 := K1) (C := yC M) (T := yT M) (nt := yN M) (gr := yG M) (mk := yK M) (lt := yL M) hg ⟨b1, b2⟩ hhr hga (by omega) (yO M) [] (g, hr, hr + G.2.1, [n]) 4 (hN h) oa x11 x12 x13 (nwW h (g : Int) hr (hr + G.2.1) (n : Int)) y (qD_le hu (by omega)) N3 N2 ⟨hg, by show 0 ≤ hr; omega, by show hr ≤ 1200; omega, by show 0 ≤ hr + G.2.1; omega, by show hr + G.2.1 ≤ 1300; omega⟩ (by rw [N1.2.1 ga (by omega)]; exact g1_) (by show (yO M).length + 80 ≤ K1; omega) hB (by show 1 + cntG g (yO M) ≤ 70; omega) (fun h1 oa1 wl1 wr1 k1 y11 y12 y13 Y pI1 W1 wc1 S co r1 r2 => ?_)
    have S0 := SI_t (nwI_SI (sm := sm) N1) S (.inl rfl)
    have ms := (mgK_sub (g := g) (hr := hr) (wd := G.2.1) (yO M)).length_le
    have r1 : hS h1 + pw K1 (mgK g hr G.2.1 (yO M)).length ≤ hS (nwW h (g : Int) hr (hr + G.2.1) (n : Int)) + pw K1 (yO M).length := r1
    have r2 : hN h1 + 2 * (mgK g hr G.2.1 (yO M)).length ≤ hN (nwW h (g : Int) hr (hr + G.2.1) (n : Int)) + 2 * (yO M).length := r2
    have p := SM_put (d := d) Y (by show (mgK g hr G.2.1 (yO M)).length ≤ 5000; omega) W1 pI1 wc1 (fun z hz => hB z ((mgK_mem _).mp hz).1)
    refine cg_342 (d := d) p (fun h2 P2 => ?_)
    obtain ⟨Y2, S2, i2, n2, m2⟩ := P2
    refine fin h2 _ 1 _ 1 _ _ _ _ _ Y2 ?_ ec.symm rfl (SI_n (SI_t S0 S2 (.inl rfl))) (.inr (by have := S0.2.2.2; omega)) ?_
    · unfold goY; rw [if_pos c, if_pos c2]; rfl
    · have lp := putL_len (mgK g hr G.2.1 (yO M)) (mgF g hr G.2.1 (yO M) (g, hr, hr + G.2.1, [n]))
      have m2 : hS h2 = hS h1 + ((mgK g hr G.2.1 (yO M)).length + 1) := m2
      show RMy K1 K2 h h2 (yO M).length (putL (mgK g hr G.2.1 (yO M)) (mgF g hr G.2.1 (yO M) (g, hr, hr + G.2.1, [n]))).length 1
      rw [lp]
      have e1 : pw K1 ((mgK g hr G.2.1 (yO M)).length + 1) = pw K1 (mgK g hr G.2.1 (yO M)).length + K1 := rfl
      have e2 : pw K2 1 = 0 + K2 := rfl
      exact ⟨by omega, by omega⟩
  · have en : nuY G hr (yK M) = nvY G.2.1 G.2.2.1 hr (yK M) 1001 0 := by unfold nuY; rw [if_neg c]
    have eg : goY G g n hr (yK M) (yO M) = evY G.2.1 G.2.2.1 hr (yK M) g n 1001 (yO M) 0 := by unfold goY; rw [if_neg c]
    rw [en] at hl
    refine ev_lp (d := d) (K1 := K1) (K2 := K2) (Ob := Ob) (C := yC M) (T := yT M) (nt := yN M) (gr := yG M) (mk := yK M) (lt := yL M) hg ⟨by omega, by omega⟩ ⟨b1, b2⟩ hhr hmk hga (by omega) hK2 1001 (yO M) 0 0 oa x10 x11 x12 x13 h (by omega) ⟨by omega, by omega⟩ x hu g1_ g2_ sl hl hB (fun z hz e1 _ => hC2 c z hz e1) (fun h1 oa1 i1 s1 y10 y11 y12 y13 Y ei S co rm => ?_)
    exact fin h1 oa1 i1 _ _ _ _ _ _ _ Y eg.symm en.symm ei S co rm
