/-! A comma by steps: upwards as by hand, downwards as the class. -/
def cv (wd hr wm : Int) (tl : Nat) (v : Int32) (W : List Win) (s : Int) : List Win := if hr < s + wd ∧ wm < s + wd then cin wd tl v W s else W
theorem cin_cm {wd : Int} {tl : Nat} {v : Int32} {a b : Int} (h : a < b) : ∀ W : List Win, cin wd tl v (cin wd tl v W a) b = cin wd tl v (cin wd tl v W b) a := by
  intro W
  induction W with
  | nil => rw [cin_nil, cin_nil, cin_l (by show a < b; exact h), cin_nil, cin_g (by show a < b; exact h)]
  | cons w W ih =>
    rcases Int.lt_trichotomy w.1 a with c | c | c
    · rw [cin_l c, cin_l (show w.1 < b by omega), cin_l (show w.1 < b by omega), cin_l c, ih]
    · rw [cin_e c, cin_l (by show a < b; exact h), cin_l (show w.1 < b by omega), cin_e c]
    · rw [cin_g c, cin_l (by show a < b; exact h)]
      rcases Int.lt_trichotomy w.1 b with e | e | e
      · rw [cin_l e, cin_g c]
      · rw [cin_e e, cin_g (by show a < b; exact h)]
      · rw [cin_g e, cin_g (by show a < b; exact h)]
theorem cin_cm2 {wd : Int} {tl : Nat} {v : Int32} {a b : Int} (h : a ≠ b) (W : List Win) : cin wd tl v (cin wd tl v W a) b = cin wd tl v (cin wd tl v W b) a := by
  rcases Int.lt_trichotomy a b with c | c | c
  · exact cin_cm c W
  · exact absurd c h
  · exact (cin_cm c W).symm
theorem cv_cm {wd hr wm : Int} {tl : Nat} {v : Int32} {a b : Int} (h : a ≠ b) (W : List Win) : cv wd hr wm tl v (cv wd hr wm tl v W a) b = cv wd hr wm tl v (cv wd hr wm tl v W b) a := by
  unfold cv
  by_cases c : hr < a + wd ∧ wm < a + wd
  · by_cases e : hr < b + wd ∧ wm < b + wd
    · rw [if_pos c, if_pos e, if_pos e, if_pos c]; exact cin_cm2 h W
    · rw [if_pos c, if_neg e, if_neg e, if_pos c]
  · by_cases e : hr < b + wd ∧ wm < b + wd
    · rw [if_neg c, if_pos e, if_neg c]
    · rw [if_neg c, if_neg e, if_neg c]
/-- the starts -/
def ps (st : Int) : Nat → Int
  | 0 => 0
  | i + 1 => ps st i + st
theorem ps_lt {st : Int} (hs : 1 ≤ st) {i : Nat} : ∀ j, i < j → ps st i < ps st j := by
  intro j
  induction j with
  | zero => intro h; omega
  | succ j ih =>
    intro h
    show ps st i < ps st j + st
    by_cases c : i = j
    · rw [c]; omega
    · have := ih (by omega); omega
theorem ps_le {st : Int} (hs : 1 ≤ st) {i j : Nat} (h : i ≤ j) : ps st i ≤ ps st j := by
  by_cases c : i = j
  · rw [c]; exact Int.le_refl _
  · have := ps_lt hs j (show i < j by omega); omega
theorem ps_mul (st : Int) : ∀ i : Nat, ps st i = (i : Int) * st := by
  intro i
  induction i with
  | zero => exact (Int.zero_mul st).symm
  | succ i ih =>
    show ps st i + st = ((i + 1 : Nat) : Int) * st
    rw [ih, show ((i + 1 : Nat) : Int) = (i : Int) + 1 from rfl, Int.add_mul, Int.one_mul]
theorem ps_0 {st : Int} (hs : 1 ≤ st) (i : Nat) : 0 ≤ ps st i := ps_le hs (Nat.zero_le i)
/-- the last start -/
theorem ps_J {st hr : Int} (hs : 1 ≤ st) (h0 : 0 ≤ hr) : ∃ J : Nat, ps st J = hr - hr % st ∧ ps st J ≤ hr ∧ hr < ps st (J + 1) := by
  refine ⟨(hr / st).toNat, ?_⟩
  have e := Int.mul_ediv_add_emod hr st
  have d0 : 0 ≤ hr / st := Int.ediv_nonneg h0 (by omega)
  have m0 := Int.emod_nonneg hr (show st ≠ 0 by omega)
  have m1 := Int.emod_lt_of_pos hr (show 0 < st by omega)
  have p : ps st (hr / st).toNat = hr - hr % st := by
    rw [ps_mul, show (((hr / st).toNat : Nat) : Int) = hr / st by omega, Int.mul_comm]
    omega
  refine ⟨p, by omega, ?_⟩
  show hr < ps st (hr / st).toNat + st
  omega
/-- up to the start of number j - 1; down from it -/
def upW (wd hr wm : Int) (tl : Nat) (v : Int32) (st : Int) (W : List Win) : Nat → List Win
  | 0 => W
  | j + 1 => cv wd hr wm tl v (upW wd hr wm tl v st W j) (ps st j)
def dnW (wd hr wm : Int) (tl : Nat) (v : Int32) (st : Int) : Nat → List Win → List Win
  | 0, W => W
  | j + 1, W => dnW wd hr wm tl v st j (cv wd hr wm tl v W (ps st j))
theorem up_cv {wd hr wm st t : Int} {tl : Nat} {v : Int32} {W : List Win} : ∀ j, (∀ i, i < j → ps st i ≠ t) → upW wd hr wm tl v st (cv wd hr wm tl v W t) j = cv wd hr wm tl v (upW wd hr wm tl v st W j) t := by
  intro j
  induction j with
  | zero => intro _; rfl
  | succ j ih =>
    intro h
    show cv wd hr wm tl v (upW wd hr wm tl v st (cv wd hr wm tl v W t) j) (ps st j) = cv wd hr wm tl v (cv wd hr wm tl v (upW wd hr wm tl v st W j) (ps st j)) t
    rw [ih (fun i hi => h i (by omega)), cv_cm (fun z => h j (Nat.lt_succ_self _) z.symm)]
theorem up_dn {wd hr wm st : Int} {tl : Nat} {v : Int32} (hs : 1 ≤ st) : ∀ (j : Nat) (W : List Win), dnW wd hr wm tl v st j W = upW wd hr wm tl v st W j := by
  intro j
  induction j with
  | zero => intro W; rfl
  | succ j ih =>
    intro W
    show dnW wd hr wm tl v st j (cv wd hr wm tl v W (ps st j)) = cv wd hr wm tl v (upW wd hr wm tl v st W j) (ps st j)
    rw [ih, up_cv j (fun i hi => by have := ps_lt hs j hi; omega)]
theorem dn_no {wd hr wm st : Int} {tl : Nat} {v : Int32} (hs : 1 ≤ st) : ∀ (j : Nat) (W : List Win), (∀ i, i < j → ps st i + wd ≤ hr) → dnW wd hr wm tl v st j W = W := by
  intro j
  induction j with
  | zero => intro W _; rfl
  | succ j ih =>
    intro W h
    have c := h j (Nat.lt_succ_self _)
    show dnW wd hr wm tl v st j (cv wd hr wm tl v W (ps st j)) = W
    have e : cv wd hr wm tl v W (ps st j) = W := if_neg (by omega)
    rw [e]
    exact ih W (fun i hi => h i (by omega))
theorem cev_neg {wd st hr wm : Int} {tl : Nat} {v : Int32} {W : List Win} {s : Int} (hs : s < 0) : ∀ k, cev wd st hr wm tl v k W s = W := by
  intro k
  cases k with
  | zero => rfl
  | succ k => exact if_pos hs
theorem cev_dn {wd st hr wm : Int} {tl : Nat} {v : Int32} (hs : 1 ≤ st) : ∀ (k j : Nat) (W : List Win), ps st j + wd ≤ hr + ps st k → cev wd st hr wm tl v k W (ps st j) = dnW wd hr wm tl v st (j + 1) W := by
  intro k
  induction k with
  | zero =>
    intro j W h
    have h : ps st j + wd ≤ hr + 0 := h
    refine (dn_no hs (j + 1) W (fun i hi => ?_)).symm
    have := ps_le hs (show i ≤ j by omega)
    omega
  | succ k ih =>
    intro j W h
    have h : ps st j + wd ≤ hr + (ps st k + st) := h
    have p0 := ps_0 hs j
    show (if ps st j < 0 then W else cev wd st hr wm tl v k (cv wd hr wm tl v W (ps st j)) (ps st j - st)) = dnW wd hr wm tl v st j (cv wd hr wm tl v W (ps st j))
    rw [if_neg (by omega)]
    cases j with
    | zero => exact cev_neg (by show (0 : Int) - st < 0; omega) k
    | succ j =>
      have e : ps st (j + 1) - st = ps st j := by show ps st j + st - st = _; omega
      rw [e]
      exact ih j _ (by have h : ps st j + st + wd ≤ hr + (ps st k + st) := h; omega)
/-- by hand: from s on upwards -/
def evY (wd st hr mk : Int) (g n : Nat) : Nat → List Wn → Int → List Wn
  | 0, L, _ => L
  | m + 1, L, s => if hr < s then L else evY wd st hr mk g n m (if hr < s + wd ∧ mk < s + wd then adL g n s (s + wd) L else L) (s + st)
/-- how many windows it is in -/
def nvY (wd st hr mk : Int) : Nat → Int → Nat
  | 0, _ => 0
  | m + 1, s => if hr < s then 0 else (if hr < s + wd ∧ mk < s + wd then 1 else 0) + nvY wd st hr mk m (s + st)
theorem evY_s {wd st hr mk s : Int} {g n m : Nat} {L : List Wn} (c : ¬ hr < s) : evY wd st hr mk g n (m + 1) L s = evY wd st hr mk g n m (if hr < s + wd ∧ mk < s + wd then adL g n s (s + wd) L else L) (s + st) := if_neg c
theorem evY_e {wd st hr mk s : Int} {g n m : Nat} {L : List Wn} (c : hr < s) : evY wd st hr mk g n (m + 1) L s = L := if_pos c
theorem nvY_s {wd st hr mk s : Int} {m : Nat} (c : ¬ hr < s) : nvY wd st hr mk (m + 1) s = (if hr < s + wd ∧ mk < s + wd then 1 else 0) + nvY wd st hr mk m (s + st) := if_neg c
theorem nvY_e {wd st hr mk s : Int} {m : Nat} (c : hr < s) : nvY wd st hr mk (m + 1) s = 0 := if_pos c
theorem rwL_evY {tl : Nat → Nat} {f : Nat → Nat → Int32} {wd st hr mk : Int} {g n J : Nat} (hs : 1 ≤ st) (hJ : ps st J ≤ hr) (hJ2 : hr < ps st (J + 1)) (W : List Win) : ∀ (m i : Nat) (L : List Wn), sL L → (∀ x ∈ L, x.2.2.2 ≠ []) → i ≤ J + 1 → J + 2 ≤ m + i → rwL tl f L g = upW wd hr mk (tl g) (f g n) st W i → rwL tl f (evY wd st hr mk g n m L (ps st i)) g = upW wd hr mk (tl g) (f g n) st W (J + 1) := by
  intro m
  induction m with
  | zero => intro i L _ _ h1 h2 _; omega
  | succ m ih =>
    intro i L sl ne h1 h2 e
    by_cases c : i = J + 1
    · rw [evY_e (by rw [c]; exact hJ2), e, c]
    · have le := ps_le hs (show i ≤ J by omega)
      rw [evY_s (by omega)]
      show rwL tl f (evY wd st hr mk g n m _ (ps st (i + 1))) g = _
      by_cases d : hr < ps st i + wd ∧ mk < ps st i + wd
      · rw [if_pos d]
        refine ih (i + 1) _ (adL_s L sl) (fun x hx => ?_) (by omega) (by omega) ?_
        · rcases adL_mem L hx with a | a | ⟨z, hz, _, _, a⟩
          · exact ne x a
          · rw [a]; exact List.cons_ne_nil _ _
          · rw [a]; exact fun z => List.cons_ne_nil _ _ (List.append_eq_nil_iff.mp z).2
        · rw [rwL_ad L sl ne, e]
          exact (if_pos d).symm
      · rw [if_neg d]
        refine ih (i + 1) L sl ne (by omega) (by omega) ?_
        rw [e]
        exact (if_neg d).symm
theorem rwL_every {tl : Nat → Nat} {f : Nat → Nat → Int32} {wd st hr mk : Int} {g n m : Nat} {L : List Wn} (hs : 1 ≤ st) (h7 : wd ≤ 7 * st) (h0 : 0 ≤ hr) (hm : hr < m) (sl : sL L) (ne : ∀ x ∈ L, x.2.2.2 ≠ []) : rwL tl f (evY wd st hr mk g n (m + 1) L 0) g = cev wd st hr mk (tl g) (f g n) 7 (rwL tl f L g) (hr - hr % st) := by
  obtain ⟨J, e, j1, j2⟩ := ps_J hs h0
  have p7 : ps st 7 = 7 * st := ps_mul st 7
  rw [← e, cev_dn hs 7 J _ (by omega), up_dn hs]
  have hJ : (J : Int) ≤ ps st J := by
    rw [ps_mul]
    have := Int.mul_le_mul_of_nonneg_left hs (show 0 ≤ (J : Int) by omega)
    rw [Int.mul_one] at this
    exact this
  exact rwL_evY hs j1 j2 (rwL tl f L g) (m + 1) 0 L sl ne (by omega) (by omega) rfl
theorem rwL_evY_o {tl : Nat → Nat} {f : Nat → Nat → Int32} {wd st hr mk : Int} {g g2 n : Nat} (hg : ¬ g = g2) : ∀ (m : Nat) (L : List Wn) (s : Int), rwL tl f (evY wd st hr mk g n m L s) g2 = rwL tl f L g2 := by
  intro m
  induction m with
  | zero => intro L s; rfl
  | succ m ih =>
    intro L s
    by_cases c : hr < s
    · rw [evY_e c]
    · rw [evY_s c, ih]
      by_cases d : hr < s + wd ∧ mk < s + wd
      · rw [if_pos d, rwL_ad_o hg]
      · rw [if_neg d]
theorem nvY_le {wd st hr mk : Int} (hs : 1 ≤ st) (hw : 1 ≤ wd) : ∀ (m : Nat) (s : Int), (s ≤ hr - wd → st * (nvY wd st hr mk m s : Int) ≤ wd - 1 + st) ∧ (hr - wd < s → s ≤ hr + st → st * (nvY wd st hr mk m s : Int) ≤ hr - s + st) := by
  intro m
  induction m with
  | zero =>
    intro s
    have e : st * ((nvY wd st hr mk 0 s : Nat) : Int) = 0 := Int.mul_zero st
    rw [e]
    exact ⟨fun h => by omega, fun h h2 => by omega⟩
  | succ m ih =>
    intro s
    by_cases c : hr < s
    · have e : st * ((nvY wd st hr mk (m + 1) s : Nat) : Int) = 0 := by rw [nvY_e c]; exact Int.mul_zero st
      rw [e]
      exact ⟨fun h => by omega, fun h h2 => by omega⟩
    · obtain ⟨i1, i2⟩ := ih (s + st)
      by_cases d : hr < s + wd ∧ mk < s + wd
      · have e : st * ((nvY wd st hr mk (m + 1) s : Nat) : Int) = st + st * ((nvY wd st hr mk m (s + st) : Nat) : Int) := by
          rw [nvY_s c, if_pos d, show ((1 + nvY wd st hr mk m (s + st) : Nat) : Int) = 1 + (nvY wd st hr mk m (s + st) : Int) by omega, Int.mul_add, Int.mul_one]
        rw [e]
        refine ⟨fun h => by omega, fun h h2 => ?_⟩
        have := i2 (by omega) (by omega)
        omega
      · have e : st * ((nvY wd st hr mk (m + 1) s : Nat) : Int) = st * ((nvY wd st hr mk m (s + st) : Nat) : Int) := by
          rw [nvY_s c, if_neg d, Nat.zero_add]
        rw [e]
        refine ⟨fun h => ?_, fun h h2 => ?_⟩
        · by_cases k : s + st ≤ hr - wd
          · exact i1 k
          · have := i2 (by omega) (by omega)
            omega
        · have := i2 (by omega) (by omega)
          omega
theorem nvY_7 {wd st hr mk : Int} {m : Nat} (hs : 1 ≤ st) (hw : 1 ≤ wd) (h0 : 0 ≤ hr) (h7 : wd < 7 * st) : nvY wd st hr mk m 0 ≤ 7 ∧ (st = 1 → nvY wd st hr mk m 0 ≤ 6) := by
  have b : st * (nvY wd st hr mk m 0 : Int) ≤ wd - 1 + st := by
    obtain ⟨i1, i2⟩ := nvY_le (mk := mk) (hr := hr) hs hw m 0
    by_cases k : (0 : Int) ≤ hr - wd
    · exact i1 k
    · have := i2 (by omega) (by omega)
      omega
  constructor
  · apply Classical.byContradiction
    intro c
    have := Int.mul_le_mul_of_nonneg_left (show (8 : Int) ≤ (nvY wd st hr mk m 0 : Int) by omega) (show 0 ≤ st by omega)
    omega
  · intro e
    subst e
    omega
theorem nv_late {wd st hr mk : Int} {J : Nat} (hs : 1 ≤ st) (hw : st ≤ wd) (hJ : ps st J ≤ hr) (hJ2 : hr < ps st (J + 1)) : ∀ (m i : Nat), i ≤ J → J + 2 ≤ m + i → (nvY wd st hr mk m (ps st i) = 0 ↔ ps st J + wd ≤ mk) := by
  intro m
  have e1 : ps st (J + 1) = ps st J + st := rfl
  induction m with
  | zero => intro i h1 h2; omega
  | succ m ih =>
    intro i h1 h2
    have le := ps_le hs h1
    rw [nvY_s (by omega)]
    show (_ + nvY wd st hr mk m (ps st (i + 1)) = 0 ↔ _)
    by_cases c : i = J
    · have z : nvY wd st hr mk m (ps st (i + 1)) = 0 := by
        cases m with
        | zero => rfl
        | succ m => exact nvY_e (by rw [c]; exact hJ2)
      rw [z, c]
      by_cases d : hr < ps st J + wd ∧ mk < ps st J + wd
      · rw [if_pos d]; constructor
        · intro h; omega
        · intro h; omega
      · rw [if_neg d]; constructor
        · intro h; omega
        · intro h; rfl
    · have i2 := ih (i + 1) (by omega) (by omega)
      constructor
      · intro h; exact i2.mp (by omega)
      · intro h
        rw [i2.mpr h, if_neg (by omega)]
theorem nvY_late {wd st hr mk : Int} {m : Nat} (hs : 1 ≤ st) (hw : st ≤ wd) (h0 : 0 ≤ hr) (hm : hr < m) : nvY wd st hr mk (m + 1) 0 = 0 ↔ hr - hr % st + wd ≤ mk := by
  obtain ⟨J, e, j1, j2⟩ := ps_J hs h0
  have hJ : (J : Int) ≤ ps st J := by
    rw [ps_mul]
    have := Int.mul_le_mul_of_nonneg_left hs (show 0 ≤ (J : Int) by omega)
    rw [Int.mul_one] at this
    exact this
  rw [← e]
  exact nv_late hs hw j1 j2 (m + 1) 0 (Nat.zero_le _) (by omega)
theorem evY_len {wd st hr mk : Int} {g n : Nat} : ∀ (m : Nat) (L : List Wn) (s : Int), (evY wd st hr mk g n m L s).length ≤ L.length + nvY wd st hr mk m s ∧ L.length ≤ (evY wd st hr mk g n m L s).length := by
  intro m
  induction m with
  | zero => intro L s; exact ⟨Nat.le_refl _, Nat.le_refl _⟩
  | succ m ih =>
    intro L s
    by_cases c : hr < s
    · rw [evY_e c, nvY_e c]; exact ⟨Nat.le_refl _, Nat.le_refl _⟩
    · rw [evY_s c, nvY_s c]
      by_cases d : hr < s + wd ∧ mk < s + wd
      · rw [if_pos d, if_pos d]
        have a := adL_len (g := g) (n := n) (s := s) (e := s + wd) L
        have b := ih (adL g n s (s + wd) L) (s + st)
        omega
      · rw [if_neg d, if_neg d]
        have b := ih L (s + st)
        omega
theorem evY_sL {wd st hr mk : Int} {g n : Nat} : ∀ (m : Nat) (L : List Wn) (s : Int), sL L → sL (evY wd st hr mk g n m L s) := by
  intro m
  induction m with
  | zero => intro L s h; exact h
  | succ m ih =>
    intro L s h
    by_cases c : hr < s
    · rw [evY_e c]; exact h
    · rw [evY_s c]
      by_cases d : hr < s + wd ∧ mk < s + wd
      · rw [if_pos d]; exact ih _ _ (adL_s L h)
      · rw [if_neg d]; exact ih _ _ h
theorem evY_P {P : Wn → Prop} {wd st hr mk : Int} {g n : Nat} (hs : 1 ≤ st) (hn : ∀ s, 0 ≤ s → s ≤ hr → hr < s + wd → mk < s + wd → P (g, s, s + wd, [n])) (hu : ∀ x, P x → x.1 = g → P (x.1, x.2.1, x.2.2.1, x.2.2.2 ++ [n])) : ∀ (m : Nat) (L : List Wn) (s : Int), 0 ≤ s → (∀ x ∈ L, P x) → ∀ x ∈ evY wd st hr mk g n m L s, P x := by
  intro m
  induction m with
  | zero => intro L s _ h; exact h
  | succ m ih =>
    intro L s h0 h
    by_cases c : hr < s
    · rw [evY_e c]; exact h
    · rw [evY_s c]
      by_cases d : hr < s + wd ∧ mk < s + wd
      · rw [if_pos d]
        refine ih _ _ (by omega) (fun x hx => ?_)
        rcases adL_mem L hx with a | a | ⟨z, hz, z1, z2, a⟩
        · exact h x a
        · rw [a]; exact hn s h0 (by omega) d.1 d.2
        · rw [a]; exact hu z (h z hz) z1
      · rw [if_neg d]; exact ih _ _ (by omega) h
