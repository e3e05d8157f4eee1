/-! Facts for a step of the law. -/
theorem cntT_eq {tl : Nat → Nat} {f : Nat → Nat → Int32} {g : Nat} : ∀ T : List Wn, cntT g (T.map (tO tl f)) = (cntG g T : Int) := by
  intro T
  induction T with
  | nil => rfl
  | cons w T ih =>
    show (if w.1 = g then (w.2.2.2.length : Int) else 0) + cntT g (T.map (tO tl f)) = (((if w.1 = g then w.2.2.2.length else 0) + cntG g T : Nat) : Int)
    rw [ih]
    split <;> omega
theorem tot_eq {S : Sta} {M : Ms} {B : Bk} {gv : Nat → Ctx → Int32 → Int32} (ms : MSy S M B gv) (g : Nat) : cntW (wdS S g) + cntT g (tlS S) = (totY M g : Int) := by
  obtain ⟨e1, e2, e3, e4, e5, e6, e7, e8⟩ := ms
  rw [e6, e8, cntT_eq, ← cntG_rw]
  unfold totY
  omega
theorem szF_le {f : Int32} : ∀ L : List (Int × Int32), szF L f ≤ L.length := by
  intro L
  induction L with
  | nil => exact Nat.le_refl _
  | cons c L ih =>
    show (if bitv c.2 f = iZ 1 then 1 else 0) + szF L f ≤ L.length + 1
    split <;> omega
theorem szF_0 {f : Int32} : ∀ L : List (Int × Int32), szF L f = 0 ↔ ∀ j, j < L.length → ¬ bitv (L.getD j cd0).2 f = iZ 1 := by
  intro L
  induction L with
  | nil => exact ⟨fun _ j hj => absurd hj (Nat.not_lt_zero _), fun _ => rfl⟩
  | cons c L ih =>
    have e : szF (c :: L) f = (if bitv c.2 f = iZ 1 then 1 else 0) + szF L f := rfl
    constructor
    · intro h j hj
      rw [e] at h
      match j with
      | 0 =>
        show ¬ bitv c.2 f = iZ 1
        intro z
        rw [if_pos z] at h; omega
      | j + 1 => exact ih.mp (by omega) j (by simpa using hj)
    · intro h
      have h0 : ¬ bitv c.2 f = iZ 1 := h 0 (Nat.zero_lt_succ _)
      rw [e, if_neg h0, ih.mpr (fun j hj => h (j + 1) (Nat.succ_lt_succ hj))]
theorem ltF_s {cs : List (Int × Int32)} {f : Int32} : ∀ k : Nat, -1 ≤ ltF cs f k ∧ ltF cs f k < k ∧ (0 ≤ ltF cs f k → bitv (cs.getD (ltF cs f k).toNat cd0).2 f = iZ 1) ∧ (ltF cs f k < 0 → ∀ j, j < k → ¬ bitv (cs.getD j cd0).2 f = iZ 1) := by
  intro k
  induction k with
  | zero =>
    have e : ltF cs f 0 = -1 := rfl
    rw [e]
    exact ⟨by omega, by omega, fun z => by omega, fun _ j hj => absurd hj (Nat.not_lt_zero _)⟩
  | succ k ih =>
    obtain ⟨i1, i2, i3, i4⟩ := ih
    by_cases c : bitv (cs.getD k cd0).2 f = iZ 1
    · have e : ltF cs f (k + 1) = (k : Int) := if_pos c
      rw [e]
      refine ⟨by omega, by omega, fun _ => ?_, fun z => by omega⟩
      rw [show ((k : Int)).toNat = k by omega]; exact c
    · have e : ltF cs f (k + 1) = ltF cs f k := if_neg c
      rw [e]
      refine ⟨i1, by omega, i3, fun z j hj => ?_⟩
      by_cases w : j = k
      · rw [w]; exact c
      · exact i4 z j (by omega)
/-- what the law asks of a flock -/
theorem flo_ok {cs : List (Int × Int32)} {f : Int32} : ((szF cs f : Int) ≤ cs.length) ∧ (-1 ≤ ltF cs f cs.length ∧ ltF cs f cs.length < cs.length) ∧ ((szF cs f : Int) = 0 → ltF cs f cs.length < 0) ∧ (¬ (szF cs f : Int) = 0 → 0 ≤ ltF cs f cs.length) ∧ (0 ≤ ltF cs f cs.length → bitP (cs.getD (ltF cs f cs.length).toNat cd0).2 f) := by
  obtain ⟨i1, i2, i3, i4⟩ := ltF_s (cs := cs) (f := f) cs.length
  have sl := szF_le (f := f) cs
  refine ⟨by omega, ⟨i1, i2⟩, fun z => ?_, fun z => ?_, i3⟩
  · apply Classical.byContradiction
    intro c
    exact (szF_0 cs).mp (by omega) _ (by omega) (i3 (by omega))
  · apply Classical.byContradiction
    intro c
    exact z (by rw [(szF_0 cs).mpr (i4 (by omega))]; rfl)
/-- the fullest telling -/
theorem ful_ok : ∀ (T A : List Tel) (f m : Int), (∀ t ∈ A ++ T, 1 ≤ t.2.2.2.1) → ((A = [] ∧ m = 0) ∨ ∃ i : Nat, i < A.length ∧ f = (i : Int) ∧ ((A ++ T).getD i t0).2.2.2.1 = m ∧ ∀ j, j < A.length → ((A ++ T).getD j t0).2.2.2.1 ≤ m) → A ++ T ≠ [] → ∃ i : Nat, i < (A ++ T).length ∧ fulR T A.length f m = (i : Int) ∧ ∀ j, j < (A ++ T).length → ((A ++ T).getD j t0).2.2.2.1 ≤ ((A ++ T).getD i t0).2.2.2.1 := by
  intro T
  induction T with
  | nil =>
    intro A f m _ h ne
    rcases h with ⟨h, _⟩ | ⟨i, hi, ef, em, h⟩
    · exact absurd (by rw [h]; rfl) ne
    · have lA : (A ++ [] : List Tel).length = A.length := by rw [List.append_nil]
      refine ⟨i, by omega, ef, fun j hj => ?_⟩
      rw [em]; exact h j (by omega)
  | cons t T ih =>
    intro A f m pos h ne
    have ea : A ++ t :: T = (A ++ [t]) ++ T := by rw [List.append_assoc]; rfl
    have lA : (A ++ [t]).length = A.length + 1 := by rw [List.length_append]; rfl
    have gt : (A ++ t :: T).getD A.length t0 = t := by
      rw [List.getD_eq_getElem?_getD, List.getElem?_append_right (Nat.le_refl _), Nat.sub_self]; rfl
    have pt := pos t (List.mem_append_right _ List.mem_cons_self)
    by_cases c : m < t.2.2.2.1
    · have e : fulR (t :: T) A.length f m = fulR T (A.length + 1) A.length t.2.2.2.1 := if_pos c
      rw [e]
      have i := ih (A ++ [t]) (A.length : Int) t.2.2.2.1 (by rw [← ea]; exact pos) (.inr ⟨A.length, by omega, rfl, by rw [← ea, gt], fun j hj => ?_⟩) (by rw [← ea]; exact ne)
      · rw [lA, ← ea] at i
        exact i
      · rw [← ea]
        by_cases k : j = A.length
        · rw [k, gt]; exact Int.le_refl _
        · rcases h with ⟨h, _⟩ | ⟨i, hi, ef, em, h⟩
          · rw [h] at hj k; exact absurd (by have : j < 1 := hj; show j = 0; omega) k
          · have := h j (by omega); omega
    · have e : fulR (t :: T) A.length f m = fulR T (A.length + 1) f m := if_neg c
      rw [e]
      have i := ih (A ++ [t]) f m (by rw [← ea]; exact pos) (.inr (by
        rcases h with ⟨_, h⟩ | ⟨i, hi, ef, em, h⟩
        · omega
        · refine ⟨i, by omega, ef, by rw [← ea]; exact em, fun j hj => ?_⟩
          rw [← ea]
          by_cases k : j = A.length
          · rw [k, gt]; omega
          · exact h j (by omega))) (by rw [← ea]; exact ne)
      rw [lA, ← ea] at i
      exact i
theorem ful_get {T : List Tel} (pos : ∀ t ∈ T, 1 ≤ t.2.2.2.1) {k : Nat} (hk : k < T.length) : 0 ≤ fulR T 0 (-1) 0 ∧ fulR T 0 (-1) 0 < T.length ∧ (T.getD k t0).2.2.2.1 ≤ (T.getD (fulR T 0 (-1) 0).toNat t0).2.2.2.1 := by
  have ne : [] ++ T ≠ [] := by
    intro z
    have : T = [] := z
    rw [this] at hk; exact absurd hk (Nat.not_lt_zero _)
  obtain ⟨i, h1, h2, h3⟩ := ful_ok T [] (-1) 0 pos (.inl ⟨rfl, rfl⟩) ne
  have h2 : fulR T 0 (-1) 0 = (i : Int) := h2
  have h1 : i < T.length := h1
  rw [h2]
  refine ⟨by omega, by omega, ?_⟩
  rw [show ((i : Int)).toNat = i by omega]
  exact h3 k hk
/-- a goose's row: gaps don't meet -/
theorem rwL_dj {tl : Nat → Nat} {f : Nat → Nat → Int32} {g : Nat} : ∀ L : List Wn, sL L → djG g L → (rwL tl f L g).Pairwise (fun x y => x.2.1 ≤ y.1) := by
  intro L
  induction L with
  | nil => intro _ _; exact List.Pairwise.nil
  | cons x L ih =>
    intro s d
    obtain ⟨p1, p2⟩ := List.pairwise_cons.mp s
    have i := ih p2 (fun a ha b hb => d a (List.mem_cons_of_mem _ ha) b (List.mem_cons_of_mem _ hb))
    by_cases c : x.1 = g
    · rw [rwL_y c]
      refine List.pairwise_cons.mpr ⟨fun y hy => ?_, i⟩
      obtain ⟨z, hz, e⟩ := List.mem_map.mp hy
      obtain ⟨z1, z2⟩ := List.mem_filter.mp hz
      have z2 := of_decide_eq_true z2
      have q := p1 z z1
      rw [← e]
      exact d x List.mem_cons_self z (List.mem_cons_of_mem _ z1) c z2 (by omega)
    · rw [rwL_n c]; exact i
theorem pw_get {P : Win → Win → Prop} {W : List Win} (h : W.Pairwise P) {i j : Nat} (hi : i < j) (hj : j < W.length) : P (W.getD i w0) (W.getD j w0) := by
  have := List.pairwise_iff_getElem.mp h i j (by omega) hj hi
  rw [List.getD_eq_getElem?_getD, List.getD_eq_getElem?_getD, List.getElem?_eq_getElem hj, List.getElem?_eq_getElem (by omega)]
  exact this
/-- a row's window is one of the list's -/
theorem rw_mem {tl : Nat → Nat} {f : Nat → Nat → Int32} {g : Nat} {L : List Wn} {v : Win} (h : v ∈ rwL tl f L g) : ∃ w ∈ L, w.1 = g ∧ v = wo tl f w := by
  obtain ⟨z, hz, e⟩ := List.mem_map.mp h
  obtain ⟨z1, z2⟩ := List.mem_filter.mp hz
  exact ⟨z, z1, of_decide_eq_true z2, e.symm⟩
theorem wo_val {B : Bk} {gv : Nat → Ctx → Int32 → Int32} {C : List (Ctx × Int32)} {w : Wn} (ht : tlY B w.1 = 0) (hn : w.2.2.2 ≠ []) : (wo (tlY B) (fY B gv C) w).2.2.2 = iZ (wo (tlY B) (fY B gv C) w).2.2.1 := by
  show vlF (tlY B w.1) (fY B gv C w.1) w.2.2.2 = iZ (w.2.2.2.length : Int)
  rw [ht]
  exact vlF_c (fun n => if_pos ht) hn
/-- sums of lates -/
def sumL (f : Nat → Nat) : Nat → Int
  | 0 => 0
  | g + 1 => sumL f g + (f g : Int)
theorem sumL_6 (f : Nat → Nat) : lateA f = sumL f 6 := rfl
theorem sumL_al {f : Nat → Nat} {al : Nat} (h : ∀ g, al ≤ g → f g = 0) : ∀ m, sumL f (al + m) = sumL f al := by
  intro m
  induction m with
  | zero => rfl
  | succ m ih =>
    show sumL f (al + m) + (f (al + m) : Int) = _
    rw [h (al + m) (by omega), ih]
    omega
theorem sumL_b {f : Nat → Nat} {K : Nat} (h : ∀ g, f g ≤ K) : ∀ g : Nat, 0 ≤ sumL f g ∧ sumL f g ≤ (g : Int) * K := by
  intro g
  induction g with
  | zero => exact ⟨Int.le_refl _, by show (0 : Int) ≤ 0 * K; omega⟩
  | succ g ih =>
    have := h g
    show 0 ≤ sumL f g + (f g : Int) ∧ sumL f g + (f g : Int) ≤ ((g + 1 : Nat) : Int) * K
    rw [show ((g + 1 : Nat) : Int) = (g : Int) + 1 from rfl, Int.add_mul, Int.one_mul]
    omega
/-- new rows only -/
def nwK (h h1 : PH) (m n : Nat) : Prop := h1.2.2.1 = h.2.2.1 ∧ (∀ a, a < hN h → h1.1 a = h.1 a) ∧ (∀ a, hN h1 ≤ a → h1.1 a = h.1 a) ∧ hN h1 = hN h + m ∧ hS h1 = hS h + n
theorem nwK_SI {h h1 : PH} {m n sm : Nat} (x : nwK h h1 m n) : SI sm sm h h1 := ⟨fun a a1 _ _ => x.2.1 a a1, fun _ _ _ _ => by rw [x.1], x.2.2.1, by have := x.2.2.2.1; omega⟩
theorem nwK_s {h h1 : PH} {m n a k : Nat} {v : Int32} (x : nwK h h1 m n) (h1a : hN h ≤ a) (h2a : a < hN h1) : nwK h (setI h1 a k v) m n := ⟨x.1, fun b hb => (setI_oth (by omega)).trans (x.2.1 b hb), fun b hb => (setI_oth (by have hb : hN h1 ≤ b := hb; omega)).trans (x.2.2.1 b hb), x.2.2.2⟩
theorem JS_new {hb h h1 : PH} {sm mn al s0 n0 t m n : Nat} {B : Bk} {fv gv : Nat → Ctx → Int32 → Int32} {u : Q5} {S : Sta} {M : Ms} (j : JS hb h sm mn al B fv gv s0 n0 t u S M) (x : nwK h h1 m n) : JS hb h1 sm mn al B fv gv (s0 + n) (n0 + m) t u S M := by
  obtain ⟨nn, ca, ka, oa, ta, I, wr, y, bh, ms, mi, li, ub, hc, z, rs, rn⟩ := j
  have hs := y.2.2.2.2.2.2.2.2
  have s := nwK_SI (sm := sm) x
  have k := SI_K s hs.2 (Nat.le_refl _)
  have e4 := x.2.2.2.1
  have e5 := x.2.2.2.2
  exact ⟨nn, ca, ka, oa, ta, CI_SI I (by rw [ms.1]; exact (bh_G bh).1) s ub hs.1 (Nat.le_refl _), wr, SM_new y s (fun k => by rw [x.1]) (x.2.1 sm (by omega)) (x.2.1 (sm + 5) hs.2), BH_k bh k, ms, mi, li, ub, hc, Kp_Z k z, by omega, by omega⟩
/-- numbers of a step -/
theorem st_num {B : Bk} {tkf : Ctx → Int32} {M M1 : Ms} (hal : ∀ x : Int, 0 ≤ alB B x ∧ alB B x ≤ 99) (hgr : yG M ≤ 999) (hmk : 0 ≤ yK M ∧ yK M ≤ 2000) (s : stY B tkf M M1) : yK M ≤ yK M1 ∧ yG M1 - alB B (yN M1 : Int) ≤ yK M1 ∧ (yC M).length ≤ (yC M1).length := by
  rcases s with ⟨p, p1, rfl⟩ | ⟨x, x0, x1, rfl⟩
  · obtain ⟨k, rfl⟩ : ∃ k, p = k + 1 := ⟨p - 1, by omega⟩
    obtain ⟨i1, i2, i3, i4, i5, i6, i7, i8, i9⟩ := nig_f (M := M) hal hgr hmk (k + 1)
    refine ⟨i5.2.2, ?_, by rw [i3]; exact Nat.le_refl _⟩
    have e1 : yK (nigM B M (k + 1)) = max (yK (nigM B M k)) (yG (nigM B M k) - alB B ((yN (nigM B M k) : Int) + 1)) := rfl
    have e2 : yN (nigM B M (k + 1)) = yN (nigM B M k) + 1 := rfl
    have e3 : yG (nigM B M (k + 1)) = yG (nigM B M k) := rfl
    rw [e1, e2, e3, show ((yN (nigM B M k) + 1 : Nat) : Int) = (yN (nigM B M k) : Int) + 1 from rfl]
    omega
  · refine ⟨?_, ?_, ?_⟩
    · show yK M ≤ max (yK M) _
      omega
    · show max (yG M) x.1 - alB B (yN M : Int) ≤ max (yK M) (max (yG M) x.1 - alB B (yN M : Int))
      omega
    · show _ ≤ (yC M ++ [(x, tkf x)]).length
      rw [List.length_append]; omega
