/-! Both sides looked at: facts for the loops. -/
def szK (cs : List (Int × Int32)) (f : Int32) : Nat → Int
  | 0 => 0
  | k + 1 => szK cs f k + (if bitv (cs.getD k cd0).2 f = iZ 1 then 1 else 0)
theorem szK_y {cs : List (Int × Int32)} {f : Int32} {k : Nat} (c : bitv (cs.getD k cd0).2 f = iZ 1) : szK cs f (k + 1) = szK cs f k + 1 := by
  show szK cs f k + (if bitv (cs.getD k cd0).2 f = iZ 1 then 1 else 0) = _
  rw [if_pos c]
theorem szK_n {cs : List (Int × Int32)} {f : Int32} {k : Nat} (c : ¬ bitv (cs.getD k cd0).2 f = iZ 1) : szK cs f (k + 1) = szK cs f k := by
  show szK cs f k + (if bitv (cs.getD k cd0).2 f = iZ 1 then 1 else 0) = _
  rw [if_neg c]; omega
theorem ltF_y {cs : List (Int × Int32)} {f : Int32} {k : Nat} (c : bitv (cs.getD k cd0).2 f = iZ 1) : ltF cs f (k + 1) = (k : Int) := if_pos c
theorem ltF_n {cs : List (Int × Int32)} {f : Int32} {k : Nat} (c : ¬ bitv (cs.getD k cd0).2 f = iZ 1) : ltF cs f (k + 1) = ltF cs f k := if_neg c
theorem szK_d (cs : List (Int × Int32)) (f : Int32) : ∀ k : Nat, k ≤ cs.length → szK cs f k + (szF (cs.drop k) f : Int) = (szF cs f : Int) := by
  intro k
  induction k with
  | zero => intro _; rw [List.drop_zero]; show (0 : Int) + _ = _; omega
  | succ k ih =>
    intro hk
    have i := ih (by omega)
    rw [drop_getD cd0 cs k (by omega)] at i
    have e : (szF (cs.getD k cd0 :: cs.drop (k + 1)) f : Int) = (((if bitv (cs.getD k cd0).2 f = iZ 1 then 1 else 0) + szF (cs.drop (k + 1)) f : Nat) : Int) := rfl
    rw [e] at i
    by_cases c : bitv (cs.getD k cd0).2 f = iZ 1
    · rw [szK_y c]; rw [if_pos c] at i; omega
    · rw [szK_n c]; rw [if_neg c] at i; omega
theorem szK_e (cs : List (Int × Int32)) (f : Int32) : szK cs f cs.length = (szF cs f : Int) := by
  have := szK_d cs f cs.length (Nat.le_refl _)
  rw [List.drop_length] at this
  have e : (szF ([] : List (Int × Int32)) f : Int) = 0 := rfl
  omega
theorem szK_b (cs : List (Int × Int32)) (f : Int32) : ∀ k : Nat, 0 ≤ szK cs f k ∧ szK cs f k ≤ k := by
  intro k
  induction k with
  | zero => exact ⟨Int.le_refl _, Int.le_refl _⟩
  | succ k ih =>
    by_cases c : bitv (cs.getD k cd0).2 f = iZ 1
    · rw [szK_y c]; omega
    · rw [szK_n c]; omega
theorem csM_get (M : Ms) (k : Nat) (hk : k < (yC M).length) : (csM M).getD k cd0 = (((yC M).getD k c00).1.1, ((yC M).getD k c00).2) := by
  unfold csM
  rw [List.getD_eq_getElem?_getD, List.getD_eq_getElem?_getD, List.getElem?_map, List.getElem?_eq_getElem hk]
  rfl
/-- masks of flocks only -/
def mskM (mn : Nat) (M : Ms) : Prop := ∀ c ∈ yC M, ∃ k : Nat, k < 2 ^ mn ∧ c.2 = iZ (k : Int)
theorem msk_st {mn : Nat} {B : Bk} {tkf : Ctx → Int32} {M M1 : Ms} (hal : ∀ x : Int, 0 ≤ alB B x ∧ alB B x ≤ 99) (hgr : yG M ≤ 999) (hmk : 0 ≤ yK M ∧ yK M ≤ 2000) (ht : ∀ x, ∃ k : Nat, k < 2 ^ mn ∧ tkf x = iZ (k : Int)) (s : stY B tkf M M1) (m : mskM mn M) : mskM mn M1 := by
  rcases s with ⟨p, p1, rfl⟩ | ⟨x, x0, x1, rfl⟩
  · intro c hc
    rw [(nig_f (M := M) hal hgr hmk p).2.2.1] at hc
    exact m c hc
  · intro c hc
    have hc : c ∈ yC M ++ [(x, tkf x)] := hc
    rcases List.mem_append.mp hc with e | e
    · exact m c e
    · rw [List.mem_singleton.mp e]
      exact ht x
theorem pc_mn {mn k : Nat} (hm : mn ≤ 8) (hk : k < 2 ^ mn) : bcv (iZ (k : Int)) = iZ (pcN (iZ (k : Int)) mn) := by
  have p : 2 ^ mn ≤ 256 := Nat.pow_le_pow_right (by decide) (show mn ≤ 8 by omega)
  have b := bcv_pc ⟨k, by omega⟩
  have up : ∀ i : Nat, mn + i ≤ 8 → pcN (iZ (k : Int)) (mn + i) = pcN (iZ (k : Int)) mn := by
    intro i
    induction i with
    | zero => intro _; rfl
    | succ i ih =>
      intro hi
      have q : 2 ^ mn ≤ 2 ^ (mn + i) := Nat.pow_le_pow_right (by decide) (Nat.le_add_right _ _)
      have z := tk_0 ⟨mn + i, by omega⟩ ⟨k, by omega⟩ (by show k < 2 ^ (mn + i); omega)
      have z : bitv (iZ (k : Int)) (iZ ((mn + i : Nat) : Int)) = iZ 0 := z
      show pcN (iZ (k : Int)) (mn + i) + (if bitv (iZ (k : Int)) (iZ ((mn + i : Nat) : Int)) = iZ 1 then 1 else 0) = _
      rw [z, if_neg (by decide), ih (by omega)]
      omega
  have u := up (8 - mn) (by omega)
  rw [show mn + (8 - mn) = 8 by omega] at u
  rw [← u]
  exact b
/-- geese one after another: what is left -/
theorem dr_get (L : List Wn) {p k : Nat} (h : p ≤ k) : L.getD k wn0 = (L.drop p).getD (k - p) wn0 := by
  rw [List.getD_eq_getElem?_getD, List.getD_eq_getElem?_getD, List.getElem?_drop, show p + (k - p) = k by omega]
theorem dr_goose {tl : Nat → Nat} {f : Nat → Nat → Int32} {L : List Wn} {g p : Nat} (s : sL L) (h : ∀ x ∈ L.drop p, g ≤ x.1) (hp : p ≤ L.length) (e : ∀ g2, g ≤ g2 → rwL tl f L g2 = rwL tl f (L.drop p) g2) : ∃ A R : List Wn, L.drop p = A ++ R ∧ (∀ x ∈ A, x.1 = g) ∧ (∀ x ∈ R, g < x.1) ∧ rwL tl f L g = A.map (wo tl f) ∧ L.drop (p + A.length) = R ∧ p + A.length ≤ L.length ∧ ∀ g2, g + 1 ≤ g2 → rwL tl f L g2 = rwL tl f (L.drop (p + A.length)) g2 := by
  have sd : sL (L.drop p) := s.sublist (List.drop_sublist _ _)
  have e2 := spl (g := g) (L.drop p) sd h
  have e3 : L.drop (p + ((L.drop p).filter (fun w => decide (w.1 = g))).length) = (L.drop p).filter (fun w => decide (¬ w.1 = g)) := by
    rw [← List.drop_drop]
    generalize hA : (L.drop p).filter (fun w => decide (w.1 = g)) = A at e2
    generalize hR : (L.drop p).filter (fun w => decide (¬ w.1 = g)) = R at e2
    rw [e2]
    exact List.drop_left
  have l := congrArg List.length e2
  rw [List.length_append, List.length_drop] at l
  refine ⟨(L.drop p).filter (fun w => decide (w.1 = g)), (L.drop p).filter (fun w => decide (¬ w.1 = g)), e2, fun x hx => of_decide_eq_true (List.mem_filter.mp hx).2, fun x hx => ?_, e g (Nat.le_refl _), e3, by omega, fun g2 hg => ?_⟩
  · obtain ⟨h1, h2⟩ := List.mem_filter.mp hx
    have := h x h1
    have := of_decide_eq_true h2
    omega
  · rw [e3, e g2 (by omega), flt_o (by omega)]
theorem ful_st {T : List Tel} {k : Nat} {f m : Int} (hk : k < T.length) : fulR (T.drop k) k f m = if m < (T.getD k t0).2.2.2.1 then fulR (T.drop (k + 1)) ((k + 1 : Nat) : Int) k (T.getD k t0).2.2.2.1 else fulR (T.drop (k + 1)) ((k + 1 : Nat) : Int) f m := by
  rw [drop_getD t0 T k hk]
  rfl
theorem sum_st {T : List Tel} {k : Nat} (hk : k < T.length) : sumC (T.drop k) = (T.getD k t0).2.2.2.1 + sumC (T.drop (k + 1)) := by
  rw [drop_getD t0 T k hk]
  rfl
theorem ful_rg (T : List Tel) : ∀ (k : Nat) (f m : Int), -1 ≤ f → f < k → -1 ≤ fulR T k f m ∧ fulR T k f m < (k : Int) + T.length := by
  induction T with
  | nil => intro k f m h1 h2; exact ⟨h1, by show f < (k : Int) + 0; omega⟩
  | cons t T ih =>
    intro k f m h1 h2
    show -1 ≤ (if m < t.2.2.2.1 then fulR T ((k : Int) + 1) k t.2.2.2.1 else fulR T ((k : Int) + 1) f m) ∧ (if m < t.2.2.2.1 then fulR T ((k : Int) + 1) k t.2.2.2.1 else fulR T ((k : Int) + 1) f m) < (k : Int) + ((T.length + 1 : Nat) : Int)
    have a := ih (k + 1) k t.2.2.2.1 (by omega) (by omega)
    have b := ih (k + 1) f m h1 (by omega)
    have e : ((k + 1 : Nat) : Int) = (k : Int) + 1 := rfl
    rw [e] at a b
    split <;> omega
