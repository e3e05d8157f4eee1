/-! The reference cuts the tape into tokens. -/
def srK (k : Nat) : Int := if k = 0 then 4 else if k = 1 then 3 else if k = 3 then 1 else if 26 ≤ k then 2 else 0
def whK (t : Tok) : Int := if t.1 = 2 then t.2.2.2 else if t.1 = 3 then t.2.2.1 else if 26 ≤ t.1 then (txts.getD t.1 []).getD 0 0 else if 4 ≤ t.1 then kwL.getD t.1 0 else 0
def tmJ (h : PH) (j : Nat) (t : Tok) : Prop := h.1 85 j = iZ (srK t.1) ∧ h.1 87 j = iZ t.2.1 ∧ (t.1 ≠ 1 → h.2.1 86 j = lz (whK t))
/-- the reference's rows of tokens show T -/
def tmC (h : PH) (T : List Tok) : Prop := ∀ j, j < T.length → tmJ h j (T.getD j tk0)
def fI (i : Nat) (h h' : PH) : Prop := h'.2.2 = h.2.2 ∧ (∀ a k, ¬ ((a = 85 ∨ a = 87) ∧ k = i) → h'.1 a k = h.1 a k) ∧ (∀ a k, ¬ (a = 86 ∧ k = i) → h'.2.1 a k = h.2.1 a k)
theorem fI_t {i : Nat} {h h1 h2 : PH} (a : fI i h h1) (b : fI i h1 h2) : fI i h h2 := ⟨b.1.trans a.1, fun x k x1 => (b.2.1 x k x1).trans (a.2.1 x k x1), fun x k x1 => (b.2.2 x k x1).trans (a.2.2 x k x1)⟩
def fN (h h' : PH) : Prop := h'.2.2 = h.2.2 ∧ (∀ a, a ≠ 85 → a ≠ 87 → h'.1 a = h.1 a) ∧ (∀ a, a ≠ 86 → h'.2.1 a = h.2.1 a)
theorem fN_I {i : Nat} {h h' : PH} (f : fI i h h') : fN h h' := ⟨f.1, fun a a1 a2 => funext fun k => f.2.1 a k (by omega), fun a a1 => funext fun k => f.2.2 a k (by omega)⟩
theorem fN_r (h : PH) : fN h h := ⟨rfl, fun _ _ _ => rfl, fun _ _ => rfl⟩
theorem fN_t {h h1 h2 : PH} (a : fN h h1) (b : fN h1 h2) : fN h h2 := ⟨b.1.trans a.1, fun x x1 x2 => (b.2.1 x x1 x2).trans (a.2.1 x x1 x2), fun x x1 => (b.2.2 x x1).trans (a.2.2 x x1)⟩
theorem Sh_R2 {h h' : PH} (s : Sh h) (e : h'.2.2 = h.2.2) : Sh h' := fun t ht => by rw [e]; exact s t ht
theorem tpM_I {i : Nat} {h h' : PH} {tp : List Int} (t : tpM h tp) (f : fI i h h') : tpM h' tp := ⟨by rw [f.2.1 83 2 (by omega)]; exact t.1, fun j hj => by rw [f.2.1 84 j (by omega)]; exact t.2 j hj⟩
theorem tpM_N {h h' : PH} {tp : List Int} (t : tpM h tp) (f : fN h h') : tpM h' tp := ⟨by rw [f.2.1 83 (by decide) (by decide)]; exact t.1, fun j hj => by rw [f.2.1 84 (by decide) (by decide)]; exact t.2 j hj⟩
theorem tmJ_I {i j : Nat} {h h' : PH} {t : Tok} (hj : j ≠ i) (c : tmJ h j t) (f : fI i h h') : tmJ h' j t := by
  unfold tmJ
  rw [f.2.1 85 j (by omega), f.2.1 87 j (by omega), f.2.2 86 j (by omega)]
  exact c
theorem tmC_app {i : Nat} {h h' : PH} {T : List Tok} {t : Tok} (hi : T.length = i) (c : tmC h T) (f : fI i h h') (e : tmJ h' i t) : tmC h' (T ++ [t]) := by
  subst hi
  intro j hj
  rw [List.length_append] at hj
  replace hj : j < T.length + 1 := hj
  by_cases y : j = T.length
  · subst y
    rw [show (T ++ [t]).getD T.length tk0 = t from by rw [List.getD_eq_getElem?_getD, List.getElem?_concat_length]; rfl]
    exact e
  · rw [show (T ++ [t]).getD j tk0 = T.getD j tk0 from by rw [List.getD_eq_getElem?_getD, List.getElem?_append_left (by omega), ← List.getD_eq_getElem?_getD]]
    exact tmJ_I y (c j (by omega)) f
/-- the signs as the reference writes them -/
def sgL : List Int := [40, 41, 91, 93, 59, 44, 60, 62, 61, 43, 45, 42]
theorem sg_o : ∀ i, i < 12 → sbyt 39 i = iZ (sgL.getD i 0) := by
  intro i hi
  have e : ∀ i : Fin 12, sbyt 39 i.val = iZ (sgL.getD i.val 0) := by decide +kernel
  exact e ⟨i, hi⟩
theorem sg_len : slen 39 = 12 := by decide +kernel
theorem sg_b : ∀ i, i < 12 → 40 ≤ sgL.getD i 0 ∧ sgL.getD i 0 ≤ 93 := by
  intro i hi
  have e : ∀ i : Fin 12, 40 ≤ sgL.getD i.val 0 ∧ sgL.getD i.val 0 ≤ 93 := by decide +kernel
  exact e ⟨i, hi⟩
theorem i2b_w {c : Int} (h : -128 ≤ c ∧ c < 128) : (iZ c).toInt8.toInt32 = iZ c := by
  have e : ∀ b : Fin 256, (iZ ((b.val : Int) - 128)).toInt8.toInt32 = iZ ((b.val : Int) - 128) := by decide +kernel
  have f := e ⟨(c + 128).toNat, by omega⟩
  replace f : (iZ ((((c + 128).toNat : Nat) : Int) - 128)).toInt8.toInt32 = iZ ((((c + 128).toNat : Nat) : Int) - 128) := f
  rw [show ((((c + 128).toNat : Nat) : Int) - 128) = c by omega] at f
  exact f
theorem mk_isLt {d : Nat} {z : Int} {h : PH} {Q : Rs → PH → Prop} (hz : -128 ≤ z ∧ z < 128) (k1 : isLt z = true → Q (.inl (some (.inl (iZ 1)))) h) (k0 : ¬ isLt z = true → Q (.inl (some (.inl (iZ 0)))) h) : Rn d 178 [.inl (iZ (z))] h Q := by
  refine Ev.sts 2 (c' := (3, [some (.inl (iZ (z)))], [.inl (iZ (97)), .inl (iZ (z))], h)) rfl ?_
  refine Ev.brc (p := (iZ (z)) < (iZ (97))) (q := ((z : Int)) < 97) (c1 := (16, [some (.inl (iZ (z)))], [], h)) (c2 := (6, [some (.inl (iZ (z)))], [], h)) rfl (iZ_lt ⟨by omega, by omega⟩ ⟨by omega, by omega⟩) (fun c0 => ?_) (fun c0 => ?_)
  · refine Ev.sts 1 (c' := (17, [some (.inl (iZ (z)))], [.inl (iZ (0))], h)) rfl ?_
    exact Ev.ret rfl (k0 (fun n_ => by have := isLt_t.mp n_; omega))
  · refine Ev.sts 2 (c' := (9, [some (.inl (iZ (z)))], [.inl (iZ (122)), .inl (iZ (z))], h)) rfl ?_
    refine Ev.brc (p := (iZ (122)) < (iZ (z))) (q := ((122 : Int)) < z) (c1 := (16, [some (.inl (iZ (z)))], [], h)) (c2 := (12, [some (.inl (iZ (z)))], [], h)) rfl (iZ_lt ⟨by omega, by omega⟩ ⟨by omega, by omega⟩) (fun c1 => ?_) (fun c1 => ?_)
    · refine Ev.sts 1 (c' := (17, [some (.inl (iZ (z)))], [.inl (iZ (0))], h)) rfl ?_
      exact Ev.ret rfl (k0 (fun n_ => by have := isLt_t.mp n_; omega))
    · refine Ev.sts 2 (c' := (17, [some (.inl (iZ (z)))], [.inl (iZ (1))], h)) rfl ?_
      exact Ev.ret rfl (k1 (isLt_t.mpr (by omega)))

theorem mk_isDg {d : Nat} {z : Int} {h : PH} {Q : Rs → PH → Prop} (hz : -128 ≤ z ∧ z < 128) (k1 : isDg z = true → Q (.inl (some (.inl (iZ 1)))) h) (k0 : ¬ isDg z = true → Q (.inl (some (.inl (iZ 0)))) h) : Rn d 179 [.inl (iZ (z))] h Q := by
  refine Ev.sts 2 (c' := (3, [some (.inl (iZ (z)))], [.inl (iZ (48)), .inl (iZ (z))], h)) rfl ?_
  refine Ev.brc (p := (iZ (z)) < (iZ (48))) (q := ((z : Int)) < 48) (c1 := (16, [some (.inl (iZ (z)))], [], h)) (c2 := (6, [some (.inl (iZ (z)))], [], h)) rfl (iZ_lt ⟨by omega, by omega⟩ ⟨by omega, by omega⟩) (fun c0 => ?_) (fun c0 => ?_)
  · refine Ev.sts 1 (c' := (17, [some (.inl (iZ (z)))], [.inl (iZ (0))], h)) rfl ?_
    exact Ev.ret rfl (k0 (fun n_ => by have := isDg_t.mp n_; omega))
  · refine Ev.sts 2 (c' := (9, [some (.inl (iZ (z)))], [.inl (iZ (57)), .inl (iZ (z))], h)) rfl ?_
    refine Ev.brc (p := (iZ (57)) < (iZ (z))) (q := ((57 : Int)) < z) (c1 := (16, [some (.inl (iZ (z)))], [], h)) (c2 := (12, [some (.inl (iZ (z)))], [], h)) rfl (iZ_lt ⟨by omega, by omega⟩ ⟨by omega, by omega⟩) (fun c1 => ?_) (fun c1 => ?_)
    · refine Ev.sts 1 (c' := (17, [some (.inl (iZ (z)))], [.inl (iZ (0))], h)) rfl ?_
      exact Ev.ret rfl (k0 (fun n_ => by have := isDg_t.mp n_; omega))
    · refine Ev.sts 2 (c' := (17, [some (.inl (iZ (z)))], [.inl (iZ (1))], h)) rfl ?_
      exact Ev.ret rfl (k1 (isDg_t.mpr (by omega)))

theorem mk_can {d : Nat} {c : Int} {h : PH} {Q : Rs → PH → Prop} (hc : -128 ≤ c ∧ c < 128) (k1 : 0 ≤ c → Q (.inl (some (.inl (iZ 1)))) h) (k0 : c < 0 → Q (.inl (some (.inl (iZ 0)))) h) : Rn d 288 [.inl (iZ (c))] h Q := by
  refine Ev.sts 1 (c' := (1, [some (.inl (iZ (c)))], [.inl (iZ (c))], h)) rfl ?_
  refine Ev.brc (p := (iZ (c)) < (iZ (0))) (q := ((c : Int)) < 0) (c1 := (15, [some (.inl (iZ (c)))], [], h)) (c2 := (4, [some (.inl (iZ (c)))], [], h)) rfl (iZ_lt ⟨by omega, by omega⟩ ⟨by omega, by omega⟩) (fun c0 => ?_) (fun c0 => ?_)
  · refine Ev.sts 1 (c' := (16, [some (.inl (iZ (c)))], [.inl (iZ (0))], h)) rfl ?_
    exact Ev.ret rfl (k0 (by omega))
  · refine Ev.sts 2 (c' := (8, [some (.inl (iZ (c)))], [.inl (iZ (255)), .inl (iZ (c))], h)) rfl ?_
    refine Ev.brc (p := (iZ (255)) < (iZ (c))) (q := ((255 : Int)) < c) (c1 := (15, [some (.inl (iZ (c)))], [], h)) (c2 := (11, [some (.inl (iZ (c)))], [], h)) rfl (iZ_lt ⟨by omega, by omega⟩ ⟨by omega, by omega⟩) (fun c1 => ?_) (fun c1 => ?_)
    · refine Ev.sts 1 (c' := (16, [some (.inl (iZ (c)))], [.inl (iZ (0))], h)) rfl ?_
      exact Ev.ret rfl (k0 (by omega))
    · refine Ev.sts 2 (c' := (16, [some (.inl (iZ (c)))], [.inl (iZ (1))], h)) rfl ?_
      exact Ev.ret rfl (k1 (by omega))

theorem mk_ic_lp {d : Nat} {c : Int} {h : PH} {Q : Rs → PH → Prop} (hc : -128 ≤ c ∧ c < 128) (k1 : ∀ i : Nat, i < 12 → sgL.getD i 0 = c → Q (.inl (some (.inl (iZ i)))) h) (k0 : (∀ i, i < 12 → sgL.getD i 0 ≠ c) → Q (.inl (some (.inl (iZ (-1))))) h) (m : Nat) : ∀ i : Nat, i ≤ 12 → 12 < i + m → (∀ j, j < i → sgL.getD j 0 ≠ c) → Ev d 289 (7, [some (.inr (.inr (.inr (44, 12, 39)))), some (.inl (iZ (c))), some (.inl (iZ (0))), some (.inl (iZ (12))), some (.inl (iZ (c))), some (.inl (iZ (i)))], [], h) Q := by
  have e12 := sg_len
  induction m with
  | zero => intro i h1 h2 hn; omega
  | succ m ih =>
    intro i h1 h2 hn
    refine Ev.sts 2 (c' := (10, [some (.inr (.inr (.inr (44, 12, 39)))), some (.inl (iZ (c))), some (.inl (iZ (0))), some (.inl (iZ (12))), some (.inl (iZ (c))), some (.inl (iZ (i)))], [.inl (iZ (12)), .inl (iZ (i))], h)) rfl ?_
    refine Ev.brc (p := (iZ (12)) ≤ (iZ (i))) (q := ((12 : Int)) ≤ i) (c1 := (31, [some (.inr (.inr (.inr (44, 12, 39)))), some (.inl (iZ (c))), some (.inl (iZ (0))), some (.inl (iZ (12))), some (.inl (iZ (c))), some (.inl (iZ (i)))], [], h)) (c2 := (13, [some (.inr (.inr (.inr (44, 12, 39)))), some (.inl (iZ (c))), some (.inl (iZ (0))), some (.inl (iZ (12))), some (.inl (iZ (c))), some (.inl (iZ (i)))], [], h)) rfl (iZ_le ⟨by omega, by omega⟩ ⟨by omega, by omega⟩) (fun c0 => ?_) (fun c0 => ?_)
    · refine Ev.sts 1 (c' := (32, [some (.inr (.inr (.inr (44, 12, 39)))), some (.inl (iZ (c))), some (.inl (iZ (0))), some (.inl (iZ (12))), some (.inl (iZ (c))), some (.inl (iZ (i)))], [.inl (iZ (-1))], h)) rfl ?_
      exact Ev.ret rfl (k0 (fun j hj => hn j (by omega)))
    · have gb := sg_b i (by omega)
      refine Ev.sts 2 (c' := (16, [some (.inr (.inr (.inr (44, 12, 39)))), some (.inl (iZ (c))), some (.inl (iZ (0))), some (.inl (iZ (12))), some (.inl (iZ (c))), some (.inl (iZ (i)))], [.inl (iZ (i)), .inr (.inr (.inr (44, 12, 39)))], h)) rfl ?_
      refine Ev.ldv (j := (iZ (i))) (n := 12) (w := .inl (iZ (sgL.getD i 0))) (iZ_in (by omega) (by omega) (by omega)) rfl (by rw [iZ_ix (n := i) (by omega) (by omega)]; exact congrArg vI (sg_o i (by omega))) ?_
      refine Ev.sts 1 (c' := (19, [some (.inr (.inr (.inr (44, 12, 39)))), some (.inl (iZ (c))), some (.inl (iZ (0))), some (.inl (iZ (12))), some (.inl (iZ (c))), some (.inl (iZ (i)))], [.inl (iZ (c)), .inl (iZ (sgL.getD i 0))], h)) rfl ?_
      refine Ev.brc (p := ¬ (iZ (sgL.getD i 0)) = (iZ (c))) (q := ¬ ((sgL.getD i 0 : Int)) = c) (c1 := (25, [some (.inr (.inr (.inr (44, 12, 39)))), some (.inl (iZ (c))), some (.inl (iZ (0))), some (.inl (iZ (12))), some (.inl (iZ (c))), some (.inl (iZ (i)))], [], h)) (c2 := (22, [some (.inr (.inr (.inr (44, 12, 39)))), some (.inl (iZ (c))), some (.inl (iZ (0))), some (.inl (iZ (12))), some (.inl (iZ (c))), some (.inl (iZ (i)))], [], h)) rfl (not_congr (iZ_eq ⟨by omega, by omega⟩ ⟨by omega, by omega⟩)) (fun c1 => ?_) (fun c1 => ?_)
      · refine Ev.stc (c1 := (28, [some (.inr (.inr (.inr (44, 12, 39)))), some (.inl (iZ (c))), some (.inl (iZ (0))), some (.inl (iZ (12))), some (.inl (iZ (c))), some (.inl ((iZ (i)) + (iZ (1))))], [], h)) (c2 := (28, [some (.inr (.inr (.inr (44, 12, 39)))), some (.inl (iZ (c))), some (.inl (iZ (0))), some (.inl (iZ (12))), some (.inl (iZ (c))), some (.inl (iZ (i + 1)))], [], h)) rfl (by rw [iZ_add]) ?_
        refine Ev.sts 1 (c' := (7, [some (.inr (.inr (.inr (44, 12, 39)))), some (.inl (iZ (c))), some (.inl (iZ (0))), some (.inl (iZ (12))), some (.inl (iZ (c))), some (.inl (iZ (i + 1)))], [], h)) rfl ?_
        exact ih (i + 1) (by omega) (by omega) (fun j hj => by
          rcases Nat.lt_or_ge j i with y | y
          · exact hn j y
          · obtain rfl : j = i := by omega
            omega)
      · refine Ev.sts 1 (c' := (24, [some (.inr (.inr (.inr (44, 12, 39)))), some (.inl (iZ (c))), some (.inl (iZ (0))), some (.inl (iZ (12))), some (.inl (iZ (c))), some (.inl (iZ (i)))], [.inl (iZ (i))], h)) rfl ?_
        exact Ev.ret rfl (k1 i (by omega) (by omega))

theorem mk_ic {d : Nat} {c : Int} {h : PH} {Q : Rs → PH → Prop} (hc : -128 ≤ c ∧ c < 128) (k1 : ∀ i : Nat, i < 12 → sgL.getD i 0 = c → Q (.inl (some (.inl (iZ i)))) h) (k0 : (∀ i, i < 12 → sgL.getD i 0 ≠ c) → Q (.inl (some (.inl (iZ (-1))))) h) : Rn d 289 [.inr (.inr (.inr (44, 12, 39))), .inl (iZ (c)), .inl (iZ (0)), .inl (iZ (12))] h Q := by
  refine Ev.sts 3 (c' := (4, [some (.inr (.inr (.inr (44, 12, 39)))), some (.inl (iZ (c))), some (.inl (iZ (0))), some (.inl (iZ (12))), some (.inl (((iZ (c))).toInt8.toInt32)), none], [], h)) rfl ?_
  refine Ev.sts 2 (c' := (7, [some (.inr (.inr (.inr (44, 12, 39)))), some (.inl (iZ (c))), some (.inl (iZ (0))), some (.inl (iZ (12))), some (.inl (((iZ (c))).toInt8.toInt32)), some (.inl (iZ (0)))], [], h)) rfl ?_
  rw [i2b_w hc]
  exact mk_ic_lp hc k1 k0 13 0 (by decide) (by decide) (fun j hj => absurd hj (Nat.not_lt_zero _))

theorem mk_ix {d : Nat} {c : Int} {h : PH} {Q : Rs → PH → Prop} (hc : -128 ≤ c ∧ c < 128) (k1 : ∀ i : Nat, i < 12 → sgL.getD i 0 = c → Q (.inl (some (.inl (iZ i)))) h) (k0 : (∀ i, i < 12 → sgL.getD i 0 ≠ c) → Q (.inl (some (.inl (iZ (-1))))) h) : Rn (d + 1) 287 [.inr (.inr (.inr (44, 12, 39))), .inl (iZ (c)), .inl (iZ (0)), .inl (iZ (12))] h Q := by
  refine Ev.sts 1 (c' := (1, [some (.inr (.inr (.inr (44, 12, 39)))), some (.inl (iZ (c))), some (.inl (iZ (0))), some (.inl (iZ (12)))], [.inl (iZ (c))], h)) rfl ?_
  refine Ev.callw (a := [.inl (iZ (c))]) rfl (mk_can hc (fun c0 => ?_) (fun c0 => ?_))
  · refine Ev.brT (p := ¬ (iZ (1)) = (iZ (0))) (c1 := (9, [some (.inr (.inr (.inr (44, 12, 39)))), some (.inl (iZ (c))), some (.inl (iZ (0))), some (.inl (iZ (12)))], [], h)) (c2 := (7, [some (.inr (.inr (.inr (44, 12, 39)))), some (.inl (iZ (c))), some (.inl (iZ (0))), some (.inl (iZ (12)))], [], h)) (by decide) rfl ?_
    refine Ev.sts 11 (c' := (24, [some (.inr (.inr (.inr (44, 12, 39)))), some (.inl (iZ (c))), some (.inl (iZ (0))), some (.inl (iZ (12)))], [.inl (iZ (12)), .inl (iZ (0))], h)) rfl ?_
    refine Ev.brT (p := (iZ (0)) < (iZ (12))) (c1 := (29, [some (.inr (.inr (.inr (44, 12, 39)))), some (.inl (iZ (c))), some (.inl (iZ (0))), some (.inl (iZ (12)))], [], h)) (c2 := (27, [some (.inr (.inr (.inr (44, 12, 39)))), some (.inl (iZ (c))), some (.inl (iZ (0))), some (.inl (iZ (12)))], [], h)) (by decide) rfl ?_
    refine Ev.sts 4 (c' := (33, [some (.inr (.inr (.inr (44, 12, 39)))), some (.inl (iZ (c))), some (.inl (iZ (0))), some (.inl (iZ (12)))], [.inl (iZ (12)), .inl (iZ (0)), .inl (iZ (c)), .inr (.inr (.inr (44, 12, 39)))], h)) rfl ?_
    refine Ev.callw (a := [.inr (.inr (.inr (44, 12, 39))), .inl (iZ (c)), .inl (iZ (0)), .inl (iZ (12))]) rfl (mk_ic hc (fun i hi e => ?_) (fun e => ?_))
    · exact Ev.ret rfl (k1 i hi e)
    · exact Ev.ret rfl (k0 (by first | exact e | exact (fun i hi => by have := sg_b i hi; omega)))
  · refine Ev.brF (p := ¬ (iZ (0)) = (iZ (0))) (c1 := (9, [some (.inr (.inr (.inr (44, 12, 39)))), some (.inl (iZ (c))), some (.inl (iZ (0))), some (.inl (iZ (12)))], [], h)) (c2 := (7, [some (.inr (.inr (.inr (44, 12, 39)))), some (.inl (iZ (c))), some (.inl (iZ (0))), some (.inl (iZ (12)))], [], h)) (by decide) rfl ?_
    refine Ev.sts 1 (c' := (8, [some (.inr (.inr (.inr (44, 12, 39)))), some (.inl (iZ (c))), some (.inl (iZ (0))), some (.inl (iZ (12)))], [.inl (iZ (-1))], h)) rfl ?_
    exact Ev.ret rfl (k0 (by first | exact e | exact (fun i hi => by have := sg_b i hi; omega)))

theorem mk_len {d : Nat} {h : PH} : Rv (d + 1) 279 [.inr (.inr (.inr (43, 0, 39)))] h (some (.inl (iZ 12))) h := Rv.of fun Q q => by
  refine Ev.sts 4 (c' := (6, [some (.inr (.inr (.inr (43, 0, 39))))], [.inr (.inr (.inr (43, 0, 39))), .inl (iZ (12))], h)) rfl ?_
  refine Ev.callv (a := [.inr (.inr (.inr (43, 0, 39)))]) rfl (sl_coder) ?_
  refine Ev.sts 1 (c' := (10, [some (.inr (.inr (.inr (43, 0, 39))))], [.inl (((iZ (12)) >>> ((iZ (0)) &&& 31)))], h)) rfl ?_
  rw [iZ_sh0]
  exact Ev.ret rfl q

theorem mk_i1 {d : Nat} {c : Int} {h : PH} {Q : Rs → PH → Prop} (hc : -128 ≤ c ∧ c < 128) (k1 : ∀ i : Nat, i < 12 → sgL.getD i 0 = c → Q (.inl (some (.inl (iZ i)))) h) (k0 : (∀ i, i < 12 → sgL.getD i 0 ≠ c) → Q (.inl (some (.inl (iZ (-1))))) h) : Rn (d + 2) 285 [.inr (.inr (.inr (43, 0, 39))), .inl (iZ (c)), .inl (iZ (0))] h Q := by
  refine Ev.sts 1 (c' := (1, [some (.inr (.inr (.inr (43, 0, 39)))), some (.inl (iZ (c))), some (.inl (iZ (0)))], [.inr (.inr (.inr (43, 0, 39)))], h)) rfl ?_
  refine Ev.callv (a := [.inr (.inr (.inr (43, 0, 39)))]) rfl (sl_latin) ?_
  refine Ev.brF (p := (iZ (1)) = (iZ (0))) (c1 := (23, [some (.inr (.inr (.inr (43, 0, 39)))), some (.inl (iZ (c))), some (.inl (iZ (0)))], [], h)) (c2 := (7, [some (.inr (.inr (.inr (43, 0, 39)))), some (.inl (iZ (c))), some (.inl (iZ (0)))], [], h)) (by decide) rfl ?_
  refine Ev.sts 5 (c' := (14, [some (.inr (.inr (.inr (43, 0, 39)))), some (.inl (iZ (c))), some (.inl (iZ (0)))], [.inr (.inr (.inr (43, 0, 39))), .inl (iZ (0)), .inl (iZ (c)), .inr (.inr (.inr (44, 12, 39)))], h)) rfl ?_
  refine Ev.callv (a := [.inr (.inr (.inr (43, 0, 39)))]) rfl (mk_len) ?_
  refine Ev.callw (a := [.inr (.inr (.inr (44, 12, 39))), .inl (iZ (c)), .inl (iZ (0)), .inl (iZ (12))]) rfl (mk_ix hc (fun i hi e => ?_) (fun e => ?_))
  · refine Ev.sts 1 (c' := (36, [some (.inr (.inr (.inr (43, 0, 39)))), some (.inl (iZ (c))), some (.inl (iZ (0)))], [.inl (iZ (i))], h)) rfl ?_
    exact Ev.ret rfl (k1 i hi e)
  · refine Ev.sts 1 (c' := (36, [some (.inr (.inr (.inr (43, 0, 39)))), some (.inl (iZ (c))), some (.inl (iZ (0)))], [.inl (iZ (-1))], h)) rfl ?_
    exact Ev.ret rfl (k0 (by first | exact e | exact (fun i hi => by have := sg_b i hi; omega)))

theorem mk_i0 {d : Nat} {c : Int} {h : PH} {Q : Rs → PH → Prop} (hc : -128 ≤ c ∧ c < 128) (k1 : ∀ i : Nat, i < 12 → sgL.getD i 0 = c → Q (.inl (some (.inl (iZ i)))) h) (k0 : (∀ i, i < 12 → sgL.getD i 0 ≠ c) → Q (.inl (some (.inl (iZ (-1))))) h) : Rn (d + 3) 284 [.inr (.inr (.inr (43, 0, 39))), .inl (iZ (c))] h Q := by
  refine Ev.sts 3 (c' := (3, [some (.inr (.inr (.inr (43, 0, 39)))), some (.inl (iZ (c)))], [.inl (iZ (0)), .inl (iZ (c)), .inr (.inr (.inr (43, 0, 39)))], h)) rfl ?_
  refine Ev.callw (a := [.inr (.inr (.inr (43, 0, 39))), .inl (iZ (c)), .inl (iZ (0))]) rfl (mk_i1 hc (fun i hi e => ?_) (fun e => ?_))
  · exact Ev.ret rfl (k1 i hi e)
  · exact Ev.ret rfl (k0 (by first | exact e | exact (fun i hi => by have := sg_b i hi; omega)))

theorem sg_k {c : Int} (h : -128 ≤ c ∧ c < 128) : ((26 ≤ kindS c ∧ (txts.getD (kindS c) []).getD 0 0 = c) ∧ ∃ i, i < 12 ∧ sgL.getD i 0 = c) ∨ (kindS c = 1 ∧ ∀ i, i < 12 → sgL.getD i 0 ≠ c) := by
  have e : ∀ b : Fin 256, ((26 ≤ kindS ((b.val : Int) - 128) ∧ (txts.getD (kindS ((b.val : Int) - 128)) []).getD 0 0 = (b.val : Int) - 128) ∧ ∃ i : Fin 12, sgL.getD i.val 0 = (b.val : Int) - 128) ∨ (kindS ((b.val : Int) - 128) = 1 ∧ ∀ i : Fin 12, sgL.getD i.val 0 ≠ (b.val : Int) - 128) := by decide +kernel
  have f := e ⟨(c + 128).toNat, by omega⟩
  replace f : ((26 ≤ kindS ((((c + 128).toNat : Nat) : Int) - 128) ∧ (txts.getD (kindS ((((c + 128).toNat : Nat) : Int) - 128)) []).getD 0 0 = (((c + 128).toNat : Nat) : Int) - 128) ∧ ∃ i : Fin 12, sgL.getD i.val 0 = (((c + 128).toNat : Nat) : Int) - 128) ∨ (kindS ((((c + 128).toNat : Nat) : Int) - 128) = 1 ∧ ∀ i : Fin 12, sgL.getD i.val 0 ≠ (((c + 128).toNat : Nat) : Int) - 128) := f
  rw [show ((((c + 128).toNat : Nat) : Int) - 128) = c by omega] at f
  rcases f with ⟨a, i, hi⟩ | ⟨a, b⟩
  · exact .inl ⟨a, i.val, i.isLt, hi⟩
  · exact .inr ⟨a, fun i hi => b ⟨i, hi⟩⟩
theorem mk_sign {d : Nat} {c : Int} {h : PH} {Q : Rs → PH → Prop} (hc : -128 ≤ c ∧ c < 128) (k1 : ∀ i : Nat, i < 12 → 26 ≤ kindS c → Q (.inl (some (.inl (iZ i)))) h) (k0 : kindS c = 1 → Q (.inl (some (.inl (iZ (-1))))) h) : Rn (d + 3) 284 [.inr (.inr (.inr (43, 0, 39))), .inl (iZ (c))] h Q := by
  refine mk_i0 hc (fun i hi e => ?_) (fun e => ?_)
  · rcases sg_k hc with ⟨a, -⟩ | ⟨a, b⟩
    · exact k1 i hi a.1
    · exact absurd e (b i hi)
  · rcases sg_k hc with ⟨a, i, hi, b⟩ | ⟨a, b⟩
    · exact absurd b (e i hi)
    · exact k0 a
theorem mk_bl {d : Nat} {i : Int} {j4 j5 j6 : Option VV} {tp : List Int} {h : PH} {Q : Rs → PH → Prop} (sh : Sh h) (t : tpM h tp) (ht : tp.length ≤ 1600) (hb : byT tp) (m : Nat) : ∀ k : Nat, k ≤ tp.length → tp.length < k + m → Ev d 177 (46, [some (.inr (.inr (.inr (11, 0, 83)))), some (.inl (iZ (i))), some (.inl (iZ (rn isBk tp k))), some (.inl (iZ (1))), j4, j5, j6], [], h) Q → Ev d 177 (10, [some (.inr (.inr (.inr (11, 0, 83)))), some (.inl (iZ (i))), some (.inl (iZ (k))), some (.inl (iZ (1))), j4, j5, j6], [], h) Q := by
  induction m with
  | zero => intro k h1 h2 q; omega
  | succ m ih =>
    intro k h1 h2 q
    refine Ev.sts 2 (c' := (12, [some (.inr (.inr (.inr (11, 0, 83)))), some (.inl (iZ (i))), some (.inl (iZ (k))), some (.inl (iZ (1))), j4, j5, j6], [.inr (.inr (.inr (11, 0, 83))), .inl (iZ (k))], h)) rfl ?_
    refine Ev.gv (w := (iZ (tp.length))) rfl t.1 ?_
    refine Ev.brc (p := (iZ (tp.length)) ≤ (iZ (k))) (q := ((tp.length : Int)) ≤ k) (c1 := (46, [some (.inr (.inr (.inr (11, 0, 83)))), some (.inl (iZ (i))), some (.inl (iZ (k))), some (.inl (iZ (1))), j4, j5, j6], [], h)) (c2 := (18, [some (.inr (.inr (.inr (11, 0, 83)))), some (.inl (iZ (i))), some (.inl (iZ (k))), some (.inl (iZ (1))), j4, j5, j6], [], h)) rfl (iZ_le ⟨by omega, by omega⟩ ⟨by omega, by omega⟩) (fun c0 => ?_) (fun c0 => ?_)
    · rw [rn_e (fun z_ => by first | omega | exact absurd (isBk_t.mp z_.2) (by omega))] at q
      exact q
    · have hbk := hb k
      refine Ev.sts 1 (c' := (19, [some (.inr (.inr (.inr (11, 0, 83)))), some (.inl (iZ (i))), some (.inl (iZ (k))), some (.inl (iZ (1))), j4, j5, j6], [.inr (.inr (.inr (11, 0, 83)))], h)) rfl ?_
      refine Ev.gfr (r := (22, 1600, 84)) rfl (sh_83_1 sh) ?_
      refine Ev.sts 1 (c' := (23, [some (.inr (.inr (.inr (11, 0, 83)))), some (.inl (iZ (i))), some (.inl (iZ (k))), some (.inl (iZ (1))), j4, j5, j6], [.inl (iZ (k)), .inr (.inr (.inr (22, 1600, 84)))], h)) rfl ?_
      refine Ev.ldv (j := (iZ (k))) (n := 1600) (w := .inl (iZ (by_ tp k))) (iZ_in (by omega) (by omega) (by omega)) rfl (by rw [iZ_ix (n := k) (by omega) (by omega)]; exact congrArg vI (t.2 k (by omega))) ?_
      refine Ev.sts 1 (c' := (26, [some (.inr (.inr (.inr (11, 0, 83)))), some (.inl (iZ (i))), some (.inl (iZ (k))), some (.inl (iZ (1))), j4, j5, j6], [.inl (iZ (32)), .inl (iZ (by_ tp k))], h)) rfl ?_
      refine Ev.brc (p := (iZ (by_ tp k)) = (iZ (32))) (q := ((by_ tp k : Int)) = 32) (c1 := (40, [some (.inr (.inr (.inr (11, 0, 83)))), some (.inl (iZ (i))), some (.inl (iZ (k))), some (.inl (iZ (1))), j4, j5, j6], [], h)) (c2 := (29, [some (.inr (.inr (.inr (11, 0, 83)))), some (.inl (iZ (i))), some (.inl (iZ (k))), some (.inl (iZ (1))), j4, j5, j6], [], h)) rfl (iZ_eq ⟨by omega, by omega⟩ ⟨by omega, by omega⟩) (fun c1 => ?_) (fun c1 => ?_)
      · refine Ev.stc (c1 := (43, [some (.inr (.inr (.inr (11, 0, 83)))), some (.inl (iZ (i))), some (.inl ((iZ (k)) + (iZ (1)))), some (.inl (iZ (1))), j4, j5, j6], [], h)) (c2 := (43, [some (.inr (.inr (.inr (11, 0, 83)))), some (.inl (iZ (i))), some (.inl (iZ (k + 1))), some (.inl (iZ (1))), j4, j5, j6], [], h)) rfl (by rw [iZ_add]) ?_
        refine Ev.sts 1 (c' := (10, [some (.inr (.inr (.inr (11, 0, 83)))), some (.inl (iZ (i))), some (.inl (iZ (k + 1))), some (.inl (iZ (1))), j4, j5, j6], [], h)) rfl ?_
        rw [rn_s (by omega) (isBk_t.mpr (by omega))] at q
        exact ih (k + 1) (by omega) (by omega) q
      · refine Ev.sts 1 (c' := (30, [some (.inr (.inr (.inr (11, 0, 83)))), some (.inl (iZ (i))), some (.inl (iZ (k))), some (.inl (iZ (1))), j4, j5, j6], [.inr (.inr (.inr (11, 0, 83)))], h)) rfl ?_
        refine Ev.gfr (r := (22, 1600, 84)) rfl (sh_83_1 sh) ?_
        refine Ev.sts 1 (c' := (34, [some (.inr (.inr (.inr (11, 0, 83)))), some (.inl (iZ (i))), some (.inl (iZ (k))), some (.inl (iZ (1))), j4, j5, j6], [.inl (iZ (k)), .inr (.inr (.inr (22, 1600, 84)))], h)) rfl ?_
        refine Ev.ldv (j := (iZ (k))) (n := 1600) (w := .inl (iZ (by_ tp k))) (iZ_in (by omega) (by omega) (by omega)) rfl (by rw [iZ_ix (n := k) (by omega) (by omega)]; exact congrArg vI (t.2 k (by omega))) ?_
        refine Ev.sts 1 (c' := (37, [some (.inr (.inr (.inr (11, 0, 83)))), some (.inl (iZ (i))), some (.inl (iZ (k))), some (.inl (iZ (1))), j4, j5, j6], [.inl (iZ (10)), .inl (iZ (by_ tp k))], h)) rfl ?_
        refine Ev.brc (p := ¬ (iZ (by_ tp k)) = (iZ (10))) (q := ¬ ((by_ tp k : Int)) = 10) (c1 := (46, [some (.inr (.inr (.inr (11, 0, 83)))), some (.inl (iZ (i))), some (.inl (iZ (k))), some (.inl (iZ (1))), j4, j5, j6], [], h)) (c2 := (40, [some (.inr (.inr (.inr (11, 0, 83)))), some (.inl (iZ (i))), some (.inl (iZ (k))), some (.inl (iZ (1))), j4, j5, j6], [], h)) rfl (not_congr (iZ_eq ⟨by omega, by omega⟩ ⟨by omega, by omega⟩)) (fun c2 => ?_) (fun c2 => ?_)
        · rw [rn_e (fun z_ => by first | omega | exact absurd (isBk_t.mp z_.2) (by omega))] at q
          exact q
        · refine Ev.stc (c1 := (43, [some (.inr (.inr (.inr (11, 0, 83)))), some (.inl (iZ (i))), some (.inl ((iZ (k)) + (iZ (1)))), some (.inl (iZ (1))), j4, j5, j6], [], h)) (c2 := (43, [some (.inr (.inr (.inr (11, 0, 83)))), some (.inl (iZ (i))), some (.inl (iZ (k + 1))), some (.inl (iZ (1))), j4, j5, j6], [], h)) rfl (by rw [iZ_add]) ?_
          refine Ev.sts 1 (c' := (10, [some (.inr (.inr (.inr (11, 0, 83)))), some (.inl (iZ (i))), some (.inl (iZ (k + 1))), some (.inl (iZ (1))), j4, j5, j6], [], h)) rfl ?_
          rw [rn_s (by omega) (isBk_t.mpr (by omega))] at q
          exact ih (k + 1) (by omega) (by omega) q

theorem mk_end {d i f : Nat} {j4 j5 j6 : Option VV} {tp : List Int} {h : PH} {Q : Rs → PH → Prop} (sh : Sh h) (t : tpM h tp) (ht : tp.length ≤ 1600) (hb : byT tp) (hi : i ≤ 400) (hf : f = tp.length) (q : ∀ h1, tmJ h1 i (0, (f : Int), 0, 0) → fI i h h1 → Q (.inl none) h1) : Ev d 177 (46, [some (.inr (.inr (.inr (11, 0, 83)))), some (.inl (iZ (i))), some (.inl (iZ (f))), some (.inl (iZ (1))), j4, j5, j6], [], h) Q := by
  refine Ev.sts 1 (c' := (47, [some (.inr (.inr (.inr (11, 0, 83)))), some (.inl (iZ (i))), some (.inl (iZ (f))), some (.inl (iZ (1))), j4, j5, j6], [.inr (.inr (.inr (11, 0, 83)))], h)) rfl ?_
  refine Ev.gfr (r := (20, 402, 87)) rfl (sh_83_5 sh) ?_
  refine Ev.sts 2 (c' := (52, [some (.inr (.inr (.inr (11, 0, 83)))), some (.inl (iZ (i))), some (.inl (iZ (f))), some (.inl (iZ (1))), j4, j5, j6], [.inl (iZ (f)), .inl (iZ (i)), .inr (.inr (.inr (20, 402, 87)))], h)) rfl ?_
  refine Ev.sto (j := (iZ (i))) (n := 402) (h2 := (setI h 87 i ((iZ (f))))) (iZ_in (by omega) (by omega) (by omega)) rfl (by rw [iZ_ix (n := i) (by omega) (by omega)]) ?_
  refine Ev.sts 1 (c' := (54, [some (.inr (.inr (.inr (11, 0, 83)))), some (.inl (iZ (i))), some (.inl (iZ (f))), some (.inl (iZ (1))), j4, j5, j6], [.inr (.inr (.inr (11, 0, 83)))], (setI h 87 i ((iZ (f)))))) rfl ?_
  refine Ev.gfr (r := (21, 402, 86)) rfl (sh_83_4 sh) ?_
  refine Ev.sts 2 (c' := (59, [some (.inr (.inr (.inr (11, 0, 83)))), some (.inl (iZ (i))), some (.inl (iZ (f))), some (.inl (iZ (1))), j4, j5, j6], [.inr (.inl ((0 : Int64))), .inl (iZ (i)), .inr (.inr (.inr (21, 402, 86)))], (setI h 87 i ((iZ (f)))))) rfl ?_
  refine Ev.sto (j := (iZ (i))) (n := 402) (h2 := (setL (setI h 87 i ((iZ (f)))) 86 i ((0 : Int64)))) (iZ_in (by omega) (by omega) (by omega)) rfl (by rw [iZ_ix (n := i) (by omega) (by omega)]) ?_
  refine Ev.sts 2 (c' := (62, [some (.inr (.inr (.inr (11, 0, 83)))), some (.inl (iZ (i))), some (.inl (iZ (f))), some (.inl (iZ (1))), j4, j5, j6], [.inr (.inr (.inr (11, 0, 83))), .inl (iZ (f))], (setL (setI h 87 i ((iZ (f)))) 86 i ((0 : Int64))))) rfl ?_
  refine Ev.gv (w := (iZ (tp.length))) rfl t.1 ?_
  refine Ev.brF (p := ¬ (iZ (f)) = (iZ (tp.length))) (c1 := (76, [some (.inr (.inr (.inr (11, 0, 83)))), some (.inl (iZ (i))), some (.inl (iZ (f))), some (.inl (iZ (1))), j4, j5, j6], [], (setL (setI h 87 i ((iZ (f)))) 86 i ((0 : Int64))))) (c2 := (68, [some (.inr (.inr (.inr (11, 0, 83)))), some (.inl (iZ (i))), some (.inl (iZ (f))), some (.inl (iZ (1))), j4, j5, j6], [], (setL (setI h 87 i ((iZ (f)))) 86 i ((0 : Int64))))) (fun c_ => absurd ((not_congr (iZ_eq ⟨by omega, by omega⟩ ⟨by omega, by omega⟩)).mp c_) (by omega)) rfl ?_
  refine Ev.sts 1 (c' := (69, [some (.inr (.inr (.inr (11, 0, 83)))), some (.inl (iZ (i))), some (.inl (iZ (f))), some (.inl (iZ (1))), j4, j5, j6], [.inr (.inr (.inr (11, 0, 83)))], (setL (setI h 87 i ((iZ (f)))) 86 i ((0 : Int64))))) rfl ?_
  refine Ev.gfr (r := (20, 402, 85)) rfl (sh_83_3 sh) ?_
  refine Ev.sts 2 (c' := (74, [some (.inr (.inr (.inr (11, 0, 83)))), some (.inl (iZ (i))), some (.inl (iZ (f))), some (.inl (iZ (1))), j4, j5, j6], [.inl (iZ (4)), .inl (iZ (i)), .inr (.inr (.inr (20, 402, 85)))], (setL (setI h 87 i ((iZ (f)))) 86 i ((0 : Int64))))) rfl ?_
  refine Ev.sto (j := (iZ (i))) (n := 402) (h2 := (setI (setL (setI h 87 i ((iZ (f)))) 86 i ((0 : Int64))) 85 i ((iZ (4))))) (iZ_in (by omega) (by omega) (by omega)) rfl (by rw [iZ_ix (n := i) (by omega) (by omega)]) ?_
  refine Ev.ret rfl (q _ ⟨?_, ?_, fun _ => ?_⟩ ⟨rfl, fun a k hak => ?_, fun a k hak => ?_⟩)
  · exact setI_self _ _ _ _
  · exact (setI_ne (by omega)).trans (setI_self _ _ _ _)
  · exact setL_self _ _ _ _
  · exact (setI_ne (fun z_ => hak ⟨.inl z_.1, z_.2⟩)).trans (setI_ne (fun z_ => hak ⟨.inr z_.1, z_.2⟩))
  · exact setL_ne hak

theorem mk_lt_lp {d : Nat} {i f c : Int} {j6 : Option VV} {tp : List Int} {h : PH} {Q : Rs → PH → Prop} (sh : Sh h) (t : tpM h tp) (ht : tp.length ≤ 1600) (hb : byT tp) (m : Nat) : ∀ e : Nat, e ≤ tp.length → tp.length < e + m → Ev (d + 1) 177 (125, [some (.inr (.inr (.inr (11, 0, 83)))), some (.inl (iZ (i))), some (.inl (iZ (f))), some (.inl (iZ (1))), some (.inl (iZ (c))), some (.inl (iZ (rn isLt tp e))), j6], [], h) Q → Ev (d + 1) 177 (97, [some (.inr (.inr (.inr (11, 0, 83)))), some (.inl (iZ (i))), some (.inl (iZ (f))), some (.inl (iZ (1))), some (.inl (iZ (c))), some (.inl (iZ (e))), j6], [], h) Q := by
  induction m with
  | zero => intro e h1 h2 q; omega
  | succ m ih =>
    intro e h1 h2 q
    refine Ev.sts 2 (c' := (100, [some (.inr (.inr (.inr (11, 0, 83)))), some (.inl (iZ (i))), some (.inl (iZ (f))), some (.inl (iZ (1))), some (.inl (iZ (c))), some (.inl (iZ (e))), j6], [.inr (.inr (.inr (11, 0, 83))), .inl (iZ (e))], h)) rfl ?_
    refine Ev.gv (w := (iZ (tp.length))) rfl t.1 ?_
    refine Ev.brc (p := (iZ (tp.length)) ≤ (iZ (e))) (q := ((tp.length : Int)) ≤ e) (c1 := (125, [some (.inr (.inr (.inr (11, 0, 83)))), some (.inl (iZ (i))), some (.inl (iZ (f))), some (.inl (iZ (1))), some (.inl (iZ (c))), some (.inl (iZ (e))), j6], [], h)) (c2 := (106, [some (.inr (.inr (.inr (11, 0, 83)))), some (.inl (iZ (i))), some (.inl (iZ (f))), some (.inl (iZ (1))), some (.inl (iZ (c))), some (.inl (iZ (e))), j6], [], h)) rfl (iZ_le ⟨by omega, by omega⟩ ⟨by omega, by omega⟩) (fun c0 => ?_) (fun c0 => ?_)
    · rw [rn_e (fun z_ => by first | omega | exact absurd z_.2 (by assumption))] at q
      exact q
    · refine Ev.sts 1 (c' := (107, [some (.inr (.inr (.inr (11, 0, 83)))), some (.inl (iZ (i))), some (.inl (iZ (f))), some (.inl (iZ (1))), some (.inl (iZ (c))), some (.inl (iZ (e))), j6], [.inr (.inr (.inr (11, 0, 83)))], h)) rfl ?_
      refine Ev.gfr (r := (22, 1600, 84)) rfl (sh_83_1 sh) ?_
      refine Ev.sts 1 (c' := (112, [some (.inr (.inr (.inr (11, 0, 83)))), some (.inl (iZ (i))), some (.inl (iZ (f))), some (.inl (iZ (1))), some (.inl (iZ (c))), some (.inl (iZ (e))), j6], [.inl (iZ (e)), .inr (.inr (.inr (22, 1600, 84)))], h)) rfl ?_
      refine Ev.ldv (j := (iZ (e))) (n := 1600) (w := .inl (iZ (by_ tp e))) (iZ_in (by omega) (by omega) (by omega)) rfl (by rw [iZ_ix (n := e) (by omega) (by omega)]; exact congrArg vI (t.2 e (by omega))) ?_
      refine Ev.callw (a := [.inl (iZ (by_ tp e))]) rfl (mk_isLt (hb e) (fun c1 => ?_) (fun c1 => ?_))
      · refine Ev.brF (p := (iZ (1)) = (iZ (0))) (c1 := (125, [some (.inr (.inr (.inr (11, 0, 83)))), some (.inl (iZ (i))), some (.inl (iZ (f))), some (.inl (iZ (1))), some (.inl (iZ (c))), some (.inl (iZ (e))), j6], [], h)) (c2 := (119, [some (.inr (.inr (.inr (11, 0, 83)))), some (.inl (iZ (i))), some (.inl (iZ (f))), some (.inl (iZ (1))), some (.inl (iZ (c))), some (.inl (iZ (e))), j6], [], h)) (by decide) rfl ?_
        refine Ev.stc (c1 := (122, [some (.inr (.inr (.inr (11, 0, 83)))), some (.inl (iZ (i))), some (.inl (iZ (f))), some (.inl (iZ (1))), some (.inl (iZ (c))), some (.inl ((iZ (e)) + (iZ (1)))), j6], [], h)) (c2 := (122, [some (.inr (.inr (.inr (11, 0, 83)))), some (.inl (iZ (i))), some (.inl (iZ (f))), some (.inl (iZ (1))), some (.inl (iZ (c))), some (.inl (iZ (e + 1))), j6], [], h)) rfl (by rw [iZ_add]) ?_
        refine Ev.sts 1 (c' := (97, [some (.inr (.inr (.inr (11, 0, 83)))), some (.inl (iZ (i))), some (.inl (iZ (f))), some (.inl (iZ (1))), some (.inl (iZ (c))), some (.inl (iZ (e + 1))), j6], [], h)) rfl ?_
        rw [rn_s (by omega) (by assumption)] at q
        exact ih (e + 1) (by omega) (by omega) q
      · refine Ev.brT (p := (iZ (0)) = (iZ (0))) (c1 := (125, [some (.inr (.inr (.inr (11, 0, 83)))), some (.inl (iZ (i))), some (.inl (iZ (f))), some (.inl (iZ (1))), some (.inl (iZ (c))), some (.inl (iZ (e))), j6], [], h)) (c2 := (119, [some (.inr (.inr (.inr (11, 0, 83)))), some (.inl (iZ (i))), some (.inl (iZ (f))), some (.inl (iZ (1))), some (.inl (iZ (c))), some (.inl (iZ (e))), j6], [], h)) (by decide) rfl ?_
        rw [rn_e (fun z_ => by first | omega | exact absurd z_.2 (by assumption))] at q
        exact q

theorem mk_dg_lp {d : Nat} {i f c : Int} {j6 : Option VV} {tp : List Int} {h : PH} {Q : Rs → PH → Prop} (sh : Sh h) (t : tpM h tp) (ht : tp.length ≤ 1600) (hb : byT tp) (m : Nat) : ∀ e : Nat, e ≤ tp.length → tp.length < e + m → Ev (d + 1) 177 (237, [some (.inr (.inr (.inr (11, 0, 83)))), some (.inl (iZ (i))), some (.inl (iZ (f))), some (.inl (iZ (1))), some (.inl (iZ (c))), some (.inl (iZ (rn isDg tp e))), j6], [], h) Q → Ev (d + 1) 177 (209, [some (.inr (.inr (.inr (11, 0, 83)))), some (.inl (iZ (i))), some (.inl (iZ (f))), some (.inl (iZ (1))), some (.inl (iZ (c))), some (.inl (iZ (e))), j6], [], h) Q := by
  induction m with
  | zero => intro e h1 h2 q; omega
  | succ m ih =>
    intro e h1 h2 q
    refine Ev.sts 2 (c' := (212, [some (.inr (.inr (.inr (11, 0, 83)))), some (.inl (iZ (i))), some (.inl (iZ (f))), some (.inl (iZ (1))), some (.inl (iZ (c))), some (.inl (iZ (e))), j6], [.inr (.inr (.inr (11, 0, 83))), .inl (iZ (e))], h)) rfl ?_
    refine Ev.gv (w := (iZ (tp.length))) rfl t.1 ?_
    refine Ev.brc (p := (iZ (tp.length)) ≤ (iZ (e))) (q := ((tp.length : Int)) ≤ e) (c1 := (237, [some (.inr (.inr (.inr (11, 0, 83)))), some (.inl (iZ (i))), some (.inl (iZ (f))), some (.inl (iZ (1))), some (.inl (iZ (c))), some (.inl (iZ (e))), j6], [], h)) (c2 := (218, [some (.inr (.inr (.inr (11, 0, 83)))), some (.inl (iZ (i))), some (.inl (iZ (f))), some (.inl (iZ (1))), some (.inl (iZ (c))), some (.inl (iZ (e))), j6], [], h)) rfl (iZ_le ⟨by omega, by omega⟩ ⟨by omega, by omega⟩) (fun c0 => ?_) (fun c0 => ?_)
    · rw [rn_e (fun z_ => by first | omega | exact absurd z_.2 (by assumption))] at q
      exact q
    · refine Ev.sts 1 (c' := (219, [some (.inr (.inr (.inr (11, 0, 83)))), some (.inl (iZ (i))), some (.inl (iZ (f))), some (.inl (iZ (1))), some (.inl (iZ (c))), some (.inl (iZ (e))), j6], [.inr (.inr (.inr (11, 0, 83)))], h)) rfl ?_
      refine Ev.gfr (r := (22, 1600, 84)) rfl (sh_83_1 sh) ?_
      refine Ev.sts 1 (c' := (224, [some (.inr (.inr (.inr (11, 0, 83)))), some (.inl (iZ (i))), some (.inl (iZ (f))), some (.inl (iZ (1))), some (.inl (iZ (c))), some (.inl (iZ (e))), j6], [.inl (iZ (e)), .inr (.inr (.inr (22, 1600, 84)))], h)) rfl ?_
      refine Ev.ldv (j := (iZ (e))) (n := 1600) (w := .inl (iZ (by_ tp e))) (iZ_in (by omega) (by omega) (by omega)) rfl (by rw [iZ_ix (n := e) (by omega) (by omega)]; exact congrArg vI (t.2 e (by omega))) ?_
      refine Ev.callw (a := [.inl (iZ (by_ tp e))]) rfl (mk_isDg (hb e) (fun c1 => ?_) (fun c1 => ?_))
      · refine Ev.brF (p := (iZ (1)) = (iZ (0))) (c1 := (237, [some (.inr (.inr (.inr (11, 0, 83)))), some (.inl (iZ (i))), some (.inl (iZ (f))), some (.inl (iZ (1))), some (.inl (iZ (c))), some (.inl (iZ (e))), j6], [], h)) (c2 := (231, [some (.inr (.inr (.inr (11, 0, 83)))), some (.inl (iZ (i))), some (.inl (iZ (f))), some (.inl (iZ (1))), some (.inl (iZ (c))), some (.inl (iZ (e))), j6], [], h)) (by decide) rfl ?_
        refine Ev.stc (c1 := (234, [some (.inr (.inr (.inr (11, 0, 83)))), some (.inl (iZ (i))), some (.inl (iZ (f))), some (.inl (iZ (1))), some (.inl (iZ (c))), some (.inl ((iZ (e)) + (iZ (1)))), j6], [], h)) (c2 := (234, [some (.inr (.inr (.inr (11, 0, 83)))), some (.inl (iZ (i))), some (.inl (iZ (f))), some (.inl (iZ (1))), some (.inl (iZ (c))), some (.inl (iZ (e + 1))), j6], [], h)) rfl (by rw [iZ_add]) ?_
        refine Ev.sts 1 (c' := (209, [some (.inr (.inr (.inr (11, 0, 83)))), some (.inl (iZ (i))), some (.inl (iZ (f))), some (.inl (iZ (1))), some (.inl (iZ (c))), some (.inl (iZ (e + 1))), j6], [], h)) rfl ?_
        rw [rn_s (by omega) (by assumption)] at q
        exact ih (e + 1) (by omega) (by omega) q
      · refine Ev.brT (p := (iZ (0)) = (iZ (0))) (c1 := (237, [some (.inr (.inr (.inr (11, 0, 83)))), some (.inl (iZ (i))), some (.inl (iZ (f))), some (.inl (iZ (1))), some (.inl (iZ (c))), some (.inl (iZ (e))), j6], [], h)) (c2 := (231, [some (.inr (.inr (.inr (11, 0, 83)))), some (.inl (iZ (i))), some (.inl (iZ (f))), some (.inl (iZ (1))), some (.inl (iZ (c))), some (.inl (iZ (e))), j6], [], h)) (by decide) rfl ?_
        rw [rn_e (fun z_ => by first | omega | exact absurd z_.2 (by assumption))] at q
        exact q

theorem fI_L {i : Nat} {h : PH} {v : Int64} : fI i h (setL h 86 i v) := ⟨rfl, fun _ _ _ => rfl, fun _ _ x => setL_ne x⟩
theorem fI_I {i a : Nat} {h : PH} {v : Int32} (ha : a = 85 ∨ a = 87) : fI i h (setI h a i v) := ⟨rfl, fun b k x => setI_ne (fun z_ => x ⟨by omega, z_.2⟩), fun _ _ _ => rfl⟩
theorem fI_r {i : Nat} {h : PH} : fI i h h := ⟨rfl, fun _ _ _ => rfl, fun _ _ _ => rfl⟩
def fG (i : Nat) (h h' : PH) : Prop := h'.2.2 = h.2.2 ∧ h'.1 = h.1 ∧ (∀ a k, ¬ (a = 86 ∧ k = i) → h'.2.1 a k = h.2.1 a k)
theorem fG_t {i : Nat} {h h1 h2 : PH} (a : fG i h h1) (b : fG i h1 h2) : fG i h h2 := ⟨b.1.trans a.1, b.2.1.trans a.2.1, fun x k x1 => (b.2.2 x k x1).trans (a.2.2 x k x1)⟩
theorem fG_L {i : Nat} {h : PH} {v : Int64} : fG i h (setL h 86 i v) := ⟨rfl, rfl, fun _ _ x => setL_ne x⟩
theorem fG_r {i : Nat} {h : PH} : fG i h h := ⟨rfl, rfl, fun _ _ _ => rfl⟩
theorem fI_G {i : Nat} {h h1 : PH} (f : fG i h h1) : fI i h h1 := ⟨f.1, fun a k _ => by rw [f.2.1], f.2.2⟩
theorem mk_wd_lp {d i e f : Nat} {c : Int} {tp : List Int} {Q : Rs → PH → Prop} (ht : tp.length ≤ 1600) (hb : byT tp) (hi : i ≤ 400) (he : e ≤ tp.length) (hfe : f ≤ e) (m : Nat) : ∀ (k n : Nat) (w : Int) (h : PH), Sh h → tpM h tp → k ≤ min e (f + 8) → e < k + m → n + (min e (f + 8) - k) ≤ 8 → (∀ j, k ≤ j → j < e → isLt (by_ tp j) = true) → (0 ≤ w ∧ w + 1 ≤ b32 n) → h.2.1 86 i = lz w → (∀ (h1 : PH) (k1 : Int), h1.2.1 86 i = lz (enF (slc tp (min e (f + 8) - k) k) w) → fG i h h1 → Ev d 177 (198, [some (.inr (.inr (.inr (11, 0, 83)))), some (.inl (iZ (i))), some (.inl (iZ (f))), some (.inl (iZ (1))), some (.inl (iZ (c))), some (.inl (iZ (e))), some (.inl (iZ (k1)))], [], h1) Q) → Ev d 177 (148, [some (.inr (.inr (.inr (11, 0, 83)))), some (.inl (iZ (i))), some (.inl (iZ (f))), some (.inl (iZ (1))), some (.inl (iZ (c))), some (.inl (iZ (e))), some (.inl (iZ (k)))], [], h) Q := by
  induction m with
  | zero => intro k n w h sh t h1 h2 h3 hd hv hw q; omega
  | succ m ih =>
    intro k n w h sh t h1 h2 h3 hd hv hw q
    refine Ev.sts 2 (c' := (152, [some (.inr (.inr (.inr (11, 0, 83)))), some (.inl (iZ (i))), some (.inl (iZ (f))), some (.inl (iZ (1))), some (.inl (iZ (c))), some (.inl (iZ (e))), some (.inl (iZ (k)))], [.inl (iZ (e)), .inl (iZ (k))], h)) rfl ?_
    refine Ev.brc (p := (iZ (e)) ≤ (iZ (k))) (q := ((e : Int)) ≤ k) (c1 := (198, [some (.inr (.inr (.inr (11, 0, 83)))), some (.inl (iZ (i))), some (.inl (iZ (f))), some (.inl (iZ (1))), some (.inl (iZ (c))), some (.inl (iZ (e))), some (.inl (iZ (k)))], [], h)) (c2 := (155, [some (.inr (.inr (.inr (11, 0, 83)))), some (.inl (iZ (i))), some (.inl (iZ (f))), some (.inl (iZ (1))), some (.inl (iZ (c))), some (.inl (iZ (e))), some (.inl (iZ (k)))], [], h)) rfl (iZ_le ⟨by omega, by omega⟩ ⟨by omega, by omega⟩) (fun c0 => ?_) (fun c0 => ?_)
    · rw [slc_0 (by omega)] at q
      exact q h _ hw fG_r
    · refine Ev.sts 3 (c' := (160, [some (.inr (.inr (.inr (11, 0, 83)))), some (.inl (iZ (i))), some (.inl (iZ (f))), some (.inl (iZ (1))), some (.inl (iZ (c))), some (.inl (iZ (e))), some (.inl (iZ (k)))], [.inl (iZ (8)), .inl (iZ (f)), .inl (iZ (k))], h)) rfl ?_
      refine Ev.gv (w := (iZ (f + 8))) rfl (iZ_add _ _) ?_
      refine Ev.brc (p := (iZ (f + 8)) ≤ (iZ (k))) (q := ((f + 8 : Int)) ≤ k) (c1 := (198, [some (.inr (.inr (.inr (11, 0, 83)))), some (.inl (iZ (i))), some (.inl (iZ (f))), some (.inl (iZ (1))), some (.inl (iZ (c))), some (.inl (iZ (e))), some (.inl (iZ (k)))], [], h)) (c2 := (164, [some (.inr (.inr (.inr (11, 0, 83)))), some (.inl (iZ (i))), some (.inl (iZ (f))), some (.inl (iZ (1))), some (.inl (iZ (c))), some (.inl (iZ (e))), some (.inl (iZ (k)))], [], h)) rfl (iZ_le ⟨by omega, by omega⟩ ⟨by omega, by omega⟩) (fun c1 => ?_) (fun c1 => ?_)
      · rw [slc_0 (by omega)] at q
        exact q h _ hw fG_r
      · refine Ev.sts 1 (c' := (165, [some (.inr (.inr (.inr (11, 0, 83)))), some (.inl (iZ (i))), some (.inl (iZ (f))), some (.inl (iZ (1))), some (.inl (iZ (c))), some (.inl (iZ (e))), some (.inl (iZ (k)))], [.inr (.inr (.inr (11, 0, 83)))], h)) rfl ?_
        refine Ev.gfr (r := (21, 402, 86)) rfl (sh_83_4 sh) ?_
        refine Ev.sts 2 (c' := (170, [some (.inr (.inr (.inr (11, 0, 83)))), some (.inl (iZ (i))), some (.inl (iZ (f))), some (.inl (iZ (1))), some (.inl (iZ (c))), some (.inl (iZ (e))), some (.inl (iZ (k)))], [.inr (.inr (.inr (11, 0, 83))), .inl (iZ (i)), .inr (.inr (.inr (21, 402, 86)))], h)) rfl ?_
        refine Ev.gfr (r := (21, 402, 86)) rfl (sh_83_4 sh) ?_
        refine Ev.sts 1 (c' := (174, [some (.inr (.inr (.inr (11, 0, 83)))), some (.inl (iZ (i))), some (.inl (iZ (f))), some (.inl (iZ (1))), some (.inl (iZ (c))), some (.inl (iZ (e))), some (.inl (iZ (k)))], [.inl (iZ (i)), .inr (.inr (.inr (21, 402, 86))), .inl (iZ (i)), .inr (.inr (.inr (21, 402, 86)))], h)) rfl ?_
        refine Ev.ldv (j := (iZ (i))) (n := 402) (w := .inr (.inl (lz w))) (iZ_in (by omega) (by omega) (by omega)) rfl (by rw [iZ_ix (n := i) (by omega) (by omega)]; exact congrArg vL hw) ?_
        refine Ev.sts 3 (c' := (178, [some (.inr (.inr (.inr (11, 0, 83)))), some (.inl (iZ (i))), some (.inl (iZ (f))), some (.inl (iZ (1))), some (.inl (iZ (c))), some (.inl (iZ (e))), some (.inl (iZ (k)))], [.inr (.inr (.inr (11, 0, 83))), .inr (.inl ((lz w <<< (((iZ (5))).toInt64 &&& 63)))), .inl (iZ (i)), .inr (.inr (.inr (21, 402, 86)))], h)) rfl ?_
        refine Ev.gfr (r := (22, 1600, 84)) rfl (sh_83_1 sh) ?_
        refine Ev.sts 1 (c' := (183, [some (.inr (.inr (.inr (11, 0, 83)))), some (.inl (iZ (i))), some (.inl (iZ (f))), some (.inl (iZ (1))), some (.inl (iZ (c))), some (.inl (iZ (e))), some (.inl (iZ (k)))], [.inl (iZ (k)), .inr (.inr (.inr (22, 1600, 84))), .inr (.inl ((lz w <<< (((iZ (5))).toInt64 &&& 63)))), .inl (iZ (i)), .inr (.inr (.inr (21, 402, 86)))], h)) rfl ?_
        refine Ev.ldv (j := (iZ (k))) (n := 1600) (w := .inl (iZ (by_ tp k))) (iZ_in (by omega) (by omega) (by omega)) rfl (by rw [iZ_ix (n := k) (by omega) (by omega)]; exact congrArg vI (t.2 k (by omega))) ?_
        refine Ev.sts 1 (c' := (186, [some (.inr (.inr (.inr (11, 0, 83)))), some (.inl (iZ (i))), some (.inl (iZ (f))), some (.inl (iZ (1))), some (.inl (iZ (c))), some (.inl (iZ (e))), some (.inl (iZ (k)))], [.inl (iZ (97)), .inl (iZ (by_ tp k)), .inr (.inl ((lz w <<< (((iZ (5))).toInt64 &&& 63)))), .inl (iZ (i)), .inr (.inr (.inr (21, 402, 86)))], h)) rfl ?_
        refine Ev.gv (w := (iZ ((by_ tp k) - 97))) rfl (iZ_sub _ _) ?_
        refine Ev.sts 1 (c' := (188, [some (.inr (.inr (.inr (11, 0, 83)))), some (.inl (iZ (i))), some (.inl (iZ (f))), some (.inl (iZ (1))), some (.inl (iZ (c))), some (.inl (iZ (e))), some (.inl (iZ (k)))], [.inl (iZ (1)), .inl (iZ ((by_ tp k) - 97)), .inr (.inl ((lz w <<< (((iZ (5))).toInt64 &&& 63)))), .inl (iZ (i)), .inr (.inr (.inr (21, 402, 86)))], h)) rfl ?_
        refine Ev.gv (w := (iZ (((by_ tp k) - 97) + 1))) rfl (iZ_add _ _) ?_
        refine Ev.sts 2 (c' := (191, [some (.inr (.inr (.inr (11, 0, 83)))), some (.inl (iZ (i))), some (.inl (iZ (f))), some (.inl (iZ (1))), some (.inl (iZ (c))), some (.inl (iZ (e))), some (.inl (iZ (k)))], [.inr (.inl (((lz w <<< (((iZ (5))).toInt64 &&& 63)) ||| ((iZ (((by_ tp k) - 97) + 1))).toInt64))), .inl (iZ (i)), .inr (.inr (.inr (21, 402, 86)))], h)) rfl ?_
        refine Ev.sto (j := (iZ (i))) (n := 402) (h2 := (setL h 86 i (((lz w <<< (((iZ (5))).toInt64 &&& 63)) ||| ((iZ (((by_ tp k) - 97) + 1))).toInt64)))) (iZ_in (by omega) (by omega) (by omega)) rfl (by rw [iZ_ix (n := i) (by omega) (by omega)]) ?_
        refine Ev.stc (c1 := (195, [some (.inr (.inr (.inr (11, 0, 83)))), some (.inl (iZ (i))), some (.inl (iZ (f))), some (.inl (iZ (1))), some (.inl (iZ (c))), some (.inl (iZ (e))), some (.inl ((iZ (k)) + (iZ (1))))], [], (setL h 86 i (((lz w <<< (((iZ (5))).toInt64 &&& 63)) ||| ((iZ (((by_ tp k) - 97) + 1))).toInt64))))) (c2 := (195, [some (.inr (.inr (.inr (11, 0, 83)))), some (.inl (iZ (i))), some (.inl (iZ (f))), some (.inl (iZ (1))), some (.inl (iZ (c))), some (.inl (iZ (e))), some (.inl (iZ (k + 1)))], [], (setL h 86 i (((lz w <<< (((iZ (5))).toInt64 &&& 63)) ||| ((iZ (((by_ tp k) - 97) + 1))).toInt64))))) rfl (by rw [iZ_add]) ?_
        refine Ev.sts 1 (c' := (148, [some (.inr (.inr (.inr (11, 0, 83)))), some (.inl (iZ (i))), some (.inl (iZ (f))), some (.inl (iZ (1))), some (.inl (iZ (c))), some (.inl (iZ (e))), some (.inl (iZ (k + 1)))], [], (setL h 86 i (((lz w <<< (((iZ (5))).toInt64 &&& 63)) ||| ((iZ (((by_ tp k) - 97) + 1))).toInt64))))) rfl ?_
        have c5 := isLt_t.mp (hd k (Nat.le_refl _) (by omega))
        have b7 := b32_7 (n := n) (by omega)
        rw [show (((by_ tp k - 97) + 1 : Int)) = by_ tp k - 96 by omega, lz_sh ⟨hv.1, by omega⟩ ⟨by omega, by omega⟩]
        refine ih (k + 1) (n + 1) _ _ (Sh_R2 sh rfl) (tpM_I t fI_L) (by omega) (by omega) (by omega) (fun j h1 h2 => hd j (by omega) h2) ⟨by omega, by show w * 32 + (by_ tp k - 96) + 1 ≤ b32 n * 32; omega⟩ (setL_self _ _ _ _) (fun h1 k1 w1 f1 => ?_)
        rw [slc_s (by omega)] at q
        exact q h1 k1 w1 (fG_t fG_L f1)

theorem lz_nb {w c : Int} (hc : 0 ≤ c ∧ c < 128) : ((((10 : Int64) * (lz w)) + (iZ c).toInt64) - (48 : Int64)) = lz (w * 10 + c - 48) := by
  rw [lz_i ⟨by omega, by omega⟩]
  unfold lz
  rw [show (10 : Int64) = Int64.ofInt 10 from rfl, show (48 : Int64) = Int64.ofInt 48 from rfl, ← Int64.ofInt_mul, ← Int64.ofInt_add, ← Int64.ofInt_sub, Int.mul_comm]
theorem mk_nb_lp {d i e f : Nat} {c : Int} {tp : List Int} {Q : Rs → PH → Prop} (ht : tp.length ≤ 1600) (hb : byT tp) (hi : i ≤ 400) (he : e ≤ tp.length) (hfe : f ≤ e) (m : Nat) : ∀ (k : Nat) (w : Int) (h : PH), Sh h → tpM h tp → k ≤ min e (f + 4) → e < k + m → (∀ j, k ≤ j → j < e → isDg (by_ tp j) = true) → h.2.1 86 i = lz w → (∀ (h1 : PH) (k1 : Int), h1.2.1 86 i = lz (nbF (slc tp (min e (f + 4) - k) k) w) → fG i h h1 → Ev d 177 (309, [some (.inr (.inr (.inr (11, 0, 83)))), some (.inl (iZ (i))), some (.inl (iZ (f))), some (.inl (iZ (1))), some (.inl (iZ (c))), some (.inl (iZ (e))), some (.inl (iZ (k1)))], [], h1) Q) → Ev d 177 (259, [some (.inr (.inr (.inr (11, 0, 83)))), some (.inl (iZ (i))), some (.inl (iZ (f))), some (.inl (iZ (1))), some (.inl (iZ (c))), some (.inl (iZ (e))), some (.inl (iZ (k)))], [], h) Q := by
  induction m with
  | zero => intro k w h sh t h1 h2 hd hw q; omega
  | succ m ih =>
    intro k w h sh t h1 h2 hd hw q
    refine Ev.sts 2 (c' := (263, [some (.inr (.inr (.inr (11, 0, 83)))), some (.inl (iZ (i))), some (.inl (iZ (f))), some (.inl (iZ (1))), some (.inl (iZ (c))), some (.inl (iZ (e))), some (.inl (iZ (k)))], [.inl (iZ (e)), .inl (iZ (k))], h)) rfl ?_
    refine Ev.brc (p := (iZ (e)) ≤ (iZ (k))) (q := ((e : Int)) ≤ k) (c1 := (309, [some (.inr (.inr (.inr (11, 0, 83)))), some (.inl (iZ (i))), some (.inl (iZ (f))), some (.inl (iZ (1))), some (.inl (iZ (c))), some (.inl (iZ (e))), some (.inl (iZ (k)))], [], h)) (c2 := (266, [some (.inr (.inr (.inr (11, 0, 83)))), some (.inl (iZ (i))), some (.inl (iZ (f))), some (.inl (iZ (1))), some (.inl (iZ (c))), some (.inl (iZ (e))), some (.inl (iZ (k)))], [], h)) rfl (iZ_le ⟨by omega, by omega⟩ ⟨by omega, by omega⟩) (fun c0 => ?_) (fun c0 => ?_)
    · rw [slc_0 (by omega)] at q
      exact q h _ hw fG_r
    · refine Ev.sts 3 (c' := (270, [some (.inr (.inr (.inr (11, 0, 83)))), some (.inl (iZ (i))), some (.inl (iZ (f))), some (.inl (iZ (1))), some (.inl (iZ (c))), some (.inl (iZ (e))), some (.inl (iZ (k)))], [.inl (iZ (4)), .inl (iZ (f)), .inl (iZ (k))], h)) rfl ?_
      refine Ev.gv (w := (iZ (f + 4))) rfl (iZ_add _ _) ?_
      refine Ev.brc (p := (iZ (f + 4)) ≤ (iZ (k))) (q := ((f + 4 : Int)) ≤ k) (c1 := (309, [some (.inr (.inr (.inr (11, 0, 83)))), some (.inl (iZ (i))), some (.inl (iZ (f))), some (.inl (iZ (1))), some (.inl (iZ (c))), some (.inl (iZ (e))), some (.inl (iZ (k)))], [], h)) (c2 := (274, [some (.inr (.inr (.inr (11, 0, 83)))), some (.inl (iZ (i))), some (.inl (iZ (f))), some (.inl (iZ (1))), some (.inl (iZ (c))), some (.inl (iZ (e))), some (.inl (iZ (k)))], [], h)) rfl (iZ_le ⟨by omega, by omega⟩ ⟨by omega, by omega⟩) (fun c1 => ?_) (fun c1 => ?_)
      · rw [slc_0 (by omega)] at q
        exact q h _ hw fG_r
      · refine Ev.sts 1 (c' := (275, [some (.inr (.inr (.inr (11, 0, 83)))), some (.inl (iZ (i))), some (.inl (iZ (f))), some (.inl (iZ (1))), some (.inl (iZ (c))), some (.inl (iZ (e))), some (.inl (iZ (k)))], [.inr (.inr (.inr (11, 0, 83)))], h)) rfl ?_
        refine Ev.gfr (r := (21, 402, 86)) rfl (sh_83_4 sh) ?_
        refine Ev.sts 3 (c' := (283, [some (.inr (.inr (.inr (11, 0, 83)))), some (.inl (iZ (i))), some (.inl (iZ (f))), some (.inl (iZ (1))), some (.inl (iZ (c))), some (.inl (iZ (e))), some (.inl (iZ (k)))], [.inr (.inr (.inr (11, 0, 83))), .inr (.inl ((10 : Int64))), .inl (iZ (i)), .inr (.inr (.inr (21, 402, 86)))], h)) rfl ?_
        refine Ev.gfr (r := (21, 402, 86)) rfl (sh_83_4 sh) ?_
        refine Ev.sts 1 (c' := (287, [some (.inr (.inr (.inr (11, 0, 83)))), some (.inl (iZ (i))), some (.inl (iZ (f))), some (.inl (iZ (1))), some (.inl (iZ (c))), some (.inl (iZ (e))), some (.inl (iZ (k)))], [.inl (iZ (i)), .inr (.inr (.inr (21, 402, 86))), .inr (.inl ((10 : Int64))), .inl (iZ (i)), .inr (.inr (.inr (21, 402, 86)))], h)) rfl ?_
        refine Ev.ldv (j := (iZ (i))) (n := 402) (w := .inr (.inl (lz w))) (iZ_in (by omega) (by omega) (by omega)) rfl (by rw [iZ_ix (n := i) (by omega) (by omega)]; exact congrArg vL hw) ?_
        refine Ev.sts 2 (c' := (290, [some (.inr (.inr (.inr (11, 0, 83)))), some (.inl (iZ (i))), some (.inl (iZ (f))), some (.inl (iZ (1))), some (.inl (iZ (c))), some (.inl (iZ (e))), some (.inl (iZ (k)))], [.inr (.inr (.inr (11, 0, 83))), .inr (.inl (((10 : Int64) * lz w))), .inl (iZ (i)), .inr (.inr (.inr (21, 402, 86)))], h)) rfl ?_
        refine Ev.gfr (r := (22, 1600, 84)) rfl (sh_83_1 sh) ?_
        refine Ev.sts 1 (c' := (295, [some (.inr (.inr (.inr (11, 0, 83)))), some (.inl (iZ (i))), some (.inl (iZ (f))), some (.inl (iZ (1))), some (.inl (iZ (c))), some (.inl (iZ (e))), some (.inl (iZ (k)))], [.inl (iZ (k)), .inr (.inr (.inr (22, 1600, 84))), .inr (.inl (((10 : Int64) * lz w))), .inl (iZ (i)), .inr (.inr (.inr (21, 402, 86)))], h)) rfl ?_
        refine Ev.ldv (j := (iZ (k))) (n := 1600) (w := .inl (iZ (by_ tp k))) (iZ_in (by omega) (by omega) (by omega)) rfl (by rw [iZ_ix (n := k) (by omega) (by omega)]; exact congrArg vI (t.2 k (by omega))) ?_
        refine Ev.sts 4 (c' := (302, [some (.inr (.inr (.inr (11, 0, 83)))), some (.inl (iZ (i))), some (.inl (iZ (f))), some (.inl (iZ (1))), some (.inl (iZ (c))), some (.inl (iZ (e))), some (.inl (iZ (k)))], [.inr (.inl (((((10 : Int64) * lz w) + ((iZ (by_ tp k))).toInt64) - (48 : Int64)))), .inl (iZ (i)), .inr (.inr (.inr (21, 402, 86)))], h)) rfl ?_
        refine Ev.sto (j := (iZ (i))) (n := 402) (h2 := (setL h 86 i (((((10 : Int64) * lz w) + ((iZ (by_ tp k))).toInt64) - (48 : Int64))))) (iZ_in (by omega) (by omega) (by omega)) rfl (by rw [iZ_ix (n := i) (by omega) (by omega)]) ?_
        refine Ev.stc (c1 := (306, [some (.inr (.inr (.inr (11, 0, 83)))), some (.inl (iZ (i))), some (.inl (iZ (f))), some (.inl (iZ (1))), some (.inl (iZ (c))), some (.inl (iZ (e))), some (.inl ((iZ (k)) + (iZ (1))))], [], (setL h 86 i (((((10 : Int64) * lz w) + ((iZ (by_ tp k))).toInt64) - (48 : Int64)))))) (c2 := (306, [some (.inr (.inr (.inr (11, 0, 83)))), some (.inl (iZ (i))), some (.inl (iZ (f))), some (.inl (iZ (1))), some (.inl (iZ (c))), some (.inl (iZ (e))), some (.inl (iZ (k + 1)))], [], (setL h 86 i (((((10 : Int64) * lz w) + ((iZ (by_ tp k))).toInt64) - (48 : Int64)))))) rfl (by rw [iZ_add]) ?_
        refine Ev.sts 1 (c' := (259, [some (.inr (.inr (.inr (11, 0, 83)))), some (.inl (iZ (i))), some (.inl (iZ (f))), some (.inl (iZ (1))), some (.inl (iZ (c))), some (.inl (iZ (e))), some (.inl (iZ (k + 1)))], [], (setL h 86 i (((((10 : Int64) * lz w) + ((iZ (by_ tp k))).toInt64) - (48 : Int64)))))) rfl ?_
        have c5 := isDg_t.mp (hd k (Nat.le_refl _) (by omega))
        rw [lz_nb ⟨by omega, by omega⟩]
        refine ih (k + 1) _ _ (Sh_R2 sh rfl) (tpM_I t fI_L) (by omega) (by omega) (fun j h1 h2 => hd j (by omega) h2) (setL_self _ _ _ _) (fun h1 k1 w1 f1 => ?_)
        rw [slc_s (by omega)] at q
        exact q h1 k1 w1 (fG_t fG_L f1)

theorem mk_wd {d i e f : Nat} {c : Int} {j6 : Option VV} {tp : List Int} {h : PH} {Q : Rs → PH → Prop} (sh : Sh h) (t : tpM h tp) (ht : tp.length ≤ 1600) (hb : byT tp) (hi : i ≤ 400) (he : e ≤ tp.length) (hfe : f ≤ e) (hd : ∀ j, f ≤ j → j < e → isLt (by_ tp j) = true) (hw : h.2.1 86 i = lz 0) (q : ∀ (h1 : PH) (k1 : Int), h1.1 85 i = iZ (if e - f ≤ 8 then 0 else 3) → h1.2.1 86 i = lz (enF (slc tp (min e (f + 8) - f) f) 0) → fI i h h1 → h1.1 87 = h.1 87 → Ev d 177 (342, [some (.inr (.inr (.inr (11, 0, 83)))), some (.inl (iZ (i))), some (.inl (iZ (f))), some (.inl (iZ (1))), some (.inl (iZ (c))), some (.inl (iZ (e))), some (.inl (iZ (k1)))], [], h1) Q) : Ev d 177 (125, [some (.inr (.inr (.inr (11, 0, 83)))), some (.inl (iZ (i))), some (.inl (iZ (f))), some (.inl (iZ (1))), some (.inl (iZ (c))), some (.inl (iZ (e))), j6], [], h) Q := by
  refine Ev.sts 1 (c' := (126, [some (.inr (.inr (.inr (11, 0, 83)))), some (.inl (iZ (i))), some (.inl (iZ (f))), some (.inl (iZ (1))), some (.inl (iZ (c))), some (.inl (iZ (e))), j6], [.inr (.inr (.inr (11, 0, 83)))], h)) rfl ?_
  refine Ev.gfr (r := (20, 402, 85)) rfl (sh_83_3 sh) ?_
  refine Ev.sts 3 (c' := (133, [some (.inr (.inr (.inr (11, 0, 83)))), some (.inl (iZ (i))), some (.inl (iZ (f))), some (.inl (iZ (1))), some (.inl (iZ (c))), some (.inl (iZ (e))), j6], [.inl (iZ (f)), .inl (iZ (e)), .inl (iZ (i)), .inr (.inr (.inr (20, 402, 85)))], h)) rfl ?_
  refine Ev.gv (w := (iZ (e - f))) rfl (iZ_sub _ _) ?_
  refine Ev.sts 1 (c' := (136, [some (.inr (.inr (.inr (11, 0, 83)))), some (.inl (iZ (i))), some (.inl (iZ (f))), some (.inl (iZ (1))), some (.inl (iZ (c))), some (.inl (iZ (e))), j6], [.inl (iZ (8)), .inl (iZ (e - f)), .inl (iZ (i)), .inr (.inr (.inr (20, 402, 85)))], h)) rfl ?_
  refine Ev.brc (p := (iZ (e - f)) ≤ (iZ (8))) (q := ((e - f : Int)) ≤ 8) (c1 := (143, [some (.inr (.inr (.inr (11, 0, 83)))), some (.inl (iZ (i))), some (.inl (iZ (f))), some (.inl (iZ (1))), some (.inl (iZ (c))), some (.inl (iZ (e))), j6], [.inl (iZ (i)), .inr (.inr (.inr (20, 402, 85)))], h)) (c2 := (139, [some (.inr (.inr (.inr (11, 0, 83)))), some (.inl (iZ (i))), some (.inl (iZ (f))), some (.inl (iZ (1))), some (.inl (iZ (c))), some (.inl (iZ (e))), j6], [.inl (iZ (i)), .inr (.inr (.inr (20, 402, 85)))], h)) rfl (iZ_le ⟨by omega, by omega⟩ ⟨by omega, by omega⟩) (fun c0 => ?_) (fun c0 => ?_)
  · refine Ev.sts 1 (c' := (144, [some (.inr (.inr (.inr (11, 0, 83)))), some (.inl (iZ (i))), some (.inl (iZ (f))), some (.inl (iZ (1))), some (.inl (iZ (c))), some (.inl (iZ (e))), j6], [.inl (iZ (0)), .inl (iZ (i)), .inr (.inr (.inr (20, 402, 85)))], h)) rfl ?_
    refine Ev.sto (j := (iZ (i))) (n := 402) (h2 := (setI h 85 i ((iZ (0))))) (iZ_in (by omega) (by omega) (by omega)) rfl (by rw [iZ_ix (n := i) (by omega) (by omega)]) ?_
    refine Ev.sts 2 (c' := (148, [some (.inr (.inr (.inr (11, 0, 83)))), some (.inl (iZ (i))), some (.inl (iZ (f))), some (.inl (iZ (1))), some (.inl (iZ (c))), some (.inl (iZ (e))), some (.inl (iZ (f)))], [], (setI h 85 i ((iZ (0)))))) rfl ?_
    refine mk_wd_lp ht hb hi he hfe (e + 1) f 0 0 _ (Sh_R2 sh rfl) (tpM_I t (fI_I (.inl rfl))) (by omega) (by omega) (by omega) hd ⟨Int.le_refl _, Int.le_refl _⟩ hw (fun h1 k1 w1 f1 => ?_)
    refine Ev.sts 1 (c' := (342, [some (.inr (.inr (.inr (11, 0, 83)))), some (.inl (iZ (i))), some (.inl (iZ (f))), some (.inl (iZ (1))), some (.inl (iZ (c))), some (.inl (iZ (e))), some (.inl (iZ (k1)))], [], h1)) rfl ?_
    exact q h1 k1 (by rw [f1.2.1]; first | (rw [if_pos (by omega)]; exact setI_self _ _ _ _) | (rw [if_neg (by omega)]; exact setI_self _ _ _ _)) w1 (fI_t (fI_I (.inl rfl)) (fI_G f1)) (by rw [f1.2.1]; exact setI_oth (by decide))
  · refine Ev.sts 2 (c' := (144, [some (.inr (.inr (.inr (11, 0, 83)))), some (.inl (iZ (i))), some (.inl (iZ (f))), some (.inl (iZ (1))), some (.inl (iZ (c))), some (.inl (iZ (e))), j6], [.inl (iZ (3)), .inl (iZ (i)), .inr (.inr (.inr (20, 402, 85)))], h)) rfl ?_
    refine Ev.sto (j := (iZ (i))) (n := 402) (h2 := (setI h 85 i ((iZ (3))))) (iZ_in (by omega) (by omega) (by omega)) rfl (by rw [iZ_ix (n := i) (by omega) (by omega)]) ?_
    refine Ev.sts 2 (c' := (148, [some (.inr (.inr (.inr (11, 0, 83)))), some (.inl (iZ (i))), some (.inl (iZ (f))), some (.inl (iZ (1))), some (.inl (iZ (c))), some (.inl (iZ (e))), some (.inl (iZ (f)))], [], (setI h 85 i ((iZ (3)))))) rfl ?_
    refine mk_wd_lp ht hb hi he hfe (e + 1) f 0 0 _ (Sh_R2 sh rfl) (tpM_I t (fI_I (.inl rfl))) (by omega) (by omega) (by omega) hd ⟨Int.le_refl _, Int.le_refl _⟩ hw (fun h1 k1 w1 f1 => ?_)
    refine Ev.sts 1 (c' := (342, [some (.inr (.inr (.inr (11, 0, 83)))), some (.inl (iZ (i))), some (.inl (iZ (f))), some (.inl (iZ (1))), some (.inl (iZ (c))), some (.inl (iZ (e))), some (.inl (iZ (k1)))], [], h1)) rfl ?_
    exact q h1 k1 (by rw [f1.2.1]; first | (rw [if_pos (by omega)]; exact setI_self _ _ _ _) | (rw [if_neg (by omega)]; exact setI_self _ _ _ _)) w1 (fI_t (fI_I (.inl rfl)) (fI_G f1)) (by rw [f1.2.1]; exact setI_oth (by decide))

theorem mk_nb {d i e f : Nat} {c : Int} {j6 : Option VV} {tp : List Int} {h : PH} {Q : Rs → PH → Prop} (sh : Sh h) (t : tpM h tp) (ht : tp.length ≤ 1600) (hb : byT tp) (hi : i ≤ 400) (he : e ≤ tp.length) (hfe : f ≤ e) (hd : ∀ j, f ≤ j → j < e → isDg (by_ tp j) = true) (hw : h.2.1 86 i = lz 0) (q : ∀ (h1 : PH) (k1 : Int), h1.1 85 i = iZ (if e - f ≤ 4 then 1 else 3) → h1.2.1 86 i = lz (nbF (slc tp (min e (f + 4) - f) f) 0) → fI i h h1 → h1.1 87 = h.1 87 → Ev d 177 (342, [some (.inr (.inr (.inr (11, 0, 83)))), some (.inl (iZ (i))), some (.inl (iZ (f))), some (.inl (iZ (1))), some (.inl (iZ (c))), some (.inl (iZ (e))), some (.inl (iZ (k1)))], [], h1) Q) : Ev d 177 (237, [some (.inr (.inr (.inr (11, 0, 83)))), some (.inl (iZ (i))), some (.inl (iZ (f))), some (.inl (iZ (1))), some (.inl (iZ (c))), some (.inl (iZ (e))), j6], [], h) Q := by
  refine Ev.sts 1 (c' := (238, [some (.inr (.inr (.inr (11, 0, 83)))), some (.inl (iZ (i))), some (.inl (iZ (f))), some (.inl (iZ (1))), some (.inl (iZ (c))), some (.inl (iZ (e))), j6], [.inr (.inr (.inr (11, 0, 83)))], h)) rfl ?_
  refine Ev.gfr (r := (20, 402, 85)) rfl (sh_83_3 sh) ?_
  refine Ev.sts 3 (c' := (245, [some (.inr (.inr (.inr (11, 0, 83)))), some (.inl (iZ (i))), some (.inl (iZ (f))), some (.inl (iZ (1))), some (.inl (iZ (c))), some (.inl (iZ (e))), j6], [.inl (iZ (f)), .inl (iZ (e)), .inl (iZ (i)), .inr (.inr (.inr (20, 402, 85)))], h)) rfl ?_
  refine Ev.gv (w := (iZ (e - f))) rfl (iZ_sub _ _) ?_
  refine Ev.sts 1 (c' := (247, [some (.inr (.inr (.inr (11, 0, 83)))), some (.inl (iZ (i))), some (.inl (iZ (f))), some (.inl (iZ (1))), some (.inl (iZ (c))), some (.inl (iZ (e))), j6], [.inl (iZ (4)), .inl (iZ (e - f)), .inl (iZ (i)), .inr (.inr (.inr (20, 402, 85)))], h)) rfl ?_
  refine Ev.brc (p := (iZ (e - f)) ≤ (iZ (4))) (q := ((e - f : Int)) ≤ 4) (c1 := (254, [some (.inr (.inr (.inr (11, 0, 83)))), some (.inl (iZ (i))), some (.inl (iZ (f))), some (.inl (iZ (1))), some (.inl (iZ (c))), some (.inl (iZ (e))), j6], [.inl (iZ (i)), .inr (.inr (.inr (20, 402, 85)))], h)) (c2 := (250, [some (.inr (.inr (.inr (11, 0, 83)))), some (.inl (iZ (i))), some (.inl (iZ (f))), some (.inl (iZ (1))), some (.inl (iZ (c))), some (.inl (iZ (e))), j6], [.inl (iZ (i)), .inr (.inr (.inr (20, 402, 85)))], h)) rfl (iZ_le ⟨by omega, by omega⟩ ⟨by omega, by omega⟩) (fun c0 => ?_) (fun c0 => ?_)
  · refine Ev.sts 1 (c' := (255, [some (.inr (.inr (.inr (11, 0, 83)))), some (.inl (iZ (i))), some (.inl (iZ (f))), some (.inl (iZ (1))), some (.inl (iZ (c))), some (.inl (iZ (e))), j6], [.inl (iZ (1)), .inl (iZ (i)), .inr (.inr (.inr (20, 402, 85)))], h)) rfl ?_
    refine Ev.sto (j := (iZ (i))) (n := 402) (h2 := (setI h 85 i ((iZ (1))))) (iZ_in (by omega) (by omega) (by omega)) rfl (by rw [iZ_ix (n := i) (by omega) (by omega)]) ?_
    refine Ev.sts 2 (c' := (259, [some (.inr (.inr (.inr (11, 0, 83)))), some (.inl (iZ (i))), some (.inl (iZ (f))), some (.inl (iZ (1))), some (.inl (iZ (c))), some (.inl (iZ (e))), some (.inl (iZ (f)))], [], (setI h 85 i ((iZ (1)))))) rfl ?_
    refine mk_nb_lp ht hb hi he hfe (e + 1) f 0 _ (Sh_R2 sh rfl) (tpM_I t (fI_I (.inl rfl))) (by omega) (by omega) hd hw (fun h1 k1 w1 f1 => ?_)
    refine Ev.sts 1 (c' := (342, [some (.inr (.inr (.inr (11, 0, 83)))), some (.inl (iZ (i))), some (.inl (iZ (f))), some (.inl (iZ (1))), some (.inl (iZ (c))), some (.inl (iZ (e))), some (.inl (iZ (k1)))], [], h1)) rfl ?_
    exact q h1 k1 (by rw [f1.2.1]; first | (rw [if_pos (by omega)]; exact setI_self _ _ _ _) | (rw [if_neg (by omega)]; exact setI_self _ _ _ _)) w1 (fI_t (fI_I (.inl rfl)) (fI_G f1)) (by rw [f1.2.1]; exact setI_oth (by decide))
  · refine Ev.sts 2 (c' := (255, [some (.inr (.inr (.inr (11, 0, 83)))), some (.inl (iZ (i))), some (.inl (iZ (f))), some (.inl (iZ (1))), some (.inl (iZ (c))), some (.inl (iZ (e))), j6], [.inl (iZ (3)), .inl (iZ (i)), .inr (.inr (.inr (20, 402, 85)))], h)) rfl ?_
    refine Ev.sto (j := (iZ (i))) (n := 402) (h2 := (setI h 85 i ((iZ (3))))) (iZ_in (by omega) (by omega) (by omega)) rfl (by rw [iZ_ix (n := i) (by omega) (by omega)]) ?_
    refine Ev.sts 2 (c' := (259, [some (.inr (.inr (.inr (11, 0, 83)))), some (.inl (iZ (i))), some (.inl (iZ (f))), some (.inl (iZ (1))), some (.inl (iZ (c))), some (.inl (iZ (e))), some (.inl (iZ (f)))], [], (setI h 85 i ((iZ (3)))))) rfl ?_
    refine mk_nb_lp ht hb hi he hfe (e + 1) f 0 _ (Sh_R2 sh rfl) (tpM_I t (fI_I (.inl rfl))) (by omega) (by omega) hd hw (fun h1 k1 w1 f1 => ?_)
    refine Ev.sts 1 (c' := (342, [some (.inr (.inr (.inr (11, 0, 83)))), some (.inl (iZ (i))), some (.inl (iZ (f))), some (.inl (iZ (1))), some (.inl (iZ (c))), some (.inl (iZ (e))), some (.inl (iZ (k1)))], [], h1)) rfl ?_
    exact q h1 k1 (by rw [f1.2.1]; first | (rw [if_pos (by omega)]; exact setI_self _ _ _ _) | (rw [if_neg (by omega)]; exact setI_self _ _ _ _)) w1 (fI_t (fI_I (.inl rfl)) (fI_G f1)) (by rw [f1.2.1]; exact setI_oth (by decide))

theorem mk_sg {d i f : Nat} {e : Int} {j6 : Option VV} {tp : List Int} {h : PH} {Q : Rs → PH → Prop} (sh : Sh h) (hb : byT tp) (hi : i ≤ 400) (q : ∀ (h1 : PH) (j6 : Option VV), fI i h h1 → h1.1 87 = h.1 87 → ((26 ≤ kindS (by_ tp f) ∧ h1.1 85 i = iZ 2) ∨ (kindS (by_ tp f) = 1 ∧ h1.1 85 i = iZ 3)) → h1.2.1 86 i = (iZ (by_ tp f)).toInt64 → Ev (d + 4) 177 (342, [some (.inr (.inr (.inr (11, 0, 83)))), some (.inl (iZ (i))), some (.inl (iZ (f))), some (.inl (iZ (1))), some (.inl (iZ (by_ tp f))), some (.inl (iZ (e))), j6], [], h1) Q) : Ev (d + 4) 177 (312, [some (.inr (.inr (.inr (11, 0, 83)))), some (.inl (iZ (i))), some (.inl (iZ (f))), some (.inl (iZ (1))), some (.inl (iZ (by_ tp f))), some (.inl (iZ (e))), j6], [], h) Q := by
  refine Ev.sts 1 (c' := (313, [some (.inr (.inr (.inr (11, 0, 83)))), some (.inl (iZ (i))), some (.inl (iZ (f))), some (.inl (iZ (1))), some (.inl (iZ (by_ tp f))), some (.inl (iZ (e))), j6], [.inr (.inr (.inr (11, 0, 83)))], h)) rfl ?_
  refine Ev.gfr (r := (20, 402, 85)) rfl (sh_83_3 sh) ?_
  refine Ev.sts 3 (c' := (321, [some (.inr (.inr (.inr (11, 0, 83)))), some (.inl (iZ (i))), some (.inl (iZ (f))), some (.inl (iZ (1))), some (.inl (iZ (by_ tp f))), some (.inl (iZ (e))), j6], [.inl (iZ (by_ tp f)), .inr (.inr (.inr (43, 0, 39))), .inl (iZ (i)), .inr (.inr (.inr (20, 402, 85)))], h)) rfl ?_
  refine Ev.callw (a := [.inr (.inr (.inr (43, 0, 39))), .inl (iZ (by_ tp f))]) rfl (mk_sign (hb f) (fun i9 hi9 e9 => ?_) (fun e9 => ?_))
  · refine Ev.brc (p := (iZ (i9)) < (iZ (0))) (q := ((i9 : Int)) < 0) (c1 := (331, [some (.inr (.inr (.inr (11, 0, 83)))), some (.inl (iZ (i))), some (.inl (iZ (f))), some (.inl (iZ (1))), some (.inl (iZ (by_ tp f))), some (.inl (iZ (e))), j6], [.inl (iZ (i)), .inr (.inr (.inr (20, 402, 85)))], h)) (c2 := (327, [some (.inr (.inr (.inr (11, 0, 83)))), some (.inl (iZ (i))), some (.inl (iZ (f))), some (.inl (iZ (1))), some (.inl (iZ (by_ tp f))), some (.inl (iZ (e))), j6], [.inl (iZ (i)), .inr (.inr (.inr (20, 402, 85)))], h)) rfl (iZ_lt ⟨by omega, by omega⟩ ⟨by omega, by omega⟩) (fun c1 => ?_) (fun c1 => ?_)
    · refine Ev.sts 1 (c' := (332, [some (.inr (.inr (.inr (11, 0, 83)))), some (.inl (iZ (i))), some (.inl (iZ (f))), some (.inl (iZ (1))), some (.inl (iZ (by_ tp f))), some (.inl (iZ (e))), j6], [.inl (iZ (3)), .inl (iZ (i)), .inr (.inr (.inr (20, 402, 85)))], h)) rfl ?_
      refine Ev.sto (j := (iZ (i))) (n := 402) (h2 := (setI h 85 i ((iZ (3))))) (iZ_in (by omega) (by omega) (by omega)) rfl (by rw [iZ_ix (n := i) (by omega) (by omega)]) ?_
      refine Ev.sts 1 (c' := (334, [some (.inr (.inr (.inr (11, 0, 83)))), some (.inl (iZ (i))), some (.inl (iZ (f))), some (.inl (iZ (1))), some (.inl (iZ (by_ tp f))), some (.inl (iZ (e))), j6], [.inr (.inr (.inr (11, 0, 83)))], (setI h 85 i ((iZ (3)))))) rfl ?_
      refine Ev.gfr (r := (21, 402, 86)) rfl (sh_83_4 sh) ?_
      refine Ev.sts 3 (c' := (341, [some (.inr (.inr (.inr (11, 0, 83)))), some (.inl (iZ (i))), some (.inl (iZ (f))), some (.inl (iZ (1))), some (.inl (iZ (by_ tp f))), some (.inl (iZ (e))), j6], [.inr (.inl (((iZ (by_ tp f))).toInt64)), .inl (iZ (i)), .inr (.inr (.inr (21, 402, 86)))], (setI h 85 i ((iZ (3)))))) rfl ?_
      refine Ev.sto (j := (iZ (i))) (n := 402) (h2 := (setL (setI h 85 i ((iZ (3)))) 86 i (((iZ (by_ tp f))).toInt64))) (iZ_in (by omega) (by omega) (by omega)) rfl (by rw [iZ_ix (n := i) (by omega) (by omega)]) ?_
      first | (exfalso; omega) | refine q _ _ (fI_t (fI_I (.inl rfl)) fI_L) (setI_oth (h := h) (a := 85) (k := i) (b := 87) (v := ((iZ (3)))) (by decide)) ?_ (setL_self _ _ _ _)
      all_goals first | exact .inl ⟨by assumption, setI_self _ _ _ _⟩ | exact .inr ⟨by assumption, setI_self _ _ _ _⟩
    · refine Ev.sts 2 (c' := (332, [some (.inr (.inr (.inr (11, 0, 83)))), some (.inl (iZ (i))), some (.inl (iZ (f))), some (.inl (iZ (1))), some (.inl (iZ (by_ tp f))), some (.inl (iZ (e))), j6], [.inl (iZ (2)), .inl (iZ (i)), .inr (.inr (.inr (20, 402, 85)))], h)) rfl ?_
      refine Ev.sto (j := (iZ (i))) (n := 402) (h2 := (setI h 85 i ((iZ (2))))) (iZ_in (by omega) (by omega) (by omega)) rfl (by rw [iZ_ix (n := i) (by omega) (by omega)]) ?_
      refine Ev.sts 1 (c' := (334, [some (.inr (.inr (.inr (11, 0, 83)))), some (.inl (iZ (i))), some (.inl (iZ (f))), some (.inl (iZ (1))), some (.inl (iZ (by_ tp f))), some (.inl (iZ (e))), j6], [.inr (.inr (.inr (11, 0, 83)))], (setI h 85 i ((iZ (2)))))) rfl ?_
      refine Ev.gfr (r := (21, 402, 86)) rfl (sh_83_4 sh) ?_
      refine Ev.sts 3 (c' := (341, [some (.inr (.inr (.inr (11, 0, 83)))), some (.inl (iZ (i))), some (.inl (iZ (f))), some (.inl (iZ (1))), some (.inl (iZ (by_ tp f))), some (.inl (iZ (e))), j6], [.inr (.inl (((iZ (by_ tp f))).toInt64)), .inl (iZ (i)), .inr (.inr (.inr (21, 402, 86)))], (setI h 85 i ((iZ (2)))))) rfl ?_
      refine Ev.sto (j := (iZ (i))) (n := 402) (h2 := (setL (setI h 85 i ((iZ (2)))) 86 i (((iZ (by_ tp f))).toInt64))) (iZ_in (by omega) (by omega) (by omega)) rfl (by rw [iZ_ix (n := i) (by omega) (by omega)]) ?_
      first | (exfalso; omega) | refine q _ _ (fI_t (fI_I (.inl rfl)) fI_L) (setI_oth (h := h) (a := 85) (k := i) (b := 87) (v := ((iZ (2)))) (by decide)) ?_ (setL_self _ _ _ _)
      all_goals first | exact .inl ⟨by assumption, setI_self _ _ _ _⟩ | exact .inr ⟨by assumption, setI_self _ _ _ _⟩
  · refine Ev.brT (p := (iZ (-1)) < (iZ (0))) (c1 := (331, [some (.inr (.inr (.inr (11, 0, 83)))), some (.inl (iZ (i))), some (.inl (iZ (f))), some (.inl (iZ (1))), some (.inl (iZ (by_ tp f))), some (.inl (iZ (e))), j6], [.inl (iZ (i)), .inr (.inr (.inr (20, 402, 85)))], h)) (c2 := (327, [some (.inr (.inr (.inr (11, 0, 83)))), some (.inl (iZ (i))), some (.inl (iZ (f))), some (.inl (iZ (1))), some (.inl (iZ (by_ tp f))), some (.inl (iZ (e))), j6], [.inl (iZ (i)), .inr (.inr (.inr (20, 402, 85)))], h)) (by decide) rfl ?_
    refine Ev.sts 1 (c' := (332, [some (.inr (.inr (.inr (11, 0, 83)))), some (.inl (iZ (i))), some (.inl (iZ (f))), some (.inl (iZ (1))), some (.inl (iZ (by_ tp f))), some (.inl (iZ (e))), j6], [.inl (iZ (3)), .inl (iZ (i)), .inr (.inr (.inr (20, 402, 85)))], h)) rfl ?_
    refine Ev.sto (j := (iZ (i))) (n := 402) (h2 := (setI h 85 i ((iZ (3))))) (iZ_in (by omega) (by omega) (by omega)) rfl (by rw [iZ_ix (n := i) (by omega) (by omega)]) ?_
    refine Ev.sts 1 (c' := (334, [some (.inr (.inr (.inr (11, 0, 83)))), some (.inl (iZ (i))), some (.inl (iZ (f))), some (.inl (iZ (1))), some (.inl (iZ (by_ tp f))), some (.inl (iZ (e))), j6], [.inr (.inr (.inr (11, 0, 83)))], (setI h 85 i ((iZ (3)))))) rfl ?_
    refine Ev.gfr (r := (21, 402, 86)) rfl (sh_83_4 sh) ?_
    refine Ev.sts 3 (c' := (341, [some (.inr (.inr (.inr (11, 0, 83)))), some (.inl (iZ (i))), some (.inl (iZ (f))), some (.inl (iZ (1))), some (.inl (iZ (by_ tp f))), some (.inl (iZ (e))), j6], [.inr (.inl (((iZ (by_ tp f))).toInt64)), .inl (iZ (i)), .inr (.inr (.inr (21, 402, 86)))], (setI h 85 i ((iZ (3)))))) rfl ?_
    refine Ev.sto (j := (iZ (i))) (n := 402) (h2 := (setL (setI h 85 i ((iZ (3)))) 86 i (((iZ (by_ tp f))).toInt64))) (iZ_in (by omega) (by omega) (by omega)) rfl (by rw [iZ_ix (n := i) (by omega) (by omega)]) ?_
    first | (exfalso; omega) | refine q _ _ (fI_t (fI_I (.inl rfl)) fI_L) (setI_oth (h := h) (a := 85) (k := i) (b := 87) (v := ((iZ (3)))) (by decide)) ?_ (setL_self _ _ _ _)
    all_goals first | exact .inl ⟨by assumption, setI_self _ _ _ _⟩ | exact .inr ⟨by assumption, setI_self _ _ _ _⟩

theorem mkJ_w {tp : List Int} {f i : Nat} {h1 : PH} (h0 : f < tp.length) (cl : isLt (by_ tp f) = true) (s1 : h1.1 85 i = iZ (if tkE tp f - f ≤ 8 then 0 else 3)) (st : h1.1 87 i = iZ f) (w1 : h1.2.1 86 i = lz (enF (slc tp (min (tkE tp f) (f + 8) - f) f) 0)) : tmJ h1 i (tkA tp f) := by
  unfold tkA
  rw [if_pos cl]
  by_cases h8 : tkE tp f - f ≤ 8
  · rw [if_pos h8] at s1 ⊢
    obtain ⟨b1, b2⟩ := wdO_b h0 cl h8
    have e := tkE_b h0
    rw [show min (tkE tp f) (f + 8) = tkE tp f by omega] at w1
    replace w1 : h1.2.1 86 i = lz (wdO tp f (tkE tp f)) := w1
    generalize wdO tp f (tkE tp f) = w at b1 b2 w1
    rcases kindW_k (w := w) (by omega) with ⟨a, b⟩ | ⟨a, b, d⟩
    · rw [a, if_pos rfl]
      exact ⟨s1, st, fun _ => w1⟩
    · rw [if_neg (by omega)]
      refine ⟨?_, st, fun _ => ?_⟩
      · show h1.1 85 i = iZ (srK (kindW w))
        unfold srK
        rw [if_neg (by omega), if_neg (by omega), if_neg (by omega), if_neg (by omega)]
        exact s1
      · show h1.2.1 86 i = lz (whK (kindW w, (f : Int), 0, 0))
        unfold whK
        show h1.2.1 86 i = lz (if kindW w = 2 then 0 else if kindW w = 3 then 0 else if 26 ≤ kindW w then (txts.getD (kindW w) []).getD 0 0 else if 4 ≤ kindW w then kwL.getD (kindW w) 0 else 0)
        rw [if_neg (by omega), if_neg (by omega), if_neg (by omega), if_pos (by omega), d]
        exact w1
  · rw [if_neg h8] at s1 ⊢
    exact ⟨s1, st, fun z => absurd rfl z⟩
theorem mkJ_n {tp : List Int} {f i : Nat} {h1 : PH} (h0 : f < tp.length) (cl : ¬ isLt (by_ tp f) = true) (cd : isDg (by_ tp f) = true) (s1 : h1.1 85 i = iZ (if tkE tp f - f ≤ 4 then 1 else 3)) (st : h1.1 87 i = iZ f) (w1 : h1.2.1 86 i = lz (nbF (slc tp (min (tkE tp f) (f + 4) - f) f) 0)) : tmJ h1 i (tkA tp f) := by
  unfold tkA
  rw [if_neg cl, if_pos cd]
  by_cases h4 : tkE tp f - f ≤ 4
  · rw [if_pos h4] at s1 ⊢
    have e := tkE_b h0
    rw [show min (tkE tp f) (f + 4) = tkE tp f by omega] at w1
    exact ⟨s1, st, fun _ => w1⟩
  · rw [if_neg h4] at s1 ⊢
    exact ⟨s1, st, fun z => absurd rfl z⟩
theorem mkJ_s {tp : List Int} {f i : Nat} {h1 : PH} (hb : -128 ≤ by_ tp f ∧ by_ tp f < 128) (cl : ¬ isLt (by_ tp f) = true) (cd : ¬ isDg (by_ tp f) = true) (s1 : (26 ≤ kindS (by_ tp f) ∧ h1.1 85 i = iZ 2) ∨ (kindS (by_ tp f) = 1 ∧ h1.1 85 i = iZ 3)) (st : h1.1 87 i = iZ f) (w1 : h1.2.1 86 i = (iZ (by_ tp f)).toInt64) : tmJ h1 i (tkA tp f) := by
  unfold tkA
  rw [if_neg cl, if_neg cd]
  rw [lz_i ⟨by omega, by omega⟩] at w1
  have sk := sg_k hb
  refine ⟨?_, st, fun n => ?_⟩
  · show h1.1 85 i = iZ (srK (kindS (by_ tp f)))
    unfold srK
    rcases s1 with ⟨a, b⟩ | ⟨a, b⟩
    · rw [if_neg (by omega), if_neg (by omega), if_neg (by omega), if_pos a]; exact b
    · rw [if_neg (by omega), if_pos a]; exact b
  · replace n : kindS (by_ tp f) ≠ 1 := n
    rcases sk with ⟨⟨a, b⟩, -⟩ | ⟨a, -⟩
    · show h1.2.1 86 i = lz (if kindS (by_ tp f) = 2 then 0 else if kindS (by_ tp f) = 3 then 0 else if 26 ≤ kindS (by_ tp f) then (txts.getD (kindS (by_ tp f)) []).getD 0 0 else if 4 ≤ kindS (by_ tp f) then kwL.getD (kindS (by_ tp f)) 0 else 0)
      rw [if_neg (by omega), if_neg (by omega), if_pos a, b]
      exact w1
    · exact absurd a n
theorem mk_tok {d i f : Nat} {j4 j5 j6 : Option VV} {tp : List Int} {h : PH} {Q : Rs → PH → Prop} (sh : Sh h) (t : tpM h tp) (ht : tp.length ≤ 1600) (hb : byT tp) (hi : i ≤ 400) (h0 : f < tp.length) (q : ∀ (h1 : PH) (j4 j6 : Option VV), tmJ h1 i (tkA tp f) → fI i h h1 → Ev (d + 4) 177 (342, [some (.inr (.inr (.inr (11, 0, 83)))), some (.inl (iZ (i))), some (.inl (iZ (f))), some (.inl (iZ (1))), j4, some (.inl (iZ (tkE tp f))), j6], [], h1) Q) : Ev (d + 4) 177 (46, [some (.inr (.inr (.inr (11, 0, 83)))), some (.inl (iZ (i))), some (.inl (iZ (f))), some (.inl (iZ (1))), j4, j5, j6], [], h) Q := by
  have fst : fI i h (setL (setI h 87 i (iZ f)) 86 i (0 : Int64)) := fI_t (fI_I (.inr rfl)) fI_L
  refine Ev.sts 1 (c' := (47, [some (.inr (.inr (.inr (11, 0, 83)))), some (.inl (iZ (i))), some (.inl (iZ (f))), some (.inl (iZ (1))), j4, j5, j6], [.inr (.inr (.inr (11, 0, 83)))], h)) rfl ?_
  refine Ev.gfr (r := (20, 402, 87)) rfl (sh_83_5 sh) ?_
  refine Ev.sts 2 (c' := (52, [some (.inr (.inr (.inr (11, 0, 83)))), some (.inl (iZ (i))), some (.inl (iZ (f))), some (.inl (iZ (1))), j4, j5, j6], [.inl (iZ (f)), .inl (iZ (i)), .inr (.inr (.inr (20, 402, 87)))], h)) rfl ?_
  refine Ev.sto (j := (iZ (i))) (n := 402) (h2 := (setI h 87 i ((iZ (f))))) (iZ_in (by omega) (by omega) (by omega)) rfl (by rw [iZ_ix (n := i) (by omega) (by omega)]) ?_
  refine Ev.sts 1 (c' := (54, [some (.inr (.inr (.inr (11, 0, 83)))), some (.inl (iZ (i))), some (.inl (iZ (f))), some (.inl (iZ (1))), j4, j5, j6], [.inr (.inr (.inr (11, 0, 83)))], (setI h 87 i ((iZ (f)))))) rfl ?_
  refine Ev.gfr (r := (21, 402, 86)) rfl (sh_83_4 sh) ?_
  refine Ev.sts 2 (c' := (59, [some (.inr (.inr (.inr (11, 0, 83)))), some (.inl (iZ (i))), some (.inl (iZ (f))), some (.inl (iZ (1))), j4, j5, j6], [.inr (.inl ((0 : Int64))), .inl (iZ (i)), .inr (.inr (.inr (21, 402, 86)))], (setI h 87 i ((iZ (f)))))) rfl ?_
  refine Ev.sto (j := (iZ (i))) (n := 402) (h2 := (setL (setI h 87 i ((iZ (f)))) 86 i ((0 : Int64)))) (iZ_in (by omega) (by omega) (by omega)) rfl (by rw [iZ_ix (n := i) (by omega) (by omega)]) ?_
  refine Ev.sts 2 (c' := (62, [some (.inr (.inr (.inr (11, 0, 83)))), some (.inl (iZ (i))), some (.inl (iZ (f))), some (.inl (iZ (1))), j4, j5, j6], [.inr (.inr (.inr (11, 0, 83))), .inl (iZ (f))], (setL (setI h 87 i ((iZ (f)))) 86 i ((0 : Int64))))) rfl ?_
  refine Ev.gv (w := (iZ (tp.length))) rfl t.1 ?_
  refine Ev.brT (p := ¬ (iZ (f)) = (iZ (tp.length))) (c1 := (76, [some (.inr (.inr (.inr (11, 0, 83)))), some (.inl (iZ (i))), some (.inl (iZ (f))), some (.inl (iZ (1))), j4, j5, j6], [], (setL (setI h 87 i ((iZ (f)))) 86 i ((0 : Int64))))) (c2 := (68, [some (.inr (.inr (.inr (11, 0, 83)))), some (.inl (iZ (i))), some (.inl (iZ (f))), some (.inl (iZ (1))), j4, j5, j6], [], (setL (setI h 87 i ((iZ (f)))) 86 i ((0 : Int64))))) ((not_congr (iZ_eq ⟨by omega, by omega⟩ ⟨by omega, by omega⟩)).mpr (by omega)) rfl ?_
  refine Ev.sts 1 (c' := (77, [some (.inr (.inr (.inr (11, 0, 83)))), some (.inl (iZ (i))), some (.inl (iZ (f))), some (.inl (iZ (1))), j4, j5, j6], [.inr (.inr (.inr (11, 0, 83)))], (setL (setI h 87 i ((iZ (f)))) 86 i ((0 : Int64))))) rfl ?_
  refine Ev.gfr (r := (22, 1600, 84)) rfl (sh_83_1 sh) ?_
  refine Ev.sts 1 (c' := (81, [some (.inr (.inr (.inr (11, 0, 83)))), some (.inl (iZ (i))), some (.inl (iZ (f))), some (.inl (iZ (1))), j4, j5, j6], [.inl (iZ (f)), .inr (.inr (.inr (22, 1600, 84)))], (setL (setI h 87 i ((iZ (f)))) 86 i ((0 : Int64))))) rfl ?_
  refine Ev.ldv (j := (iZ (f))) (n := 1600) (w := .inl (iZ (by_ tp f))) (iZ_in (by omega) (by omega) (by omega)) rfl (by rw [iZ_ix (n := f) (by omega) (by omega)]; exact congrArg vI (t.2 f (by omega))) ?_
  refine Ev.sts 3 (c' := (86, [some (.inr (.inr (.inr (11, 0, 83)))), some (.inl (iZ (i))), some (.inl (iZ (f))), some (.inl (iZ (1))), some (.inl (iZ (by_ tp f))), j5, j6], [.inl (iZ (1)), .inl (iZ (f))], (setL (setI h 87 i ((iZ (f)))) 86 i ((0 : Int64))))) rfl ?_
  refine Ev.gv (w := (iZ (f + 1))) rfl (iZ_add _ _) ?_
  refine Ev.sts 2 (c' := (91, [some (.inr (.inr (.inr (11, 0, 83)))), some (.inl (iZ (i))), some (.inl (iZ (f))), some (.inl (iZ (1))), some (.inl (iZ (by_ tp f))), some (.inl (iZ (f + 1))), j6], [.inl (iZ (by_ tp f))], (setL (setI h 87 i ((iZ (f)))) 86 i ((0 : Int64))))) rfl ?_
  refine Ev.callw (a := [.inl (iZ (by_ tp f))]) rfl (mk_isLt (hb f) (fun c0 => ?_) (fun c0 => ?_))
  · refine Ev.brF (p := (iZ (1)) = (iZ (0))) (c1 := (201, [some (.inr (.inr (.inr (11, 0, 83)))), some (.inl (iZ (i))), some (.inl (iZ (f))), some (.inl (iZ (1))), some (.inl (iZ (by_ tp f))), some (.inl (iZ (f + 1))), j6], [], (setL (setI h 87 i ((iZ (f)))) 86 i ((0 : Int64))))) (c2 := (97, [some (.inr (.inr (.inr (11, 0, 83)))), some (.inl (iZ (i))), some (.inl (iZ (f))), some (.inl (iZ (1))), some (.inl (iZ (by_ tp f))), some (.inl (iZ (f + 1))), j6], [], (setL (setI h 87 i ((iZ (f)))) 86 i ((0 : Int64))))) (by decide) rfl ?_
    refine mk_lt_lp (h := (setL (setI h 87 i ((iZ (f)))) 86 i ((0 : Int64)))) (Sh_R2 sh rfl) (tpM_I t fst) ht hb (tp.length + 1) (f + 1) (by omega) (by omega) ?_
    have cl : isLt (by_ tp f) = true := by assumption
    have e0 : tkE tp f = rn isLt tp (f + 1) := by unfold tkE; rw [if_pos cl]; exact rn_s h0 cl
    rw [← e0]
    refine mk_wd (h := (setL (setI h 87 i ((iZ (f)))) 86 i ((0 : Int64)))) (Sh_R2 sh rfl) (tpM_I t fst) ht hb hi (tkE_b h0).2 (Nat.le_of_lt (tkE_b h0).1) (fun j h1 h2 => by rw [e0, ← rn_s h0 cl] at h2; exact (rn_all j h1 h2).2) (setL_self _ _ _ _) (fun h1 k1 s1 w1 f1 g1 => q h1 _ _ (mkJ_w h0 cl s1 (by rw [g1]; exact setI_self _ _ _ _) w1) (fI_t fst f1))
  · refine Ev.brT (p := (iZ (0)) = (iZ (0))) (c1 := (201, [some (.inr (.inr (.inr (11, 0, 83)))), some (.inl (iZ (i))), some (.inl (iZ (f))), some (.inl (iZ (1))), some (.inl (iZ (by_ tp f))), some (.inl (iZ (f + 1))), j6], [], (setL (setI h 87 i ((iZ (f)))) 86 i ((0 : Int64))))) (c2 := (97, [some (.inr (.inr (.inr (11, 0, 83)))), some (.inl (iZ (i))), some (.inl (iZ (f))), some (.inl (iZ (1))), some (.inl (iZ (by_ tp f))), some (.inl (iZ (f + 1))), j6], [], (setL (setI h 87 i ((iZ (f)))) 86 i ((0 : Int64))))) (by decide) rfl ?_
    refine Ev.sts 1 (c' := (203, [some (.inr (.inr (.inr (11, 0, 83)))), some (.inl (iZ (i))), some (.inl (iZ (f))), some (.inl (iZ (1))), some (.inl (iZ (by_ tp f))), some (.inl (iZ (f + 1))), j6], [.inl (iZ (by_ tp f))], (setL (setI h 87 i ((iZ (f)))) 86 i ((0 : Int64))))) rfl ?_
    refine Ev.callw (a := [.inl (iZ (by_ tp f))]) rfl (mk_isDg (hb f) (fun c1 => ?_) (fun c1 => ?_))
    · refine Ev.brF (p := (iZ (1)) = (iZ (0))) (c1 := (312, [some (.inr (.inr (.inr (11, 0, 83)))), some (.inl (iZ (i))), some (.inl (iZ (f))), some (.inl (iZ (1))), some (.inl (iZ (by_ tp f))), some (.inl (iZ (f + 1))), j6], [], (setL (setI h 87 i ((iZ (f)))) 86 i ((0 : Int64))))) (c2 := (209, [some (.inr (.inr (.inr (11, 0, 83)))), some (.inl (iZ (i))), some (.inl (iZ (f))), some (.inl (iZ (1))), some (.inl (iZ (by_ tp f))), some (.inl (iZ (f + 1))), j6], [], (setL (setI h 87 i ((iZ (f)))) 86 i ((0 : Int64))))) (by decide) rfl ?_
      refine mk_dg_lp (h := (setL (setI h 87 i ((iZ (f)))) 86 i ((0 : Int64)))) (Sh_R2 sh rfl) (tpM_I t fst) ht hb (tp.length + 1) (f + 1) (by omega) (by omega) ?_
      have cl : ¬ isLt (by_ tp f) = true := by assumption
      have cd : isDg (by_ tp f) = true := by assumption
      have e0 : tkE tp f = rn isDg tp (f + 1) := by unfold tkE; rw [if_neg cl, if_pos cd]; exact rn_s h0 cd
      rw [← e0]
      refine mk_nb (h := (setL (setI h 87 i ((iZ (f)))) 86 i ((0 : Int64)))) (Sh_R2 sh rfl) (tpM_I t fst) ht hb hi (tkE_b h0).2 (Nat.le_of_lt (tkE_b h0).1) (fun j h1 h2 => by rw [e0, ← rn_s h0 cd] at h2; exact (rn_all j h1 h2).2) (setL_self _ _ _ _) (fun h1 k1 s1 w1 f1 g1 => q h1 _ _ (mkJ_n h0 cl cd s1 (by rw [g1]; exact setI_self _ _ _ _) w1) (fI_t fst f1))
    · refine Ev.brT (p := (iZ (0)) = (iZ (0))) (c1 := (312, [some (.inr (.inr (.inr (11, 0, 83)))), some (.inl (iZ (i))), some (.inl (iZ (f))), some (.inl (iZ (1))), some (.inl (iZ (by_ tp f))), some (.inl (iZ (f + 1))), j6], [], (setL (setI h 87 i ((iZ (f)))) 86 i ((0 : Int64))))) (c2 := (209, [some (.inr (.inr (.inr (11, 0, 83)))), some (.inl (iZ (i))), some (.inl (iZ (f))), some (.inl (iZ (1))), some (.inl (iZ (by_ tp f))), some (.inl (iZ (f + 1))), j6], [], (setL (setI h 87 i ((iZ (f)))) 86 i ((0 : Int64))))) (by decide) rfl ?_
      have cl : ¬ isLt (by_ tp f) = true := by assumption
      have cd : ¬ isDg (by_ tp f) = true := by assumption
      have e0 : tkE tp f = f + 1 := by unfold tkE; rw [if_neg cl, if_neg cd]
      rw [e0] at q
      refine mk_sg (h := (setL (setI h 87 i ((iZ (f)))) 86 i ((0 : Int64)))) (Sh_R2 sh rfl) hb hi (fun h1 j6 f1 g1 s1 w1 => q h1 _ _ (mkJ_s (hb f) cl cd s1 (by rw [g1]; exact setI_self _ _ _ _) w1) (fI_t fst f1))

theorem mk_go {d i : Nat} {f e s : Int} {j4 j6 : Option VV} {h : PH} {Q : Rs → PH → Prop} (sh : Sh h) (hi : i < 400) (c : h.1 85 i = iZ s) (hs : 0 ≤ s ∧ s ≤ 4) (qg : s ≠ 3 → Ev d 177 (6, [some (.inr (.inr (.inr (11, 0, 83)))), some (.inl (iZ (i + 1))), some (.inl (iZ (e))), some (.inl (iZ (1))), j4, some (.inl (iZ (e))), j6], [], h) Q) (qs : s = 3 → Ev d 177 (6, [some (.inr (.inr (.inr (11, 0, 83)))), some (.inl (iZ (i + 1))), some (.inl (iZ (e))), some (.inl (iZ (0))), j4, some (.inl (iZ (e))), j6], [], h) Q) : Ev d 177 (342, [some (.inr (.inr (.inr (11, 0, 83)))), some (.inl (iZ (i))), some (.inl (iZ (f))), some (.inl (iZ (1))), j4, some (.inl (iZ (e))), j6], [], h) Q := by
  refine Ev.sts 2 (c' := (346, [some (.inr (.inr (.inr (11, 0, 83)))), some (.inl (iZ (i))), some (.inl (iZ (f))), some (.inl (iZ (1))), j4, some (.inl (iZ (e))), j6], [.inl (iZ (400)), .inl (iZ (i))], h)) rfl ?_
  refine Ev.brT (p := ¬ (iZ (i)) = (iZ (400))) (c1 := (356, [some (.inr (.inr (.inr (11, 0, 83)))), some (.inl (iZ (i))), some (.inl (iZ (f))), some (.inl (iZ (1))), j4, some (.inl (iZ (e))), j6], [], h)) (c2 := (349, [some (.inr (.inr (.inr (11, 0, 83)))), some (.inl (iZ (i))), some (.inl (iZ (f))), some (.inl (iZ (1))), j4, some (.inl (iZ (e))), j6], [], h)) ((not_congr (iZ_eq ⟨by omega, by omega⟩ ⟨by omega, by omega⟩)).mpr (by omega)) rfl ?_
  refine Ev.sts 1 (c' := (357, [some (.inr (.inr (.inr (11, 0, 83)))), some (.inl (iZ (i))), some (.inl (iZ (f))), some (.inl (iZ (1))), j4, some (.inl (iZ (e))), j6], [.inr (.inr (.inr (11, 0, 83)))], h)) rfl ?_
  refine Ev.gfr (r := (20, 402, 85)) rfl (sh_83_3 sh) ?_
  refine Ev.sts 1 (c' := (361, [some (.inr (.inr (.inr (11, 0, 83)))), some (.inl (iZ (i))), some (.inl (iZ (f))), some (.inl (iZ (1))), j4, some (.inl (iZ (e))), j6], [.inl (iZ (i)), .inr (.inr (.inr (20, 402, 85)))], h)) rfl ?_
  refine Ev.ldv (j := (iZ (i))) (n := 402) (w := .inl (iZ (s))) (iZ_in (by omega) (by omega) (by omega)) rfl (by rw [iZ_ix (n := i) (by omega) (by omega)]; exact congrArg vI c) ?_
  refine Ev.sts 1 (c' := (363, [some (.inr (.inr (.inr (11, 0, 83)))), some (.inl (iZ (i))), some (.inl (iZ (f))), some (.inl (iZ (1))), j4, some (.inl (iZ (e))), j6], [.inl (iZ (3)), .inl (iZ (s))], h)) rfl ?_
  refine Ev.brc (p := (iZ (s)) = (iZ (3))) (q := ((s : Int)) = 3) (c1 := (370, [some (.inr (.inr (.inr (11, 0, 83)))), some (.inl (iZ (i))), some (.inl (iZ (f))), some (.inl (iZ (1))), j4, some (.inl (iZ (e))), j6], [], h)) (c2 := (366, [some (.inr (.inr (.inr (11, 0, 83)))), some (.inl (iZ (i))), some (.inl (iZ (f))), some (.inl (iZ (1))), j4, some (.inl (iZ (e))), j6], [], h)) rfl (iZ_eq ⟨by omega, by omega⟩ ⟨by omega, by omega⟩) (fun c0 => ?_) (fun c0 => ?_)
  · refine Ev.sts 2 (c' := (372, [some (.inr (.inr (.inr (11, 0, 83)))), some (.inl (iZ (i))), some (.inl (iZ (f))), some (.inl (iZ (0))), j4, some (.inl (iZ (e))), j6], [], h)) rfl ?_
    refine Ev.stc (c1 := (375, [some (.inr (.inr (.inr (11, 0, 83)))), some (.inl ((iZ (i)) + (iZ (1)))), some (.inl (iZ (f))), some (.inl (iZ (0))), j4, some (.inl (iZ (e))), j6], [], h)) (c2 := (375, [some (.inr (.inr (.inr (11, 0, 83)))), some (.inl (iZ (i + 1))), some (.inl (iZ (f))), some (.inl (iZ (0))), j4, some (.inl (iZ (e))), j6], [], h)) rfl (by rw [iZ_add]) ?_
    refine Ev.sts 3 (c' := (6, [some (.inr (.inr (.inr (11, 0, 83)))), some (.inl (iZ (i + 1))), some (.inl (iZ (e))), some (.inl (iZ (0))), j4, some (.inl (iZ (e))), j6], [], h)) rfl ?_
    exact qs (by omega)
  · refine Ev.sts 3 (c' := (372, [some (.inr (.inr (.inr (11, 0, 83)))), some (.inl (iZ (i))), some (.inl (iZ (f))), some (.inl (iZ (1))), j4, some (.inl (iZ (e))), j6], [], h)) rfl ?_
    refine Ev.stc (c1 := (375, [some (.inr (.inr (.inr (11, 0, 83)))), some (.inl ((iZ (i)) + (iZ (1)))), some (.inl (iZ (f))), some (.inl (iZ (1))), j4, some (.inl (iZ (e))), j6], [], h)) (c2 := (375, [some (.inr (.inr (.inr (11, 0, 83)))), some (.inl (iZ (i + 1))), some (.inl (iZ (f))), some (.inl (iZ (1))), j4, some (.inl (iZ (e))), j6], [], h)) rfl (by rw [iZ_add]) ?_
    refine Ev.sts 3 (c' := (6, [some (.inr (.inr (.inr (11, 0, 83)))), some (.inl (iZ (i + 1))), some (.inl (iZ (e))), some (.inl (iZ (1))), j4, some (.inl (iZ (e))), j6], [], h)) rfl ?_
    exact qg (by omega)

theorem mk_go4 {d : Nat} {f e : Int} {j4 j6 : Option VV} {h : PH} {Q : Rs → PH → Prop} (sh : Sh h) (q : Ev d 177 (6, [some (.inr (.inr (.inr (11, 0, 83)))), some (.inl (iZ (401))), some (.inl (iZ (e))), some (.inl (iZ (0))), j4, some (.inl (iZ (e))), j6], [], (setI h 85 400 (iZ 3))) Q) : Ev d 177 (342, [some (.inr (.inr (.inr (11, 0, 83)))), some (.inl (iZ (400))), some (.inl (iZ (f))), some (.inl (iZ (1))), j4, some (.inl (iZ (e))), j6], [], h) Q := by
  refine Ev.sts 2 (c' := (346, [some (.inr (.inr (.inr (11, 0, 83)))), some (.inl (iZ (400))), some (.inl (iZ (f))), some (.inl (iZ (1))), j4, some (.inl (iZ (e))), j6], [.inl (iZ (400)), .inl (iZ (400))], h)) rfl ?_
  refine Ev.brF (p := ¬ (iZ (400)) = (iZ (400))) (c1 := (356, [some (.inr (.inr (.inr (11, 0, 83)))), some (.inl (iZ (400))), some (.inl (iZ (f))), some (.inl (iZ (1))), j4, some (.inl (iZ (e))), j6], [], h)) (c2 := (349, [some (.inr (.inr (.inr (11, 0, 83)))), some (.inl (iZ (400))), some (.inl (iZ (f))), some (.inl (iZ (1))), j4, some (.inl (iZ (e))), j6], [], h)) (by decide) rfl ?_
  refine Ev.sts 1 (c' := (350, [some (.inr (.inr (.inr (11, 0, 83)))), some (.inl (iZ (400))), some (.inl (iZ (f))), some (.inl (iZ (1))), j4, some (.inl (iZ (e))), j6], [.inr (.inr (.inr (11, 0, 83)))], h)) rfl ?_
  refine Ev.gfr (r := (20, 402, 85)) rfl (sh_83_3 sh) ?_
  refine Ev.sts 2 (c' := (355, [some (.inr (.inr (.inr (11, 0, 83)))), some (.inl (iZ (400))), some (.inl (iZ (f))), some (.inl (iZ (1))), j4, some (.inl (iZ (e))), j6], [.inl (iZ (3)), .inl (iZ (400)), .inr (.inr (.inr (20, 402, 85)))], h)) rfl ?_
  refine Ev.sto (j := (iZ (400))) (n := 402) (h2 := (setI h 85 400 ((iZ (3))))) (by decide) rfl rfl ?_
  refine Ev.sts 1 (c' := (357, [some (.inr (.inr (.inr (11, 0, 83)))), some (.inl (iZ (400))), some (.inl (iZ (f))), some (.inl (iZ (1))), j4, some (.inl (iZ (e))), j6], [.inr (.inr (.inr (11, 0, 83)))], (setI h 85 400 ((iZ (3)))))) rfl ?_
  refine Ev.gfr (r := (20, 402, 85)) rfl (sh_83_3 sh) ?_
  refine Ev.sts 1 (c' := (361, [some (.inr (.inr (.inr (11, 0, 83)))), some (.inl (iZ (400))), some (.inl (iZ (f))), some (.inl (iZ (1))), j4, some (.inl (iZ (e))), j6], [.inl (iZ (400)), .inr (.inr (.inr (20, 402, 85)))], (setI h 85 400 ((iZ (3)))))) rfl ?_
  refine Ev.ldv (j := (iZ (400))) (n := 402) (w := .inl (iZ (3))) (by decide) rfl (congrArg vI rfl) ?_
  refine Ev.sts 1 (c' := (363, [some (.inr (.inr (.inr (11, 0, 83)))), some (.inl (iZ (400))), some (.inl (iZ (f))), some (.inl (iZ (1))), j4, some (.inl (iZ (e))), j6], [.inl (iZ (3)), .inl (iZ (3))], (setI h 85 400 ((iZ (3)))))) rfl ?_
  refine Ev.brT (p := (iZ (3)) = (iZ (3))) (c1 := (370, [some (.inr (.inr (.inr (11, 0, 83)))), some (.inl (iZ (400))), some (.inl (iZ (f))), some (.inl (iZ (1))), j4, some (.inl (iZ (e))), j6], [], (setI h 85 400 ((iZ (3)))))) (c2 := (366, [some (.inr (.inr (.inr (11, 0, 83)))), some (.inl (iZ (400))), some (.inl (iZ (f))), some (.inl (iZ (1))), j4, some (.inl (iZ (e))), j6], [], (setI h 85 400 ((iZ (3)))))) (by decide) rfl ?_
  refine Ev.sts 2 (c' := (372, [some (.inr (.inr (.inr (11, 0, 83)))), some (.inl (iZ (400))), some (.inl (iZ (f))), some (.inl (iZ (0))), j4, some (.inl (iZ (e))), j6], [], (setI h 85 400 ((iZ (3)))))) rfl ?_
  refine Ev.stc (c1 := (375, [some (.inr (.inr (.inr (11, 0, 83)))), some (.inl ((iZ (400)) + (iZ (1)))), some (.inl (iZ (f))), some (.inl (iZ (0))), j4, some (.inl (iZ (e))), j6], [], (setI h 85 400 ((iZ (3)))))) (c2 := (375, [some (.inr (.inr (.inr (11, 0, 83)))), some (.inl (iZ (401))), some (.inl (iZ (f))), some (.inl (iZ (0))), j4, some (.inl (iZ (e))), j6], [], (setI h 85 400 ((iZ (3)))))) rfl (by rw [iZ_add]; rfl) ?_
  refine Ev.sts 3 (c' := (6, [some (.inr (.inr (.inr (11, 0, 83)))), some (.inl (iZ (401))), some (.inl (iZ (e))), some (.inl (iZ (0))), j4, some (.inl (iZ (e))), j6], [], (setI h 85 400 ((iZ (3)))))) rfl ?_
  exact q

theorem mk_out {d : Nat} {i k : Int} {j4 j5 j6 : Option VV} {h : PH} {Q : Rs → PH → Prop} (q : Q (.inl none) h) : Ev d 177 (6, [some (.inr (.inr (.inr (11, 0, 83)))), some (.inl (iZ (i))), some (.inl (iZ (k))), some (.inl (iZ (0))), j4, j5, j6], [], h) Q := by
  refine Ev.sts 1 (c' := (7, [some (.inr (.inr (.inr (11, 0, 83)))), some (.inl (iZ (i))), some (.inl (iZ (k))), some (.inl (iZ (0))), j4, j5, j6], [.inl (iZ (0))], h)) rfl ?_
  refine Ev.brT (p := (iZ (0)) = (iZ (0))) (c1 := (381, [some (.inr (.inr (.inr (11, 0, 83)))), some (.inl (iZ (i))), some (.inl (iZ (k))), some (.inl (iZ (0))), j4, j5, j6], [], h)) (c2 := (10, [some (.inr (.inr (.inr (11, 0, 83)))), some (.inl (iZ (i))), some (.inl (iZ (k))), some (.inl (iZ (0))), j4, j5, j6], [], h)) (by decide) rfl ?_
  exact Ev.ret rfl (q)

theorem mk_in {d : Nat} {i k : Int} {j4 j5 j6 : Option VV} {h : PH} {Q : Rs → PH → Prop} (q : Ev d 177 (10, [some (.inr (.inr (.inr (11, 0, 83)))), some (.inl (iZ (i))), some (.inl (iZ (k))), some (.inl (iZ (1))), j4, j5, j6], [], h) Q) : Ev d 177 (6, [some (.inr (.inr (.inr (11, 0, 83)))), some (.inl (iZ (i))), some (.inl (iZ (k))), some (.inl (iZ (1))), j4, j5, j6], [], h) Q := by
  refine Ev.sts 1 (c' := (7, [some (.inr (.inr (.inr (11, 0, 83)))), some (.inl (iZ (i))), some (.inl (iZ (k))), some (.inl (iZ (1))), j4, j5, j6], [.inl (iZ (1))], h)) rfl ?_
  refine Ev.brF (p := (iZ (1)) = (iZ (0))) (c1 := (381, [some (.inr (.inr (.inr (11, 0, 83)))), some (.inl (iZ (i))), some (.inl (iZ (k))), some (.inl (iZ (1))), j4, j5, j6], [], h)) (c2 := (10, [some (.inr (.inr (.inr (11, 0, 83)))), some (.inl (iZ (i))), some (.inl (iZ (k))), some (.inl (iZ (1))), j4, j5, j6], [], h)) (by decide) rfl ?_
  exact q

theorem mk_scan_lp {d : Nat} {tp : List Int} {Q : Rs → PH → Prop} (ht : tp.length ≤ 1600) (hb : byT tp) (n : Nat) : ∀ (i k : Nat) (j4 j5 j6 : Option VV) (h : PH) (P : List Tok), n + i = 400 → P.length = i → k ≤ tp.length → Sh h → tpM h tp → tmC h P → (∀ h1, tmC h1 (P ++ lexF tp n k) → fN h h1 → Q (.inl none) h1) → Ev (d + 4) 177 (6, [some (.inr (.inr (.inr (11, 0, 83)))), some (.inl (iZ (i))), some (.inl (iZ (k))), some (.inl (iZ (1))), j4, j5, j6], [], h) Q := by
  induction n with
  | zero =>
    intro i k j4 j5 j6 h P hn hP hk sh t c q
    obtain rfl : i = 400 := by omega
    have l := rn_le (f := isBk) hk
    refine mk_in (d := (d + 4)) (mk_bl (d := (d + 4)) sh t ht hb (tp.length + 1) k hk (by omega) ?_)
    by_cases h0 : rn isBk tp k < tp.length
    · refine mk_tok (d := d) (i := 400) sh t ht hb (by omega) h0 (fun h1 j4 j6 t1 f1 => mk_go4 (d := (d + 4)) (Sh_R2 sh f1.1) (mk_out (d := (d + 4)) (q _ ?_ (fN_t (fN_I f1) (fN_I (fI_I (.inl rfl)))))))
      rw [show lexF tp 0 k = [(1, (rn isBk tp k : Int), 0, 0)] from if_pos h0]
      refine tmC_app hP c (fI_t f1 (fI_I (.inl rfl))) ⟨setI_self _ _ _ _, (setI_ne (by omega)).trans ?_, fun z => absurd rfl z⟩
      rw [t1.2.1, (tkA_b ht hb h0).2.1]
    · refine mk_end (d := (d + 4)) (i := 400) sh t ht hb (by omega) (by omega) (fun h1 t1 f1 => q _ ?_ (fN_I f1))
      rw [show lexF tp 0 k = [(0, (rn isBk tp k : Int), 0, 0)] from if_neg h0]
      exact tmC_app hP c f1 t1
  | succ n ih =>
    intro i k j4 j5 j6 h P hn hP hk sh t c q
    have l := rn_le (f := isBk) hk
    refine mk_in (d := (d + 4)) (mk_bl (d := (d + 4)) sh t ht hb (tp.length + 1) k hk (by omega) ?_)
    by_cases h0 : rn isBk tp k < tp.length
    · obtain ⟨a1, a2, a3⟩ := tkA_b ht hb h0
      have e0 : lexF tp (n + 1) k = if (tkA tp (rn isBk tp k)).1 = 1 then [tkA tp (rn isBk tp k)] else tkA tp (rn isBk tp k) :: lexF tp n (tkE tp (rn isBk tp k)) := if_pos h0
      rw [e0] at q
      refine mk_tok (d := d) (i := i) sh t ht hb (by omega) h0 (fun h1 j4 j6 t1 f1 => ?_)
      have c1 := tmC_app hP c f1 t1
      have sr : 0 ≤ srK (tkA tp (rn isBk tp k)).1 ∧ srK (tkA tp (rn isBk tp k)).1 ≤ 4 ∧ (srK (tkA tp (rn isBk tp k)).1 = 3 ↔ (tkA tp (rn isBk tp k)).1 = 1) := by
        unfold srK
        generalize (tkA tp (rn isBk tp k)).1 = kk
        by_cases y0 : kk = 0
        · rw [if_pos y0]; omega
        · rw [if_neg y0]
          by_cases y1 : kk = 1
          · rw [if_pos y1]; omega
          · rw [if_neg y1]
            by_cases y3 : kk = 3
            · rw [if_pos y3]; omega
            · rw [if_neg y3]
              by_cases y26 : 26 ≤ kk
              · rw [if_pos y26]; omega
              · rw [if_neg y26]; omega
      refine mk_go (d := (d + 4)) (Sh_R2 sh f1.1) (by omega) t1.1 ⟨sr.1, sr.2.1⟩ (fun e => ?_) (fun e => ?_)
      · rw [if_neg (fun z => e (sr.2.2.mpr z))] at q
        refine ih (i + 1) (tkE tp (rn isBk tp k)) _ _ _ h1 (P ++ [tkA tp (rn isBk tp k)]) (by omega) (by rw [List.length_append, hP]; rfl) (tkE_b h0).2 (Sh_R2 sh f1.1) (tpM_I t f1) c1 (fun h2 d1 g1 => q h2 ?_ (fN_t (fN_I f1) g1))
        rw [List.append_assoc] at d1
        exact d1
      · rw [if_pos (sr.2.2.mp e)] at q
        exact mk_out (d := (d + 4)) (q _ c1 (fN_I f1))
    · refine mk_end (d := (d + 4)) (i := i) sh t ht hb (by omega) (by omega) (fun h1 t1 f1 => q _ ?_ (fN_I f1))
      rw [show lexF tp (n + 1) k = [(0, (rn isBk tp k : Int), 0, 0)] from if_neg h0]
      exact tmC_app hP c f1 t1
theorem mk_scan {d : Nat} {tp : List Int} {h : PH} {Q : Rs → PH → Prop} (sh : Sh h) (t : tpM h tp) (ht : tp.length ≤ 1600) (hb : byT tp) (q : ∀ h1, tmC h1 (lex tp) → fN h h1 → Q (.inl none) h1) : Rn (d + 4) 177 [.inr (.inr (.inr (11, 0, 83)))] h Q := by
  refine Ev.sts 6 (c' := (6, [some (.inr (.inr (.inr (11, 0, 83)))), some (.inl (iZ (0))), some (.inl (iZ (0))), some (.inl (iZ (1))), none, none, none], [], h)) rfl ?_
  exact mk_scan_lp ht hb 400 0 0 _ _ _ h [] rfl rfl (Nat.zero_le _) sh t (fun j hj => absurd hj (Nat.not_lt_zero _)) q

