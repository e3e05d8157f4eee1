/-! The reference's calls that only look: rows walked. -/
def cG (g : Nat) : List Tel → Nat
  | [] => 0
  | t :: L => (if t.1 = g then 1 else 0) + cG g L
def cE (m : Int) : List Tel → Nat
  | [] => 0
  | t :: L => (if t.2.2.1 ≤ m then 1 else 0) + cE m L
def fE (g : Nat) : List Tel → Int → Int
  | [], a => a
  | t :: L, a => fE g L (if t.1 = g then min a t.2.2.1 else a)
theorem cG_app (g : Nat) (A B : List Tel) : cG g (A ++ B) = cG g A + cG g B := by
  induction A with
  | nil => exact (Nat.zero_add _).symm
  | cons t A ih =>
    show (if t.1 = g then 1 else 0) + cG g (A ++ B) = ((if t.1 = g then 1 else 0) + cG g A) + cG g B
    rw [ih, Nat.add_assoc]
theorem cE_app (m : Int) (A B : List Tel) : cE m (A ++ B) = cE m A + cE m B := by
  induction A with
  | nil => exact (Nat.zero_add _).symm
  | cons t A ih =>
    show (if t.2.2.1 ≤ m then 1 else 0) + cE m (A ++ B) = ((if t.2.2.1 ≤ m then 1 else 0) + cE m A) + cE m B
    rw [ih, Nat.add_assoc]
theorem fE_app (g : Nat) (A B : List Tel) : ∀ a, fE g (A ++ B) a = fE g B (fE g A a) := by
  induction A with
  | nil => intro a; rfl
  | cons t A ih => intro a; exact ih _
theorem cG_no {g : Nat} : ∀ (L : List Tel), (∀ t ∈ L, t.1 ≠ g) → cG g L = 0 := by
  intro L
  induction L with
  | nil => intro _; rfl
  | cons t L ih =>
    intro h
    show (if t.1 = g then 1 else 0) + cG g L = 0
    rw [ih (fun s hs => h s (List.mem_cons_of_mem _ hs)), if_neg (h t List.mem_cons_self)]
theorem fE_no {g : Nat} : ∀ (L : List Tel) (a : Int), (∀ t ∈ L, t.1 ≠ g) → fE g L a = a := by
  intro L
  induction L with
  | nil => intro a _; rfl
  | cons t L ih =>
    intro a h
    show fE g L (if t.1 = g then min a t.2.2.1 else a) = a
    rw [if_neg (h t List.mem_cons_self)]
    exact ih a (fun s hs => h s (List.mem_cons_of_mem _ hs))
theorem cG_map (g : Nat) (W : List Win) : cG g (W.map (Prod.mk g)) = W.length := by
  induction W with
  | nil => rfl
  | cons w W ih =>
    show (if g = g then 1 else 0) + cG g (W.map (Prod.mk g)) = W.length + 1
    rw [ih, if_pos rfl, Nat.add_comm]
theorem cE_map (g : Nat) (m : Int) (W : List Win) : cE m (W.map (Prod.mk g)) = cntO W m := by
  induction W with
  | nil => rfl
  | cons w W ih =>
    show (if w.2.1 ≤ m then 1 else 0) + cE m (W.map (Prod.mk g)) = (if w.2.1 ≤ m then 1 else 0) + cntO W m
    rw [ih]
theorem fE_map (g : Nat) : ∀ (W : List Win) (a : Int), fE g (W.map (Prod.mk g)) a = fstE W a := by
  intro W
  induction W with
  | nil => intro a; rfl
  | cons w W ih =>
    intro a
    show fE g (W.map (Prod.mk g)) (if g = g then min a w.2.1 else a) = fstE W (min a w.2.1)
    rw [if_pos rfl]; exact ih _
theorem allW_d (ws : Nat → List Win) {g : Nat} (hg : g < 6) : ∃ pre post : List Tel, (∀ t ∈ pre, t.1 < g) ∧ (∀ t ∈ post, g < t.1) ∧ allW ws = pre ++ ((ws g).map (Prod.mk g) ++ post) := by
  obtain ⟨pre, post, h1, h2, h3⟩ := allW_dec ws hg
  refine ⟨pre, post, h1, h2, ?_⟩
  have e := h3 (ws g)
  rw [upW_id] at e
  exact e
theorem cG_all (ws : Nat → List Win) {g : Nat} (hg : g < 6) : cG g (allW ws) = (ws g).length := by
  obtain ⟨pre, post, h1, h2, h3⟩ := allW_d ws hg
  rw [h3, cG_app, cG_app, cG_no pre (fun t h => Nat.ne_of_lt (h1 t h)), cG_no post (fun t h => (Nat.ne_of_lt (h2 t h)).symm), cG_map, Nat.zero_add, Nat.add_zero]
theorem fE_all (ws : Nat → List Win) {g : Nat} (hg : g < 6) (a : Int) : fE g (allW ws) a = fstE (ws g) a := by
  obtain ⟨pre, post, h1, h2, h3⟩ := allW_d ws hg
  rw [h3, fE_app, fE_app, fE_no pre a (fun t h => Nat.ne_of_lt (h1 t h)), fE_map, fE_no post _ (fun t h => (Nat.ne_of_lt (h2 t h)).symm)]
theorem cE_al (ws : Nat → List Win) (m : Int) : ∀ n g, cE m (alW ws (n + 1) g) = cntO (ws g) m + cE m (alW ws n (g + 1)) := by
  intro n g
  show cE m ((ws g).map (Prod.mk g) ++ alW ws n (g + 1)) = _
  rw [cE_app, cE_map]
theorem cE_all (ws : Nat → List Win) (m : Int) : cE m (allW ws) = ovA ws m := by
  unfold allW ovA
  rw [cE_al, cE_al, cE_al, cE_al, cE_al, cE_al, show cE m (alW ws 0 (0 + 1 + 1 + 1 + 1 + 1 + 1)) = 0 from rfl]
  show cntO (ws 0) m + (cntO (ws 1) m + (cntO (ws 2) m + (cntO (ws 3) m + (cntO (ws 4) m + (cntO (ws 5) m + 0))))) = _
  omega
theorem cE_le (m : Int) (L : List Tel) : cE m L ≤ L.length := by
  induction L with
  | nil => exact Nat.le_refl _
  | cons t L ih =>
    show (if t.2.2.1 ≤ m then 1 else 0) + cE m L ≤ L.length + 1
    split <;> omega
theorem cG_le (g : Nat) (L : List Tel) : cG g L ≤ L.length := by
  induction L with
  | nil => exact Nat.le_refl _
  | cons t L ih =>
    show (if t.1 = g then 1 else 0) + cG g L ≤ L.length + 1
    split <;> omega
theorem cntO_mono (W : List Win) {a b : Int} (h : a ≤ b) : cntO W a ≤ cntO W b := by
  induction W with
  | nil => exact Nat.le_refl _
  | cons w W ih =>
    show (if w.2.1 ≤ a then 1 else 0) + cntO W a ≤ (if w.2.1 ≤ b then 1 else 0) + cntO W b
    by_cases c : w.2.1 ≤ a
    · rw [if_pos c, if_pos (Int.le_trans c h)]; omega
    · rw [if_neg c]
      split <;> omega
theorem ovA_mono (ws : Nat → List Win) {a b : Int} (h : a ≤ b) : ovA ws a ≤ ovA ws b := by
  unfold ovA
  have h0 := cntO_mono (ws 0) h
  have h1 := cntO_mono (ws 1) h
  have h2 := cntO_mono (ws 2) h
  have h3 := cntO_mono (ws 3) h
  have h4 := cntO_mono (ws 4) h
  have h5 := cntO_mono (ws 5) h
  omega
theorem mx_overBy_lp {d : Nat} {y : Y4} {S : Sta} {h : PH} {p : Int} {Q : Rs → PH → Prop} (I : MI h S y) (W : WN S) (hp : -2147483648 ≤ p ∧ p < 2147483648) (m : Nat) : ∀ (k c : Nat), k ≤ (allW (wdS S)).length → (allW (wdS S)).length < k + m → c ≤ k → Q (.inl (some (.inl (iZ ((c : Int) + (cE p ((allW (wdS S)).drop k) : Int)))))) h → Ev (d + 1) 272 (4, [some (.inr (.inr (.inr (11, 0, 83)))), some (.inl (iZ (p))), some (.inl (iZ (c))), some (.inl (iZ (k)))], [], h) Q := by
  have W0 := W
  obtain ⟨⟨w1, w2, w3, w4, w5, w6⟩, w7, w8, w9, w10, w11, w12, w13, w14, w15, w16, w17, w18⟩ := W0
  have wB : bkN (bkS S) := ⟨w1, w2, w3, w4, w5, w6⟩
  have sh0 := mi_sh I
  have al := alW_len (wdS S) 6 0
  have tl5 := lnL_le (ws := wdS S) (K := 128) (fun g => (w14 g).2) 6 0
  have alB_ := alW_B (ws := wdS S) (N := 1000) (fun g _ => (w14 g).1)
  have on1 := (mi_op I).2.1
  have on2 := (mi_op I).2.2.2.1
  have tn1 := (mi_tm I).2.1
  have tn2 := (mi_tm I).2.2.2.1
  induction m with
  | zero => intro k c h1 h2 h3 q; omega
  | succ m ih =>
    intro k c h1 h2 h3 q
    refine Ev.sts 2 (c' := (6, [some (.inr (.inr (.inr (11, 0, 83)))), some (.inl (iZ (p))), some (.inl (iZ (c))), some (.inl (iZ (k)))], [.inr (.inr (.inr (11, 0, 83))), .inl (iZ (k))], h)) rfl ?_
    refine Ev.gv (w := (iZ ((allW (wdS S)).length))) rfl (mi_op I).1 ?_
    refine Ev.brc (p := (iZ ((allW (wdS S)).length)) ≤ (iZ (k))) (q := (((allW (wdS S)).length : Int)) ≤ k) (c1 := (36, [some (.inr (.inr (.inr (11, 0, 83)))), some (.inl (iZ (p))), some (.inl (iZ (c))), some (.inl (iZ (k)))], [], h)) (c2 := (12, [some (.inr (.inr (.inr (11, 0, 83)))), some (.inl (iZ (p))), some (.inl (iZ (c))), some (.inl (iZ (k)))], [], h)) rfl (iZ_le ⟨by omega, by omega⟩ ⟨by omega, by omega⟩) (fun c0 => ?_) (fun c0 => ?_)
    · refine Ev.sts 1 (c' := (37, [some (.inr (.inr (.inr (11, 0, 83)))), some (.inl (iZ (p))), some (.inl (iZ (c))), some (.inl (iZ (k)))], [.inl (iZ (c))], h)) rfl ?_
      rw [List.drop_eq_nil_of_le (show (allW (wdS S)).length ≤ k by omega)] at q
      rw [show (c : Int) + ((cE p [] : Nat) : Int) = (c : Int) from Int.add_zero _] at q
      exact Ev.ret rfl q
    · have e0 := drop_getD t0 (allW (wdS S)) k (by omega)
      obtain ⟨b0, b1, b2, b3, b4, b5, b6⟩ := alB_ k (by omega)
      refine Ev.sts 4 (c' := (16, [some (.inr (.inr (.inr (11, 0, 83)))), some (.inl (iZ (p))), some (.inl (iZ (c))), some (.inl (iZ (k)))], [.inl (iZ (2)), .inl (iZ (k)), .inr (.inr (.inr (11, 0, 83))), .inl (iZ (c))], h)) rfl ?_
      refine Ev.callv (a := [.inr (.inr (.inr (11, 0, 83))), .inl (iZ (k)), .inl (iZ (2))]) rfl (mp_win2 (w := k) (mi_op I) (by omega) (by omega) rfl) ?_
      refine Ev.sts 1 (c' := (20, [some (.inr (.inr (.inr (11, 0, 83)))), some (.inl (iZ (p))), some (.inl (iZ (c))), some (.inl (iZ (k)))], [.inl (iZ (p)), .inl (iZ (((allW (wdS S)).getD k t0).2.2.1)), .inl (iZ (c))], h)) rfl ?_
      refine Ev.brc (p := (iZ (p)) < (iZ (((allW (wdS S)).getD k t0).2.2.1))) (q := ((p : Int)) < (((allW (wdS S)).getD k t0).2.2.1)) (c1 := (27, [some (.inr (.inr (.inr (11, 0, 83)))), some (.inl (iZ (p))), some (.inl (iZ (c))), some (.inl (iZ (k)))], [.inl (iZ (c))], h)) (c2 := (23, [some (.inr (.inr (.inr (11, 0, 83)))), some (.inl (iZ (p))), some (.inl (iZ (c))), some (.inl (iZ (k)))], [.inl (iZ (c))], h)) rfl (iZ_lt ⟨by omega, by omega⟩ ⟨by omega, by omega⟩) (fun c1 => ?_) (fun c1 => ?_)
      · refine Ev.sts 1 (c' := (28, [some (.inr (.inr (.inr (11, 0, 83)))), some (.inl (iZ (p))), some (.inl (iZ (c))), some (.inl (iZ (k)))], [.inl (iZ (0)), .inl (iZ (c))], h)) rfl ?_
        refine Ev.gv (w := (iZ (c + 0))) rfl (iZ_add _ _) ?_
        refine Ev.sts 1 (c' := (30, [some (.inr (.inr (.inr (11, 0, 83)))), some (.inl (iZ (p))), some (.inl (iZ (c + 0))), some (.inl (iZ (k)))], [], h)) rfl ?_
        refine Ev.stc (c1 := (33, [some (.inr (.inr (.inr (11, 0, 83)))), some (.inl (iZ (p))), some (.inl (iZ (c + 0))), some (.inl ((iZ (k)) + (iZ (1))))], [], h)) (c2 := (33, [some (.inr (.inr (.inr (11, 0, 83)))), some (.inl (iZ (p))), some (.inl (iZ (c + 0))), some (.inl (iZ (k + 1)))], [], h)) rfl (by rw [iZ_add]) ?_
        refine Ev.sts 1 (c' := (4, [some (.inr (.inr (.inr (11, 0, 83)))), some (.inl (iZ (p))), some (.inl (iZ (c + 0))), some (.inl (iZ (k + 1)))], [], h)) rfl ?_
        refine ih (k + 1) (c) (by omega) (by omega) (by omega) ?_
        rw [e0] at q
        replace q : Q (.inl (some (.inl (iZ ((c : Int) + (((if ((allW (wdS S)).getD k t0).2.2.1 ≤ p then 1 else 0) + cE p ((allW (wdS S)).drop (k + 1)) : Nat) : Int)))))) h := q
        rw [if_neg (by omega)] at q
        rw [show (c : Int) + ((0 + cE p ((allW (wdS S)).drop (k + 1)) : Nat) : Int) = ((c : Nat) : Int) + (cE p ((allW (wdS S)).drop (k + 1)) : Int) by omega] at q
        exact q
      · refine Ev.sts 2 (c' := (28, [some (.inr (.inr (.inr (11, 0, 83)))), some (.inl (iZ (p))), some (.inl (iZ (c))), some (.inl (iZ (k)))], [.inl (iZ (1)), .inl (iZ (c))], h)) rfl ?_
        refine Ev.gv (w := (iZ (c + 1))) rfl (iZ_add _ _) ?_
        refine Ev.sts 1 (c' := (30, [some (.inr (.inr (.inr (11, 0, 83)))), some (.inl (iZ (p))), some (.inl (iZ (c + 1))), some (.inl (iZ (k)))], [], h)) rfl ?_
        refine Ev.stc (c1 := (33, [some (.inr (.inr (.inr (11, 0, 83)))), some (.inl (iZ (p))), some (.inl (iZ (c + 1))), some (.inl ((iZ (k)) + (iZ (1))))], [], h)) (c2 := (33, [some (.inr (.inr (.inr (11, 0, 83)))), some (.inl (iZ (p))), some (.inl (iZ (c + 1))), some (.inl (iZ (k + 1)))], [], h)) rfl (by rw [iZ_add]) ?_
        refine Ev.sts 1 (c' := (4, [some (.inr (.inr (.inr (11, 0, 83)))), some (.inl (iZ (p))), some (.inl (iZ (c + 1))), some (.inl (iZ (k + 1)))], [], h)) rfl ?_
        refine ih (k + 1) (c + 1) (by omega) (by omega) (by omega) ?_
        rw [e0] at q
        replace q : Q (.inl (some (.inl (iZ ((c : Int) + (((if ((allW (wdS S)).getD k t0).2.2.1 ≤ p then 1 else 0) + cE p ((allW (wdS S)).drop (k + 1)) : Nat) : Int)))))) h := q
        rw [if_pos (by omega)] at q
        rw [show (c : Int) + ((1 + cE p ((allW (wdS S)).drop (k + 1)) : Nat) : Int) = ((c + 1 : Nat) : Int) + (cE p ((allW (wdS S)).drop (k + 1)) : Int) by omega] at q
        exact q

theorem mx_overBy {d : Nat} {y : Y4} {S : Sta} {h : PH} {p : Int} (I : MI h S y) (W : WN S) (hp : -2147483648 ≤ p ∧ p < 2147483648) : Rv (d + 1) 272 [.inr (.inr (.inr (11, 0, 83))), .inl (iZ (p))] h (some (.inl (iZ (ovA (wdS S) p)))) h := Rv.of fun Q q => by
  have W0 := W
  obtain ⟨⟨w1, w2, w3, w4, w5, w6⟩, w7, w8, w9, w10, w11, w12, w13, w14, w15, w16, w17, w18⟩ := W0
  have wB : bkN (bkS S) := ⟨w1, w2, w3, w4, w5, w6⟩
  have sh0 := mi_sh I
  have al := alW_len (wdS S) 6 0
  have tl5 := lnL_le (ws := wdS S) (K := 128) (fun g => (w14 g).2) 6 0
  have alB_ := alW_B (ws := wdS S) (N := 1000) (fun g _ => (w14 g).1)
  have on1 := (mi_op I).2.1
  have on2 := (mi_op I).2.2.2.1
  have tn1 := (mi_tm I).2.1
  have tn2 := (mi_tm I).2.2.2.1
  refine Ev.sts 4 (c' := (4, [some (.inr (.inr (.inr (11, 0, 83)))), some (.inl (iZ (p))), some (.inl (iZ (0))), some (.inl (iZ (0)))], [], h)) rfl ?_
  refine mx_overBy_lp I W hp ((allW (wdS S)).length + 1) 0 0 (by omega) (by omega) (by omega) ?_
  rw [List.drop_zero, cE_all, show ((0 : Nat) : Int) + (ovA (wdS S) p : Int) = (ovA (wdS S) p : Int) by omega]
  exact q

theorem mx_openOf_lp {d : Nat} {y : Y4} {S : Sta} {h : PH} {p : Int} {Q : Rs → PH → Prop} (I : MI h S y) (W : WN S) {g : Nat} (hp : p = (g : Int)) (hg : g < 6) (m : Nat) : ∀ (k c : Nat), k ≤ (allW (wdS S)).length → (allW (wdS S)).length < k + m → c ≤ k → Q (.inl (some (.inl (iZ ((c : Int) + (cG g ((allW (wdS S)).drop k) : Int)))))) h → Ev (d + 1) 255 (4, [some (.inr (.inr (.inr (11, 0, 83)))), some (.inl (iZ (p))), some (.inl (iZ (c))), some (.inl (iZ (k)))], [], h) Q := by
  have W0 := W
  obtain ⟨⟨w1, w2, w3, w4, w5, w6⟩, w7, w8, w9, w10, w11, w12, w13, w14, w15, w16, w17, w18⟩ := W0
  have wB : bkN (bkS S) := ⟨w1, w2, w3, w4, w5, w6⟩
  have sh0 := mi_sh I
  have al := alW_len (wdS S) 6 0
  have tl5 := lnL_le (ws := wdS S) (K := 128) (fun g => (w14 g).2) 6 0
  have alB_ := alW_B (ws := wdS S) (N := 1000) (fun g _ => (w14 g).1)
  have on1 := (mi_op I).2.1
  have on2 := (mi_op I).2.2.2.1
  have tn1 := (mi_tm I).2.1
  have tn2 := (mi_tm I).2.2.2.1
  induction m with
  | zero => intro k c h1 h2 h3 q; omega
  | succ m ih =>
    intro k c h1 h2 h3 q
    refine Ev.sts 2 (c' := (6, [some (.inr (.inr (.inr (11, 0, 83)))), some (.inl (iZ (p))), some (.inl (iZ (c))), some (.inl (iZ (k)))], [.inr (.inr (.inr (11, 0, 83))), .inl (iZ (k))], h)) rfl ?_
    refine Ev.gv (w := (iZ ((allW (wdS S)).length))) rfl (mi_op I).1 ?_
    refine Ev.brc (p := (iZ ((allW (wdS S)).length)) ≤ (iZ (k))) (q := (((allW (wdS S)).length : Int)) ≤ k) (c1 := (36, [some (.inr (.inr (.inr (11, 0, 83)))), some (.inl (iZ (p))), some (.inl (iZ (c))), some (.inl (iZ (k)))], [], h)) (c2 := (12, [some (.inr (.inr (.inr (11, 0, 83)))), some (.inl (iZ (p))), some (.inl (iZ (c))), some (.inl (iZ (k)))], [], h)) rfl (iZ_le ⟨by omega, by omega⟩ ⟨by omega, by omega⟩) (fun c0 => ?_) (fun c0 => ?_)
    · refine Ev.sts 1 (c' := (37, [some (.inr (.inr (.inr (11, 0, 83)))), some (.inl (iZ (p))), some (.inl (iZ (c))), some (.inl (iZ (k)))], [.inl (iZ (c))], h)) rfl ?_
      rw [List.drop_eq_nil_of_le (show (allW (wdS S)).length ≤ k by omega)] at q
      rw [show (c : Int) + ((cG g [] : Nat) : Int) = (c : Int) from Int.add_zero _] at q
      exact Ev.ret rfl q
    · have e0 := drop_getD t0 (allW (wdS S)) k (by omega)
      obtain ⟨b0, b1, b2, b3, b4, b5, b6⟩ := alB_ k (by omega)
      refine Ev.sts 4 (c' := (16, [some (.inr (.inr (.inr (11, 0, 83)))), some (.inl (iZ (p))), some (.inl (iZ (c))), some (.inl (iZ (k)))], [.inl (iZ (0)), .inl (iZ (k)), .inr (.inr (.inr (11, 0, 83))), .inl (iZ (c))], h)) rfl ?_
      refine Ev.callv (a := [.inr (.inr (.inr (11, 0, 83))), .inl (iZ (k)), .inl (iZ (0))]) rfl (mp_win0 (w := k) (mi_op I) (by omega) (by omega) rfl) ?_
      refine Ev.sts 1 (c' := (20, [some (.inr (.inr (.inr (11, 0, 83)))), some (.inl (iZ (p))), some (.inl (iZ (c))), some (.inl (iZ (k)))], [.inl (iZ (p)), .inl (iZ (((allW (wdS S)).getD k t0).1)), .inl (iZ (c))], h)) rfl ?_
      refine Ev.brc (p := ¬ (iZ (((allW (wdS S)).getD k t0).1)) = (iZ (p))) (q := ¬ ((((allW (wdS S)).getD k t0).1 : Int)) = p) (c1 := (27, [some (.inr (.inr (.inr (11, 0, 83)))), some (.inl (iZ (p))), some (.inl (iZ (c))), some (.inl (iZ (k)))], [.inl (iZ (c))], h)) (c2 := (23, [some (.inr (.inr (.inr (11, 0, 83)))), some (.inl (iZ (p))), some (.inl (iZ (c))), some (.inl (iZ (k)))], [.inl (iZ (c))], h)) rfl (not_congr (iZ_eq ⟨by omega, by omega⟩ ⟨by omega, by omega⟩)) (fun c1 => ?_) (fun c1 => ?_)
      · refine Ev.sts 1 (c' := (28, [some (.inr (.inr (.inr (11, 0, 83)))), some (.inl (iZ (p))), some (.inl (iZ (c))), some (.inl (iZ (k)))], [.inl (iZ (0)), .inl (iZ (c))], h)) rfl ?_
        refine Ev.gv (w := (iZ (c + 0))) rfl (iZ_add _ _) ?_
        refine Ev.sts 1 (c' := (30, [some (.inr (.inr (.inr (11, 0, 83)))), some (.inl (iZ (p))), some (.inl (iZ (c + 0))), some (.inl (iZ (k)))], [], h)) rfl ?_
        refine Ev.stc (c1 := (33, [some (.inr (.inr (.inr (11, 0, 83)))), some (.inl (iZ (p))), some (.inl (iZ (c + 0))), some (.inl ((iZ (k)) + (iZ (1))))], [], h)) (c2 := (33, [some (.inr (.inr (.inr (11, 0, 83)))), some (.inl (iZ (p))), some (.inl (iZ (c + 0))), some (.inl (iZ (k + 1)))], [], h)) rfl (by rw [iZ_add]) ?_
        refine Ev.sts 1 (c' := (4, [some (.inr (.inr (.inr (11, 0, 83)))), some (.inl (iZ (p))), some (.inl (iZ (c + 0))), some (.inl (iZ (k + 1)))], [], h)) rfl ?_
        refine ih (k + 1) (c) (by omega) (by omega) (by omega) ?_
        rw [e0] at q
        replace q : Q (.inl (some (.inl (iZ ((c : Int) + (((if ((allW (wdS S)).getD k t0).1 = g then 1 else 0) + cG g ((allW (wdS S)).drop (k + 1)) : Nat) : Int)))))) h := q
        rw [if_neg (by omega)] at q
        rw [show (c : Int) + ((0 + cG g ((allW (wdS S)).drop (k + 1)) : Nat) : Int) = ((c : Nat) : Int) + (cG g ((allW (wdS S)).drop (k + 1)) : Int) by omega] at q
        exact q
      · refine Ev.sts 2 (c' := (28, [some (.inr (.inr (.inr (11, 0, 83)))), some (.inl (iZ (p))), some (.inl (iZ (c))), some (.inl (iZ (k)))], [.inl (iZ (1)), .inl (iZ (c))], h)) rfl ?_
        refine Ev.gv (w := (iZ (c + 1))) rfl (iZ_add _ _) ?_
        refine Ev.sts 1 (c' := (30, [some (.inr (.inr (.inr (11, 0, 83)))), some (.inl (iZ (p))), some (.inl (iZ (c + 1))), some (.inl (iZ (k)))], [], h)) rfl ?_
        refine Ev.stc (c1 := (33, [some (.inr (.inr (.inr (11, 0, 83)))), some (.inl (iZ (p))), some (.inl (iZ (c + 1))), some (.inl ((iZ (k)) + (iZ (1))))], [], h)) (c2 := (33, [some (.inr (.inr (.inr (11, 0, 83)))), some (.inl (iZ (p))), some (.inl (iZ (c + 1))), some (.inl (iZ (k + 1)))], [], h)) rfl (by rw [iZ_add]) ?_
        refine Ev.sts 1 (c' := (4, [some (.inr (.inr (.inr (11, 0, 83)))), some (.inl (iZ (p))), some (.inl (iZ (c + 1))), some (.inl (iZ (k + 1)))], [], h)) rfl ?_
        refine ih (k + 1) (c + 1) (by omega) (by omega) (by omega) ?_
        rw [e0] at q
        replace q : Q (.inl (some (.inl (iZ ((c : Int) + (((if ((allW (wdS S)).getD k t0).1 = g then 1 else 0) + cG g ((allW (wdS S)).drop (k + 1)) : Nat) : Int)))))) h := q
        rw [if_pos (by omega)] at q
        rw [show (c : Int) + ((1 + cG g ((allW (wdS S)).drop (k + 1)) : Nat) : Int) = ((c + 1 : Nat) : Int) + (cG g ((allW (wdS S)).drop (k + 1)) : Int) by omega] at q
        exact q

theorem mx_openOf {d : Nat} {y : Y4} {S : Sta} {h : PH} {p : Int} (I : MI h S y) (W : WN S) {g : Nat} (hp : p = (g : Int)) (hg : g < 6) : Rv (d + 1) 255 [.inr (.inr (.inr (11, 0, 83))), .inl (iZ (p))] h (some (.inl (iZ ((wdS S g).length)))) h := Rv.of fun Q q => by
  have W0 := W
  obtain ⟨⟨w1, w2, w3, w4, w5, w6⟩, w7, w8, w9, w10, w11, w12, w13, w14, w15, w16, w17, w18⟩ := W0
  have wB : bkN (bkS S) := ⟨w1, w2, w3, w4, w5, w6⟩
  have sh0 := mi_sh I
  have al := alW_len (wdS S) 6 0
  have tl5 := lnL_le (ws := wdS S) (K := 128) (fun g => (w14 g).2) 6 0
  have alB_ := alW_B (ws := wdS S) (N := 1000) (fun g _ => (w14 g).1)
  have on1 := (mi_op I).2.1
  have on2 := (mi_op I).2.2.2.1
  have tn1 := (mi_tm I).2.1
  have tn2 := (mi_tm I).2.2.2.1
  refine Ev.sts 4 (c' := (4, [some (.inr (.inr (.inr (11, 0, 83)))), some (.inl (iZ (p))), some (.inl (iZ (0))), some (.inl (iZ (0)))], [], h)) rfl ?_
  refine mx_openOf_lp I W hp hg ((allW (wdS S)).length + 1) 0 0 (by omega) (by omega) (by omega) ?_
  rw [List.drop_zero, cG_all _ hg, show ((0 : Nat) : Int) + ((wdS S g).length : Int) = ((wdS S g).length : Int) by omega]
  exact q

theorem mq_openWindows {d : Nat} {y : Y4} {S : Sta} {h : PH} (I : MI h S y) (W : WN S) {p : Int} {g : Nat} (hp : p = (g : Int)) (hc : g < (bkS S).2.2.length) : Rv (d + 2) 254 [.inr (.inr (.inr (11, 0, 83))), .inl (iZ (p))] h (some (.inl (iZ (wdS S g).length))) (setI h 83 0 (iZ 0)) := Rv.of fun Q q => by
  have W0 := W
  obtain ⟨⟨w1, w2, w3, w4, w5, w6⟩, w7, w8, w9, w10, w11, w12, w13, w14, w15, w16, w17, w18⟩ := W0
  have wB : bkN (bkS S) := ⟨w1, w2, w3, w4, w5, w6⟩
  have sh0 := mi_sh I
  have al := alW_len (wdS S) 6 0
  have tl5 := lnL_le (ws := wdS S) (K := 128) (fun g => (w14 g).2) 6 0
  have alB_ := alW_B (ws := wdS S) (N := 1000) (fun g _ => (w14 g).1)
  have on1 := (mi_op I).2.1
  have on2 := (mi_op I).2.2.2.1
  have tn1 := (mi_tm I).2.1
  have tn2 := (mi_tm I).2.2.2.1
  have hg : g < 6 := by omega
  refine Ev.sts 5 (c' := (7, [some (.inr (.inr (.inr (11, 0, 83)))), some (.inl (iZ (p)))], [.inl (iZ (p)), .inr (.inr (.inr (11, 0, 83)))], (setI h 83 0 ((iZ (0)))))) rfl ?_
  refine Ev.callw (a := [.inr (.inr (.inr (11, 0, 83))), .inl (iZ (p))]) rfl (mx_isGoose (MI_th I) W ⟨by omega, by omega⟩ (fun _ => ?_) (fun z => absurd (show _ from ⟨by omega, by omega⟩) z))
  refine Ev.brF (p := (iZ (1)) = (iZ (0))) (c1 := (21, [some (.inr (.inr (.inr (11, 0, 83)))), some (.inl (iZ (p)))], [], (setI h 83 0 ((iZ (0)))))) (c2 := (13, [some (.inr (.inr (.inr (11, 0, 83)))), some (.inl (iZ (p)))], [], (setI h 83 0 ((iZ (0)))))) (by decide) rfl ?_
  refine Ev.sts 2 (c' := (15, [some (.inr (.inr (.inr (11, 0, 83)))), some (.inl (iZ (p)))], [.inl (iZ (p)), .inr (.inr (.inr (11, 0, 83)))], (setI h 83 0 ((iZ (0)))))) rfl ?_
  refine Ev.callv (a := [.inr (.inr (.inr (11, 0, 83))), .inl (iZ (p))]) rfl (mx_openOf (MI_th I) W hp hg) ?_
  refine Ev.sts 1 (c' := (26, [some (.inr (.inr (.inr (11, 0, 83)))), some (.inl (iZ (p)))], [.inl (iZ ((wdS S g).length))], (setI h 83 0 ((iZ (0)))))) rfl ?_
  exact Ev.ret rfl (q)

theorem mz_openWindows {d : Nat} {y : Y4} {S : Sta} {h : PH} (I : MI h S y) (W : WN S) {p : Int} (hpb : -2147483648 ≤ p ∧ p < 2147483648) (hc : ¬ (0 ≤ p ∧ p < (bkS S).2.2.length)) : Rv (d + 2) 254 [.inr (.inr (.inr (11, 0, 83))), .inl (iZ (p))] h (some (.inl (iZ 0))) (setI (setI h 83 0 (iZ 0)) 83 0 (iZ 1)) := Rv.of fun Q q => by
  have W0 := W
  obtain ⟨⟨w1, w2, w3, w4, w5, w6⟩, w7, w8, w9, w10, w11, w12, w13, w14, w15, w16, w17, w18⟩ := W0
  have wB : bkN (bkS S) := ⟨w1, w2, w3, w4, w5, w6⟩
  have sh0 := mi_sh I
  have al := alW_len (wdS S) 6 0
  have tl5 := lnL_le (ws := wdS S) (K := 128) (fun g => (w14 g).2) 6 0
  have alB_ := alW_B (ws := wdS S) (N := 1000) (fun g _ => (w14 g).1)
  have on1 := (mi_op I).2.1
  have on2 := (mi_op I).2.2.2.1
  have tn1 := (mi_tm I).2.1
  have tn2 := (mi_tm I).2.2.2.1
  refine Ev.sts 5 (c' := (7, [some (.inr (.inr (.inr (11, 0, 83)))), some (.inl (iZ (p)))], [.inl (iZ (p)), .inr (.inr (.inr (11, 0, 83)))], (setI h 83 0 ((iZ (0)))))) rfl ?_
  refine Ev.callw (a := [.inr (.inr (.inr (11, 0, 83))), .inl (iZ (p))]) rfl (mx_isGoose (MI_th I) W ⟨by omega, by omega⟩ (fun z => absurd z hc) (fun _ => ?_))
  refine Ev.brT (p := (iZ (0)) = (iZ (0))) (c1 := (21, [some (.inr (.inr (.inr (11, 0, 83)))), some (.inl (iZ (p)))], [], (setI h 83 0 ((iZ (0)))))) (c2 := (13, [some (.inr (.inr (.inr (11, 0, 83)))), some (.inl (iZ (p)))], [], (setI h 83 0 ((iZ (0)))))) (by decide) rfl ?_
  refine Ev.sts 2 (c' := (23, [some (.inr (.inr (.inr (11, 0, 83)))), some (.inl (iZ (p)))], [.inl (iZ (1)), .inr (.inr (.inr (11, 0, 83)))], (setI h 83 0 ((iZ (0)))))) rfl ?_
  refine Ev.callv (a := [.inr (.inr (.inr (11, 0, 83))), .inl (iZ (1))]) rfl mp_fail ?_
  exact Ev.ret rfl (q)

theorem mq_wouldTell {d : Nat} {y : Y4} {S : Sta} {h : PH} (I : MI h S y) (W : WN S) {p : Int} (hc : 0 ≤ p ∧ p ≤ 999) : Rv (d + 2) 271 [.inr (.inr (.inr (11, 0, 83))), .inl (iZ (p))] h (some (.inl (iZ (ovA (wdS S) (max (wmS S) ((max (grS S) p) - alB (bkS S) (ntS S))))))) (setI h 83 0 (iZ 0)) := Rv.of fun Q q => by
  have W0 := W
  obtain ⟨⟨w1, w2, w3, w4, w5, w6⟩, w7, w8, w9, w10, w11, w12, w13, w14, w15, w16, w17, w18⟩ := W0
  have wB : bkN (bkS S) := ⟨w1, w2, w3, w4, w5, w6⟩
  have sh0 := mi_sh I
  have al := alW_len (wdS S) 6 0
  have tl5 := lnL_le (ws := wdS S) (K := 128) (fun g => (w14 g).2) 6 0
  have alB_ := alW_B (ws := wdS S) (N := 1000) (fun g _ => (w14 g).1)
  have on1 := (mi_op I).2.1
  have on2 := (mi_op I).2.2.2.1
  have tn1 := (mi_tm I).2.1
  have tn2 := (mi_tm I).2.2.2.1
  have ab := alB_b wB (ntS S)
  refine Ev.sts 6 (c' := (10, [some (.inr (.inr (.inr (11, 0, 83)))), some (.inl (iZ (p)))], [.inl (iZ (999)), .inl (iZ (0)), .inl (iZ (p))], (setI h 83 0 ((iZ (0)))))) rfl ?_
  refine Ev.callw (a := [.inl (iZ (p)), .inl (iZ (0)), .inl (iZ (999))]) rfl (mp_isIn ⟨by omega, by omega⟩ ⟨by omega, by omega⟩ ⟨by omega, by omega⟩ (fun _ => ?_) (fun z => absurd hc z))
  refine Ev.brF (p := (iZ (1)) = (iZ (0))) (c1 := (43, [some (.inr (.inr (.inr (11, 0, 83)))), some (.inl (iZ (p)))], [], (setI h 83 0 ((iZ (0)))))) (c2 := (16, [some (.inr (.inr (.inr (11, 0, 83)))), some (.inl (iZ (p)))], [], (setI h 83 0 ((iZ (0)))))) (by decide) rfl ?_
  refine Ev.sts 2 (c' := (18, [some (.inr (.inr (.inr (11, 0, 83)))), some (.inl (iZ (p)))], [.inr (.inr (.inr (11, 0, 83))), .inr (.inr (.inr (11, 0, 83)))], (setI h 83 0 ((iZ (0)))))) rfl ?_
  refine Ev.gv (w := (iZ (wmS S))) rfl (mi_wm (MI_th I)) ?_
  refine Ev.sts 1 (c' := (22, [some (.inr (.inr (.inr (11, 0, 83)))), some (.inl (iZ (p)))], [.inr (.inr (.inr (11, 0, 83))), .inl (iZ (wmS S)), .inr (.inr (.inr (11, 0, 83)))], (setI h 83 0 ((iZ (0)))))) rfl ?_
  refine Ev.gv (w := (iZ (grS S))) rfl (mi_gr (MI_th I)) ?_
  refine Ev.sts 1 (c' := (26, [some (.inr (.inr (.inr (11, 0, 83)))), some (.inl (iZ (p)))], [.inl (iZ (p)), .inl (iZ (grS S)), .inl (iZ (wmS S)), .inr (.inr (.inr (11, 0, 83)))], (setI h 83 0 ((iZ (0)))))) rfl ?_
  refine Ev.gv (w := (iZ (max (grS S) p))) rfl (iZ_max ⟨by omega, by omega⟩ ⟨by omega, by omega⟩) ?_
  refine Ev.sts 1 (c' := (30, [some (.inr (.inr (.inr (11, 0, 83)))), some (.inl (iZ (p)))], [.inr (.inr (.inr (11, 0, 83))), .inl (iZ (max (grS S) p)), .inl (iZ (wmS S)), .inr (.inr (.inr (11, 0, 83)))], (setI h 83 0 ((iZ (0)))))) rfl ?_
  refine Ev.callv (a := [.inr (.inr (.inr (11, 0, 83)))]) rfl (mx_allows (MI_th I) W) ?_
  refine Ev.gv (w := (iZ ((max (grS S) p) - (alB (bkS S) (ntS S))))) rfl (iZ_sub _ _) ?_
  refine Ev.gv (w := (iZ (max (wmS S) ((max (grS S) p) - (alB (bkS S) (ntS S)))))) rfl (iZ_max ⟨by omega, by omega⟩ ⟨by omega, by omega⟩) ?_
  refine Ev.callv (a := [.inr (.inr (.inr (11, 0, 83))), .inl (iZ (max (wmS S) ((max (grS S) p) - (alB (bkS S) (ntS S)))))]) rfl (mx_overBy (MI_th I) W ⟨by omega, by omega⟩) ?_
  refine Ev.sts 1 (c' := (48, [some (.inr (.inr (.inr (11, 0, 83)))), some (.inl (iZ (p)))], [.inl (iZ (ovA (wdS S) (max (wmS S) ((max (grS S) p) - (alB (bkS S) (ntS S))))))], (setI h 83 0 ((iZ (0)))))) rfl ?_
  exact Ev.ret rfl (q)

theorem mz_wouldTell {d : Nat} {y : Y4} {S : Sta} {h : PH} (I : MI h S y) (W : WN S) {p : Int} (hpb : -2147483648 ≤ p ∧ p < 2147483648) (hc : ¬ (0 ≤ p ∧ p ≤ 999)) : Rv (d + 1) 271 [.inr (.inr (.inr (11, 0, 83))), .inl (iZ (p))] h (some (.inl (iZ 0))) (setI (setI h 83 0 (iZ 0)) 83 0 (iZ 1)) := Rv.of fun Q q => by
  have W0 := W
  obtain ⟨⟨w1, w2, w3, w4, w5, w6⟩, w7, w8, w9, w10, w11, w12, w13, w14, w15, w16, w17, w18⟩ := W0
  have wB : bkN (bkS S) := ⟨w1, w2, w3, w4, w5, w6⟩
  have sh0 := mi_sh I
  have al := alW_len (wdS S) 6 0
  have tl5 := lnL_le (ws := wdS S) (K := 128) (fun g => (w14 g).2) 6 0
  have alB_ := alW_B (ws := wdS S) (N := 1000) (fun g _ => (w14 g).1)
  have on1 := (mi_op I).2.1
  have on2 := (mi_op I).2.2.2.1
  have tn1 := (mi_tm I).2.1
  have tn2 := (mi_tm I).2.2.2.1
  refine Ev.sts 6 (c' := (10, [some (.inr (.inr (.inr (11, 0, 83)))), some (.inl (iZ (p)))], [.inl (iZ (999)), .inl (iZ (0)), .inl (iZ (p))], (setI h 83 0 ((iZ (0)))))) rfl ?_
  refine Ev.callw (a := [.inl (iZ (p)), .inl (iZ (0)), .inl (iZ (999))]) rfl (mp_isIn ⟨by omega, by omega⟩ ⟨by omega, by omega⟩ ⟨by omega, by omega⟩ (fun z => absurd z hc) (fun _ => ?_))
  refine Ev.brT (p := (iZ (0)) = (iZ (0))) (c1 := (43, [some (.inr (.inr (.inr (11, 0, 83)))), some (.inl (iZ (p)))], [], (setI h 83 0 ((iZ (0)))))) (c2 := (16, [some (.inr (.inr (.inr (11, 0, 83)))), some (.inl (iZ (p)))], [], (setI h 83 0 ((iZ (0)))))) (by decide) rfl ?_
  refine Ev.sts 2 (c' := (45, [some (.inr (.inr (.inr (11, 0, 83)))), some (.inl (iZ (p)))], [.inl (iZ (1)), .inr (.inr (.inr (11, 0, 83)))], (setI h 83 0 ((iZ (0)))))) rfl ?_
  refine Ev.callv (a := [.inr (.inr (.inr (11, 0, 83))), .inl (iZ (1))]) rfl mp_fail ?_
  exact Ev.ret rfl (q)

theorem mz_wouldBeLate {d : Nat} {y : Y4} {S : Sta} {h : PH} (I : MI h S y) (W : WN S) {p : Int} (hpb : -2147483648 ≤ p ∧ p < 2147483648) (hc : ¬ (0 ≤ p ∧ p ≤ 999)) : Rv (d + 1) 270 [.inr (.inr (.inr (11, 0, 83))), .inl (iZ (p))] h (some (.inl (iZ 0))) (setI (setI h 83 0 (iZ 0)) 83 0 (iZ 1)) := Rv.of fun Q q => by
  have W0 := W
  obtain ⟨⟨w1, w2, w3, w4, w5, w6⟩, w7, w8, w9, w10, w11, w12, w13, w14, w15, w16, w17, w18⟩ := W0
  have wB : bkN (bkS S) := ⟨w1, w2, w3, w4, w5, w6⟩
  have sh0 := mi_sh I
  have al := alW_len (wdS S) 6 0
  have tl5 := lnL_le (ws := wdS S) (K := 128) (fun g => (w14 g).2) 6 0
  have alB_ := alW_B (ws := wdS S) (N := 1000) (fun g _ => (w14 g).1)
  have on1 := (mi_op I).2.1
  have on2 := (mi_op I).2.2.2.1
  have tn1 := (mi_tm I).2.1
  have tn2 := (mi_tm I).2.2.2.1
  refine Ev.sts 6 (c' := (10, [some (.inr (.inr (.inr (11, 0, 83)))), some (.inl (iZ (p))), none, none], [.inl (iZ (999)), .inl (iZ (0)), .inl (iZ (p))], (setI h 83 0 ((iZ (0)))))) rfl ?_
  refine Ev.callw (a := [.inl (iZ (p)), .inl (iZ (0)), .inl (iZ (999))]) rfl (mp_isIn ⟨by omega, by omega⟩ ⟨by omega, by omega⟩ ⟨by omega, by omega⟩ (fun z => absurd z hc) (fun _ => ?_))
  refine Ev.brF (p := ¬ (iZ (0)) = (iZ (0))) (c1 := (22, [some (.inr (.inr (.inr (11, 0, 83)))), some (.inl (iZ (p))), none, none], [], (setI h 83 0 ((iZ (0)))))) (c2 := (16, [some (.inr (.inr (.inr (11, 0, 83)))), some (.inl (iZ (p))), none, none], [], (setI h 83 0 ((iZ (0)))))) (by decide) rfl ?_
  refine Ev.sts 2 (c' := (18, [some (.inr (.inr (.inr (11, 0, 83)))), some (.inl (iZ (p))), none, none], [.inl (iZ (1)), .inr (.inr (.inr (11, 0, 83)))], (setI h 83 0 ((iZ (0)))))) rfl ?_
  refine Ev.callv (a := [.inr (.inr (.inr (11, 0, 83))), .inl (iZ (1))]) rfl mp_fail ?_
  exact Ev.ret rfl (q)

theorem mx_to_lp {d : Nat} {y : Y4} {S : Sta} {h : PH} {p : Int} {Q : Rs → PH → Prop} (I : MI h S y) (W : WN S) {g : Nat} (hp : p = (g : Int)) (hg : g < 6) (m : Nat) : ∀ (k : Nat) (a : Int), k ≤ (allW (wdS S)).length → (allW (wdS S)).length < k + m → 0 ≤ a ∧ a ≤ 2000 → (∀ j : Nat, Ev (d + 1) 274 (41, [some (.inr (.inr (.inr (11, 0, 83)))), some (.inl (iZ (p))), some (.inl (iZ (fE g ((allW (wdS S)).drop k) a))), some (.inl (iZ (j)))], [], h) Q) → Ev (d + 1) 274 (6, [some (.inr (.inr (.inr (11, 0, 83)))), some (.inl (iZ (p))), some (.inl (iZ (a))), some (.inl (iZ (k)))], [], h) Q := by
  have W0 := W
  obtain ⟨⟨w1, w2, w3, w4, w5, w6⟩, w7, w8, w9, w10, w11, w12, w13, w14, w15, w16, w17, w18⟩ := W0
  have wB : bkN (bkS S) := ⟨w1, w2, w3, w4, w5, w6⟩
  have sh0 := mi_sh I
  have al := alW_len (wdS S) 6 0
  have tl5 := lnL_le (ws := wdS S) (K := 128) (fun g => (w14 g).2) 6 0
  have alB_ := alW_B (ws := wdS S) (N := 1000) (fun g _ => (w14 g).1)
  have on1 := (mi_op I).2.1
  have on2 := (mi_op I).2.2.2.1
  have tn1 := (mi_tm I).2.1
  have tn2 := (mi_tm I).2.2.2.1
  induction m with
  | zero => intro k a h1 h2 h3 q; omega
  | succ m ih =>
    intro k a h1 h2 h3 q
    refine Ev.sts 2 (c' := (8, [some (.inr (.inr (.inr (11, 0, 83)))), some (.inl (iZ (p))), some (.inl (iZ (a))), some (.inl (iZ (k)))], [.inr (.inr (.inr (11, 0, 83))), .inl (iZ (k))], h)) rfl ?_
    refine Ev.gv (w := (iZ ((allW (wdS S)).length))) rfl (mi_op I).1 ?_
    refine Ev.brc (p := (iZ ((allW (wdS S)).length)) ≤ (iZ (k))) (q := (((allW (wdS S)).length : Int)) ≤ k) (c1 := (41, [some (.inr (.inr (.inr (11, 0, 83)))), some (.inl (iZ (p))), some (.inl (iZ (a))), some (.inl (iZ (k)))], [], h)) (c2 := (14, [some (.inr (.inr (.inr (11, 0, 83)))), some (.inl (iZ (p))), some (.inl (iZ (a))), some (.inl (iZ (k)))], [], h)) rfl (iZ_le ⟨by omega, by omega⟩ ⟨by omega, by omega⟩) (fun c0 => ?_) (fun c0 => ?_)
    · rw [List.drop_eq_nil_of_le (show (allW (wdS S)).length ≤ k by omega)] at q
      exact q k
    · have e0 := drop_getD t0 (allW (wdS S)) k (by omega)
      obtain ⟨b0, b1, b2, b3, b4, b5, b6⟩ := alB_ k (by omega)
      refine Ev.sts 3 (c' := (17, [some (.inr (.inr (.inr (11, 0, 83)))), some (.inl (iZ (p))), some (.inl (iZ (a))), some (.inl (iZ (k)))], [.inl (iZ (0)), .inl (iZ (k)), .inr (.inr (.inr (11, 0, 83)))], h)) rfl ?_
      refine Ev.callv (a := [.inr (.inr (.inr (11, 0, 83))), .inl (iZ (k)), .inl (iZ (0))]) rfl (mp_win0 (w := k) (mi_op I) (by omega) (by omega) rfl) ?_
      refine Ev.sts 1 (c' := (21, [some (.inr (.inr (.inr (11, 0, 83)))), some (.inl (iZ (p))), some (.inl (iZ (a))), some (.inl (iZ (k)))], [.inl (iZ (p)), .inl (iZ (((allW (wdS S)).getD k t0).1))], h)) rfl ?_
      refine Ev.brc (p := ¬ (iZ (((allW (wdS S)).getD k t0).1)) = (iZ (p))) (q := ¬ ((((allW (wdS S)).getD k t0).1 : Int)) = p) (c1 := (35, [some (.inr (.inr (.inr (11, 0, 83)))), some (.inl (iZ (p))), some (.inl (iZ (a))), some (.inl (iZ (k)))], [], h)) (c2 := (24, [some (.inr (.inr (.inr (11, 0, 83)))), some (.inl (iZ (p))), some (.inl (iZ (a))), some (.inl (iZ (k)))], [], h)) rfl (not_congr (iZ_eq ⟨by omega, by omega⟩ ⟨by omega, by omega⟩)) (fun c1 => ?_) (fun c1 => ?_)
      · refine Ev.stc (c1 := (38, [some (.inr (.inr (.inr (11, 0, 83)))), some (.inl (iZ (p))), some (.inl (iZ (a))), some (.inl ((iZ (k)) + (iZ (1))))], [], h)) (c2 := (38, [some (.inr (.inr (.inr (11, 0, 83)))), some (.inl (iZ (p))), some (.inl (iZ (a))), some (.inl (iZ (k + 1)))], [], h)) rfl (by rw [iZ_add]) ?_
        refine Ev.sts 1 (c' := (6, [some (.inr (.inr (.inr (11, 0, 83)))), some (.inl (iZ (p))), some (.inl (iZ (a))), some (.inl (iZ (k + 1)))], [], h)) rfl ?_
        refine ih (k + 1) (a) (by omega) (by omega) ⟨by omega, by omega⟩ ?_
        rw [e0] at q
        replace q : ∀ j : Nat, Ev (d + 1) 274 (41, [some (.inr (.inr (.inr (11, 0, 83)))), some (.inl (iZ (p))), some (.inl (iZ (fE g ((allW (wdS S)).drop (k + 1)) (if ((allW (wdS S)).getD k t0).1 = g then min a ((allW (wdS S)).getD k t0).2.2.1 else a)))), some (.inl (iZ (j)))], [], h) Q := q
        rw [if_neg (by omega)] at q
        exact q
      · refine Ev.sts 4 (c' := (28, [some (.inr (.inr (.inr (11, 0, 83)))), some (.inl (iZ (p))), some (.inl (iZ (a))), some (.inl (iZ (k)))], [.inl (iZ (2)), .inl (iZ (k)), .inr (.inr (.inr (11, 0, 83))), .inl (iZ (a))], h)) rfl ?_
        refine Ev.callv (a := [.inr (.inr (.inr (11, 0, 83))), .inl (iZ (k)), .inl (iZ (2))]) rfl (mp_win2 (w := k) (mi_op I) (by omega) (by omega) rfl) ?_
        refine Ev.gv (w := (iZ (min a (((allW (wdS S)).getD k t0).2.2.1)))) rfl (iZ_min ⟨by omega, by omega⟩ ⟨by omega, by omega⟩) ?_
        refine Ev.sts 1 (c' := (35, [some (.inr (.inr (.inr (11, 0, 83)))), some (.inl (iZ (p))), some (.inl (iZ (min a (((allW (wdS S)).getD k t0).2.2.1)))), some (.inl (iZ (k)))], [], h)) rfl ?_
        refine Ev.stc (c1 := (38, [some (.inr (.inr (.inr (11, 0, 83)))), some (.inl (iZ (p))), some (.inl (iZ (min a (((allW (wdS S)).getD k t0).2.2.1)))), some (.inl ((iZ (k)) + (iZ (1))))], [], h)) (c2 := (38, [some (.inr (.inr (.inr (11, 0, 83)))), some (.inl (iZ (p))), some (.inl (iZ (min a (((allW (wdS S)).getD k t0).2.2.1)))), some (.inl (iZ (k + 1)))], [], h)) rfl (by rw [iZ_add]) ?_
        refine Ev.sts 1 (c' := (6, [some (.inr (.inr (.inr (11, 0, 83)))), some (.inl (iZ (p))), some (.inl (iZ (min a (((allW (wdS S)).getD k t0).2.2.1)))), some (.inl (iZ (k + 1)))], [], h)) rfl ?_
        refine ih (k + 1) (min a ((allW (wdS S)).getD k t0).2.2.1) (by omega) (by omega) ⟨by omega, by omega⟩ ?_
        rw [e0] at q
        replace q : ∀ j : Nat, Ev (d + 1) 274 (41, [some (.inr (.inr (.inr (11, 0, 83)))), some (.inl (iZ (p))), some (.inl (iZ (fE g ((allW (wdS S)).drop (k + 1)) (if ((allW (wdS S)).getD k t0).1 = g then min a ((allW (wdS S)).getD k t0).2.2.1 else a)))), some (.inl (iZ (j)))], [], h) Q := q
        rw [if_pos (by omega)] at q
        exact q

theorem mx_toTell {d : Nat} {y : Y4} {S : Sta} {h : PH} (I : MI h S y) (W : WN S) {p : Int} {g : Nat} (hp : p = (g : Int)) (hg : g < 6) : Rv (d + 2) 274 [.inr (.inr (.inr (11, 0, 83))), .inl (iZ (p))] h (some (.inl (iZ (httC (wdS S g) (alB (bkS S) (ntS S)))))) h := Rv.of fun Q q => by
  have W0 := W
  obtain ⟨⟨w1, w2, w3, w4, w5, w6⟩, w7, w8, w9, w10, w11, w12, w13, w14, w15, w16, w17, w18⟩ := W0
  have wB : bkN (bkS S) := ⟨w1, w2, w3, w4, w5, w6⟩
  have sh0 := mi_sh I
  have al := alW_len (wdS S) 6 0
  have tl5 := lnL_le (ws := wdS S) (K := 128) (fun g => (w14 g).2) 6 0
  have alB_ := alW_B (ws := wdS S) (N := 1000) (fun g _ => (w14 g).1)
  have on1 := (mi_op I).2.1
  have on2 := (mi_op I).2.2.2.1
  have tn1 := (mi_tm I).2.1
  have tn2 := (mi_tm I).2.2.2.1
  have ab := alB_b wB (ntS S)
  have fb := fstE_b (w14 g).1 2000 (by omega) (by omega)
  refine Ev.sts 4 (c' := (6, [some (.inr (.inr (.inr (11, 0, 83)))), some (.inl (iZ (p))), some (.inl (iZ (2000))), some (.inl (iZ (0)))], [], h)) rfl ?_
  refine mx_to_lp I W hp hg ((allW (wdS S)).length + 1) 0 2000 (by omega) (by omega) ⟨by omega, by omega⟩ (fun j => ?_)
  rw [List.drop_zero, fE_all _ hg]
  refine Ev.sts 2 (c' := (43, [some (.inr (.inr (.inr (11, 0, 83)))), some (.inl (iZ (p))), some (.inl (iZ (fstE (wdS S g) 2000))), some (.inl (iZ (j)))], [.inr (.inr (.inr (11, 0, 83))), .inl (iZ (fstE (wdS S g) 2000))], h)) rfl ?_
  refine Ev.callv (a := [.inr (.inr (.inr (11, 0, 83)))]) rfl (mx_allows I W) ?_
  refine Ev.gv (w := (iZ ((fstE (wdS S g) 2000) + (alB (bkS S) (ntS S))))) rfl (iZ_add _ _) ?_
  refine Ev.sts 1 (c' := (50, [some (.inr (.inr (.inr (11, 0, 83)))), some (.inl (iZ (p))), some (.inl (iZ (fstE (wdS S g) 2000))), some (.inl (iZ (j)))], [.inl (iZ (999)), .inl (iZ ((fstE (wdS S g) 2000) + (alB (bkS S) (ntS S))))], h)) rfl ?_
  refine Ev.brc (p := (iZ ((fstE (wdS S g) 2000) + (alB (bkS S) (ntS S)))) ≤ (iZ (999))) (q := (((fstE (wdS S g) 2000) + (alB (bkS S) (ntS S)) : Int)) ≤ 999) (c1 := (57, [some (.inr (.inr (.inr (11, 0, 83)))), some (.inl (iZ (p))), some (.inl (iZ (fstE (wdS S g) 2000))), some (.inl (iZ (j)))], [], h)) (c2 := (53, [some (.inr (.inr (.inr (11, 0, 83)))), some (.inl (iZ (p))), some (.inl (iZ (fstE (wdS S g) 2000))), some (.inl (iZ (j)))], [], h)) rfl (iZ_le ⟨by omega, by omega⟩ ⟨by omega, by omega⟩) (fun c0 => ?_) (fun c0 => ?_)
  · refine Ev.sts 2 (c' := (59, [some (.inr (.inr (.inr (11, 0, 83)))), some (.inl (iZ (p))), some (.inl (iZ (fstE (wdS S g) 2000))), some (.inl (iZ (j)))], [.inr (.inr (.inr (11, 0, 83))), .inl (iZ (fstE (wdS S g) 2000))], h)) rfl ?_
    refine Ev.callv (a := [.inr (.inr (.inr (11, 0, 83)))]) rfl (mx_allows I W) ?_
    refine Ev.gv (w := (iZ ((fstE (wdS S g) 2000) + (alB (bkS S) (ntS S))))) rfl (iZ_add _ _) ?_
    rw [show httC (wdS S g) (alB (bkS S) (ntS S)) = fstE (wdS S g) 2000 + alB (bkS S) (ntS S) from if_neg (by omega)] at q
    exact Ev.ret rfl q
  · refine Ev.sts 2 (c' := (63, [some (.inr (.inr (.inr (11, 0, 83)))), some (.inl (iZ (p))), some (.inl (iZ (fstE (wdS S g) 2000))), some (.inl (iZ (j)))], [.inl (iZ (-1))], h)) rfl ?_
    rw [show httC (wdS S g) (alB (bkS S) (ntS S)) = -1 from if_pos (by omega)] at q
    exact Ev.ret rfl q

theorem mq_hourToTell {d : Nat} {y : Y4} {S : Sta} {h : PH} (I : MI h S y) (W : WN S) {p : Int} {g : Nat} (hp : p = (g : Int)) (hc : g < (bkS S).2.2.length) : Rv (d + 3) 273 [.inr (.inr (.inr (11, 0, 83))), .inl (iZ (p))] h (some (.inl (iZ (httC (wdS S g) (alB (bkS S) (ntS S)))))) (setI h 83 0 (iZ 0)) := Rv.of fun Q q => by
  have W0 := W
  obtain ⟨⟨w1, w2, w3, w4, w5, w6⟩, w7, w8, w9, w10, w11, w12, w13, w14, w15, w16, w17, w18⟩ := W0
  have wB : bkN (bkS S) := ⟨w1, w2, w3, w4, w5, w6⟩
  have sh0 := mi_sh I
  have al := alW_len (wdS S) 6 0
  have tl5 := lnL_le (ws := wdS S) (K := 128) (fun g => (w14 g).2) 6 0
  have alB_ := alW_B (ws := wdS S) (N := 1000) (fun g _ => (w14 g).1)
  have on1 := (mi_op I).2.1
  have on2 := (mi_op I).2.2.2.1
  have tn1 := (mi_tm I).2.1
  have tn2 := (mi_tm I).2.2.2.1
  have hg : g < 6 := by omega
  refine Ev.sts 5 (c' := (7, [some (.inr (.inr (.inr (11, 0, 83)))), some (.inl (iZ (p)))], [.inl (iZ (p)), .inr (.inr (.inr (11, 0, 83)))], (setI h 83 0 ((iZ (0)))))) rfl ?_
  refine Ev.callw (a := [.inr (.inr (.inr (11, 0, 83))), .inl (iZ (p))]) rfl (mx_isGoose (MI_th I) W ⟨by omega, by omega⟩ (fun _ => ?_) (fun z => absurd (show _ from ⟨by omega, by omega⟩) z))
  refine Ev.brF (p := (iZ (1)) = (iZ (0))) (c1 := (21, [some (.inr (.inr (.inr (11, 0, 83)))), some (.inl (iZ (p)))], [], (setI h 83 0 ((iZ (0)))))) (c2 := (13, [some (.inr (.inr (.inr (11, 0, 83)))), some (.inl (iZ (p)))], [], (setI h 83 0 ((iZ (0)))))) (by decide) rfl ?_
  refine Ev.sts 2 (c' := (15, [some (.inr (.inr (.inr (11, 0, 83)))), some (.inl (iZ (p)))], [.inl (iZ (p)), .inr (.inr (.inr (11, 0, 83)))], (setI h 83 0 ((iZ (0)))))) rfl ?_
  refine Ev.callv (a := [.inr (.inr (.inr (11, 0, 83))), .inl (iZ (p))]) rfl (mx_toTell (MI_th I) W hp hg) ?_
  refine Ev.sts 1 (c' := (26, [some (.inr (.inr (.inr (11, 0, 83)))), some (.inl (iZ (p)))], [.inl (iZ (httC (wdS S g) (alB (bkS S) (ntS S))))], (setI h 83 0 ((iZ (0)))))) rfl ?_
  exact Ev.ret rfl (q)

theorem mz_hourToTell {d : Nat} {y : Y4} {S : Sta} {h : PH} (I : MI h S y) (W : WN S) {p : Int} (hpb : -2147483648 ≤ p ∧ p < 2147483648) (hc : ¬ (0 ≤ p ∧ p < (bkS S).2.2.length)) : Rv (d + 2) 273 [.inr (.inr (.inr (11, 0, 83))), .inl (iZ (p))] h (some (.inl (iZ 0))) (setI (setI h 83 0 (iZ 0)) 83 0 (iZ 1)) := Rv.of fun Q q => by
  have W0 := W
  obtain ⟨⟨w1, w2, w3, w4, w5, w6⟩, w7, w8, w9, w10, w11, w12, w13, w14, w15, w16, w17, w18⟩ := W0
  have wB : bkN (bkS S) := ⟨w1, w2, w3, w4, w5, w6⟩
  have sh0 := mi_sh I
  have al := alW_len (wdS S) 6 0
  have tl5 := lnL_le (ws := wdS S) (K := 128) (fun g => (w14 g).2) 6 0
  have alB_ := alW_B (ws := wdS S) (N := 1000) (fun g _ => (w14 g).1)
  have on1 := (mi_op I).2.1
  have on2 := (mi_op I).2.2.2.1
  have tn1 := (mi_tm I).2.1
  have tn2 := (mi_tm I).2.2.2.1
  refine Ev.sts 5 (c' := (7, [some (.inr (.inr (.inr (11, 0, 83)))), some (.inl (iZ (p)))], [.inl (iZ (p)), .inr (.inr (.inr (11, 0, 83)))], (setI h 83 0 ((iZ (0)))))) rfl ?_
  refine Ev.callw (a := [.inr (.inr (.inr (11, 0, 83))), .inl (iZ (p))]) rfl (mx_isGoose (MI_th I) W ⟨by omega, by omega⟩ (fun z => absurd z hc) (fun _ => ?_))
  refine Ev.brT (p := (iZ (0)) = (iZ (0))) (c1 := (21, [some (.inr (.inr (.inr (11, 0, 83)))), some (.inl (iZ (p)))], [], (setI h 83 0 ((iZ (0)))))) (c2 := (13, [some (.inr (.inr (.inr (11, 0, 83)))), some (.inl (iZ (p)))], [], (setI h 83 0 ((iZ (0)))))) (by decide) rfl ?_
  refine Ev.sts 2 (c' := (23, [some (.inr (.inr (.inr (11, 0, 83)))), some (.inl (iZ (p)))], [.inl (iZ (1)), .inr (.inr (.inr (11, 0, 83)))], (setI h 83 0 ((iZ (0)))))) rfl ?_
  refine Ev.callv (a := [.inr (.inr (.inr (11, 0, 83))), .inl (iZ (1))]) rfl mp_fail ?_
  exact Ev.ret rfl (q)

