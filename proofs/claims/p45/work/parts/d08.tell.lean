/-! The stream by hand: what is over is told. -/
/-- n times K; the sum up to n -/
def pw (K : Nat) : Nat → Nat
  | 0 => 0
  | n + 1 => pw K n + K
def tri : Nat → Nat
  | 0 => 0
  | n + 1 => tri n + (n + 1)
theorem pw_add (K a : Nat) : ∀ b, pw K (a + b) = pw K a + pw K b := by
  intro b
  induction b with
  | zero => rfl
  | succ b ih =>
    show pw K (a + b) + K = pw K a + (pw K b + K)
    omega
theorem pw_le {K a b : Nat} (h : a ≤ b) : pw K a ≤ pw K b := by
  have := pw_add K a (b - a)
  rw [show a + (b - a) = b by omega] at this
  omega
theorem pw_mul (K : Nat) : ∀ n, pw K n = K * n := by
  intro n
  induction n with
  | zero => rfl
  | succ n ih =>
    show pw K n + K = K * (n + 1)
    rw [ih, Nat.mul_succ]
theorem skp_get {x : Wn} {R : List Wn} : ∀ (K : List Wn) (j : Nat), (K ++ R).getD j wn0 = (K ++ x :: R).getD (skp K.length j) wn0 := by
  intro K
  induction K with
  | nil => intro j; rfl
  | cons y K ih =>
    intro j
    match j with
    | 0 => rfl
    | j + 1 =>
      have e : skp (K.length + 1) (j + 1) = skp K.length j + 1 := by
        unfold skp
        by_cases c : j < K.length
        · rw [if_pos c, if_pos (by omega)]
        · rw [if_neg c, if_neg (by omega)]
      show (K ++ R).getD j wn0 = (y :: (K ++ x :: R)).getD (skp (K.length + 1) (j + 1)) wn0
      rw [e]
      exact ih j
theorem app_mid {x : Wn} {R : List Wn} : ∀ K : List Wn, (K ++ x :: R).getD K.length wn0 = x := by
  intro K
  induction K with
  | nil => rfl
  | cons y K ih => exact ih
theorem skp_lt {p n j : Nat} (h : j < n) : skp p j < n + 1 := by unfold skp; split <;> omega
theorem te_4 {d sm k c oa : Nat} {mk : Int} {u : Q5} {L : List Wn} {fl fr : Nat → Nat} {h : PH} {Q : Rs → PH → Prop} (hn : L.length ≤ 5000) (hk : k ≤ L.length) (e3 : h.2.2.1 sm 3 = (28, L.length, oa)) (o : oWs h sm u oa fl fr L) (e7 : h.1 sm 7 = iZ mk) (hB : ∀ j, 0 ≤ (L.getD j wn0).2.2.1 ∧ (L.getD j wn0).2.2.1 ≤ 1300) (hmk : 0 ≤ mk ∧ mk ≤ 2000) (k0 : L.length ≤ k → Q (.inl (some (.inl (iZ (c : Int))))) h) (k1 : k < L.length → ¬ (L.getD k wn0).2.2.1 ≤ mk → Ev d 176 (4, [some (.inr (.inr (.inr (12, 0, sm)))), some (.inl (iZ ((c : Int)))), some (.inl (iZ ((k : Int) + 1)))], [], h) Q) (k2 : k < L.length → (L.getD k wn0).2.2.1 ≤ mk → Ev d 176 (31, [some (.inr (.inr (.inr (12, 0, sm)))), some (.inl (iZ ((c : Int)))), some (.inl (iZ ((k : Int))))], [], h) Q) : Ev d 176 (4, [some (.inr (.inr (.inr (12, 0, sm)))), some (.inl (iZ ((c : Int)))), some (.inl (iZ ((k : Int))))], [], h) Q := by
  have bk := hB k
  have lk : k < L.length → fl k = 3 + (L.getD k wn0).2.2.2.length := fun z => (o k z).2.2.1
  refine Ev.sts 2 (c' := (6, [some (.inr (.inr (.inr (12, 0, sm)))), some (.inl (iZ ((c : Int)))), some (.inl (iZ ((k : Int))))], [.inr (.inr (.inr (12, 0, sm))), .inl (iZ ((k : Int)))], h)) rfl ?_
  refine Ev.gfr (r := (28, L.length, oa)) rfl e3 ?_
  refine Ev.gv (w := (iZ (L.length))) rfl (iZ_nat _) ?_
  refine Ev.brc (p := (iZ (L.length)) ≤ (iZ ((k : Int)))) (q := ((L.length : Int)) ≤ (k : Int)) (c1 := (72, [some (.inr (.inr (.inr (12, 0, sm)))), some (.inl (iZ ((c : Int)))), some (.inl (iZ ((k : Int))))], [], h)) (c2 := (13, [some (.inr (.inr (.inr (12, 0, sm)))), some (.inl (iZ ((c : Int)))), some (.inl (iZ ((k : Int))))], [], h)) rfl (iZ_le ⟨by omega, by omega⟩ ⟨by omega, by omega⟩) (fun c0 => ?_) (fun c0 => ?_)
  · refine Ev.sts 1 (c' := (73, [some (.inr (.inr (.inr (12, 0, sm)))), some (.inl (iZ ((c : Int)))), some (.inl (iZ ((k : Int))))], [.inl (iZ ((c : Int)))], h)) rfl ?_
    exact Ev.ret rfl (k0 (by omega))
  · refine Ev.sts 1 (c' := (14, [some (.inr (.inr (.inr (12, 0, sm)))), some (.inl (iZ ((c : Int)))), some (.inl (iZ ((k : Int))))], [.inr (.inr (.inr (12, 0, sm)))], h)) rfl ?_
    refine Ev.gfr (r := (28, L.length, oa)) rfl e3 ?_
    refine Ev.sts 1 (c' := (18, [some (.inr (.inr (.inr (12, 0, sm)))), some (.inl (iZ ((c : Int)))), some (.inl (iZ ((k : Int))))], [.inl (iZ ((k : Int))), .inr (.inr (.inr (28, L.length, oa)))], h)) rfl ?_
    refine Ev.ldv (j := (iZ ((k : Int)))) (n := L.length) (w := .inr (.inr (.inr (20, (fl k), (fr k))))) (iZ_in (by omega) (by omega) (by omega)) rfl (by rw [iZ_ix (n := k) (by omega) (by omega)]; exact congrArg vR (o k (by omega)).1) ?_
    refine Ev.sts 1 (c' := (20, [some (.inr (.inr (.inr (12, 0, sm)))), some (.inl (iZ ((c : Int)))), some (.inl (iZ ((k : Int))))], [.inl (iZ (2)), .inr (.inr (.inr (20, (fl k), (fr k))))], h)) rfl ?_
    refine Ev.ldv (j := (iZ (2))) (n := (fl k)) (w := .inl (iZ ((L.getD k wn0).2.2.1))) (iZ_in (by omega) (by omega) (by omega)) rfl (congrArg vI (o k (by omega)).2.2.2.2.2.1) ?_
    refine Ev.sts 1 (c' := (22, [some (.inr (.inr (.inr (12, 0, sm)))), some (.inl (iZ ((c : Int)))), some (.inl (iZ ((k : Int))))], [.inr (.inr (.inr (12, 0, sm))), .inl (iZ ((L.getD k wn0).2.2.1))], h)) rfl ?_
    refine Ev.gv (w := (iZ (mk))) rfl e7 ?_
    refine Ev.brc (p := (iZ ((L.getD k wn0).2.2.1)) ≤ (iZ (mk))) (q := (((L.getD k wn0).2.2.1 : Int)) ≤ mk) (c1 := (31, [some (.inr (.inr (.inr (12, 0, sm)))), some (.inl (iZ ((c : Int)))), some (.inl (iZ ((k : Int))))], [], h)) (c2 := (28, [some (.inr (.inr (.inr (12, 0, sm)))), some (.inl (iZ ((c : Int)))), some (.inl (iZ ((k : Int))))], [], h)) rfl (iZ_le ⟨by omega, by omega⟩ ⟨by omega, by omega⟩) (fun c1 => ?_) (fun c1 => ?_)
    · exact k2 (by omega) (by omega)
    · refine Ev.sts 1 (c' := (66, [some (.inr (.inr (.inr (12, 0, sm)))), some (.inl (iZ ((c : Int)))), some (.inl (iZ ((k : Int))))], [], h)) rfl ?_
      refine Ev.stc (c1 := (69, [some (.inr (.inr (.inr (12, 0, sm)))), some (.inl (iZ ((c : Int)))), some (.inl ((iZ ((k : Int))) + (iZ (1))))], [], h)) (c2 := (69, [some (.inr (.inr (.inr (12, 0, sm)))), some (.inl (iZ ((c : Int)))), some (.inl (iZ (((k : Int)) + 1)))], [], h)) rfl (by rw [iZ_add]) ?_
      refine Ev.sts 1 (c' := (4, [some (.inr (.inr (.inr (12, 0, sm)))), some (.inl (iZ ((c : Int)))), some (.inl (iZ (((k : Int)) + 1)))], [], h)) rfl ?_
      exact k1 (by omega) (by omega)

theorem te_31 {d sm k c oa ta tn m : Nat} {u : Q5} {L : List Wn} {fl fr tf tr : Nat → Nat} {h : PH} {Q : Rs → PH → Prop} (hn : L.length ≤ 5000) (hm : L.length = m + 1) (hk : k < L.length) (e3 : h.2.2.1 sm 3 = (28, L.length, oa)) (hoa : sm < oa ∧ oa < hN h) (o : oWs h sm u oa fl fr L) (hT : tn ≤ 5000) (e4 : h.2.2.1 sm 4 = (28, tn, ta)) (hta : ta < hN h) (ot : ∀ j, j < tn → h.2.2.1 ta j = (20, tf j, tr j)) (kk : ∀ h1 h2, nwR h h1 (tn + 1) → (∀ j, j < tn → h1.2.2.1 (hN h) j = (20, tf j, tr j)) → h1.2.2.1 (hN h) tn = (20, fl k, fr k) → nwR (setR h1 sm 4 (28, (tn + 1), (hN h))) h2 m → (∀ j, j < m → h2.2.2.1 (hN (setR h1 sm 4 (28, (tn + 1), (hN h)))) j = (20, fl (skp k j), fr (skp k j))) → Ev (d + 1) 176 (4, [some (.inr (.inr (.inr (12, 0, sm)))), some (.inl (iZ ((c : Int) + 1))), some (.inl (iZ ((k : Int))))], [], (setR h2 sm 3 (28, m, (hN (setR h1 sm 4 (28, (tn + 1), (hN h))))))) Q) : Ev (d + 1) 176 (31, [some (.inr (.inr (.inr (12, 0, sm)))), some (.inl (iZ ((c : Int)))), some (.inl (iZ ((k : Int))))], [], h) Q := by
  refine Ev.sts 2 (c' := (33, [some (.inr (.inr (.inr (12, 0, sm)))), some (.inl (iZ ((c : Int)))), some (.inl (iZ ((k : Int))))], [.inr (.inr (.inr (12, 0, sm))), .inr (.inr (.inr (12, 0, sm)))], h)) rfl ?_
  refine Ev.gfr (r := (28, tn, ta)) rfl e4 ?_
  refine Ev.sts 1 (c' := (37, [some (.inr (.inr (.inr (12, 0, sm)))), some (.inl (iZ ((c : Int)))), some (.inl (iZ ((k : Int))))], [.inr (.inr (.inr (12, 0, sm))), .inr (.inr (.inr (28, tn, ta))), .inr (.inr (.inr (12, 0, sm)))], h)) rfl ?_
  refine Ev.gfr (r := (28, L.length, oa)) rfl e3 ?_
  refine Ev.sts 1 (c' := (41, [some (.inr (.inr (.inr (12, 0, sm)))), some (.inl (iZ ((c : Int)))), some (.inl (iZ ((k : Int))))], [.inl (iZ ((k : Int))), .inr (.inr (.inr (28, L.length, oa))), .inr (.inr (.inr (28, tn, ta))), .inr (.inr (.inr (12, 0, sm)))], h)) rfl ?_
  refine Ev.ldv (j := (iZ ((k : Int)))) (n := L.length) (w := .inr (.inr (.inr (20, (fl k), (fr k))))) (iZ_in (by omega) (by omega) (by omega)) rfl (by rw [iZ_ix (n := k) (by omega) (by omega)]; exact congrArg vR (o k (by omega)).1) ?_
  refine Ev.callw (a := [.inr (.inr (.inr (28, tn, ta))), .inr (.inr (.inr (20, (fl k), (fr k))))]) rfl (ls_with (fl := tf) (fr := tr) hT hta ot (fun h1 x1 o1 e1 => ?_))
  have n1 := x1.2.2.1
  have e3b : (setR h1 sm 4 (28, (tn + 1), (hN h))).2.2.1 sm 3 = (28, L.length, oa) := (setR_ne (fun z => absurd z.2 (by decide))).trans (by rw [x1.2.1 sm (by omega)]; exact e3)
  have o2 : ∀ j, j < L.length → (setR h1 sm 4 (28, (tn + 1), (hN h))).2.2.1 oa j = (20, fl j, fr j) := fun j hj => (setR_ne (fun z => by omega)).trans (by rw [x1.2.1 oa (by omega)]; exact (o j hj).1)
  refine Ev.sts 3 (c' := (50, [some (.inr (.inr (.inr (12, 0, sm)))), some (.inl (iZ ((c : Int)))), some (.inl (iZ ((k : Int))))], [.inr (.inr (.inr (12, 0, sm))), .inr (.inr (.inr (12, 0, sm)))], (setR h1 sm 4 (28, (tn + 1), (hN h))))) rfl ?_
  refine Ev.gfr (r := (28, L.length, oa)) rfl e3b ?_
  refine Ev.sts 1 (c' := (54, [some (.inr (.inr (.inr (12, 0, sm)))), some (.inl (iZ ((c : Int)))), some (.inl (iZ ((k : Int))))], [.inl (iZ ((k : Int))), .inr (.inr (.inr (28, L.length, oa))), .inr (.inr (.inr (12, 0, sm)))], (setR h1 sm 4 (28, (tn + 1), (hN h))))) rfl ?_
  refine Ev.callw (a := [.inr (.inr (.inr (28, L.length, oa))), .inl (iZ ((k : Int)))]) rfl (ls_without (m := m) (p := k) hn hm hk (show oa < hN h1 by omega) o2 (fun h2 x2 o3 => ?_))
  refine Ev.sts 1 (c' := (60, [some (.inr (.inr (.inr (12, 0, sm)))), some (.inl (iZ ((c : Int)))), some (.inl (iZ ((k : Int))))], [], (setR h2 sm 3 (28, m, (hN (setR h1 sm 4 (28, (tn + 1), (hN h)))))))) rfl ?_
  refine Ev.stc (c1 := (63, [some (.inr (.inr (.inr (12, 0, sm)))), some (.inl (iZ ((c : Int)))), some (.inl ((iZ ((k : Int))) + (iZ (-1))))], [], (setR h2 sm 3 (28, m, (hN (setR h1 sm 4 (28, (tn + 1), (hN h)))))))) (c2 := (63, [some (.inr (.inr (.inr (12, 0, sm)))), some (.inl (iZ ((c : Int)))), some (.inl (iZ (((k : Int)) + (-1))))], [], (setR h2 sm 3 (28, m, (hN (setR h1 sm 4 (28, (tn + 1), (hN h)))))))) rfl (by rw [iZ_add]) ?_
  refine Ev.stc (c1 := (66, [some (.inr (.inr (.inr (12, 0, sm)))), some (.inl ((iZ ((c : Int))) + (iZ (1)))), some (.inl (iZ (((k : Int)) + (-1))))], [], (setR h2 sm 3 (28, m, (hN (setR h1 sm 4 (28, (tn + 1), (hN h)))))))) (c2 := (66, [some (.inr (.inr (.inr (12, 0, sm)))), some (.inl (iZ (((c : Int)) + 1))), some (.inl (iZ (((k : Int)) + (-1))))], [], (setR h2 sm 3 (28, m, (hN (setR h1 sm 4 (28, (tn + 1), (hN h)))))))) rfl (by rw [iZ_add]) ?_
  refine Ev.stc (c1 := (69, [some (.inr (.inr (.inr (12, 0, sm)))), some (.inl (iZ (((c : Int)) + 1))), some (.inl ((iZ (((k : Int)) + (-1))) + (iZ (1))))], [], (setR h2 sm 3 (28, m, (hN (setR h1 sm 4 (28, (tn + 1), (hN h)))))))) (c2 := (69, [some (.inr (.inr (.inr (12, 0, sm)))), some (.inl (iZ (((c : Int)) + 1))), some (.inl (iZ ((((k : Int)) + (-1)) + 1)))], [], (setR h2 sm 3 (28, m, (hN (setR h1 sm 4 (28, (tn + 1), (hN h)))))))) rfl (by rw [iZ_add]) ?_
  refine Ev.sts 1 (c' := (4, [some (.inr (.inr (.inr (12, 0, sm)))), some (.inl (iZ (((c : Int)) + 1))), some (.inl (iZ ((((k : Int)) + (-1)) + 1)))], [], (setR h2 sm 3 (28, m, (hN (setR h1 sm 4 (28, (tn + 1), (hN h)))))))) rfl ?_
  rw [show (((k : Int)) + (-1)) + 1 = (k : Int) by omega]
  exact kk h1 h2 x1 o1 e1 x2 o3

/-- one window told -/
theorem SM_tel {h h1 h2 : PH} {sm ca ka oa ta m : Nat} {u : Q5} {C : List (Ctx × Int32)} {K R T : List Wn} {w : Wn} {nt : Nat} {gr mk : Int} {lt : Nat → Nat} {fl fr tf tr : Nat → Nat} (x : SMh h sm u ca ka oa ta (mkM C (K ++ w :: R) T nt gr mk lt)) (o : oWs h sm u oa fl fr (K ++ w :: R)) (ot : oWs h sm u ta tf tr T) (hm : (K ++ w :: R).length = m + 1) (x1 : nwR h h1 (T.length + 1)) (o1 : ∀ j, j < T.length → h1.2.2.1 (hN h) j = (20, tf j, tr j)) (e1 : h1.2.2.1 (hN h) T.length = (20, fl K.length, fr K.length)) (x2 : nwR (setR h1 sm 4 (28, (T.length + 1), (hN h))) h2 m) (o3 : ∀ j, j < m → h2.2.2.1 (hN (setR h1 sm 4 (28, (T.length + 1), (hN h)))) j = (20, fl (skp K.length j), fr (skp K.length j))) : SMh (setR h2 sm 3 (28, m, hN (setR h1 sm 4 (28, (T.length + 1), (hN h))))) sm u ca ka (hN h + 1) (hN h) (mkM C (K ++ R) (T ++ [w]) nt gr mk lt) ∧ SI sm sm h (setR h2 sm 3 (28, m, hN (setR h1 sm 4 (28, (T.length + 1), (hN h))))) ∧ hN (setR h2 sm 3 (28, m, hN (setR h1 sm 4 (28, (T.length + 1), (hN h))))) = hN h + 2 ∧ hS (setR h2 sm 3 (28, m, hN (setR h1 sm 4 (28, (T.length + 1), (hN h))))) = hS h + (T.length + 1) + m := by
  obtain ⟨x0, xc, xk, x3, x4, x5, x6, x7, x8⟩ := x
  obtain ⟨a1, a2, a3, a4⟩ := x1
  obtain ⟨b1, b2, b3, b4⟩ := x2
  have gN : hN (setR h1 sm 4 (28, (T.length + 1), (hN h))) = hN h + 1 := a3
  have gS : hS (setR h1 sm 4 (28, (T.length + 1), (hN h))) = hS h + (T.length + 1) := a4
  have lm : (K ++ R).length = m := by
    rw [List.length_append] at hm ⊢
    rw [List.length_cons] at hm
    omega
  have lT : (T ++ [w]).length = T.length + 1 := by rw [List.length_append]; rfl
  rw [gN] at b2 b3 o3 ⊢
  rw [gS] at b4
  have I : (setR h2 sm 3 (28, m, hN h + 1)).1 = h.1 := b1.trans a1
  have s5 := x8.2
  have rr : ∀ a, a ≠ sm → a ≠ hN h → a ≠ hN h + 1 → (setR h2 sm 3 (28, m, hN h + 1)).2.2.1 a = h.2.2.1 a := fun a p1 p2 p3 => (setR_oth p1).trans ((b2 a p3).trans ((setR_oth p1).trans (a2 a p2)))
  have rs : ∀ k, k ≠ 3 → k ≠ 4 → (setR h2 sm 3 (28, m, hN h + 1)).2.2.1 sm k = h.2.2.1 sm k := fun k p1 p2 => (setR_ne (fun z => p1 z.2)).trans ((congrFun (b2 sm (by omega)) k).trans ((setR_ne (fun z => p2 z.2)).trans (congrFun (a2 sm (by omega)) k)))
  have nn : hN (setR h2 sm 3 (28, m, hN h + 1)) = hN h + 2 := b3
  have S : SI sm sm h (setR h2 sm 3 (28, m, hN h + 1)) := ⟨fun a _ _ _ => by rw [I], fun a p1 p2 _ => rr a p2 (by omega) (by omega), fun a _ => by rw [I], by omega⟩
  have lc := xc.2.1
  have lk := xk.2.1
  refine ⟨⟨(rs 0 (by decide) (by decide)).trans x0, sCm_SI S (by omega) (rs 1 (by decide) (by decide)) xc, sTk_SI S (by omega) (rs 2 (by decide) (by decide)) xk, ⟨?_, ⟨by omega, by omega⟩, fun j => fl (skp K.length j), fun j => fr (skp K.length j), fun j hj => ?_⟩, ⟨?_, ⟨by omega, by omega⟩, fun j => if j < T.length then tf j else fl K.length, fun j => if j < T.length then tr j else fr K.length, fun j hj => ?_⟩, sNm_e (congrFun I sm) x5, sLt_e (congrFun I (sm + 5)) (rs 8 (by decide) (by decide)) x6, ⟨by omega, by omega, by omega⟩, ⟨x8.1, by omega⟩⟩, S, nn, ?_⟩
  · show _ = (28, (K ++ R).length, hN h + 1)
    rw [lm]; exact setR_self _ _ _ _
  · have hj : j < (K ++ R).length := hj
    rw [lm] at hj
    dsimp only
    obtain ⟨y1, ⟨p1, p2, p3⟩, y3⟩ := o (skp K.length j) (by rw [hm]; exact skp_lt hj)
    refine ⟨(setR_ne (by omega)).trans (o3 j hj), ⟨p1, by omega, p3⟩, ?_⟩
    show wRw _ _ _ ((K ++ R).getD j wn0)
    rw [skp_get (x := w) K j]
    exact wRw_e (congrFun I _) y3
  · show _ = (28, (T ++ [w]).length, hN h)
    rw [lT]
    exact (setR_ne (by omega)).trans ((congrFun (b2 sm (by omega)) 4).trans (setR_self _ _ _ _))
  · have hj : j < (T ++ [w]).length := hj
    rw [lT] at hj
    dsimp only
    have e : (setR h2 sm 3 (28, m, hN h + 1)).2.2.1 (hN h) j = h1.2.2.1 (hN h) j := (setR_ne (by omega)).trans ((congrFun (b2 (hN h) (by omega)) j).trans (setR_ne (by omega)))
    by_cases c : j < T.length
    · obtain ⟨y1, ⟨p1, p2, p3⟩, y3⟩ := ot j c
      refine ⟨by rw [e, if_pos c, if_pos c]; exact o1 j c, by rw [if_pos c]; exact ⟨p1, by omega, p3⟩, ?_⟩
      rw [if_pos c, if_pos c]
      show wRw _ _ _ ((T ++ [w]).getD j wn0)
      rw [getD_app0 _ _ _ _ c]
      exact wRw_e (congrFun I _) y3
    · have ej : j = T.length := by omega
      have hK : K.length < (K ++ w :: R).length := by rw [List.length_append, List.length_cons]; omega
      obtain ⟨y1, ⟨p1, p2, p3⟩, y3⟩ := o K.length hK
      refine ⟨by rw [e, if_neg c, if_neg c, ej]; exact e1, by rw [if_neg c]; exact ⟨p1, by omega, p3⟩, ?_⟩
      rw [if_neg c, if_neg c]
      show wRw _ _ _ ((T ++ [w]).getD j wn0)
      rw [ej, getD_app1]
      rw [app_mid] at y3
      exact wRw_e (congrFun I _) y3
  · show hS h2 = _
    omega
theorem te_lp {d sm ca ka K1 : Nat} {u : Q5} {C : List (Ctx × Int32)} {nt : Nat} {gr mk : Int} {lt : Nat → Nat} {Q : Rs → PH → Prop} (hmk : 0 ≤ mk ∧ mk ≤ 2000) (hK1 : K1 ≤ 5000) (R : List Wn) : ∀ (K T : List Wn) (c oa ta : Nat) (h : PH), SMh h sm u ca ka oa ta (mkM C (K ++ R) T nt gr mk lt) → (K ++ R).length ≤ K1 → T.length + R.length ≤ 5000 → (∀ x ∈ K ++ R, 0 ≤ x.2.2.1 ∧ x.2.2.1 ≤ 1300) → (∀ h1 oa1 ta1, SMh h1 sm u ca ka oa1 ta1 (mkM C (K ++ kpL R mk) (T ++ gnW R mk) nt gr mk lt) → SI sm sm h h1 → (oa1 = oa ∨ hN h ≤ oa1) → hS h1 + pw K1 (K ++ kpL R mk).length + tri T.length ≤ hS h + pw K1 (K ++ R).length + tri (T ++ gnW R mk).length → hN h1 + 2 * (K ++ kpL R mk).length ≤ hN h + 2 * (K ++ R).length → Q (.inl (some (.inl (iZ ((c + (gnW R mk).length : Nat) : Int))))) h1) → Ev (d + 1) 176 (4, [some (.inr (.inr (.inr (12, 0, sm)))), some (.inl (iZ ((c : Int)))), some (.inl (iZ ((K.length : Int))))], [], h) Q := by
  induction R with
  | nil =>
    intro K T c oa ta h x hl hT hB q
    obtain ⟨x0, xc, xk, x3, x4, x5, x6, x7, x8⟩ := id x
    have x3 : sOw h sm u 3 oa (K ++ []) := x3
    have e7 : h.1 sm 7 = iZ mk := x5.2.2
    obtain ⟨e3, l3, fl, fr, o⟩ := x3
    have hB2 : ∀ j, 0 ≤ ((K ++ []).getD j wn0).2.2.1 ∧ ((K ++ []).getD j wn0).2.2.1 ≤ 1300 := fun j => by
      by_cases z : j < (K ++ [] : List Wn).length
      · exact hB _ (getD_mem z)
      · rw [List.getD_eq_getElem?_getD, List.getElem?_eq_none (by omega)]; exact ⟨by decide, by decide⟩
    have lK : (K ++ [] : List Wn).length = K.length := by rw [List.append_nil]
    refine te_4 (d := d + 1) (by omega) (by omega) e3 o e7 hB2 hmk (fun _ => ?_) (fun z => by omega) (fun z => by omega)
    refine q h oa ta ?_ (SI_r _ _ _) (.inl rfl) ?_ (Nat.le_refl _)
    · rw [show T ++ gnW [] mk = T from List.append_nil T]; exact x
    · rw [show T ++ gnW [] mk = T from List.append_nil T]; exact Nat.le_refl _
  | cons w R ih =>
    intro K T c oa ta h x hl hT hB q
    obtain ⟨x0, xc, xk, x3, x4, x5, x6, x7, x8⟩ := id x
    have x3 : sOw h sm u 3 oa (K ++ w :: R) := x3
    have x4 : sOw h sm u 4 ta T := x4
    have e7 : h.1 sm 7 = iZ mk := x5.2.2
    obtain ⟨e3, l3, fl, fr, o⟩ := x3
    obtain ⟨e4, l4, tf, tr, ot⟩ := x4
    have hB2 : ∀ j, 0 ≤ ((K ++ w :: R).getD j wn0).2.2.1 ∧ ((K ++ w :: R).getD j wn0).2.2.1 ≤ 1300 := fun j => by
      by_cases z : j < (K ++ w :: R : List Wn).length
      · exact hB _ (getD_mem z)
      · rw [List.getD_eq_getElem?_getD, List.getElem?_eq_none (by omega)]; exact ⟨by decide, by decide⟩
    have lK : (K ++ w :: R).length = K.length + R.length + 1 := by rw [List.length_append, List.length_cons]; omega
    have lw : (w :: R).length = R.length + 1 := rfl
    refine te_4 (d := d + 1) (by omega) (by omega) e3 o e7 hB2 hmk (fun z => by omega) (fun _ z => ?_) (fun _ z => ?_)
    · rw [app_mid] at z
      have ea : K ++ w :: R = (K ++ [w]) ++ R := by rw [List.append_assoc]; rfl
      have e5 : (K ++ [w]).length = K.length + 1 := by rw [List.length_append]; rfl
      have i := ih (K ++ [w]) T c oa ta h (by rw [← ea]; exact x) (by rw [← ea]; exact hl) (by omega) (by rw [← ea]; exact hB) (fun h1 oa1 ta1 y s co r1 r2 => by
        rw [kpL_y (by omega), gnW_n (by omega)] at q
        rw [show (K ++ [w]) ++ kpL R mk = K ++ w :: kpL R mk by rw [List.append_assoc]; rfl] at y r1 r2
        rw [← ea] at r1 r2
        exact q h1 oa1 ta1 y s co r1 r2)
      rw [e5] at i
      exact i
    · rw [app_mid] at z
      refine te_31 (d := d) (m := K.length + R.length) (tn := T.length) (by omega) (by omega) (by omega) e3 l3 o (by omega) e4 l4.2 (fun j hj => (ot j hj).1) (fun h1 h2 y1 p1 q1 y2 p2 => ?_)
      obtain ⟨X, S, n2, m2⟩ := SM_tel x o ot (by omega) y1 p1 q1 y2 p2
      have lKR : (K ++ R).length = K.length + R.length := List.length_append
      have lT : (T ++ [w]).length = T.length + 1 := by rw [List.length_append]; rfl
      refine ih K (T ++ [w]) (c + 1) (hN h + 1) (hN h) _ X (by omega) (by omega) (fun y hy => hB y ?_) (fun h3 oa1 ta1 y s co r1 r2 => ?_)
      · rcases List.mem_append.mp hy with a | a
        · exact List.mem_append_left _ a
        · exact List.mem_append_right _ (List.mem_cons_of_mem _ a)
      · rw [kpL_n (by omega), gnW_y z] at q
        rw [show (T ++ [w]) ++ gnW R mk = T ++ w :: gnW R mk by rw [List.append_assoc]; rfl] at y r1
        have e6 : c + 1 + (gnW R mk).length = c + (w :: gnW R mk).length := by rw [List.length_cons]; omega
        rw [e6]
        have p1 : pw K1 (K ++ w :: R).length = pw K1 (K ++ R).length + K1 := by rw [lK, lKR]; rfl
        have t1 : tri (T ++ [w]).length = tri T.length + (T.length + 1) := by rw [lT]; rfl
        exact q h3 oa1 ta1 y (SI_t S s (.inr (.inr rfl))) (by omega) (by omega) (by omega)
theorem ls_tell {d sm ca ka oa ta K1 : Nat} {u : Q5} {M : Ms} {h : PH} {Q : Rs → PH → Prop} (x : SMh h sm u ca ka oa ta M) (hmk : 0 ≤ yK M ∧ yK M ≤ 2000) (hK1 : K1 ≤ 5000) (hl : (yO M).length ≤ K1) (hT : (yT M).length + (yO M).length ≤ 5000) (hB : ∀ x ∈ yO M, 0 ≤ x.2.2.1 ∧ x.2.2.1 ≤ 1300) (q : ∀ h1 oa1 ta1, SMh h1 sm u ca ka oa1 ta1 (mkM (yC M) (kpL (yO M) (yK M)) (yT M ++ gnW (yO M) (yK M)) (yN M) (yG M) (yK M) (yL M)) → SI sm sm h h1 → hS h1 + pw K1 (kpL (yO M) (yK M)).length + tri (yT M).length ≤ hS h + pw K1 (yO M).length + tri (yT M ++ gnW (yO M) (yK M)).length → hN h1 + 2 * (kpL (yO M) (yK M)).length ≤ hN h + 2 * (yO M).length → Q (.inl (some (.inl (iZ (((gnW (yO M) (yK M)).length : Nat) : Int))))) h1) : Rn (d + 1) 176 [.inr (.inr (.inr (12, 0, sm)))] h Q := by
  refine Ev.sts 4 (c' := (4, [some (.inr (.inr (.inr (12, 0, sm)))), some (.inl (iZ (0))), some (.inl (iZ (0)))], [], h)) rfl ?_
  refine te_lp (d := d) (C := yC M) (nt := yN M) (gr := yG M) (lt := yL M) hmk hK1 (yO M) [] (yT M) 0 oa ta h x hl hT hB (fun h1 oa1 ta1 y s co r1 r2 => ?_)
  have := q h1 oa1 ta1 y s r1 r2
  rw [Nat.zero_add]
  exact this
