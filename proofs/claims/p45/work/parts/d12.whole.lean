/-! The stream by hand: a comma, whole. -/
/-- how many bits below k -/
def pcN (tk : Int32) : Nat → Int
  | 0 => 0
  | k + 1 => pcN tk k + (if bitv tk (iZ (k : Int)) = iZ 1 then 1 else 0)
theorem bcv_pc : ∀ n : Fin 256, bcv (iZ (n.val : Int)) = iZ (pcN (iZ (n.val : Int)) 8) := by decide +kernel
theorem pcN_b (tk : Int32) : ∀ k : Nat, 0 ≤ pcN tk k ∧ pcN tk k ≤ k := by
  intro k
  induction k with
  | zero => exact ⟨Int.le_refl _, Int.le_refl _⟩
  | succ k ih =>
    show 0 ≤ pcN tk k + (if bitv tk (iZ (k : Int)) = iZ 1 then 1 else 0) ∧ pcN tk k + (if bitv tk (iZ (k : Int)) = iZ 1 then 1 else 0) ≤ ((k + 1 : Nat) : Int)
    split <;> omega
/-- all bits counted -/
theorem pc_lp {d sm n rw tb kb : Nat} {hr : Int} {tk : Int32} {h : PH} {Q : Rs → PH → Prop} (t : tkR h tb tk) (q : Q (.inl (some (.inl (iZ (pcN tk 8))))) h) (m : Nat) : ∀ (k : Nat) (x10 x11 x12 x13 : Option VV), k + m = 8 → Ev d 179 (641, [some (.inr (.inr (.inr (12, 0, sm)))), some (.inr (.inr (.inr (20, 4, rw)))), some (.inr (.inr (.inr (26, 8, tb)))), some (.inl (iZ ((n : Int)))), some (.inr (.inr (.inr (29, (n + 1), kb)))), some (.inl (iZ (hr))), some (.inl (iZ (pcN tk k))), some (.inr (.inr (.inr (26, 8, tb)))), some (.inl (iZ (8))), some (.inl (iZ ((k : Int)))), x10, x11, x12, x13], [], h) Q := by
  induction m with
  | zero =>
    intro k x10 x11 x12 x13 hk
    obtain rfl : k = 8 := by omega
    exact cm_641 (d := d) (bt := iZ 0) (Nat.le_refl _) (fun c => by omega) (fun _ => q) (fun c => by omega) (fun c => by omega)
  | succ m ih =>
    intro k x10 x11 x12 x13 hk
    refine cm_641 (d := d) (bt := bitv tk (iZ (k : Int))) (by omega) (fun c => t k c) (fun c => by omega) (fun _ c => ?_) (fun _ c => ?_)
    · have e : pcN tk (k + 1) = pcN tk k := by
        show pcN tk k + (if bitv tk (iZ (k : Int)) = iZ 1 then 1 else 0) = _
        rw [if_neg (by rw [c]; decide)]; omega
      have := ih (k + 1) (some (.inl (bitv tk (iZ (k : Int))))) x11 x12 x13 (by omega)
      rw [e] at this
      exact this
    · have c1 : bitv tk (iZ (k : Int)) = iZ 1 := (bitv_01 _ _).elim (fun z => absurd z c) id
      have e : pcN tk (k + 1) = pcN tk k + 1 := by
        show pcN tk k + (if bitv tk (iZ (k : Int)) = iZ 1 then 1 else 0) = _
        rw [if_pos c1]
      have := ih (k + 1) (some (.inl (bitv tk (iZ (k : Int))))) x11 x12 x13 (by omega)
      rw [e] at this
      exact this
/-- the rows of takers copied -/
theorem ty_lp {d sm n rw tb kb ka : Nat} {hr : Int} {fr : Nat → Nat} {h0 : PH} {Q : Rs → PH → Prop} (hn : n ≤ 5000) (hb : kb = hN h0) (hka : ka < kb) (hsm : sm < kb) (e2 : h0.2.2.1 sm 2 = (29, n, ka)) (ok : ∀ j, j < n → h0.2.2.1 ka j = (26, 8, fr j)) (er : h0.1 rw 0 = iZ hr) (q : ∀ h1, nwR h0 h1 (n + 1) → (∀ j, j < n → h1.2.2.1 kb j = (26, 8, fr j)) → Ev d 179 (78, [some (.inr (.inr (.inr (12, 0, sm)))), some (.inr (.inr (.inr (20, 4, rw)))), some (.inr (.inr (.inr (26, 8, tb)))), some (.inl (iZ ((n : Int)))), some (.inr (.inr (.inr (29, (n + 1), kb)))), some (.inl (iZ (hr))), some (.inl (iZ (0))), none, none, none, none, none, none, none], [], (setR (setR h1 kb n (26, 8, tb)) sm 2 (29, (n + 1), kb))) Q) (m : Nat) : ∀ (k : Nat) (h : PH), k + m = n → nwR h0 h (n + 1) → (∀ j, j < k → h.2.2.1 kb j = (26, 8, fr j)) → Ev d 179 (35, [some (.inr (.inr (.inr (12, 0, sm)))), some (.inr (.inr (.inr (20, 4, rw)))), some (.inr (.inr (.inr (26, 8, tb)))), some (.inl (iZ ((n : Int)))), some (.inr (.inr (.inr (29, (n + 1), kb)))), some (.inl (iZ ((k : Int)))), none, none, none, none, none, none, none, none], [], h) Q := by
  induction m with
  | zero =>
    intro k h hk x y
    obtain rfl : k = n := by omega
    exact cm_35 (d := d) (fr := fr) hn (Nat.le_refl _) (by rw [x.2.1 sm (by omega)]; exact e2) (fun j hj => by rw [x.2.1 ka (by omega)]; exact ok j hj) (by rw [x.1]; exact er) (fun _ => q h x y) (fun c => by omega)
  | succ m ih =>
    intro k h hk x y
    refine cm_35 (d := d) (fr := fr) hn (by omega) (by rw [x.2.1 sm (by omega)]; exact e2) (fun j hj => by rw [x.2.1 ka (by omega)]; exact ok j hj) (by rw [x.1]; exact er) (fun c => by omega) (fun c => ?_)
    exact ih (k + 1) _ (by omega) (by rw [hb]; exact nwR_s x) (fun j hj => by
      by_cases e : j = k
      · rw [e]; exact setR_self _ _ _ _
      · exact (setR_ne (by omega)).trans (y j (by omega)))
/-- a comma and its takers are kept -/
theorem SM_add {h h1 h2 h3 : PH} {sm ca ka oa ta rw : Nat} {u : Q5} {M : Ms} {x : Ctx} {tk : Int32} {cr kr : Nat → Nat} (y : SMh h sm u ca ka oa ta M) (hu : qD u (hN h)) (oc : ∀ j, j < (yC M).length → h.2.2.1 ca j = (20, 4, cr j) ∧ pI sm u (hN h) (cr j) ∧ coR h (cr j) ((yC M).getD j c00).1) (ok : ∀ j, j < (yC M).length → h.2.2.1 ka j = (26, 8, kr j) ∧ pI sm u (hN h) (kr j) ∧ tkR h (kr j) ((yC M).getD j c00).2) (co : coR h rw x) (pr : pI sm u (hN h) rw) (x1 : nwI h h1 8) (t1 : tkR h1 (hN h) tk) (x2 : nwR h1 h2 ((yC M).length + 1)) (o2 : ∀ j, j < (yC M).length → h2.2.2.1 (hN h1) j = (20, 4, cr j)) (l2 : h2.2.2.1 (hN h1) (yC M).length = (20, 4, rw)) (x3 : nwR (setR h2 sm 1 (28, ((yC M).length + 1), (hN h1))) h3 ((yC M).length + 1)) (o3 : ∀ j, j < (yC M).length → h3.2.2.1 (hN h2) j = (26, 8, kr j)) : SMh (setR (setR h3 (hN h2) (yC M).length (26, 8, (hN h))) sm 2 (29, ((yC M).length + 1), (hN h2))) sm u (hN h1) (hN h2) oa ta (mkM (yC M ++ [(x, tk)]) (yO M) (yT M) (yN M) (yG M) (yK M) (yL M)) ∧ SI sm sm h (setR (setR h3 (hN h2) (yC M).length (26, 8, (hN h))) sm 2 (29, ((yC M).length + 1), (hN h2))) ∧ hN (setR (setR h3 (hN h2) (yC M).length (26, 8, (hN h))) sm 2 (29, ((yC M).length + 1), (hN h2))) = hN h + 3 ∧ hS (setR (setR h3 (hN h2) (yC M).length (26, 8, (hN h))) sm 2 (29, ((yC M).length + 1), (hN h2))) = hS h + 8 + ((yC M).length + 1) + ((yC M).length + 1) ∧ tkR (setR (setR h3 (hN h2) (yC M).length (26, 8, (hN h))) sm 2 (29, ((yC M).length + 1), (hN h2))) (hN h) tk := by
  obtain ⟨y0, yc, yk, y3, y4, y5, y6, y7, y8⟩ := y
  obtain ⟨a1, a2, a3, a4⟩ := x1
  obtain ⟨b1, b2, b3, b4⟩ := x2
  obtain ⟨c1, c2, c3, c4⟩ := x3
  have gN : hN (setR h2 sm 1 (28, ((yC M).length + 1), (hN h1))) = hN h2 := rfl
  have gS : hS (setR h2 sm 1 (28, ((yC M).length + 1), (hN h1))) = hS h2 := rfl
  rw [gN] at c2 c3
  rw [gS] at c4
  have s5 := y8.2
  have lc := yc.2.1
  have lk := yk.2.1
  have l3 := y3.2.1
  have l4 := y4.2.1
  have I3 : h3.1 = h1.1 := c1.trans b1
  have qn : qN u (hN h) := by
    obtain ⟨⟨_, d1⟩, ⟨_, d2⟩, ⟨_, d3⟩, ⟨_, d4⟩, ⟨_, d5⟩, _⟩ := hu
    exact ⟨by omega, by omega, by omega, by omega, by omega⟩
  have I : ∀ a, a ≠ hN h → (setR (setR h3 (hN h2) (yC M).length (26, 8, (hN h))) sm 2 (29, ((yC M).length + 1), (hN h2))).1 a = h.1 a := fun a ha => (congrFun I3 a).trans (a2 a ha)
  have rr : ∀ a, a ≠ sm → a ≠ hN h1 → a ≠ hN h2 → (setR (setR h3 (hN h2) (yC M).length (26, 8, (hN h))) sm 2 (29, ((yC M).length + 1), (hN h2))).2.2.1 a = h.2.2.1 a := fun a p1 p2 p3 => (setR_oth p1).trans ((setR_oth p3).trans ((c2 a p3).trans ((setR_oth p1).trans ((b2 a p2).trans (congrFun a1 a)))))
  have rs : ∀ k, k ≠ 1 → k ≠ 2 → (setR (setR h3 (hN h2) (yC M).length (26, 8, (hN h))) sm 2 (29, ((yC M).length + 1), (hN h2))).2.2.1 sm k = h.2.2.1 sm k := fun k p1 p2 => (setR_ne (fun z => p2 z.2)).trans ((setR_ne (by omega)).trans ((congrFun (c2 sm (by omega)) k).trans ((setR_ne (fun z => p1 z.2)).trans ((congrFun (b2 sm (by omega)) k).trans (congrFun (congrFun a1 sm) k)))))
  have nn : hN (setR (setR h3 (hN h2) (yC M).length (26, 8, (hN h))) sm 2 (29, ((yC M).length + 1), (hN h2))) = hN h + 3 := by show hN h3 = _; omega
  have S : SI sm sm h (setR (setR h3 (hN h2) (yC M).length (26, 8, (hN h))) sm 2 (29, ((yC M).length + 1), (hN h2))) := ⟨fun a p1 _ _ => I a (by omega), fun a p1 p2 _ => rr a p2 (by omega) (by omega), fun a p1 => I a (by omega), by omega⟩
  have lC : (yC M ++ [(x, tk)]).length = (yC M).length + 1 := by rw [List.length_append]; rfl
  have tf : tkR (setR (setR h3 (hN h2) (yC M).length (26, 8, (hN h))) sm 2 (29, ((yC M).length + 1), (hN h2))) (hN h) tk := fun i hi => (congrFun (congrFun I3 (hN h)) i).trans (t1 i hi)
  refine ⟨⟨(rs 0 (by decide) (by decide)).trans y0, ⟨?_, ⟨by omega, by omega⟩, fun j => if j < (yC M).length then cr j else rw, fun j hj => ?_⟩, ⟨?_, ⟨by omega, by omega⟩, fun j => if j < (yC M).length then kr j else hN h, fun j hj => ?_⟩, sOw_SI S (by omega) (rs 3 (by decide) (by decide)) y3, sOw_SI S (by omega) (rs 4 (by decide) (by decide)) y4, sNm_e (I sm (by omega)) y5, sLt_e (I (sm + 5) (by omega)) (rs 8 (by decide) (by decide)) y6, ⟨by omega, by omega, y7.2.2⟩, ⟨y8.1, by omega⟩⟩, S, nn, ?_, tf⟩
  · show _ = (28, (yC M ++ [(x, tk)]).length, hN h1)
    rw [lC]
    exact (setR_ne (by omega)).trans ((setR_ne (by omega)).trans ((congrFun (c2 sm (by omega)) 1).trans (setR_self _ _ _ _)))
  · have hj : j < (yC M ++ [(x, tk)]).length := hj
    rw [lC] at hj
    dsimp only
    have e : (setR (setR h3 (hN h2) (yC M).length (26, 8, (hN h))) sm 2 (29, ((yC M).length + 1), (hN h2))).2.2.1 (hN h1) j = h2.2.2.1 (hN h1) j := (setR_ne (by omega)).trans ((setR_ne (by omega)).trans ((congrFun (c2 (hN h1) (by omega)) j).trans (setR_ne (by omega))))
    by_cases c : j < (yC M).length
    · obtain ⟨z1, ⟨p1, p2, p3⟩, z3⟩ := oc j c
      rw [if_pos c]
      refine ⟨e.trans (o2 j c), ⟨p1, by omega, p3⟩, ?_⟩
      show coR _ _ ((yC M ++ [(x, tk)]).getD j c00).1
      rw [getD_app0 _ _ _ _ c]
      unfold coR
      rw [I (cr j) (by omega)]
      exact z3
    · have ej : j = (yC M).length := by omega
      obtain ⟨p1, p2, p3⟩ := pr
      rw [if_neg c]
      refine ⟨by rw [e, ej]; exact l2, ⟨p1, by omega, p3⟩, ?_⟩
      show coR _ _ ((yC M ++ [(x, tk)]).getD j c00).1
      rw [ej, getD_app1]
      unfold coR
      rw [I rw (by omega)]
      exact co
  · show _ = (29, (yC M ++ [(x, tk)]).length, hN h2)
    rw [lC]
    exact setR_self _ _ _ _
  · have hj : j < (yC M ++ [(x, tk)]).length := hj
    rw [lC] at hj
    dsimp only
    by_cases c : j < (yC M).length
    · obtain ⟨z1, ⟨p1, p2, p3⟩, z3⟩ := ok j c
      rw [if_pos c]
      refine ⟨(setR_ne (by omega)).trans ((setR_ne (by omega)).trans (o3 j c)), ⟨p1, by omega, p3⟩, ?_⟩
      show tkR _ _ ((yC M ++ [(x, tk)]).getD j c00).2
      rw [getD_app0 _ _ _ _ c]
      unfold tkR
      rw [I (kr j) (by omega)]
      exact z3
    · have ej : j = (yC M).length := by omega
      rw [if_neg c]
      refine ⟨by rw [ej]; exact (setR_ne (by omega)).trans (setR_self _ _ _ _), ⟨by omega, by omega, qn⟩, ?_⟩
      show tkR _ _ ((yC M ++ [(x, tk)]).getD j c00).2
      rw [ej, getD_app1]
      exact tf
  · show hS h3 = _
    omega
/-- counts of a goose's windows, out of its row -/
theorem cntG_rw {tl : Nat → Nat} {f : Nat → Nat → Int32} {g : Nat} : ∀ L : List Wn, (cntG g L : Int) = cntW (rwL tl f L g) := by
  intro L
  induction L with
  | nil => rfl
  | cons x L ih =>
    show (((if x.1 = g then x.2.2.2.length else 0) + cntG g L : Nat) : Int) = _
    by_cases c : x.1 = g
    · rw [if_pos c, rwL_y c]
      show _ = (x.2.2.2.length : Int) + cntW (rwL tl f L g)
      omega
    · rw [if_neg c, rwL_n c]
      omega
theorem mem_rw {tl : Nat → Nat} {f : Nat → Nat → Int32} {g : Nat} {L : List Wn} {x : Wn} (h : x ∈ L) (e : x.1 = g) : wo tl f x ∈ rwL tl f L g := List.mem_map.mpr ⟨x, List.mem_filter.mpr ⟨h, decide_eq_true e⟩, rfl⟩
theorem wn_BC {N : Nat} {w : Wn} (h : wnB N w) : wnC w := ⟨h.1, h.2.1.1, by have := h.2.1.2; omega, by have := h.2.1.1; have := h.2.2.1; omega, by have := h.2.2.2.1; omega⟩
theorem goY_B1 {G : Gs} {g N : Nat} {hr mk : Int} {L : List Wn} (b : goB G) (hg : g < 6) (h0 : 0 ≤ hr) (h1 : hr ≤ 999) (h : ∀ x ∈ L, wnB (N + 1) x) : ∀ x ∈ goY G g N hr mk L, wnB (N + 1) x := by
  obtain ⟨b1, b2, b3, b4, b5⟩ := b
  unfold goY
  by_cases c : G.2.2.1 = 0
  · rw [if_pos c]
    by_cases d : mk < hr + G.2.1
    · rw [if_pos d]
      intro x hx
      rcases (putL_mem _).mp hx with e | e
      · rw [e]
        obtain ⟨f1, f2, f3, f4⟩ := mgF_b (g := g) (hr := hr) (wd := G.2.1) L (g, hr, hr + G.2.1, [N]) (fun y hy => ⟨(h y hy).2.1.1, (h y hy).2.2.2.1⟩) ⟨h0, h1, by show hr < hr + G.2.1; omega, by show hr + G.2.1 ≤ 1199; omega⟩
        obtain ⟨n1, n2⟩ := mgF_ns (g := g) (hr := hr) (wd := G.2.1) (N := N + 1) L (g, hr, hr + G.2.1, [N]) (List.cons_ne_nil _ _) (fun n hn => by
          have hn : n ∈ [N] := hn
          rw [List.mem_singleton] at hn; omega) (fun y hy n hn => (h y hy).2.2.2.2.2 n hn)
        have e1 : (mgF g hr G.2.1 L (g, hr, hr + G.2.1, [N])).1 = g := (mgF_1 L _).1
        exact ⟨by rw [e1]; exact hg, ⟨f1, f2⟩, f3, f4, n1, n2⟩
      · exact h x ((mgK_mem L).mp e).1
    · rw [if_neg d]; exact h
  · rw [if_neg c]
    refine evY_P (by omega) (fun s s0 s1 s2 s3 => ⟨hg, ⟨s0, by show s ≤ 999; omega⟩, by show s < s + G.2.1; omega, by show s + G.2.1 ≤ 1199; omega, List.cons_ne_nil _ _, fun n hn => by
      have hn : n ∈ [N] := hn
      rw [List.mem_singleton] at hn; omega⟩) (fun x hx _ => ⟨hx.1, hx.2.1, hx.2.2.1, hx.2.2.2.1, fun z => List.cons_ne_nil _ _ (List.append_eq_nil_iff.mp z).2, fun n hn => ?_⟩) 1001 L 0 (Int.le_refl _) h
    rcases List.mem_append.mp hn with e | e
    · exact hx.2.2.2.2.2 n e
    · rw [List.mem_singleton] at e; omega
theorem RMy_up {K1 K2 : Nat} {h h1 : PH} {o o1 c c2 : Nat} (a : RMy K1 K2 h h1 o o1 c) (l : c ≤ c2) : RMy K1 K2 h h1 o o1 c2 := by
  have := pw_le (K := K2) l
  exact ⟨by have := a.1; omega, by have := a.2; omega⟩
/-- all geese -/
theorem ge_lp {d sm n rw tb kb ca ka ta mn al K1 K2 Ob : Nat} {hr : Int} {tk : Int32} {u : Q5} {B : Bk} {hb : PH} {tl : Nat → Nat} {f : Nat → Nat → Int32} {C : List (Ctx × Int32)} {T : List Wn} {nt : Nat} {gr mk : Int} {Q : Rs → PH → Prop} (hhr : 0 ≤ hr ∧ hr ≤ 999) (hmk : 0 ≤ mk ∧ mk ≤ 2000) (hOb : Ob + 80 ≤ K1 ∧ K1 ≤ 4000) (hK2 : K1 + Ob + 80 ≤ K2) (m : Nat) : ∀ (g : Nat) (L : List Wn) (lt : Nat → Nat) (oa : Nat) (x7 x8 x9 x10 x11 x12 x13 : Option VV) (h : PH), g + m = al → SMh h sm u ca ka oa ta (mkM C L T nt gr mk lt) → BH hb h sm B mn al → qD u (hN h) → tkR h tb tk → pI sm u (hN h) tb → sL L → (∀ y ∈ L, wnB (n + 1) y) → L.length + cyB B m g ≤ Ob → (∀ g2, g ≤ g2 → g2 < al → ((B.2.2.getD g2 g0).2.2.1 = 0 → cntW (rwL tl f L g2) ≤ 69) ∧ ((B.2.2.getD g2 g0).2.2.1 ≠ 0 → ∀ w ∈ rwL tl f L g2, w.2.2.1 ≤ 70)) → (∀ h1 oa1 x7 x8 x9 x10 x11 x12 x13, SMh h1 sm u ca ka oa1 ta (mkM C (gsY B tk n hr mk m g L lt).1 T nt gr mk (gsY B tk n hr mk m g L lt).2) → SI sm oa h h1 → (oa1 = oa ∨ hN h ≤ oa1) → RMy K1 K2 h h1 L.length (gsY B tk n hr mk m g L lt).1.length (cyB B m g) → tkR h1 tb tk → Ev (d + 1) 179 (589, [some (.inr (.inr (.inr (12, 0, sm)))), some (.inr (.inr (.inr (20, 4, rw)))), some (.inr (.inr (.inr (26, 8, tb)))), some (.inl (iZ ((n : Int)))), some (.inr (.inr (.inr (29, (n + 1), kb)))), some (.inl (iZ (hr))), some (.inl (iZ ((al : Int)))), x7, x8, x9, x10, x11, x12, x13], [], h1) Q) → Ev (d + 1) 179 (78, [some (.inr (.inr (.inr (12, 0, sm)))), some (.inr (.inr (.inr (20, 4, rw)))), some (.inr (.inr (.inr (26, 8, tb)))), some (.inl (iZ ((n : Int)))), some (.inr (.inr (.inr (29, (n + 1), kb)))), some (.inl (iZ (hr))), some (.inl (iZ ((g : Int)))), x7, x8, x9, x10, x11, x12, x13], [], h) Q := by
  induction m with
  | zero =>
    intro g L lt oa x7 x8 x9 x10 x11 x12 x13 h hm x bh hu t pt sl hB hl hC q
    obtain rfl : g = al := by omega
    have al6 := bf_al bh
    exact cg_78 (d := d + 1) (ga := 0) (gf := 0) (bt := iZ 0) (by omega) (Nat.le_refl _) (fun c => by omega) x.1 (bf_8 bh) (bf_10 bh) (fun c => by omega) (fun c => by omega) (fun c => by omega) (fun _ => q h oa _ _ _ _ _ _ _ x (SI_r _ _ _) (.inl rfl) (RMy_r _ _ _ _) t) (fun c => by omega) (fun c => by omega)
  | succ m ih =>
    intro g L lt oa x7 x8 x9 x10 x11 x12 x13 h hm x bh hu t pt sl hB hl hC q
    have al6 := bf_al bh
    have hg : g < al := by omega
    obtain ⟨ga, e1, ⟨g1, g2, g3, g4⟩, g5, gb, g6, g7⟩ := bf_go bh hg
    have gc : L.length + (cyG (B.2.2.getD g g0) + cyB B m (g + 1)) ≤ Ob := hl
    refine cg_78 (d := d + 1) (ga := ga) (gf := (B.2.2.getD g g0).1) (bt := bitv tk (iZ ((B.2.2.getD g g0).1 : Int))) (by omega) (by omega) (fun _ => by omega) x.1 (bf_8 bh) (bf_10 bh) (fun _ => e1) (fun _ => g1) (fun _ => t _ (by omega)) (fun c => by omega) (fun _ c => ?_) (fun _ c => ?_)
    · have c1 : bitv tk (iZ ((B.2.2.getD g g0).1 : Int)) = iZ 1 := (bitv_01 _ _).elim (fun z => absurd z c) id
      have eg : gsY B tk n hr mk (m + 1) g L lt = gsY B tk n hr mk m (g + 1) (goY (B.2.2.getD g g0) g n hr mk L) (fun g2 => if g2 = g then lt g + (if nuY (B.2.2.getD g g0) hr mk = 0 then 1 else 0) else lt g2) := if_pos c1
      have nu := nuY_le (mk := mk) gb hhr.1
      have lg := goY_len (G := B.2.2.getD g g0) (g := g) (n := n) (hr := hr) (mk := mk) (L := L)
      have hc := hC g (Nat.le_refl _) hg
      refine cg_one (d := d) (K1 := K1) (K2 := K2) (Ob := Ob) (M := mkM C L T nt gr mk lt) (G := B.2.2.getD g g0) (by omega) gb hhr hmk g7.2 hOb hK2 x hu g2 g3 sl (by show L.length + nuY (B.2.2.getD g g0) hr mk ≤ Ob; omega) (fun y hy => wn_BC (hB y hy)) (fun z => ?_) (fun z y hy ye => ?_) (fun h1 oa1 y8 y9 y10 y11 y12 y13 Y S co rm => ?_)
      · have := hc.1 z
        have e := cntG_rw (tl := tl) (f := f) (g := g) L
        show cntG g L ≤ 69
        omega
      · have := hc.2 z _ (mem_rw (tl := tl) (f := f) hy ye)
        have this : (y.2.2.2.length : Int) ≤ 70 := this
        omega
      · have n1 := S.2.2.2
        have x5 := x.2.2.2.2.2.2.2.2.2
        have lo := x.2.2.2.1.2.1
        rw [eg] at q
        have tb1 : h1.1 tb = h.1 tb := S.1 tb pt.2.1 (by have := pt.1; omega) (by have := pt.1; omega)
        refine ih (g + 1) (goY (B.2.2.getD g g0) g n hr mk L) (fun g2 => if g2 = g then lt g + (if nuY (B.2.2.getD g g0) hr mk = 0 then 1 else 0) else lt g2) oa1 _ _ _ _ _ _ _ h1 (by omega) Y (BH_k bh (SI_K S x5 (by omega))) (qD_le hu n1) (by unfold tkR; rw [tb1]; exact t) ⟨pt.1, by have := pt.2.1; omega, pt.2.2⟩ (goY_sL sl gb (fun y hy => (hB y hy).2.2.1)) (goY_B1 gb (by omega) hhr.1 hhr.2 hB) (by omega) (fun k k1 k2 => ?_) (fun h2 oa2 z7 z8 z9 z10 z11 z12 z13 Z S2 co2 rm2 t2 => ?_)
        · rw [rwL_goY_o (by omega)]; exact hC k (by omega) k2
        · exact q h2 oa2 z7 z8 z9 z10 z11 z12 z13 Z (SI_t S S2 (by omega)) (by omega) (RMy_t (RMy_up rm nu) rm2) t2
    · have eg : gsY B tk n hr mk (m + 1) g L lt = gsY B tk n hr mk m (g + 1) L lt := if_neg (by rw [c]; decide)
      rw [eg] at q
      refine ih (g + 1) L lt oa _ _ _ _ _ _ _ h (by omega) x bh hu t pt sl hB (by omega) (fun k k1 k2 => hC k (by omega) k2) (fun h2 oa2 z7 z8 z9 z10 z11 z12 z13 Z S2 co2 rm2 t2 => ?_)
      exact q h2 oa2 z7 z8 z9 z10 z11 z12 z13 Z S2 co2 (RMy_up rm2 (Nat.le_add_left _ _)) t2
/-- the numbers after a comma -/
def grY (gr hr : Int) : Int := max gr hr
def mkY (B : Bk) (nt : Nat) (gr mk hr : Int) : Int := max mk (max gr hr - alB B (nt : Int))
/-- the stream after a comma: before telling; after -/
def cwY (B : Bk) (tk : Int32) (M : Ms) (x : Ctx) : Ms := mkM (yC M ++ [(x, tk)]) (gsY B tk (yC M).length x.1 (yK M) B.2.2.length 0 (yO M) (yL M)).1 (yT M) (yN M) (grY (yG M) x.1) (mkY B (yN M) (yG M) (yK M) x.1) (gsY B tk (yC M).length x.1 (yK M) B.2.2.length 0 (yO M) (yL M)).2
def tlM (M : Ms) : Ms := mkM (yC M) (kpL (yO M) (yK M)) (yT M ++ gnW (yO M) (yK M)) (yN M) (yG M) (yK M) (yL M)
theorem ls_comma {d sm ca ka oa ta rw mn al K1 K2 Ob : Nat} {tk : Int32} {u : Q5} {M : Ms} {x : Ctx} {B : Bk} {hb h : PH} {fv gv : Nat → Ctx → Int32 → Int32} {tl : Nat → Nat} {f : Nat → Nat → Int32} {Q : Rs → PH → Prop} (vf : VF hb B fv gv) (bh : BH hb h sm B mn al) (hz : Zr h) (y : SMh h sm u ca ka oa ta M) (hu : qD u (hN h)) (co : coR h rw x) (pr : pI sm u (hN h) rw) (etk : mkF fv x mn 0 (iZ 0) = tk) (hx : 0 ≤ x.1 ∧ x.1 ≤ 999) (hgr : -1 ≤ yG M ∧ yG M ≤ 999) (hmk : 0 ≤ yK M ∧ yK M ≤ 2000) (hnt : yN M < 100000) (hn : (yC M).length ≤ 100) (hOb : Ob + 80 ≤ K1 ∧ K1 ≤ 4000) (hK2 : K1 + Ob + 80 ≤ K2) (sl : sL (yO M)) (hB : ∀ w ∈ yO M, wnB (yC M).length w) (hl : (yO M).length + cyB B B.2.2.length 0 ≤ Ob) (hT : (yT M).length + (cwY B tk M x).2.1.length ≤ 5000) (hC : ∀ g2, g2 < al → ((B.2.2.getD g2 g0).2.2.1 = 0 → cntW (rwL tl f (yO M) g2) ≤ 69) ∧ ((B.2.2.getD g2 g0).2.2.1 ≠ 0 → ∀ w ∈ rwL tl f (yO M) g2, w.2.2.1 ≤ 70)) (hal : 0 ≤ alB B (yN M : Int) ∧ alB B (yN M : Int) ≤ 99) (hk2 : ∀ w ∈ (cwY B tk M x).2.1, wnB ((yC M).length + 1) w) (hl2 : (cwY B tk M x).2.1.length ≤ Ob) (q : ∀ h1 ca1 ka1 oa1 ta1, SMh h1 sm u ca1 ka1 oa1 ta1 (tlM (cwY B tk M x)) → SI sm oa h h1 → hS h1 + pw K1 (yO (tlM (cwY B tk M x))).length + tri (yT M).length ≤ hS h + pw K1 (yO M).length + pw K2 (cyB B B.2.2.length 0) + tri (yT (tlM (cwY B tk M x))).length + (10 + 2 * (yC M).length) → hN h1 + 2 * (yO (tlM (cwY B tk M x))).length ≤ hN h + 2 * (yO M).length + 4 * cyB B B.2.2.length 0 + 3 → Q (.inl (some (.inl (iZ (pcN tk 8))))) h1) : Rn (d + 21) 179 [.inr (.inr (.inr (12, 0, sm))), .inr (.inr (.inr (20, 4, rw)))] h Q := by
  obtain ⟨y0, ⟨e1, lc, cr, oc⟩, ⟨e2, lk, kr, ok⟩, y3, y4, y5, y6, y7, y8⟩ := id y
  have al6 := bf_al bh
  have l3 := y3.2.1
  refine cm_0 (d := d) vf bh y8.2 pr.2.1 y0 co (funext (hz (hN h) (Nat.le_refl _))) (by omega) lc.2 e1 (fun j hj => (oc j hj).1) (fun h1 h2 x1 t1 x2 o2 l2 => ?_)
  rw [etk] at t1
  have n1 := x1.2.2.1
  have n2 := x2.2.2.1
  have r2 : (setR h2 sm 1 (28, ((yC M).length + 1), (hN h1))).2.2.1 sm 2 = (29, (yC M).length, ka) := (setR_ne (by omega)).trans (by rw [x2.2.1 sm (by omega), x1.1]; exact e2)
  have rk : (setR h2 sm 1 (28, ((yC M).length + 1), (hN h1))).2.2.1 ka = h.2.2.1 ka := (setR_oth (by omega)).trans ((x2.2.1 ka (by omega)).trans (by rw [x1.1]))
  have ri : (setR h2 sm 1 (28, ((yC M).length + 1), (hN h1))).1 rw 0 = iZ x.1 := by
    show h2.1 rw 0 = _
    rw [x2.1, x1.2.1 rw (by have := pr.2.1; omega)]
    exact co.1
  refine ty_lp (d := d + 21) (fr := kr) (h0 := setR h2 sm 1 (28, ((yC M).length + 1), (hN h1))) (by omega) rfl (show ka < hN h2 by omega) (show sm < hN h2 by omega) r2 (fun j hj => by rw [rk]; exact (ok j hj).1) ri (fun h3 x3 o3 => ?_) (yC M).length 0 _ (by omega) (nwR_g _ _) (fun j hj => absurd hj (Nat.not_lt_zero _))
  obtain ⟨Y, S, n4, m4, T4⟩ := SM_add y hu oc ok co pr x1 t1 x2 o2 l2 x3 o3
  have hB1 : ∀ w ∈ yO M, wnB ((yC M).length + 1) w := fun w hw => wnB_up (hB w hw) (Nat.le_succ _)
  have qn : qN u (hN h) := by
    obtain ⟨⟨_, d1⟩, ⟨_, d2⟩, ⟨_, d3⟩, ⟨_, d4⟩, ⟨_, d5⟩, _⟩ := hu
    exact ⟨by omega, by omega, by omega, by omega, by omega⟩
  refine ge_lp (d := d + 20) (K1 := K1) (K2 := K2) (Ob := Ob) (tl := tl) (f := f) (C := yC M ++ [(x, tk)]) (T := yT M) (nt := yN M) (gr := yG M) (mk := yK M) hx hmk hOb hK2 al 0 (yO M) (yL M) oa none none none none none none none (setR (setR h3 (hN h2) (yC M).length (26, 8, (hN h))) sm 2 (29, ((yC M).length + 1), (hN h2))) (by omega) Y (BH_k bh (SI_K S y8.2 (by omega))) (qD_le hu (by omega)) T4 ⟨y8.2, by omega, qn⟩ sl hB1 (by rw [← al6.2.2.1]; exact hl) (fun g2 _ hg2 => hC g2 hg2) (fun h5 oa5 z7 z8 z9 z10 z11 z12 z13 Z S5 co5 rm5 T5 => ?_)
  rw [← al6.2.2.1] at Z rm5
  have S6 := SI_t (SI_n (oa := oa) S) S5 (.inl rfl)
  have bh5 := BH_k bh (SI_K S6 y8.2 (by omega))
  obtain ⟨ma, f5, f4, f6⟩ := bf_mo bh5
  have x5 := Z.2.2.2.2.2.1
  have ma_ : ma ≠ sm := by
    obtain ⟨mb, m1, m2, m3, _⟩ := bh5.1.2.2
    have e5 : h5.2.2.1 83 5 = (20, B.1.length, mb) := by rw [(bf_r bh5 83 (by decide) (by have := bh5.2.2.1; omega)).2]; exact m1
    rw [f5] at e5
    have e6 : ma = mb := congrArg (fun q : VR => q.2.2) e5
    have := bh5.2.1
    omega
  have y53 : sNm (setI (setI h5 sm 6 (iZ (max (yG M) x.1))) sm 7 (iZ (max (yK M) (max (yG M) x.1 - B.1.getD ((yN M : Int) % (B.1.length : Int)).toNat 0)))) sm (yN M) (grY (yG M) x.1) (mkY B (yN M) (yG M) (yK M) x.1) := ⟨(setI_ne (by omega)).trans ((setI_ne (by omega)).trans x5.1), (setI_ne (by omega)).trans (setI_self _ _ _ _), setI_self _ _ _ _⟩
  obtain ⟨Z2, S7⟩ := SM_num (h1 := setI (setI h5 sm 6 (iZ (max (yG M) x.1))) sm 7 (iZ (max (yK M) (max (yG M) x.1 - B.1.getD ((yN M : Int) % (B.1.length : Int)).toNat 0)))) Z rfl (fun a ha => (setI_oth ha).trans (setI_oth ha)) y53
  have Z2 : SMh (setI (setI h5 sm 6 (iZ (max (yG M) x.1))) sm 7 (iZ (max (yK M) (max (yG M) x.1 - B.1.getD ((yN M : Int) % (B.1.length : Int)).toNat 0)))) sm u (hN h1) (hN h2) oa5 ta (cwY B tk M x) := Z2
  have mk2 : 0 ≤ yK (cwY B tk M x) ∧ yK (cwY B tk M x) ≤ 2000 := by
    show 0 ≤ max (yK M) (max (yG M) x.1 - alB B (yN M : Int)) ∧ max (yK M) (max (yG M) x.1 - alB B (yN M : Int)) ≤ 2000
    omega
  refine cm_589 (d := d + 19) (nt := yN M) (ma := ma) (B := B) (gr := yG M) (mk := yK M) (P := fun h8 c => ∃ oa8 ta8, SMh h8 sm u (hN h1) (hN h2) oa8 ta8 (tlM (cwY B tk M x)) ∧ SI sm sm (setI (setI h5 sm 6 (iZ (max (yG M) x.1))) sm 7 (iZ (max (yK M) (max (yG M) x.1 - B.1.getD ((yN M : Int) % (B.1.length : Int)).toNat 0)))) h8 ∧ hS h8 + pw K1 (kpL (yO (cwY B tk M x)) (yK (cwY B tk M x))).length + tri (yT M).length ≤ hS h5 + pw K1 (yO (cwY B tk M x)).length + tri (yT (tlM (cwY B tk M x))).length ∧ hN h8 + 2 * (kpL (yO (cwY B tk M x)) (yK (cwY B tk M x))).length ≤ hN h5 + 2 * (yO (cwY B tk M x)).length) hgr hx hmk ⟨f4.1, by omega⟩ hal hnt Z.1 f5 x5.2.1 x5.2.2 (fun j hj => (f6 j hj).1) x5.1 ma_ (fun Q1 q1 => ?_) (fun h8 c P8 => ?_)
  · refine ls_tell (d := d + 19) (K1 := K1) Z2 mk2 (by omega) (by show (cwY B tk M x).2.1.length ≤ K1; omega) (by show (yT M).length + (cwY B tk M x).2.1.length ≤ 5000; omega) (fun w hw => ?_) (fun h8 oa8 ta8 W S8 r1 r2 => q1 h8 _ ⟨oa8, ta8, W, S8, r1, r2⟩)
    have := wn_BC (hk2 w hw)
    exact ⟨this.2.2.2.1, this.2.2.2.2⟩
  · obtain ⟨oa8, ta8, W, S8, r1, r2⟩ := P8
    have S9 := SI_t S6 (SI_t S7 S8 (.inl rfl)) (.inr (.inr rfl))
    have tb8 : h8.1 (hN h) = h5.1 (hN h) := by
      have n5 := S5.2.2.2
      rw [S8.1 (hN h) (by show hN h < hN h5; omega) (by omega) (by omega)]
      exact (setI_oth (by omega)).trans (setI_oth (by omega))
    refine pc_lp (d := d + 21) (tk := tk) (by unfold tkR; rw [tb8]; exact T5) (q h8 _ _ oa8 ta8 W S9 ?_ ?_) 8 0 _ _ _ _ (by omega)
    · have a1 := rm5.1
      have a1 : hS h5 + pw K1 (yO (cwY B tk M x)).length ≤ hS (setR (setR h3 (hN h2) (yC M).length (26, 8, (hN h))) sm 2 (29, ((yC M).length + 1), (hN h2))) + pw K1 (yO M).length + pw K2 (cyB B B.2.2.length 0) := a1
      show hS h8 + pw K1 (kpL (yO (cwY B tk M x)) (yK (cwY B tk M x))).length + tri (yT M).length ≤ _
      omega
    · have a2 := rm5.2
      have a2 : hN h5 + 2 * (yO (cwY B tk M x)).length ≤ hN (setR (setR h3 (hN h2) (yC M).length (26, 8, (hN h))) sm 2 (29, ((yC M).length + 1), (hN h2))) + 2 * (yO M).length + 4 * cyB B B.2.2.length 0 := a2
      show hN h8 + 2 * (kpL (yO (cwY B tk M x)) (yK (cwY B tk M x))).length ≤ _
      omega
