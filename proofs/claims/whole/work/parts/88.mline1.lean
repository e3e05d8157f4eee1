/-! The reference reads a book: what the second walk keeps; a flock. -/
def moL (M : List Int) : List Int := if M = [] then [5] else M
def mnR2 (h : PH) (M : List Int) : Prop := h.1 92 2 = iZ M.length ∧ ∀ j, j < M.length → h.1 92 (3 + j) = iZ (M.getD j 0)
/-- words of the first x commands -/
def wlP (P : List Cmd) (x : Nat) : Nat := (wds (P.take x)).length
theorem wlP_app {P A : List Cmd} {x : Nat} (hx : x ≤ P.length) : wlP (P ++ A) x = wlP P x := by unfold wlP; rw [List.take_append_of_le_length hx]
theorem wlP_all (P : List Cmd) : wlP P P.length = (wds P).length := by unfold wlP; rw [List.take_length]
def ttR2 (h : PH) (s : Sm) : Prop := ∀ f, f < (smT s).length → h.1 92 (11 + 2 * f) = iZ (wlP (smP s) ((smT s).getD f (0, 0)).1) ∧ h.1 92 (12 + 2 * f) = iZ (wlP (smP s) ((smT s).getD f (0, 0)).2)
def ggR2 (h : PH) (P : List Cmd) (g : Nat) (x : Gc) : Prop := h.1 92 (27 + 6 * g) = iZ x.1 ∧ h.1 92 (28 + 6 * g) = iZ x.2.2.1 ∧ h.1 92 (29 + 6 * g) = iZ (if x.2.1 = 1 then 0 else x.2.2.2.1) ∧ h.1 92 (30 + 6 * g) = iZ x.2.2.2.2.1 ∧ h.1 92 (31 + 6 * g) = iZ (wlP P x.2.2.2.2.2.1) ∧ h.1 92 (32 + 6 * g) = iZ (wlP P x.2.2.2.2.2.2)
def gyR2 (h : PH) (s : Sm) : Prop := ∀ g, g < (smX s).length → ggR2 h (smP s) g ((smX s).getD g gc0)
/-- the names stand for the flocks and geese of s -/
def nmR (N : List (Int × Int)) (s : Sm) : Prop := (∀ w, lkN N w = lk (smF s) w) ∧ (∀ w, inN N w ↔ told (smF s) (smG s) w) ∧ N.length = (smF s).length + (smG s).length
def RMS (h : PH) (T : List Tok) (p : Nat) (N : List (Int × Int)) (s : Sm) : Prop := QM h T 1 p N (wds (smP s)) ∧ h.1 92 0 = iZ (smF s).length ∧ h.1 92 1 = iZ (smG s).length ∧ mnR2 h (moL (smM s)) ∧ ttR2 h s ∧ gyR2 h s ∧ nmR N s ∧ smOk s ∧ (smE s).1 = 0 ∧ (wds (smP s)).length ≤ 2 * p
theorem nwE_2 {T : List Tok} {F G : List Int} {n m p : Nat} (h : told F G (tW T p)) : nwE T F G n m p = (2, p) := by
  unfold nwE
  unfold told at h
  rw [if_pos h]
  exact ntE_n (by show ¬ (2 : Nat) = 0; decide)
theorem nwE_4 {T : List Tok} {F G : List Int} {n m p : Nat} (h : ¬ told F G (tW T p)) (hn : m ≤ n) : nwE T F G n m p = (4, p) := by
  unfold nwE
  unfold told at h
  rw [if_neg h, if_pos hn]
  rfl
theorem nwE_0 {T : List Tok} {F G : List Int} {n m p : Nat} (h : ¬ told F G (tW T p)) (hn : n < m) : nwE T F G n m p = (0, 0) := by
  unfold nwE
  unfold told at h
  rw [if_neg h, if_neg (by omega)]
  rfl
theorem lkN_in : ∀ (N : List (Int × Int)) (w v x : Int), inN N x → lkN (N ++ [(w, v)]) x = lkN N x := by
  intro N w v x
  induction N with
  | nil => intro z; obtain ⟨_, h, _⟩ := z; cases h
  | cons y N ih =>
    intro z
    show (if y.1 = x then y.2 else lkN (N ++ [(w, v)]) x) = if y.1 = x then y.2 else lkN N x
    by_cases c : y.1 = x
    · rw [if_pos c, if_pos c]
    · rw [if_neg c, if_neg c]
      obtain ⟨u, h1, h2⟩ := z
      rcases List.mem_cons.mp h1 with a | a
      · rw [a] at h2; exact absurd h2 c
      · exact ih ⟨u, a, h2⟩
theorem lkN_ni : ∀ (N : List (Int × Int)) (w v x : Int), ¬ inN N x → lkN (N ++ [(w, v)]) x = if w = x then v else -1 := by
  intro N w v x
  induction N with
  | nil => intro _; rfl
  | cons y N ih =>
    intro z
    show (if y.1 = x then y.2 else lkN (N ++ [(w, v)]) x) = if w = x then v else -1
    rw [if_neg (fun c => z ⟨y, List.mem_cons_self, c⟩)]
    exact ih (fun ⟨u, h1, h2⟩ => z ⟨u, List.mem_cons_of_mem _ h1, h2⟩)
theorem inN_app {N : List (Int × Int)} {w v x : Int} : inN (N ++ [(w, v)]) x ↔ inN N x ∨ w = x := by
  constructor
  · rintro ⟨u, h1, h2⟩
    rcases List.mem_append.mp h1 with a | a
    · exact .inl ⟨u, a, h2⟩
    · rw [List.mem_singleton] at a
      rw [a] at h2
      exact .inr h2
  · rintro (⟨u, h1, h2⟩ | a)
    · exact ⟨u, List.mem_append_left _ h1, h2⟩
    · exact ⟨(w, v), List.mem_append_right _ (List.mem_singleton.mpr rfl), a⟩
theorem lkF_ap : ∀ (F : List Int) (k : Nat) (w x : Int), lkF (F ++ [w]) k x = if 0 ≤ lkF F k x then lkF F k x else if w = x then ((k + F.length : Nat) : Int) else -1 := by
  intro F
  induction F with
  | nil =>
    intro k w x
    show (if w = x then (k : Int) else -1) = if (0 : Int) ≤ -1 then -1 else if w = x then ((k + 0 : Nat) : Int) else -1
    rw [if_neg (by decide : ¬ (0 : Int) ≤ -1)]
    rfl
  | cons y F ih =>
    intro k w x
    show (if y = x then (k : Int) else lkF (F ++ [w]) (k + 1) x) = if 0 ≤ (if y = x then (k : Int) else lkF F (k + 1) x) then (if y = x then (k : Int) else lkF F (k + 1) x) else if w = x then ((k + (F.length + 1) : Nat) : Int) else -1
    by_cases c : y = x
    · rw [if_pos c, if_pos c, if_pos (Int.natCast_nonneg k)]
    · rw [if_neg c, if_neg c, ih, show k + 1 + F.length = k + (F.length + 1) by omega]
theorem lk_ap (F : List Int) (w x : Int) : lk (F ++ [w]) x = if 0 ≤ lk F x then lk F x else if w = x then (F.length : Int) else -1 := by
  have := lkF_ap F 0 w x
  rw [Nat.zero_add] at this
  exact this
theorem moL_8 {M : List Int} (h : M.length ≤ 8) : 1 ≤ (moL M).length ∧ (moL M).length ≤ 8 := by
  unfold moL
  by_cases c : M = []
  · rw [if_pos c]; exact ⟨by decide, by decide⟩
  · rw [if_neg c]
    have := List.length_pos_iff.mpr c
    exact ⟨by omega, h⟩
/-- one more name -/
def nmH (h : PH) (n : Nat) (x : Int64) (v : Int) : PH := setI (setI (setL h 89 n x) 90 n (iZ v)) 83 14 (iZ ((n : Int) + 1))
theorem nmH_o {h : PH} {n a k : Nat} {x : Int64} {v : Int} (a1 : a ≠ 90) (a2 : ¬ (a = 83 ∧ k = 14)) : (nmH h n x v).1 a k = h.1 a k := (setI_ne a2).trans (setI_ne (fun z => a1 z.1))
theorem QM_nm {h : PH} {T : List Tok} {p : Nat} {N : List (Int × Int)} {W : List Int} {w v : Int} (q : QM h T 1 p N W) (n14 : N.length < 14) (hw : 0 ≤ w ∧ w < 1099511627776) (hv : -1 ≤ v ∧ v < 8) : QM (nmH h N.length (lz w) v) T 1 p (N ++ [(w, v)]) W := by
  obtain ⟨q1, q2, q3, q4, q5, q6, q7, ⟨n1, n2, n3⟩, q9, q10, q11⟩ := q
  refine ⟨Sh_R2 q1 rfl, fun j hj => ⟨(nmH_o (by omega) (by omega)).trans (q2 j hj).1, (nmH_o (by omega) (by omega)).trans (q2 j hj).2.1, fun z => (setL_ne (by omega)).trans ((q2 j hj).2.2 z)⟩, q3, q4, (nmH_o (by omega) (by omega)).trans q5, (nmH_o (by omega) (by omega)).trans q6, q7, ⟨by rw [app_len']; exact setI_self _ _ _ _, by rw [app_len']; omega, fun j hj => ?_⟩, (nmH_o (by omega) (by omega)).trans q9, fun z j hj => (nmH_o (by omega) (by omega)).trans (q10 z j hj), ⟨(setL_ne (by omega)).trans q11.1, (setL_ne (by omega)).trans q11.2.1, (setL_ne (by omega)).trans q11.2.2.1, (setL_ne (by omega)).trans q11.2.2.2⟩⟩
  rw [app_len'] at hj
  rw [app_get' _ _ _ _ hj]
  by_cases e : j = N.length
  · rw [if_pos e, e]
    exact ⟨setL_self _ _ _ _, hw.1, hw.2, (setI_ne (by omega)).trans (setI_self _ _ _ _), hv.1, hv.2⟩
  · rw [if_neg e]
    obtain ⟨a, b, c, d, f, g⟩ := n3 j (by omega)
    exact ⟨(setL_ne (by omega)).trans a, b, c, (setI_ne (by omega)).trans ((setI_ne (by omega)).trans d), f, g⟩
theorem nmR_fl {N : List (Int × Int)} {s s' : Sm} {w : Int} (r : nmR N s) (nt : ¬ told (smF s) (smG s) w) (hF : smF s' = smF s ++ [w]) (hG : smG s' = smG s) : nmR (N ++ [(w, ((smF s).length : Int))]) s' := by
  obtain ⟨r1, r2, r3⟩ := r
  refine ⟨fun x => ?_, fun x => ?_, by rw [hF, hG, app_len', app_len']; omega⟩
  · rw [hF, lk_ap]
    by_cases c : 0 ≤ lk (smF s) x
    · rw [lkN_in _ _ _ _ ((r2 x).mpr (.inl c)), if_pos c, r1]
    · rw [if_neg c]
      by_cases d : inN N x
      · rw [lkN_in _ _ _ _ d, r1, if_neg (fun z => nt (by rw [z]; exact (r2 x).mp d))]
        have := (lk_b (smF s) x).1
        omega
      · rw [lkN_ni _ _ _ _ d]
  · rw [inN_app, r2, hF, hG]
    unfold told
    rw [lk_ap]
    by_cases c : 0 ≤ lk (smF s) x
    · rw [if_pos c]; simp only [c, true_or]
    · rw [if_neg c]
      by_cases e : w = x
      · rw [if_pos e]
        simp only [e, or_true, true_iff]
        exact .inl (Int.natCast_nonneg _)
      · rw [if_neg e]
        simp only [c, e, false_or, or_false]
        constructor
        · intro z; exact .inr z
        · intro z; rcases z with a | a
          · exact absurd a (by decide)
          · exact a
theorem nmR_go {N : List (Int × Int)} {s s' : Sm} {w : Int} (r : nmR N s) (nt : ¬ told (smF s) (smG s) w) (hF : smF s' = smF s) (hG : smG s' = smG s ++ [w]) : nmR (N ++ [(w, -1)]) s' := by
  obtain ⟨r1, r2, r3⟩ := r
  refine ⟨fun x => ?_, fun x => ?_, by rw [hF, hG, app_len', app_len']; omega⟩
  · rw [hF]
    by_cases d : inN N x
    · rw [lkN_in _ _ _ _ d, r1]
    · rw [lkN_ni _ _ _ _ d]
      have c : ¬ 0 ≤ lk (smF s) x := fun z => d ((r2 x).mpr (.inl z))
      have := (lk_b (smF s) x).1
      by_cases e : w = x
      · rw [if_pos e]; omega
      · rw [if_neg e]; omega
  · rw [inN_app, r2, hF, hG]
    unfold told
    rw [lk_ap]
    by_cases c : 0 ≤ lk (smF s) x
    · simp only [c, true_or]
    · by_cases g : 0 ≤ lk (smG s) x
      · rw [if_pos g]; simp only [g, or_true, true_or]
      · rw [if_neg g]
        by_cases e : w = x
        · rw [if_pos e]
          simp only [e, or_true, true_iff]
          exact .inr (Int.natCast_nonneg _)
        · rw [if_neg e]
          simp only [c, g, e, false_or, or_false, false_iff]
          decide
/-- behind a flock's line -/
def fmH (h : PH) (s : Sm) (a b n : Nat) (x : Int64) : PH := nmH (setI (setI (setI h 92 (11 + 2 * (smF s).length) (iZ a)) 92 (12 + 2 * (smF s).length) (iZ b)) 92 0 (iZ (((smF s).length : Int) + 1))) n x ((smF s).length : Int)
theorem fmH_o {h : PH} {s : Sm} {a b n c k : Nat} {x : Int64} (c1 : c ≠ 90) (c2 : c ≠ 92) (c3 : ¬ (c = 83 ∧ k = 14)) : (fmH h s a b n x).1 c k = h.1 c k := (nmH_o c1 c3).trans ((setI_ne (by omega)).trans ((setI_ne (by omega)).trans (setI_ne (by omega))))
theorem fmH_2 {h : PH} {s : Sm} {a b n k : Nat} {x : Int64} (k1 : k ≠ 0) (k2 : k ≠ 11 + 2 * (smF s).length) (k3 : k ≠ 12 + 2 * (smF s).length) : (fmH h s a b n x).1 92 k = h.1 92 k := (nmH_o (by omega) (by omega)).trans ((setI_ne (by omega)).trans ((setI_ne (by omega)).trans (setI_ne (by omega))))
theorem flk_t {T : List Tok} {p : Nat} (h : (flkF T p).1 = true) : tK T p = 2 ∧ tK T (p + 1) = 6 ∧ (syT T 6 (p + 2)).1 = true ∧ flkF T p = (true, (syT T 6 (p + 2)).2.1, (0, p, (syT T 6 (p + 2)).2.2, 0, 0, 0, 0, 0)) := by
  have e : flkF T p = if tK T p = 2 then (if tK T (p + 1) = 6 then ((syT T 6 (p + 2)).1, (syT T 6 (p + 2)).2.1, (0, p, (syT T 6 (p + 2)).2.2, 0, 0, 0, 0, 0)) else (false, p + 1, l0)) else (false, p, l0) := rfl
  rw [e] at h ⊢
  by_cases a : tK T p = 2
  · rw [if_pos a] at h ⊢
    by_cases b : tK T (p + 1) = 6
    · rw [if_pos b] at h ⊢
      exact ⟨a, b, h, by rw [show (syT T 6 (p + 2)).1 = true from h]⟩
    · rw [if_neg b] at h; cases h
  · rw [if_neg a] at h; cases h
theorem ggR2_k {h h' : PH} {P A : List Cmd} {g n : Nat} {x : Gc} (e : ∀ k, 27 + 6 * g ≤ k → k ≤ 32 + 6 * g → h'.1 92 k = h.1 92 k) (gx : gxG P n x) (r : ggR2 h P g x) : ggR2 h' (P ++ A) g x := by
  obtain ⟨r1, r2, r3, r4, r5, r6⟩ := r
  have b1 := gx.1
  have b2 := gx.2.1
  exact ⟨(e _ (by omega) (by omega)).trans r1, (e _ (by omega) (by omega)).trans r2, (e _ (by omega) (by omega)).trans r3, (e _ (by omega) (by omega)).trans r4, by rw [wlP_app (by omega)]; exact (e _ (by omega) (by omega)).trans r5, by rw [wlP_app (by omega)]; exact (e _ (by omega) (by omega)).trans r6⟩
theorem RMS_fl {h h2 : PH} {T : List Tok} {p : Nat} {N : List (Int × Int)} {s : Sm} (r : RMS h T p N s) (w0 : tkW T) (fl : (flkF T p).1 = true) (q2 : QM h2 T 1 (syT T 6 (p + 2)).2.1 N (wds (smP s) ++ wds ((syT T 6 (p + 2)).2.2.map (rsl T (smF s))))) (f : fR h h2) (nt : ¬ told (smF s) (smG s) (tW T p)) (hF : (smF s).length < 8) (e0 : (flE T (smF s) (smG s) p (syT T 6 (p + 2)).2.2).1 = 0) : RMS (fmH h2 s (wds (smP s)).length (wds (smP s) ++ wds ((syT T 6 (p + 2)).2.2.map (rsl T (smF s)))).length N.length (lz (whK (T.getD p tk0)))) T (syT T 6 (p + 2)).2.1 (N ++ [(tW T p, ((smF s).length : Int))]) (smFl T s p (syT T 6 (p + 2)).2.2) := by
  obtain ⟨r1, r2, r3, r4, r5, r6, r7, ok, r9, r10⟩ := r
  obtain ⟨f1, f2, f3, f4⟩ := flk_t fl
  have g2 : ∀ k, h2.1 92 k = h.1 92 k := fun k => congrFun (f.2.1 92 (by decide) (by decide)) k
  have nl := r7.2.2
  have hG6 := ok.2.2.2.1
  have okt := ok.2.2.2.2.2.1
  have okg := (ok.2.2.2.2.2.2 r9).2
  have oM := moL_8 ok.2.2.2.2.1
  have eF : smF (smFl T s p (syT T 6 (p + 2)).2.2) = smF s ++ [tW T p] := by unfold smFl; exact if_pos hF
  have eT : smT (smFl T s p (syT T 6 (p + 2)).2.2) = smT s ++ [((smP s).length, (smP s ++ (syT T 6 (p + 2)).2.2.map (rsl T (smF s))).length)] := by unfold smFl; exact if_pos hF
  have eP : smP (smFl T s p (syT T 6 (p + 2)).2.2) = smP s ++ (syT T 6 (p + 2)).2.2.map (rsl T (smF s)) := rfl
  have eX : smX (smFl T s p (syT T 6 (p + 2)).2.2) = smX s := rfl
  have eM : smM (smFl T s p (syT T 6 (p + 2)).2.2) = smM s := rfl
  have eL : lz (whK (T.getD p tk0)) = lz (tW T p) := by rw [wh_w f1]; rfl
  have ok2 : smOk (smFl T s p (syT T 6 (p + 2)).2.2) := by
    have x := smOk_L w0 ok (lnOK_fl fl)
    rw [f4] at x
    exact x
  have tl : (smT s).length = (smF s).length := ok.1
  have gd := gd_syT w0 6 (p + 2) f3
  have wl := wds_m T (smF s) (syT T 6 (p + 2)).2.2
  refine ⟨?_, ?_, ?_, ?_, ?_, ?_, nmR_fl r7 nt eF rfl, ok2, ?_, ?_⟩
  · rw [eP, wds_app]
    unfold fmH
    rw [eL]
    exact QM_nm (QM_92 (QM_92 (QM_92 q2))) (by omega) (tW_b w0 p) ⟨by omega, by omega⟩
  · rw [eF, app_len']
    exact (nmH_o (by omega) (by omega)).trans (setI_self _ _ _ _)
  · exact (fmH_2 (by omega) (by omega) (by omega)).trans ((g2 1).trans r3)
  · rw [eM]
    exact ⟨(fmH_2 (by omega) (by omega) (by omega)).trans ((g2 2).trans r4.1), fun j hj => (fmH_2 (by omega) (by omega) (by omega)).trans ((g2 _).trans (r4.2 j hj))⟩
  · intro j hj
    rw [eT, app_len'] at hj
    rw [eT, eP, app_get' _ _ _ _ hj]
    by_cases e : j = (smT s).length
    · rw [if_pos e, e, tl]
      refine ⟨?_, ?_⟩
      · refine (nmH_o (by omega) (by omega)).trans ((setI_ne (by omega)).trans ((setI_ne (by omega)).trans ((setI_self _ _ _ _).trans ?_)))
        show _ = iZ (wlP (smP s ++ (syT T 6 (p + 2)).2.2.map (rsl T (smF s))) (smP s).length)
        rw [wlP_app (Nat.le_refl _), wlP_all]
      · refine (nmH_o (by omega) (by omega)).trans ((setI_ne (by omega)).trans ((setI_self _ _ _ _).trans ?_))
        show _ = iZ (wlP (smP s ++ (syT T 6 (p + 2)).2.2.map (rsl T (smF s))) (smP s ++ (syT T 6 (p + 2)).2.2.map (rsl T (smF s))).length)
        rw [wlP_all, wds_app]
    · rw [if_neg e]
      have hj2 : j < (smT s).length := by omega
      obtain ⟨t1, t2, -⟩ := okt _ (getD_mem (d := (0, 0)) hj2)
      obtain ⟨x1, x2⟩ := r5 j hj2
      rw [wlP_app (by omega), wlP_app (by omega)]
      exact ⟨(fmH_2 (by omega) (by omega) (by omega)).trans ((g2 _).trans x1), (fmH_2 (by omega) (by omega) (by omega)).trans ((g2 _).trans x2)⟩
  · intro g hg
    rw [eX] at hg ⊢
    rw [eP]
    exact ggR2_k (fun k k1 k2 => (fmH_2 (by omega) (by omega) (by omega)).trans (g2 k)) (okg _ (getD_mem (d := gc0) hg)) (r6 g hg)
  · show (ntE (smE s) (flE T (smF s) (smG s) p (syT T 6 (p + 2)).2.2)).1 = 0
    rw [ntE_p r9]
    exact e0
  · rw [eP, wds_app, List.length_append]
    obtain ⟨y1, y2, -⟩ := gd
    omega
theorem fQ_nm {h : PH} {n : Nat} {x : Int64} {v : Int} : fQ 0 h (nmH h n x v) := ⟨rfl, fun a a1 => setL_oth a1, fun a a1 a2 _ _ _ => (setI_oth a1).trans (setI_oth a2), fun k _ _ _ k4 _ => nmH_o (by omega) (by omega), Nat.le_refl _, Nat.le_refl _, Nat.le_refl _⟩
theorem fQ_fl {h h2 : PH} {s : Sm} {a b n : Nat} {x : Int64} (hn : 103 ≤ hN h) (f : fR h h2) : fQ 0 h (fmH h2 s a b n x) := fQ_t (c := 0) (c2 := 0) (h1 := h2) hn (fQ_R f) ⟨rfl, fun c c1 => setL_oth c1, fun c c1 c2 c3 c4 _ => (setI_oth c1).trans ((setI_oth c2).trans ((setI_oth c4).trans ((setI_oth c4).trans (setI_oth c4)))), fun k _ _ _ k4 _ => fmH_o (by omega) (by omega) (by omega), Nat.le_refl _, Nat.le_refl _, Nat.le_refl _⟩

theorem fb_3 {T : List Tok} {F : List Int} {l : List Cmd} (h : (fb T F l).1 ≠ 0) : (fb T F l).1 = 3 := by
  induction l with
  | nil => exact absurd rfl h
  | cons c l ih =>
    have e : fb T F (c :: l) = if c.1 = 7 ∧ lk F (tW T c.2.toNat) < 0 then (3, c.2.toNat) else fb T F l := rfl
    rw [e] at h ⊢
    by_cases x : c.1 = 7 ∧ lk F (tW T c.2.toNat) < 0
    · rw [if_pos x]
    · rw [if_neg x] at h ⊢; exact ih h
theorem mf_tell1 {d p : Nat} {x : Int64} {v : Int} {T : List Tok} {N : List (Int × Int)} {W : List Int} {h : PH} (q0 : QM h T 1 p N W) (n14 : N.length < 14) : Rv d 205 [.inr (.inr (.inr (11, 0, 83))), .inr (.inl (x)), .inl (iZ (v))] h (none) (setI (setI (setL h 89 N.length x) 90 N.length (iZ v)) 83 14 (iZ ((N.length : Int) + 1))) := Rv.of fun Q q => by
  refine Ev.sts 1 (c' := (1, [some (.inr (.inr (.inr (11, 0, 83)))), some (.inr (.inl (x))), none, some (.inl (iZ (v)))], [.inr (.inr (.inr (11, 0, 83)))], h)) rfl ?_
  refine Ev.gv (w := (iZ (1))) rfl (show h.1 83 8 = iZ 1 from qm_8 q0) ?_
  refine Ev.brT (p := ¬ (iZ (1)) = (iZ (0))) (c1 := (8, [some (.inr (.inr (.inr (11, 0, 83)))), some (.inr (.inl (x))), none, some (.inl (iZ (v)))], [], h)) (c2 := (7, [some (.inr (.inr (.inr (11, 0, 83)))), some (.inr (.inl (x))), none, some (.inl (iZ (v)))], [], h)) (by decide) rfl ?_
  refine Ev.sts 1 (c' := (9, [some (.inr (.inr (.inr (11, 0, 83)))), some (.inr (.inl (x))), none, some (.inl (iZ (v)))], [.inr (.inr (.inr (11, 0, 83)))], h)) rfl ?_
  refine Ev.gfr (r := (21, 14, 89)) rfl (sh_83_12 (h := h) (qm_sh q0)) ?_
  refine Ev.sts 1 (c' := (13, [some (.inr (.inr (.inr (11, 0, 83)))), some (.inr (.inl (x))), none, some (.inl (iZ (v)))], [.inr (.inr (.inr (11, 0, 83))), .inr (.inr (.inr (21, 14, 89)))], h)) rfl ?_
  refine Ev.gv (w := (iZ (N.length))) rfl (qm_n q0).1 ?_
  refine Ev.sts 1 (c' := (17, [some (.inr (.inr (.inr (11, 0, 83)))), some (.inr (.inl (x))), none, some (.inl (iZ (v)))], [.inr (.inl (x)), .inl (iZ (N.length)), .inr (.inr (.inr (21, 14, 89)))], h)) rfl ?_
  refine Ev.sto (j := (iZ (N.length))) (n := 14) (h2 := (setL h 89 N.length (x))) (iZ_in (by omega) (by omega) (by omega)) rfl (by rw [iZ_ix (n := N.length) (by omega) (by omega)]) ?_
  refine Ev.sts 1 (c' := (19, [some (.inr (.inr (.inr (11, 0, 83)))), some (.inr (.inl (x))), none, some (.inl (iZ (v)))], [.inr (.inr (.inr (11, 0, 83)))], (setL h 89 N.length (x)))) rfl ?_
  refine Ev.gfr (r := (20, 14, 90)) rfl (sh_83_13 (h := h) (qm_sh q0)) ?_
  refine Ev.sts 1 (c' := (23, [some (.inr (.inr (.inr (11, 0, 83)))), some (.inr (.inl (x))), none, some (.inl (iZ (v)))], [.inr (.inr (.inr (11, 0, 83))), .inr (.inr (.inr (20, 14, 90)))], (setL h 89 N.length (x)))) rfl ?_
  refine Ev.gv (w := (iZ (N.length))) rfl (qm_n q0).1 ?_
  refine Ev.sts 1 (c' := (27, [some (.inr (.inr (.inr (11, 0, 83)))), some (.inr (.inl (x))), none, some (.inl (iZ (v)))], [.inl (iZ (v)), .inl (iZ (N.length)), .inr (.inr (.inr (20, 14, 90)))], (setL h 89 N.length (x)))) rfl ?_
  refine Ev.sto (j := (iZ (N.length))) (n := 14) (h2 := (setI (setL h 89 N.length (x)) 90 N.length ((iZ (v))))) (iZ_in (by omega) (by omega) (by omega)) rfl (by rw [iZ_ix (n := N.length) (by omega) (by omega)]) ?_
  refine Ev.sts 2 (c' := (30, [some (.inr (.inr (.inr (11, 0, 83)))), some (.inr (.inl (x))), none, some (.inl (iZ (v)))], [.inr (.inr (.inr (11, 0, 83))), .inr (.inr (.inr (11, 0, 83)))], (setI (setL h 89 N.length (x)) 90 N.length ((iZ (v)))))) rfl ?_
  refine Ev.gv (w := (iZ (N.length))) rfl ((setI_ne (by omega)).trans (qm_n q0).1) ?_
  refine Ev.sts 1 (c' := (34, [some (.inr (.inr (.inr (11, 0, 83)))), some (.inr (.inl (x))), none, some (.inl (iZ (v)))], [.inl (iZ (1)), .inl (iZ (N.length)), .inr (.inr (.inr (11, 0, 83)))], (setI (setL h 89 N.length (x)) 90 N.length ((iZ (v)))))) rfl ?_
  refine Ev.gv (w := (iZ (N.length + 1))) rfl (iZ_add _ _) ?_
  refine Ev.sts 1 (c' := (38, [some (.inr (.inr (.inr (11, 0, 83)))), some (.inr (.inl (x))), none, some (.inl (iZ (v)))], [], (setI (setI (setL h 89 N.length (x)) 90 N.length ((iZ (v)))) 83 14 ((iZ (N.length + 1)))))) rfl ?_
  exact Ev.ret rfl (q)

theorem mf_flock1 {d p : Nat} {T : List Tok} {N : List (Int × Int)} {s : Sm} {h : PH} {Q : Rs → PH → Prop} (r0 : RMS h T p N s) (fl : (flkF T p).1 = true) (hn : 103 ≤ hN h) (k1 : (flE T (smF s) (smG s) p (flkF T p).2.2.2.2.1).1 = 0 → ∀ h1 N1, RMS h1 T (flkF T p).2.1 N1 (smFl T s p (flkF T p).2.2.2.2.1) → fQ 0 h h1 → Q (.inl (some (.inl (iZ 1)))) h1) (k0 : (flE T (smF s) (smG s) p (flkF T p).2.2.2.2.1).1 ≠ 0 → ∀ h1, erM h1 T (flE T (smF s) (smG s) p (flkF T p).2.2.2.2.1).1 (flE T (smF s) (smG s) p (flkF T p).2.2.2.2.1).2 → fQ 0 h h1 → Q (.inl (some (.inl (iZ 0)))) h1) : Rn (d + 70) 191 [.inr (.inr (.inr (11, 0, 83)))] h Q := by
  have q0 := r0.1
  have hp := r0.2.2.2.2.2.2.2.2.2
  have sh := qm_sh q0
  have w0 := qm_w q0
  have p0 := qm_p q0
  have t0 := qm_tk q0
  have l1 := w0.2.1
  have s1 := qm_s q0
  have tb0 := tBk w0 p
  have sb0 := sr_b (tK T p)
  have ok := r0.2.2.2.2.2.2.2.1
  have hF8 := ok.2.1
  have hG6 := ok.2.2.2.1
  have nl := r0.2.2.2.2.2.2.1.2.2
  have hN := r0.2.2.2.2.2.2.1.1
  have hI := r0.2.2.2.2.2.2.1.2.1
  obtain ⟨a2, a6, ss, fe⟩ := flk_t fl
  rw [fe] at k1 k0
  dsimp only at k1 k0
  refine Ev.sts 1 (c' := (1, [some (.inr (.inr (.inr (11, 0, 83)))), none, none, none, none], [.inr (.inr (.inr (11, 0, 83)))], h)) rfl ?_
  refine Ev.callw (a := [.inr (.inr (.inr (11, 0, 83)))]) rfl (mf_name q0 (fun ky1 h1 q1 f1 => ?_) (fun ky1 g1 a1 f1 => ?_))
  · have z1 := qm_p q1
    refine Ev.brT (p := ¬ (iZ (1)) = (iZ (0))) (c1 := (9, [some (.inr (.inr (.inr (11, 0, 83)))), none, none, none, none], [], h1)) (c2 := (7, [some (.inr (.inr (.inr (11, 0, 83)))), none, none, none, none], [], h1)) (by decide) rfl ?_
    refine Ev.sts 1 (c' := (10, [some (.inr (.inr (.inr (11, 0, 83)))), none, none, none, none], [.inr (.inr (.inr (11, 0, 83)))], h1)) rfl ?_
    refine Ev.gfr (r := (21, 402, 86)) rfl (sh_83_4 (h := h1) (qm_sh q1)) ?_
    refine Ev.sts 1 (c' := (14, [some (.inr (.inr (.inr (11, 0, 83)))), none, none, none, none], [.inr (.inr (.inr (11, 0, 83))), .inr (.inr (.inr (21, 402, 86)))], h1)) rfl ?_
    refine Ev.gv (w := (iZ (p + 1))) rfl ((qm_7 q1).trans (congrArg iZ (by omega))) ?_
    refine Ev.sts 1 (c' := (18, [some (.inr (.inr (.inr (11, 0, 83)))), none, none, none, none], [.inl (iZ (1)), .inl (iZ (p + 1)), .inr (.inr (.inr (21, 402, 86)))], h1)) rfl ?_
    refine Ev.gv (w := (iZ ((p + 1) - 1))) rfl (iZ_sub _ _) ?_
    refine Ev.ldv (j := (iZ ((p + 1) - 1))) (n := 402) (w := .inr (.inl ((lz (whK (T.getD p tk0)))))) (iZ_in (by omega) (by omega) (by omega)) rfl (by rw [iZ_ix (n := p) (by omega) (by omega)]; exact congrArg vL ((qm_tk q1 p (by have := qm_p q1; omega)).2.2 (show ¬ tK T p = 1 by omega))) ?_
    refine Ev.sts 2 (c' := (22, [some (.inr (.inr (.inr (11, 0, 83)))), some (.inr (.inl ((lz (whK (T.getD p tk0)))))), none, none, none], [.inr (.inr (.inr (11, 0, 83)))], h1)) rfl ?_
    refine Ev.gfr (r := (20, 64, 92)) rfl (sh_83_17 (h := h1) (qm_sh q1)) ?_
    refine Ev.sts 1 (c' := (26, [some (.inr (.inr (.inr (11, 0, 83)))), some (.inr (.inl ((lz (whK (T.getD p tk0)))))), none, none, none], [.inl (iZ (0)), .inr (.inr (.inr (20, 64, 92)))], h1)) rfl ?_
    refine Ev.ldv (j := (iZ (0))) (n := 64) (w := .inl (iZ ((smF s).length))) (by decide) rfl (congrArg vI ((congrFun ((fR_t (fR_r h) f1).2.1 92 (by decide) (by decide)) 0).trans r0.2.1)) ?_
    refine Ev.sts 4 (c' := (31, [some (.inr (.inr (.inr (11, 0, 83)))), some (.inr (.inl ((lz (whK (T.getD p tk0)))))), none, some (.inl (iZ ((smF s).length))), none], [.inr (.inr (.inr (11, 0, 83))), .inl (iZ (2)), .inr (.inr (.inr (11, 0, 83)))], h1)) rfl ?_
    refine Ev.callw (a := [.inr (.inr (.inr (11, 0, 83)))]) rfl (mf_isNew (p := p) q1 w0 (by assumption) (fun i2 => ?_) (fun i2 => ?_))
    · refine Ev.sts 1 (c' := (35, [some (.inr (.inr (.inr (11, 0, 83)))), some (.inr (.inl ((lz (whK (T.getD p tk0)))))), none, some (.inl (iZ ((smF s).length))), none], [.inr (.inr (.inr (11, 0, 83))), .inl (iZ (1)), .inl (iZ (2)), .inr (.inr (.inr (11, 0, 83)))], h1)) rfl ?_
      refine Ev.gv (w := (iZ (p + 1))) rfl ((qm_7 q1).trans (congrArg iZ (by omega))) ?_
      refine Ev.sts 1 (c' := (39, [some (.inr (.inr (.inr (11, 0, 83)))), some (.inr (.inl ((lz (whK (T.getD p tk0)))))), none, some (.inl (iZ ((smF s).length))), none], [.inl (iZ (1)), .inl (iZ (p + 1)), .inl (iZ (1)), .inl (iZ (2)), .inr (.inr (.inr (11, 0, 83)))], h1)) rfl ?_
      refine Ev.gv (w := (iZ ((p + 1) - 1))) rfl (iZ_sub _ _) ?_
      refine Ev.callv (a := [.inr (.inr (.inr (11, 0, 83))), .inl (iZ (2)), .inl (iZ (1)), .inl (iZ ((p + 1) - 1))]) rfl (mf_check1 q1) ?_
      refine Ev.brF (p := (iZ (1)) = (iZ (0))) (c1 := (81, [some (.inr (.inr (.inr (11, 0, 83)))), some (.inr (.inl ((lz (whK (T.getD p tk0)))))), none, some (.inl (iZ ((smF s).length))), none], [], h1)) (c2 := (46, [some (.inr (.inr (.inr (11, 0, 83)))), some (.inr (.inl ((lz (whK (T.getD p tk0)))))), none, some (.inl (iZ ((smF s).length))), none], [], h1)) (by decide) rfl ?_
      refine Ev.sts 4 (c' := (51, [some (.inr (.inr (.inr (11, 0, 83)))), some (.inr (.inl ((lz (whK (T.getD p tk0)))))), none, some (.inl (iZ ((smF s).length))), none], [.inl (iZ (8)), .inl (iZ ((smF s).length)), .inl (iZ (4)), .inr (.inr (.inr (11, 0, 83)))], h1)) rfl ?_
      refine Ev.brc (p := (iZ (8)) ≤ (iZ ((smF s).length))) (q := ((8 : Int)) ≤ ((smF s).length)) (c1 := (58, [some (.inr (.inr (.inr (11, 0, 83)))), some (.inr (.inl ((lz (whK (T.getD p tk0)))))), none, some (.inl (iZ ((smF s).length))), none], [.inl (iZ (4)), .inr (.inr (.inr (11, 0, 83)))], h1)) (c2 := (54, [some (.inr (.inr (.inr (11, 0, 83)))), some (.inr (.inl ((lz (whK (T.getD p tk0)))))), none, some (.inl (iZ ((smF s).length))), none], [.inl (iZ (4)), .inr (.inr (.inr (11, 0, 83)))], h1)) rfl (iZ_le ⟨by omega, by omega⟩ ⟨by omega, by omega⟩) (fun c0 => ?_) (fun c0 => ?_)
      · refine Ev.sts 2 (c' := (60, [some (.inr (.inr (.inr (11, 0, 83)))), some (.inr (.inl ((lz (whK (T.getD p tk0)))))), none, some (.inl (iZ ((smF s).length))), none], [.inr (.inr (.inr (11, 0, 83))), .inl (iZ (0)), .inl (iZ (4)), .inr (.inr (.inr (11, 0, 83)))], h1)) rfl ?_
        refine Ev.gv (w := (iZ (p + 1))) rfl ((qm_7 q1).trans (congrArg iZ (by omega))) ?_
        refine Ev.sts 1 (c' := (64, [some (.inr (.inr (.inr (11, 0, 83)))), some (.inr (.inl ((lz (whK (T.getD p tk0)))))), none, some (.inl (iZ ((smF s).length))), none], [.inl (iZ (1)), .inl (iZ (p + 1)), .inl (iZ (0)), .inl (iZ (4)), .inr (.inr (.inr (11, 0, 83)))], h1)) rfl ?_
        refine Ev.gv (w := (iZ ((p + 1) - 1))) rfl (iZ_sub _ _) ?_
        refine Ev.callw (a := [.inr (.inr (.inr (11, 0, 83))), .inl (iZ (4)), .inl (iZ (0)), .inl (iZ ((p + 1) - 1))]) rfl (mf_check0 (nn := 4) (yn := p) q1 rfl (by omega) (by omega) (fun z_ => absurd z_ (by decide)) (fun _ g3 a3 f3 => ?_))
        refine Ev.brT (p := (iZ (0)) = (iZ (0))) (c1 := (81, [some (.inr (.inr (.inr (11, 0, 83)))), some (.inr (.inl ((lz (whK (T.getD p tk0)))))), none, some (.inl (iZ ((smF s).length))), none], [], g3)) (c2 := (71, [some (.inr (.inr (.inr (11, 0, 83)))), some (.inr (.inl ((lz (whK (T.getD p tk0)))))), none, some (.inl (iZ ((smF s).length))), none], [], g3)) (by decide) rfl ?_
        refine Ev.sts 1 (c' := (82, [some (.inr (.inr (.inr (11, 0, 83)))), some (.inr (.inl ((lz (whK (T.getD p tk0)))))), none, some (.inl (iZ ((smF s).length))), none], [.inl (iZ (0))], g3)) rfl ?_
        first | (exfalso; omega) | (have e1 : flE T (smF s) (smG s) p (syT T 6 (p + 2)).2.2 = (2, p) := (by unfold flE; rw [nwE_2 ((hI _).mp (by assumption))]; exact ntE_n (by show ¬ (2 : Nat) = 0; decide)); rw [e1] at k0; exact Ev.ret rfl (k0 (by show ¬ (2 : Nat) = 0; decide) _ a3 (fQ_R (fR_t (fR_t (fR_r h) f1) f3)))) | (have e1 : flE T (smF s) (smG s) p (syT T 6 (p + 2)).2.2 = (4, p) := (by unfold flE; rw [nwE_4 (by rw [← hI]; assumption) (by omega)]; exact ntE_n (by show ¬ (4 : Nat) = 0; decide)); rw [e1] at k0; exact Ev.ret rfl (k0 (by show ¬ (4 : Nat) = 0; decide) _ a3 (fQ_R (fR_t (fR_t (fR_r h) f1) f3))))
      · refine Ev.sts 3 (c' := (60, [some (.inr (.inr (.inr (11, 0, 83)))), some (.inr (.inl ((lz (whK (T.getD p tk0)))))), none, some (.inl (iZ ((smF s).length))), none], [.inr (.inr (.inr (11, 0, 83))), .inl (iZ (1)), .inl (iZ (4)), .inr (.inr (.inr (11, 0, 83)))], h1)) rfl ?_
        refine Ev.gv (w := (iZ (p + 1))) rfl ((qm_7 q1).trans (congrArg iZ (by omega))) ?_
        refine Ev.sts 1 (c' := (64, [some (.inr (.inr (.inr (11, 0, 83)))), some (.inr (.inl ((lz (whK (T.getD p tk0)))))), none, some (.inl (iZ ((smF s).length))), none], [.inl (iZ (1)), .inl (iZ (p + 1)), .inl (iZ (1)), .inl (iZ (4)), .inr (.inr (.inr (11, 0, 83)))], h1)) rfl ?_
        refine Ev.gv (w := (iZ ((p + 1) - 1))) rfl (iZ_sub _ _) ?_
        refine Ev.callv (a := [.inr (.inr (.inr (11, 0, 83))), .inl (iZ (4)), .inl (iZ (1)), .inl (iZ ((p + 1) - 1))]) rfl (mf_check1 q1) ?_
        refine Ev.brF (p := (iZ (1)) = (iZ (0))) (c1 := (81, [some (.inr (.inr (.inr (11, 0, 83)))), some (.inr (.inl ((lz (whK (T.getD p tk0)))))), none, some (.inl (iZ ((smF s).length))), none], [], h1)) (c2 := (71, [some (.inr (.inr (.inr (11, 0, 83)))), some (.inr (.inl ((lz (whK (T.getD p tk0)))))), none, some (.inl (iZ ((smF s).length))), none], [], h1)) (by decide) rfl ?_
        refine Ev.sts 2 (c' := (75, [some (.inr (.inr (.inr (11, 0, 83)))), some (.inr (.inl ((lz (whK (T.getD p tk0)))))), none, some (.inl (iZ ((smF s).length))), none], [.inr (.inl ((21015731 : Int64))), .inr (.inr (.inr (11, 0, 83)))], h1)) rfl ?_
        refine Ev.callw (a := [.inr (.inr (.inr (11, 0, 83))), .inr (.inl ((21015731 : Int64)))]) rfl (mf_word (K := 6) q1 (by decide) (by decide) (fun ky4 h4 q4 f4 => ?_) (fun ky4 g4 a4 f4 => ?_))
        · have z4 := qm_p q4
          refine Ev.brT (p := ¬ (iZ (1)) = (iZ (0))) (c1 := (83, [some (.inr (.inr (.inr (11, 0, 83)))), some (.inr (.inl ((lz (whK (T.getD p tk0)))))), none, some (.inl (iZ ((smF s).length))), none], [], h4)) (c2 := (81, [some (.inr (.inr (.inr (11, 0, 83)))), some (.inr (.inl ((lz (whK (T.getD p tk0)))))), none, some (.inl (iZ ((smF s).length))), none], [], h4)) (by decide) rfl ?_
          refine Ev.sts 1 (c' := (84, [some (.inr (.inr (.inr (11, 0, 83)))), some (.inr (.inl ((lz (whK (T.getD p tk0)))))), none, some (.inl (iZ ((smF s).length))), none], [.inr (.inr (.inr (11, 0, 83)))], h4)) rfl ?_
          refine Ev.gv (w := (iZ ((wds (smP s)).length))) rfl (qm_c q4) ?_
          refine Ev.sts 3 (c' := (91, [some (.inr (.inr (.inr (11, 0, 83)))), some (.inr (.inl ((lz (whK (T.getD p tk0)))))), none, some (.inl (iZ ((smF s).length))), some (.inl (iZ ((wds (smP s)).length)))], [.inl (iZ (0)), .inr (.inr (.inr (11, 0, 83)))], h4)) rfl ?_
          refine Ev.callw (a := [.inr (.inr (.inr (11, 0, 83))), .inl (iZ (0))]) rfl ((mr_syT (F := smF s) w0 hN (by omega) 6 (by decide) 0 (by decide)) _ (by omega) _ _ _ _ q4 (by first | omega | (simp only [List.length_append, List.length_cons, List.length_nil, List.length_map]; omega)) (fun _ => ss) (fun r5 fq5 h5 q5 f5 => ?_) (fun r5 s5_ g5 a5 f5 => ?_) (fun s5_ r5 u5 b5 a5 f5 => ?_))
          · obtain ⟨x5, y5, -⟩ := gd_syT w0 6 _ r5
            have z5 := qm_p q5
            have w5 := wds_m T (smF s) (syT T 6 (p + 2)).2.2
            refine Ev.brT (p := ¬ (iZ (1)) = (iZ (0))) (c1 := (99, [some (.inr (.inr (.inr (11, 0, 83)))), some (.inr (.inl ((lz (whK (T.getD p tk0)))))), none, some (.inl (iZ ((smF s).length))), some (.inl (iZ ((wds (smP s)).length)))], [], h5)) (c2 := (97, [some (.inr (.inr (.inr (11, 0, 83)))), some (.inr (.inl ((lz (whK (T.getD p tk0)))))), none, some (.inl (iZ ((smF s).length))), some (.inl (iZ ((wds (smP s)).length)))], [], h5)) (by decide) rfl ?_
            refine Ev.sts 1 (c' := (100, [some (.inr (.inr (.inr (11, 0, 83)))), some (.inr (.inl ((lz (whK (T.getD p tk0)))))), none, some (.inl (iZ ((smF s).length))), some (.inl (iZ ((wds (smP s)).length)))], [.inr (.inr (.inr (11, 0, 83)))], h5)) rfl ?_
            refine Ev.gv (w := (iZ (1))) rfl (show h5.1 83 8 = iZ 1 from qm_8 q5) ?_
            refine Ev.brF (p := (iZ (1)) = (iZ (0))) (c1 := (146, [some (.inr (.inr (.inr (11, 0, 83)))), some (.inr (.inl ((lz (whK (T.getD p tk0)))))), none, some (.inl (iZ ((smF s).length))), some (.inl (iZ ((wds (smP s)).length)))], [], h5)) (c2 := (106, [some (.inr (.inr (.inr (11, 0, 83)))), some (.inr (.inl ((lz (whK (T.getD p tk0)))))), none, some (.inl (iZ ((smF s).length))), some (.inl (iZ ((wds (smP s)).length)))], [], h5)) (by decide) rfl ?_
            refine Ev.sts 1 (c' := (107, [some (.inr (.inr (.inr (11, 0, 83)))), some (.inr (.inl ((lz (whK (T.getD p tk0)))))), none, some (.inl (iZ ((smF s).length))), some (.inl (iZ ((wds (smP s)).length)))], [.inr (.inr (.inr (11, 0, 83)))], h5)) rfl ?_
            refine Ev.gfr (r := (20, 64, 92)) rfl (sh_83_17 (h := h5) (qm_sh q5)) ?_
            refine Ev.sts 3 (c' := (114, [some (.inr (.inr (.inr (11, 0, 83)))), some (.inr (.inl ((lz (whK (T.getD p tk0)))))), none, some (.inl (iZ ((smF s).length))), some (.inl (iZ ((wds (smP s)).length)))], [.inl (iZ ((smF s).length)), .inl (iZ (2)), .inl (iZ (11)), .inr (.inr (.inr (20, 64, 92)))], h5)) rfl ?_
            refine Ev.gv (w := (iZ (2 * ((smF s).length)))) rfl (iZ_mul _ _) ?_
            refine Ev.gv (w := (iZ (11 + (2 * ((smF s).length))))) rfl (iZ_add _ _) ?_
            refine Ev.sts 1 (c' := (118, [some (.inr (.inr (.inr (11, 0, 83)))), some (.inr (.inl ((lz (whK (T.getD p tk0)))))), none, some (.inl (iZ ((smF s).length))), some (.inl (iZ ((wds (smP s)).length)))], [.inl (iZ ((wds (smP s)).length)), .inl (iZ (11 + (2 * ((smF s).length)))), .inr (.inr (.inr (20, 64, 92)))], h5)) rfl ?_
            refine Ev.sto (j := (iZ (11 + (2 * ((smF s).length))))) (n := 64) (h2 := (setI h5 92 (11 + 2 * (smF s).length) ((iZ ((wds (smP s)).length))))) (iZ_in (by omega) (by omega) (by omega)) rfl (by rw [iZ_ix (n := 11 + 2 * (smF s).length) (by omega) (by omega)]) ?_
            refine Ev.sts 1 (c' := (120, [some (.inr (.inr (.inr (11, 0, 83)))), some (.inr (.inl ((lz (whK (T.getD p tk0)))))), none, some (.inl (iZ ((smF s).length))), some (.inl (iZ ((wds (smP s)).length)))], [.inr (.inr (.inr (11, 0, 83)))], (setI h5 92 (11 + 2 * (smF s).length) ((iZ ((wds (smP s)).length)))))) rfl ?_
            refine Ev.gfr (r := (20, 64, 92)) rfl (sh_83_17 (h := h5) (qm_sh q5)) ?_
            refine Ev.sts 3 (c' := (127, [some (.inr (.inr (.inr (11, 0, 83)))), some (.inr (.inl ((lz (whK (T.getD p tk0)))))), none, some (.inl (iZ ((smF s).length))), some (.inl (iZ ((wds (smP s)).length)))], [.inl (iZ ((smF s).length)), .inl (iZ (2)), .inl (iZ (11)), .inr (.inr (.inr (20, 64, 92)))], (setI h5 92 (11 + 2 * (smF s).length) ((iZ ((wds (smP s)).length)))))) rfl ?_
            refine Ev.gv (w := (iZ (2 * ((smF s).length)))) rfl (iZ_mul _ _) ?_
            refine Ev.gv (w := (iZ (11 + (2 * ((smF s).length))))) rfl (iZ_add _ _) ?_
            refine Ev.sts 1 (c' := (130, [some (.inr (.inr (.inr (11, 0, 83)))), some (.inr (.inl ((lz (whK (T.getD p tk0)))))), none, some (.inl (iZ ((smF s).length))), some (.inl (iZ ((wds (smP s)).length)))], [.inl (iZ (1)), .inl (iZ (11 + (2 * ((smF s).length)))), .inr (.inr (.inr (20, 64, 92)))], (setI h5 92 (11 + 2 * (smF s).length) ((iZ ((wds (smP s)).length)))))) rfl ?_
            refine Ev.gv (w := (iZ ((11 + (2 * ((smF s).length))) + 1))) rfl (iZ_add _ _) ?_
            refine Ev.sts 1 (c' := (132, [some (.inr (.inr (.inr (11, 0, 83)))), some (.inr (.inl ((lz (whK (T.getD p tk0)))))), none, some (.inl (iZ ((smF s).length))), some (.inl (iZ ((wds (smP s)).length)))], [.inr (.inr (.inr (11, 0, 83))), .inl (iZ ((11 + (2 * ((smF s).length))) + 1)), .inr (.inr (.inr (20, 64, 92)))], (setI h5 92 (11 + 2 * (smF s).length) ((iZ ((wds (smP s)).length)))))) rfl ?_
            refine Ev.gv (w := (iZ ((wds (smP s) ++ wds ((syT T 6 (p + 2)).2.2.map (rsl T (smF s)))).length))) rfl ((setI_ne (by omega)).trans (qm_c q5)) ?_
            refine Ev.sto (j := (iZ ((11 + (2 * ((smF s).length))) + 1))) (n := 64) (h2 := (setI (setI h5 92 (11 + 2 * (smF s).length) ((iZ ((wds (smP s)).length)))) 92 (12 + 2 * (smF s).length) ((iZ ((wds (smP s) ++ wds ((syT T 6 (p + 2)).2.2.map (rsl T (smF s)))).length))))) (iZ_in (by omega) (by omega) (by omega)) rfl (by rw [iZ_ix (n := 12 + 2 * (smF s).length) (by omega) (by omega)]) ?_
            refine Ev.sts 1 (c' := (137, [some (.inr (.inr (.inr (11, 0, 83)))), some (.inr (.inl ((lz (whK (T.getD p tk0)))))), none, some (.inl (iZ ((smF s).length))), some (.inl (iZ ((wds (smP s)).length)))], [.inr (.inr (.inr (11, 0, 83)))], (setI (setI h5 92 (11 + 2 * (smF s).length) ((iZ ((wds (smP s)).length)))) 92 (12 + 2 * (smF s).length) ((iZ ((wds (smP s) ++ wds ((syT T 6 (p + 2)).2.2.map (rsl T (smF s)))).length)))))) rfl ?_
            refine Ev.gfr (r := (20, 64, 92)) rfl (sh_83_17 (h := h5) (qm_sh q5)) ?_
            refine Ev.sts 2 (c' := (142, [some (.inr (.inr (.inr (11, 0, 83)))), some (.inr (.inl ((lz (whK (T.getD p tk0)))))), none, some (.inl (iZ ((smF s).length))), some (.inl (iZ ((wds (smP s)).length)))], [.inl (iZ (0)), .inr (.inr (.inr (20, 64, 92))), .inl (iZ (0)), .inr (.inr (.inr (20, 64, 92)))], (setI (setI h5 92 (11 + 2 * (smF s).length) ((iZ ((wds (smP s)).length)))) 92 (12 + 2 * (smF s).length) ((iZ ((wds (smP s) ++ wds ((syT T 6 (p + 2)).2.2.map (rsl T (smF s)))).length)))))) rfl ?_
            refine Ev.ldv (j := (iZ (0))) (n := 64) (w := .inl (iZ ((smF s).length))) (by decide) rfl (congrArg vI (show (setI (setI h5 92 (11 + 2 * (smF s).length) ((iZ ((wds (smP s)).length)))) 92 (12 + 2 * (smF s).length) ((iZ ((wds (smP s) ++ wds ((syT T 6 (p + 2)).2.2.map (rsl T (smF s)))).length)))).1 92 0 = iZ ((smF s).length) from ((setI_ne (by omega)).trans ((setI_ne (by omega)).trans ((congrFun ((fR_t (fR_t (fR_t (fR_r h) f1) f4) f5).2.1 92 (by decide) (by decide)) 0).trans r0.2.1))))) ?_
            refine Ev.sts 1 (c' := (144, [some (.inr (.inr (.inr (11, 0, 83)))), some (.inr (.inl ((lz (whK (T.getD p tk0)))))), none, some (.inl (iZ ((smF s).length))), some (.inl (iZ ((wds (smP s)).length)))], [.inl (iZ (1)), .inl (iZ ((smF s).length)), .inl (iZ (0)), .inr (.inr (.inr (20, 64, 92)))], (setI (setI h5 92 (11 + 2 * (smF s).length) ((iZ ((wds (smP s)).length)))) 92 (12 + 2 * (smF s).length) ((iZ ((wds (smP s) ++ wds ((syT T 6 (p + 2)).2.2.map (rsl T (smF s)))).length)))))) rfl ?_
            refine Ev.gv (w := (iZ (((smF s).length) + 1))) rfl (iZ_add _ _) ?_
            refine Ev.sto (j := (iZ (0))) (n := 64) (h2 := (setI (setI (setI h5 92 (11 + 2 * (smF s).length) ((iZ ((wds (smP s)).length)))) 92 (12 + 2 * (smF s).length) ((iZ ((wds (smP s) ++ wds ((syT T 6 (p + 2)).2.2.map (rsl T (smF s)))).length)))) 92 0 ((iZ (((smF s).length) + 1))))) (by decide) rfl rfl ?_
            refine Ev.sts 3 (c' := (149, [some (.inr (.inr (.inr (11, 0, 83)))), some (.inr (.inl ((lz (whK (T.getD p tk0)))))), none, some (.inl (iZ ((smF s).length))), some (.inl (iZ ((wds (smP s)).length)))], [.inl (iZ ((smF s).length)), .inr (.inl ((lz (whK (T.getD p tk0))))), .inr (.inr (.inr (11, 0, 83)))], (setI (setI (setI h5 92 (11 + 2 * (smF s).length) ((iZ ((wds (smP s)).length)))) 92 (12 + 2 * (smF s).length) ((iZ ((wds (smP s) ++ wds ((syT T 6 (p + 2)).2.2.map (rsl T (smF s)))).length)))) 92 0 ((iZ (((smF s).length) + 1)))))) rfl ?_
            refine Ev.callv (a := [.inr (.inr (.inr (11, 0, 83))), .inr (.inl ((lz (whK (T.getD p tk0))))), .inl (iZ ((smF s).length))]) rfl (mf_tell1 (QM_92 (QM_92 (QM_92 q5))) (by omega)) ?_
            refine Ev.sts 1 (c' := (153, [some (.inr (.inr (.inr (11, 0, 83)))), some (.inr (.inl ((lz (whK (T.getD p tk0)))))), none, some (.inl (iZ ((smF s).length))), some (.inl (iZ ((wds (smP s)).length)))], [.inl (iZ (1))], (setI (setI (setL (setI (setI (setI h5 92 (11 + 2 * (smF s).length) ((iZ ((wds (smP s)).length)))) 92 (12 + 2 * (smF s).length) ((iZ ((wds (smP s) ++ wds ((syT T 6 (p + 2)).2.2.map (rsl T (smF s)))).length)))) 92 0 ((iZ (((smF s).length) + 1)))) 89 N.length ((lz (whK (T.getD p tk0))))) 90 N.length (iZ ((smF s).length))) 83 14 (iZ ((N.length : Int) + 1))))) rfl ?_
            have e9 : flE T (smF s) (smG s) p (syT T 6 (p + 2)).2.2 = fb T (smF s) (syT T 6 (p + 2)).2.2 := (by unfold flE; rw [nwE_0 (by rw [← hI]; assumption) (by omega)]; rfl)
            have e8 : (flE T (smF s) (smG s) p (syT T 6 (p + 2)).2.2).1 = 0 := by rw [e9]; exact fq5 rfl
            exact Ev.ret rfl (k1 e8 _ _ (RMS_fl r0 w0 fl q5 (fR_t (fR_t (fR_t (fR_r h) f1) f4) f5) (by rw [← hI]; assumption) (by omega) e8) (fQ_fl hn (fR_t (fR_t (fR_t (fR_r h) f1) f4) f5)))
          · refine Ev.brF (p := ¬ (iZ (0)) = (iZ (0))) (c1 := (99, [some (.inr (.inr (.inr (11, 0, 83)))), some (.inr (.inl ((lz (whK (T.getD p tk0)))))), none, some (.inl (iZ ((smF s).length))), some (.inl (iZ ((wds (smP s)).length)))], [], g5)) (c2 := (97, [some (.inr (.inr (.inr (11, 0, 83)))), some (.inr (.inl ((lz (whK (T.getD p tk0)))))), none, some (.inl (iZ ((smF s).length))), some (.inl (iZ ((wds (smP s)).length)))], [], g5)) (by decide) rfl ?_
            refine Ev.sts 1 (c' := (98, [some (.inr (.inr (.inr (11, 0, 83)))), some (.inr (.inl ((lz (whK (T.getD p tk0)))))), none, some (.inl (iZ ((smF s).length))), some (.inl (iZ ((wds (smP s)).length)))], [.inl (iZ (0))], g5)) rfl ?_
            first | (exfalso; omega) | (have e1 : flE T (smF s) (smG s) p (syT T 6 (p + 2)).2.2 = (2, p) := (by unfold flE; rw [nwE_2 ((hI _).mp (by assumption))]; exact ntE_n (by show ¬ (2 : Nat) = 0; decide)); rw [e1] at k0; exact Ev.ret rfl (k0 (by show ¬ (2 : Nat) = 0; decide) _ a5 (fQ_R (fR_t (fR_t (fR_t (fR_r h) f1) f4) f5)))) | (have e1 : flE T (smF s) (smG s) p (syT T 6 (p + 2)).2.2 = (4, p) := (by unfold flE; rw [nwE_4 (by rw [← hI]; assumption) (by omega)]; exact ntE_n (by show ¬ (4 : Nat) = 0; decide)); rw [e1] at k0; exact Ev.ret rfl (k0 (by show ¬ (4 : Nat) = 0; decide) _ a5 (fQ_R (fR_t (fR_t (fR_t (fR_r h) f1) f4) f5))))
          · refine Ev.brF (p := ¬ (iZ (0)) = (iZ (0))) (c1 := (99, [some (.inr (.inr (.inr (11, 0, 83)))), some (.inr (.inl ((lz (whK (T.getD p tk0)))))), none, some (.inl (iZ ((smF s).length))), some (.inl (iZ ((wds (smP s)).length)))], [], b5)) (c2 := (97, [some (.inr (.inr (.inr (11, 0, 83)))), some (.inr (.inl ((lz (whK (T.getD p tk0)))))), none, some (.inl (iZ ((smF s).length))), some (.inl (iZ ((wds (smP s)).length)))], [], b5)) (by decide) rfl ?_
            refine Ev.sts 1 (c' := (98, [some (.inr (.inr (.inr (11, 0, 83)))), some (.inr (.inl ((lz (whK (T.getD p tk0)))))), none, some (.inl (iZ ((smF s).length))), some (.inl (iZ ((wds (smP s)).length)))], [.inl (iZ (0))], b5)) rfl ?_
            have e1 : flE T (smF s) (smG s) p (syT T 6 (p + 2)).2.2 = fb T (smF s) (syT T 6 (p + 2)).2.2 := (by unfold flE; rw [nwE_0 (by rw [← hI]; assumption) (by omega)]; rfl)
            have u1 : (fb T (smF s) (syT T 6 (p + 2)).2.2).1 = 3 := fb_3 u5
            rw [e1] at k0
            exact Ev.ret rfl (k0 u5 _ (by rw [u1]; exact a5) (fQ_R (fR_t (fR_t (fR_t (fR_r h) f1) f4) f5)))
        · refine Ev.brF (p := ¬ (iZ (0)) = (iZ (0))) (c1 := (83, [some (.inr (.inr (.inr (11, 0, 83)))), some (.inr (.inl ((lz (whK (T.getD p tk0)))))), none, some (.inl (iZ ((smF s).length))), none], [], g4)) (c2 := (81, [some (.inr (.inr (.inr (11, 0, 83)))), some (.inr (.inl ((lz (whK (T.getD p tk0)))))), none, some (.inl (iZ ((smF s).length))), none], [], g4)) (by decide) rfl ?_
          refine Ev.sts 1 (c' := (82, [some (.inr (.inr (.inr (11, 0, 83)))), some (.inr (.inl ((lz (whK (T.getD p tk0)))))), none, some (.inl (iZ ((smF s).length))), none], [.inl (iZ (0))], g4)) rfl ?_
          first | (exfalso; omega) | (have e1 : flE T (smF s) (smG s) p (syT T 6 (p + 2)).2.2 = (2, p) := (by unfold flE; rw [nwE_2 ((hI _).mp (by assumption))]; exact ntE_n (by show ¬ (2 : Nat) = 0; decide)); rw [e1] at k0; exact Ev.ret rfl (k0 (by show ¬ (2 : Nat) = 0; decide) _ a4 (fQ_R (fR_t (fR_t (fR_r h) f1) f4)))) | (have e1 : flE T (smF s) (smG s) p (syT T 6 (p + 2)).2.2 = (4, p) := (by unfold flE; rw [nwE_4 (by rw [← hI]; assumption) (by omega)]; exact ntE_n (by show ¬ (4 : Nat) = 0; decide)); rw [e1] at k0; exact Ev.ret rfl (k0 (by show ¬ (4 : Nat) = 0; decide) _ a4 (fQ_R (fR_t (fR_t (fR_r h) f1) f4))))
    · refine Ev.sts 1 (c' := (35, [some (.inr (.inr (.inr (11, 0, 83)))), some (.inr (.inl ((lz (whK (T.getD p tk0)))))), none, some (.inl (iZ ((smF s).length))), none], [.inr (.inr (.inr (11, 0, 83))), .inl (iZ (0)), .inl (iZ (2)), .inr (.inr (.inr (11, 0, 83)))], h1)) rfl ?_
      refine Ev.gv (w := (iZ (p + 1))) rfl ((qm_7 q1).trans (congrArg iZ (by omega))) ?_
      refine Ev.sts 1 (c' := (39, [some (.inr (.inr (.inr (11, 0, 83)))), some (.inr (.inl ((lz (whK (T.getD p tk0)))))), none, some (.inl (iZ ((smF s).length))), none], [.inl (iZ (1)), .inl (iZ (p + 1)), .inl (iZ (0)), .inl (iZ (2)), .inr (.inr (.inr (11, 0, 83)))], h1)) rfl ?_
      refine Ev.gv (w := (iZ ((p + 1) - 1))) rfl (iZ_sub _ _) ?_
      refine Ev.callw (a := [.inr (.inr (.inr (11, 0, 83))), .inl (iZ (2)), .inl (iZ (0)), .inl (iZ ((p + 1) - 1))]) rfl (mf_check0 (nn := 2) (yn := p) q1 rfl (by omega) (by omega) (fun z_ => absurd z_ (by decide)) (fun _ g6 a6 f6 => ?_))
      refine Ev.brT (p := (iZ (0)) = (iZ (0))) (c1 := (81, [some (.inr (.inr (.inr (11, 0, 83)))), some (.inr (.inl ((lz (whK (T.getD p tk0)))))), none, some (.inl (iZ ((smF s).length))), none], [], g6)) (c2 := (46, [some (.inr (.inr (.inr (11, 0, 83)))), some (.inr (.inl ((lz (whK (T.getD p tk0)))))), none, some (.inl (iZ ((smF s).length))), none], [], g6)) (by decide) rfl ?_
      refine Ev.sts 1 (c' := (82, [some (.inr (.inr (.inr (11, 0, 83)))), some (.inr (.inl ((lz (whK (T.getD p tk0)))))), none, some (.inl (iZ ((smF s).length))), none], [.inl (iZ (0))], g6)) rfl ?_
      first | (exfalso; omega) | (have e1 : flE T (smF s) (smG s) p (syT T 6 (p + 2)).2.2 = (2, p) := (by unfold flE; rw [nwE_2 ((hI _).mp (by assumption))]; exact ntE_n (by show ¬ (2 : Nat) = 0; decide)); rw [e1] at k0; exact Ev.ret rfl (k0 (by show ¬ (2 : Nat) = 0; decide) _ a6 (fQ_R (fR_t (fR_t (fR_r h) f1) f6)))) | (have e1 : flE T (smF s) (smG s) p (syT T 6 (p + 2)).2.2 = (4, p) := (by unfold flE; rw [nwE_4 (by rw [← hI]; assumption) (by omega)]; exact ntE_n (by show ¬ (4 : Nat) = 0; decide)); rw [e1] at k0; exact Ev.ret rfl (k0 (by show ¬ (4 : Nat) = 0; decide) _ a6 (fQ_R (fR_t (fR_t (fR_r h) f1) f6))))
  · refine Ev.brF (p := ¬ (iZ (0)) = (iZ (0))) (c1 := (9, [some (.inr (.inr (.inr (11, 0, 83)))), none, none, none, none], [], g1)) (c2 := (7, [some (.inr (.inr (.inr (11, 0, 83)))), none, none, none, none], [], g1)) (by decide) rfl ?_
    refine Ev.sts 1 (c' := (8, [some (.inr (.inr (.inr (11, 0, 83)))), none, none, none, none], [.inl (iZ (0))], g1)) rfl ?_
    first | (exfalso; omega) | (have e1 : flE T (smF s) (smG s) p (syT T 6 (p + 2)).2.2 = (2, p) := (by unfold flE; rw [nwE_2 ((hI _).mp (by assumption))]; exact ntE_n (by show ¬ (2 : Nat) = 0; decide)); rw [e1] at k0; exact Ev.ret rfl (k0 (by show ¬ (2 : Nat) = 0; decide) _ a1 (fQ_R (fR_t (fR_r h) f1)))) | (have e1 : flE T (smF s) (smG s) p (syT T 6 (p + 2)).2.2 = (4, p) := (by unfold flE; rw [nwE_4 (by rw [← hI]; assumption) (by omega)]; exact ntE_n (by show ¬ (4 : Nat) = 0; decide)); rw [e1] at k0; exact Ev.ret rfl (k0 (by show ¬ (4 : Nat) = 0; decide) _ a1 (fQ_R (fR_t (fR_r h) f1))))

