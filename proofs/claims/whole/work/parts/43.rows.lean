/-! All geese's windows in one row; the reference's counting on it. -/
def alW (ws : Nat → List Win) : Nat → Nat → List Tel
  | 0, _ => []
  | n + 1, g => (ws g).map (Prod.mk g) ++ alW ws n (g + 1)
def allW (ws : Nat → List Win) : List Tel := alW ws 6 0
def upW (ws : Nat → List Win) (g : Nat) (W : List Win) : Nat → List Win := fun g2 => if g2 = g then W else ws g2
theorem upW_id (ws : Nat → List Win) (g : Nat) : upW ws g (ws g) = ws := by
  funext g2
  unfold upW
  by_cases c : g2 = g
  · rw [if_pos c, c]
  · rw [if_neg c]
theorem alW_len (ws : Nat → List Win) : ∀ (n g : Nat), (alW ws n g).length = lnL ws n g := by
  intro n
  induction n with
  | zero => intro g; rfl
  | succ n ih =>
    intro g
    show ((ws g).map (Prod.mk g) ++ alW ws n (g + 1)).length = (ws g).length + lnL ws n (g + 1)
    rw [List.length_append, List.length_map, ih]
theorem kpM_map (g : Nat) (W : List Win) (m : Int) : kpM (W.map (Prod.mk g)) m = (keepE W m).map (Prod.mk g) := by
  unfold kpM keepE
  rw [List.filter_map]; rfl
theorem gnM_map (g : Nat) (W : List Win) (m : Int) : gnM (W.map (Prod.mk g)) m = (goneE W m).map (Prod.mk g) := by
  unfold gnM goneE
  rw [List.filter_map]; rfl
theorem alW_kp (ws : Nat → List Win) (m : Int) : ∀ (n g : Nat), kpM (alW ws n g) m = alW (fun g => keepE (ws g) m) n g := by
  intro n
  induction n with
  | zero => intro g; rfl
  | succ n ih =>
    intro g
    show kpM ((ws g).map (Prod.mk g) ++ alW ws n (g + 1)) m = (keepE (ws g) m).map (Prod.mk g) ++ alW _ n (g + 1)
    rw [← ih, ← kpM_map]
    exact List.filter_append ..
theorem alW_gn (ws : Nat → List Win) (m : Int) : ∀ (n g : Nat), gnM (alW ws n g) m = gnL ws m n g := by
  intro n
  induction n with
  | zero => intro g; rfl
  | succ n ih =>
    intro g
    show gnM ((ws g).map (Prod.mk g) ++ alW ws n (g + 1)) m = (goneE (ws g) m).map (Prod.mk g) ++ gnL ws m n (g + 1)
    rw [← ih, ← gnM_map]
    exact List.filter_append ..
theorem alW_ext {ws ws' : Nat → List Win} : ∀ (n g : Nat), (∀ k, g ≤ k → k < g + n → ws k = ws' k) → alW ws n g = alW ws' n g := by
  intro n
  induction n with
  | zero => intro g _; rfl
  | succ n ih =>
    intro g h
    show (ws g).map (Prod.mk g) ++ alW ws n (g + 1) = (ws' g).map (Prod.mk g) ++ alW ws' n (g + 1)
    rw [h g (Nat.le_refl _) (by omega), ih (g + 1) (fun k h1 h2 => h k (by omega) (by omega))]
theorem alW_mem {ws : Nat → List Win} : ∀ (n g : Nat) (t : Tel), t ∈ alW ws n g → g ≤ t.1 ∧ t.1 < g + n ∧ t.2 ∈ ws t.1 := by
  intro n
  induction n with
  | zero => intro g t h; exact absurd h (List.not_mem_nil)
  | succ n ih =>
    intro g t h
    rcases List.mem_append.mp h with h | h
    · obtain ⟨w, hw, e⟩ := List.mem_map.mp h
      subst e
      exact ⟨Nat.le_refl _, by show g < g + (n + 1); omega, hw⟩
    · obtain ⟨a, b, c⟩ := ih (g + 1) t h
      exact ⟨by omega, by omega, c⟩
/-- the row around goose g's windows -/
theorem alW_dec (ws : Nat → List Win) (g : Nat) : ∀ (n f : Nat), f ≤ g → g < f + n → ∃ pre post : List Tel, (∀ t ∈ pre, t.1 < g) ∧ (∀ t ∈ post, g < t.1) ∧ ∀ W, alW (upW ws g W) n f = pre ++ (W.map (Prod.mk g) ++ post) := by
  intro n
  induction n with
  | zero => intro f h1 h2; omega
  | succ n ih =>
    intro f h1 h2
    by_cases c : f = g
    · subst c
      refine ⟨[], alW ws n (f + 1), fun t h => absurd h (List.not_mem_nil), fun t h => (alW_mem n (f + 1) t h).1, fun W => ?_⟩
      show (upW ws f W f).map (Prod.mk f) ++ alW (upW ws f W) n (f + 1) = _
      have e : upW ws f W f = W := if_pos rfl
      rw [e, alW_ext (ws := upW ws f W) (ws' := ws) n (f + 1) (fun k h3 _ => if_neg (show ¬ k = f by omega))]; rfl
    · obtain ⟨pre, post, p1, p2, p3⟩ := ih (f + 1) (by omega) (by omega)
      refine ⟨(ws f).map (Prod.mk f) ++ pre, post, fun t h => ?_, p2, fun W => ?_⟩
      · rcases List.mem_append.mp h with h | h
        · obtain ⟨w, _, e⟩ := List.mem_map.mp h
          subst e
          show f < g; omega
        · exact p1 t h
      · show (upW ws g W f).map (Prod.mk f) ++ alW (upW ws g W) n (f + 1) = _
        have e : upW ws g W f = ws f := if_neg c
        rw [e, p3, List.append_assoc]
theorem allW_dec (ws : Nat → List Win) {g : Nat} (hg : g < 6) : ∃ pre post : List Tel, (∀ t ∈ pre, t.1 < g) ∧ (∀ t ∈ post, g < t.1) ∧ ∀ W, allW (upW ws g W) = pre ++ (W.map (Prod.mk g) ++ post) := alW_dec ws g 6 0 (Nat.zero_le _) (by omega)
/-- finding in the row -/
theorem plM_dec {g : Nat} {post : List Tel} (hp : ∀ t ∈ post, g < t.1) (W : List Win) (s : Int) : ∀ (pre : List Tel), (∀ t ∈ pre, t.1 < g) → plM (pre ++ (W.map (Prod.mk g) ++ post)) g s = pre.length + pl W s := by
  have h2 : plM post g s = 0 := by
    match post with
    | [] => rfl
    | t :: P =>
      have := hp t (List.mem_cons_self ..)
      exact if_neg (by omega)
  have h1 : plM (W.map (Prod.mk g) ++ post) g s = pl W s := by
    induction W with
    | nil => exact h2
    | cons w W ih =>
      show (if g < g ∨ (g = g ∧ w.1 < s) then plM (W.map (Prod.mk g) ++ post) g s + 1 else 0) = (if w.1 < s then pl W s + 1 else 0)
      by_cases c : w.1 < s
      · rw [if_pos (Or.inr ⟨rfl, c⟩), if_pos c, ih]
      · rw [if_neg (fun z => z.elim (fun z => absurd z (Nat.lt_irrefl _)) (fun z => c z.2)), if_neg c]
  intro pre
  induction pre with
  | nil => intro _; rw [List.nil_append, List.length_nil, Nat.zero_add]; exact h1
  | cons t pre ih =>
    intro h
    show (if t.1 < g ∨ (t.1 = g ∧ t.2.1 < s) then plM (pre ++ (W.map (Prod.mk g) ++ post)) g s + 1 else 0) = (t :: pre).length + pl W s
    rw [if_pos (Or.inl (h t (List.mem_cons_self ..))), ih (fun x hx => h x (List.mem_cons_of_mem _ hx)), List.length_cons]
    omega
theorem app_getR {α : Type} (d : α) (A B : List α) (k : Nat) : (A ++ B).getD (A.length + k) d = B.getD k d := by
  rw [List.getD_eq_getElem?_getD, List.getElem?_append_right (Nat.le_add_right ..), Nat.add_sub_cancel_left, ← List.getD_eq_getElem?_getD]
theorem app_getL {α : Type} (d : α) (A B : List α) (k : Nat) (h : k < A.length) : (A ++ B).getD k d = A.getD k d := by
  rw [List.getD_eq_getElem?_getD, List.getElem?_append_left h, ← List.getD_eq_getElem?_getD]
theorem map_getD (g : Nat) (W : List Win) (k : Nat) (h : k < W.length) : (W.map (Prod.mk g)).getD k t0 = (g, W.getD k w0) := by
  rw [List.getD_eq_getElem?_getD, List.getElem?_map, List.getD_eq_getElem?_getD, List.getElem?_eq_getElem h]; rfl
/-- what is found in the row is found in goose g's windows -/
theorem fnd_dec {g : Nat} {pre post : List Tel} (h1 : ∀ t ∈ pre, t.1 < g) (h2 : ∀ t ∈ post, g < t.1) (W : List Win) (s : Int) : (plM (pre ++ (W.map (Prod.mk g) ++ post)) g s < (pre ++ (W.map (Prod.mk g) ++ post)).length ∧ ((pre ++ (W.map (Prod.mk g) ++ post)).getD (plM (pre ++ (W.map (Prod.mk g) ++ post)) g s) t0).1 = g ∧ ((pre ++ (W.map (Prod.mk g) ++ post)).getD (plM (pre ++ (W.map (Prod.mk g) ++ post)) g s) t0).2.1 = s) ↔ (pl W s < W.length ∧ (W.getD (pl W s) w0).1 = s) := by
  rw [plM_dec h2 W s pre h1, app_getR]
  have hpl := pl_le W s
  by_cases c : pl W s < W.length
  · rw [app_getL _ _ _ _ (by rw [List.length_map]; exact c), map_getD g W _ c]
    constructor
    · intro z; exact ⟨c, z.2.2⟩
    · intro z; exact ⟨by rw [List.length_append, List.length_append, List.length_map]; omega, rfl, z.2⟩
  · constructor
    · intro z
      exfalso
      have e : pl W s = (W.map (Prod.mk g)).length + 0 := by rw [List.length_map]; omega
      rw [e, app_getR] at z
      obtain ⟨z1, z2, -⟩ := z
      match post, h2, z1, z2 with
      | [], _, z1, _ => rw [List.length_append, List.length_append, List.length_nil] at z1; omega
      | t :: P, h2, _, z2 =>
        have := h2 t (List.mem_cons_self ..)
        have z3 : t.1 = g := z2
        omega
    · intro z; exact absurd z.1 c
theorem ins_dec {g : Nat} (pre post : List Tel) (W : List Win) (x : Win) (p : Nat) (hp : p ≤ W.length) : (pre ++ (W.map (Prod.mk g) ++ post)).take (pre.length + p) ++ (g, x) :: (pre ++ (W.map (Prod.mk g) ++ post)).drop (pre.length + p) = pre ++ ((W.take p ++ x :: W.drop p).map (Prod.mk g) ++ post) := by
  rw [List.take_length_add_append, List.drop_length_add_append, List.take_append_of_le_length (by rw [List.length_map]; exact hp), List.drop_append_of_le_length (by rw [List.length_map]; exact hp), List.map_append, List.map_cons, List.map_take, List.map_drop]
  simp only [List.append_assoc, List.cons_append]
theorem set_dec {g : Nat} (pre post : List Tel) (W : List Win) (x : Win) (p : Nat) (hp : p < W.length) : (pre ++ (W.map (Prod.mk g) ++ post)).set (pre.length + p) (g, x) = pre ++ ((W.set p x).map (Prod.mk g) ++ post) := by
  rw [List.set_append_right _ _ (Nat.le_add_right ..), Nat.add_sub_cancel_left, List.set_append_left _ _ (by rw [List.length_map]; exact hp), List.map_set]
theorem mx_c (a b : Int32) : mx a b = mx b a := by
  unfold mx
  by_cases c : a < b
  · have : ¬ b < a := by rw [Int32.lt_iff_toInt_lt] at c ⊢; omega
    rw [if_pos c, if_neg this]
  · by_cases d : b < a
    · rw [if_neg c, if_pos d]
    · rw [if_neg c, if_neg d]
      apply Int32.toInt_inj.1
      rw [Int32.lt_iff_toInt_lt] at c d; omega
theorem mi_c (a b : Int32) : mi a b = mi b a := by
  unfold mi
  by_cases c : b < a
  · have : ¬ a < b := by rw [Int32.lt_iff_toInt_lt] at c ⊢; omega
    rw [if_pos c, if_neg this]
  · by_cases d : a < b
    · rw [if_neg c, if_pos d]
    · rw [if_neg c, if_neg d]
      apply Int32.toInt_inj.1
      rw [Int32.lt_iff_toInt_lt] at c d; omega
theorem mx_t (a b : Int32) : (mx a b).toInt = max a.toInt b.toInt := by
  unfold mx
  by_cases c : a < b
  · rw [if_pos c]; rw [Int32.lt_iff_toInt_lt] at c; omega
  · rw [if_neg c]; rw [Int32.lt_iff_toInt_lt] at c; omega
theorem mi_t (a b : Int32) : (mi a b).toInt = min a.toInt b.toInt := by
  unfold mi
  by_cases c : b < a
  · rw [if_pos c]; rw [Int32.lt_iff_toInt_lt] at c; omega
  · rw [if_neg c]; rw [Int32.lt_iff_toInt_lt] at c; omega
theorem jn_c (tl : Nat) (a b : Int32) : jn tl a b = jn tl b a := by
  unfold jn
  split
  · exact mx_c a b
  · split
    · exact mi_c a b
    · exact Int32.add_comm a b
theorem jn_rc (tl : Nat) (a b c : Int32) : jn tl (jn tl a b) c = jn tl (jn tl a c) b := by
  unfold jn
  split
  · apply Int32.toInt_inj.1
    rw [mx_t, mx_t, mx_t, mx_t]; omega
  · split
    · apply Int32.toInt_inj.1
      rw [mi_t, mi_t, mi_t, mi_t]; omega
    · rw [Int32.add_assoc, Int32.add_comm b c, ← Int32.add_assoc]
theorem cinM_dec {wd : Int} {tl : Nat} {v : Int32} {g : Nat} {pre post : List Tel} (h1 : ∀ t ∈ pre, t.1 < g) (h2 : ∀ t ∈ post, g < t.1) (W : List Win) (s : Int) : cinM wd tl v g (pre ++ (W.map (Prod.mk g) ++ post)) s = pre ++ ((cin wd tl v W s).map (Prod.mk g) ++ post) := by
  have hf := fnd_dec h1 h2 W s
  by_cases c : pl W s < W.length ∧ (W.getD (pl W s) w0).1 = s
  · rw [cin_p c]
    have e : cinM wd tl v g (pre ++ (W.map (Prod.mk g) ++ post)) s = _ := if_pos (hf.mpr c)
    rw [e, plM_dec h2 W s pre h1, app_getR, app_getL _ _ _ _ (by rw [List.length_map]; exact c.1), map_getD g W _ c.1]
    show (pre ++ (W.map (Prod.mk g) ++ post)).set (pre.length + pl W s) (g, (W.getD (pl W s) w0).1, (W.getD (pl W s) w0).2.1, (W.getD (pl W s) w0).2.2.1 + 1, jn tl v (W.getD (pl W s) w0).2.2.2) = _
    rw [c.2, jn_c tl v]
    exact set_dec pre post W _ _ c.1
  · rw [cin_n c]
    have e : cinM wd tl v g (pre ++ (W.map (Prod.mk g) ++ post)) s = _ := if_neg (fun z => c (hf.mp z))
    rw [e, plM_dec h2 W s pre h1]
    exact ins_dec pre post W (s, s + wd, 1, v) (pl W s) (pl_le W s)
theorem evM_dec {wd st hr wm : Int} {tl : Nat} {v : Int32} {g : Nat} {pre post : List Tel} (h1 : ∀ t ∈ pre, t.1 < g) (h2 : ∀ t ∈ post, g < t.1) : ∀ (n : Nat) (W : List Win) (s : Int), evM wd st hr wm tl v g n (pre ++ (W.map (Prod.mk g) ++ post)) s = pre ++ ((evW wd st hr wm tl v n W s).map (Prod.mk g) ++ post) := by
  intro n
  induction n with
  | zero => intro W s; rfl
  | succ n ih =>
    intro W s
    show (if hr < s then _ else evM wd st hr wm tl v g n (if s + wd ≤ wm then _ else cinM wd tl v g _ s) (s + st)) = pre ++ ((if hr < s then W else evW wd st hr wm tl v n (if s + wd ≤ wm then W else cin wd tl v W s) (s + st)).map (Prod.mk g) ++ post)
    by_cases c : hr < s
    · rw [if_pos c, if_pos c]
    · rw [if_neg c, if_neg c]
      by_cases d : s + wd ≤ wm
      · rw [if_pos d, if_pos d]; exact ih W _
      · rw [if_neg d, if_neg d, cinM_dec h1 h2]; exact ih _ _
/-- with a gap: what stays, and what comes together -/
theorem gmB_f (hr wd : Int) (g : Nat) (M : List Tel) : ∀ (k : Nat) (B : List Tel), k ≤ M.length → gmB hr wd g M k B = (M.take k).filter (fun t => !decide (t.1 = g ∧ t.2.1 < hr + wd ∧ hr < t.2.2.1)) ++ B := by
  intro k
  induction k with
  | zero => intro B _; rw [List.take_zero]; rfl
  | succ k ih =>
    intro B hk
    have e := take_s t0 M [] k (by omega)
    rw [List.append_nil] at e
    rw [e, List.filter_append]
    show (if _ then gmB hr wd g M k B else gmB hr wd g M k (M.getD k t0 :: B)) = _
    by_cases c : (M.getD k t0).1 = g ∧ (M.getD k t0).2.1 < hr + wd ∧ hr < (M.getD k t0).2.2.1
    · rw [if_pos c, ih B (by omega), List.filter_cons_of_neg (fun z => by rw [decide_eq_true c] at z; cases z)]
      simp
    · rw [if_neg c, ih _ (by omega), List.filter_cons_of_pos (by rw [decide_eq_false c]; rfl)]
      simp
def stp (hr wd : Int) (tl g : Nat) (t : Tel) (a : Win) : Win := if t.1 = g ∧ t.2.1 < hr + wd ∧ hr < t.2.2.1 then mrg tl a t.2 else a
theorem gmA_f (hr wd : Int) (tl g : Nat) (M : List Tel) : ∀ (k : Nat) (a : Win), k ≤ M.length → gmA hr wd tl g M k a = (M.take k).foldr (stp hr wd tl g) a := by
  intro k
  induction k with
  | zero => intro a _; rw [List.take_zero]; rfl
  | succ k ih =>
    intro a hk
    have e := take_s t0 M [] k (by omega)
    rw [List.append_nil] at e
    rw [e, List.foldr_append]
    show (if _ then gmA hr wd tl g M k (mrg tl a (M.getD k t0).2) else gmA hr wd tl g M k a) = (M.take k).foldr _ (stp hr wd tl g (M.getD k t0) a)
    unfold stp
    split
    · exact ih _ (by omega)
    · exact ih _ (by omega)
theorem mrg_rc (tl : Nat) (a x y : Win) : mrg tl (mrg tl a x) y = mrg tl (mrg tl a y) x := by
  unfold mrg
  refine Prod.ext ?_ (Prod.ext ?_ (Prod.ext ?_ ?_))
  · show min (min a.1 x.1) y.1 = min (min a.1 y.1) x.1; omega
  · show max (max a.2.1 x.2.1) y.2.1 = max (max a.2.1 y.2.1) x.2.1; omega
  · show a.2.2.1 + x.2.2.1 + y.2.2.1 = a.2.2.1 + y.2.2.1 + x.2.2.1; omega
  · exact jn_rc tl _ _ _
theorem gpf_m {hr wd : Int} {tl : Nat} : ∀ (W : List Win) (a x : Win), gpf hr wd tl W (mrg tl a x) = mrg tl (gpf hr wd tl W a) x := by
  intro W
  induction W with
  | nil => intro a x; rfl
  | cons w W ih =>
    intro a x
    by_cases c : w.1 < hr + wd ∧ hr < w.2.1
    · rw [gpf_y c, gpf_y c]
      show gpf hr wd tl W (mrg tl (mrg tl a x) w) = mrg tl (gpf hr wd tl W (mrg tl a w)) x
      rw [mrg_rc, ih]
    · rw [gpf_n c, gpf_n c, ih]
theorem gpf_r {hr wd : Int} {tl g : Nat} : ∀ (W : List Win) (a : Win), (W.map (Prod.mk g)).foldr (stp hr wd tl g) a = gpf hr wd tl W a := by
  intro W
  induction W with
  | nil => intro a; rfl
  | cons w W ih =>
    intro a
    show stp hr wd tl g (g, w) ((W.map (Prod.mk g)).foldr (stp hr wd tl g) a) = _
    rw [ih]
    unfold stp
    by_cases c : w.1 < hr + wd ∧ hr < w.2.1
    · rw [if_pos ⟨rfl, c⟩, gpf_y c]
      exact (gpf_m W a w).symm
    · rw [if_neg (fun z => c z.2), gpf_n c]
theorem foldr_id {hr wd : Int} {tl g : Nat} : ∀ (L : List Tel) (a : Win), (∀ t ∈ L, t.1 ≠ g) → L.foldr (stp hr wd tl g) a = a := by
  intro L
  induction L with
  | nil => intro a _; rfl
  | cons t L ih =>
    intro a h
    show stp hr wd tl g t (L.foldr (stp hr wd tl g) a) = a
    rw [ih a (fun x hx => h x (List.mem_cons_of_mem _ hx))]
    exact if_neg (fun z => h t (List.mem_cons_self ..) z.1)
theorem filter_id' {hr wd : Int} {g : Nat} : ∀ (L : List Tel), (∀ t ∈ L, t.1 ≠ g) → L.filter (fun t => !decide (t.1 = g ∧ t.2.1 < hr + wd ∧ hr < t.2.2.1)) = L := by
  intro L h
  refine List.filter_eq_self.mpr (fun t ht => ?_)
  simp [h t ht]
theorem filter_map' {hr wd : Int} {g : Nat} (W : List Win) : (W.map (Prod.mk g)).filter (fun t => !decide (t.1 = g ∧ t.2.1 < hr + wd ∧ hr < t.2.2.1)) = (gpk hr wd W).map (Prod.mk g) := by
  unfold gpk
  rw [List.filter_map]
  congr 1
  refine List.filter_congr (fun w _ => ?_)
  show (!decide (g = g ∧ w.1 < hr + wd ∧ hr < w.2.1)) = !(decide (w.1 < hr + wd) && decide (hr < w.2.1))
  rw [← Bool.decide_and]
  congr 1
  exact decide_eq_decide.mpr ⟨fun z => z.2, fun z => ⟨rfl, z⟩⟩
theorem gmB_dec {hr wd : Int} {g : Nat} {pre post : List Tel} (h1 : ∀ t ∈ pre, t.1 < g) (h2 : ∀ t ∈ post, g < t.1) (W : List Win) : gmB hr wd g (pre ++ (W.map (Prod.mk g) ++ post)) (pre ++ (W.map (Prod.mk g) ++ post)).length [] = pre ++ ((gpk hr wd W).map (Prod.mk g) ++ post) := by
  rw [gmB_f _ _ _ _ _ _ (Nat.le_refl _), List.take_length, List.append_nil, List.filter_append, List.filter_append, filter_id' pre (fun t ht => by have := h1 t ht; omega), filter_id' post (fun t ht => by have := h2 t ht; omega), filter_map']
theorem gmA_dec {hr wd : Int} {tl g : Nat} {pre post : List Tel} (h1 : ∀ t ∈ pre, t.1 < g) (h2 : ∀ t ∈ post, g < t.1) (W : List Win) (a : Win) : gmA hr wd tl g (pre ++ (W.map (Prod.mk g) ++ post)) (pre ++ (W.map (Prod.mk g) ++ post)).length a = gpf hr wd tl W a := by
  rw [gmA_f _ _ _ _ _ _ _ (Nat.le_refl _), List.take_length, List.foldr_append, List.foldr_append, foldr_id post a (fun t ht => by have := h2 t ht; omega), gpf_r, foldr_id pre _ (fun t ht => by have := h1 t ht; omega)]
/-- starts are told apart, and lie ahead of ends -/
def unW (W : List Win) : Prop := (W.map (fun w => w.1)).Nodup ∧ ∀ w ∈ W, w.1 < w.2.1
theorem gpf_1 {hr wd : Int} {tl : Nat} : ∀ (W : List Win) (a : Win), (gpf hr wd tl W a).1 = a.1 ∨ ∃ w ∈ W, (w.1 < hr + wd ∧ hr < w.2.1) ∧ (gpf hr wd tl W a).1 = w.1 := by
  intro W
  induction W with
  | nil => intro a; exact Or.inl rfl
  | cons w W ih =>
    intro a
    by_cases c : w.1 < hr + wd ∧ hr < w.2.1
    · rw [gpf_y c]
      rcases ih (min a.1 w.1, max a.2.1 w.2.1, a.2.2.1 + w.2.2.1, jn tl a.2.2.2 w.2.2.2) with e | ⟨x, hx, hc, e⟩
      · rw [e]
        show min a.1 w.1 = a.1 ∨ _
        by_cases d : a.1 ≤ w.1
        · exact Or.inl (by omega)
        · exact Or.inr ⟨w, List.mem_cons_self .., c, by show min a.1 w.1 = w.1; omega⟩
      · exact Or.inr ⟨x, List.mem_cons_of_mem _ hx, hc, e⟩
    · rw [gpf_n c]
      rcases ih a with e | ⟨x, hx, hc, e⟩
      · exact Or.inl e
      · exact Or.inr ⟨x, List.mem_cons_of_mem _ hx, hc, e⟩
theorem nodup_inj {W : List Win} (h : (W.map (fun w => w.1)).Nodup) {x y : Win} (hx : x ∈ W) (hy : y ∈ W) (e : x.1 = y.1) : x = y := by
  induction W with
  | nil => exact absurd hx (List.not_mem_nil)
  | cons w W ih =>
    rw [List.map_cons, List.nodup_cons] at h
    rcases List.mem_cons.mp hx with hx | hx
    · rcases List.mem_cons.mp hy with hy | hy
      · rw [hx, hy]
      · exact absurd (List.mem_map.mpr ⟨y, hy, by rw [← e, hx]⟩) h.1
    · rcases List.mem_cons.mp hy with hy | hy
      · exact absurd (List.mem_map.mpr ⟨x, hx, by rw [e, hy]⟩) h.1
      · exact ih h.2 hx hy
theorem gap_nf {hr wd : Int} {tl : Nat} {v : Int32} {W : List Win} (u : unW W) (hwd : 1 ≤ wd) : ¬ (pl (gpk hr wd W) (gpf hr wd tl W (hr, hr + wd, 1, v)).1 < (gpk hr wd W).length ∧ ((gpk hr wd W).getD (pl (gpk hr wd W) (gpf hr wd tl W (hr, hr + wd, 1, v)).1) w0).1 = (gpf hr wd tl W (hr, hr + wd, 1, v)).1) := by
  intro z
  obtain ⟨z1, z2⟩ := z
  obtain ⟨y, hy⟩ : ∃ y, y = (gpk hr wd W).getD (pl (gpk hr wd W) (gpf hr wd tl W (hr, hr + wd, 1, v)).1) w0 := ⟨_, rfl⟩
  rw [← hy] at z2
  have hm : y ∈ gpk hr wd W := by
    rw [hy, List.getD_eq_getElem?_getD, List.getElem?_eq_getElem z1]
    exact List.getElem_mem z1
  obtain ⟨m1, m2⟩ := List.mem_filter.mp hm
  have m3 : ¬ (y.1 < hr + wd ∧ hr < y.2.1) := by
    intro c
    rw [decide_eq_true c.1, decide_eq_true c.2] at m2
    cases m2
  rcases gpf_1 W (hr, hr + wd, 1, v) (tl := tl) (hr := hr) (wd := wd) with e | ⟨x, hx, hc, e⟩
  · rw [e] at z2
    replace z2 : y.1 = hr := z2
    have := u.2 y m1
    omega
  · rw [e] at z2
    have := nodup_inj u.1 m1 hx z2
    rw [this] at m3
    exact m3 hc
/-- the reference's way with all windows is the class's way with each goose's -/
theorem cnt_all {ws : Nat → List Win} {g : Nat} {G : Gs} {hr wm : Int} {v : Int32} (hg : g < 6) (u : unW (ws g)) (hh : 0 ≤ hr ∧ hr < 1000) (g4 : 1 ≤ G.2.1 ∧ G.2.1 ≤ 200) (g5 : 0 ≤ G.2.2.1 ∧ G.2.2.1 ≤ G.2.1) (h7 : G.2.2.1 = 0 ∨ G.2.1 < 7 * G.2.2.1) : cntM G hr wm v g (allW ws) = allW (upW ws g (if G.2.2.1 = 0 then cgap hr G.2.1 G.2.2.2.1 v (ws g) else cev G.2.1 G.2.2.1 hr wm G.2.2.2.1 v 7 (ws g) (hr - hr % G.2.2.1))) ∧ (G.2.2.1 = 0 → fndM (gmB hr G.2.1 g (allW ws) (allW ws).length []) g (gmA hr G.2.1 G.2.2.2.1 g (allW ws) (allW ws).length (hr, hr + G.2.1, 1, v)).1 = -(plM (gmB hr G.2.1 g (allW ws) (allW ws).length []) g (gmA hr G.2.1 G.2.2.2.1 g (allW ws) (allW ws).length (hr, hr + G.2.1, 1, v)).1 : Int) - 1) := by
  obtain ⟨pre, post, h1, h2, hd⟩ := allW_dec ws hg
  have e0 : allW ws = pre ++ ((ws g).map (Prod.mk g) ++ post) := by
    rw [← hd, upW_id]
  rw [hd, e0]
  constructor
  · unfold cntM
    by_cases c : G.2.2.1 = 0
    · rw [if_pos c, if_pos c]
      unfold gapM
      rw [gmB_dec h1 h2, gmA_dec h1 h2, plM_dec h2 _ _ pre h1]
      exact ins_dec pre post (gpk hr G.2.1 (ws g)) _ _ (pl_le _ _)
    · rw [if_neg c, if_neg c, evM_dec h1 h2, ev_ce rfl rfl hh g4 (by omega) (by omega)]
  · intro c
    rw [gmB_dec h1 h2, gmA_dec h1 h2]
    refine if_neg (fun z => ?_)
    exact gap_nf u g4.1 ((fnd_dec h1 h2 _ _).mp z)
