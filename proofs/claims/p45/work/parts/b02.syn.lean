/-! What tokens are as values and tests: what reading makes of them, what the commands put. -/
def sg0 : Sg := (0, 0, 0)
def segT (T : List Tok) (p : Nat) (kk : List Sg) : Prop := ∀ i, i < kk.length → pj (T.getD (p + i) tk0) = kk.getD i sg0
theorem segT_app {T : List Tok} {p : Nat} {a b : List Sg} (h : segT T p (a ++ b)) : segT T p a ∧ segT T (p + a.length) b := by
  constructor
  · intro i hi
    rw [h i (by rw [List.length_append]; omega), List.getD_eq_getElem?_getD, List.getD_eq_getElem?_getD, List.getElem?_append_left hi]
  · intro i hi
    have := h (a.length + i) (by rw [List.length_append]; omega)
    rw [← Nat.add_assoc] at this
    rw [this, List.getD_eq_getElem?_getD, List.getD_eq_getElem?_getD, List.getElem?_append_right (by omega), Nat.add_sub_cancel_left]
theorem segT_1 {T : List Tok} {p : Nat} {g : Sg} {l : List Sg} (h : segT T p (g :: l)) : tK T p = g.1 ∧ tN T p = g.2.1 ∧ tW T p = g.2.2 ∧ segT T (p + 1) l := by
  have e := h 0 (Nat.succ_pos _)
  rw [Nat.add_zero] at e
  replace e : pj (T.getD p tk0) = g := e
  refine ⟨congrArg (fun z : Sg => z.1) e, congrArg (fun z : Sg => z.2.1) e, congrArg (fun z : Sg => z.2.2) e, fun i hi => ?_⟩
  have := h (i + 1) (Nat.succ_lt_succ hi)
  rw [show p + (i + 1) = p + 1 + i by omega] at this
  exact this
theorem segT_le {T : List Tok} {p : Nat} {kk : List Sg} (h : segT T p kk) (h0 : ∀ g ∈ kk, g.1 ≠ 0) (hne : kk ≠ []) : tK T p ≠ 0 := by
  cases kk with
  | nil => exact absurd rfl hne
  | cons g l => rw [(segT_1 h).1]; exact h0 g List.mem_cons_self
def subV (T : List Tok) : Nat → Nat → Rz
  | 0 => nul
  | n + 1 => syV T n
theorem syV_e (T : List Tok) (m : Nat) : syV T m = vlS T m (subV T m) := by cases m <;> rfl
def subT (T : List Tok) : Nat → Nat → Rz
  | 0 => nul
  | n + 1 => syT T n
theorem syT_e (T : List Tok) (m : Nat) : syT T m = tsS T m (subT T m) (syV T m) := by cases m <;> rfl
theorem sq_1 {T : List Tok} {sep : Nat → Bool} {item : Nat → Rz} {p q : Nat} {c : List Cmd} (h : item p = (true, q, c)) (s : sep (tK T q) = false) : sqS T sep item p = (true, q, c) := by
  unfold sqS
  rw [bnd_t (by rw [h]), h]
  show ((lpS T sep item 400 q).1, (lpS T sep item 400 q).2.1, c ++ (lpS T sep item 400 q).2.2) = _
  rw [lp_f (by rw [s]; decide), List.append_nil]
theorem sq_2 {T : List Tok} {sep : Nat → Bool} {item : Nat → Rz} {p q q2 : Nat} {c1 c2 : List Cmd} (h1 : item p = (true, q, c1)) (s1 : sep (tK T q) = true) (h2 : item (q + 1) = (true, q2, c2)) (s2 : sep (tK T q2) = false) : sqS T sep item p = (true, q2, c1 ++ (c2 ++ [(tK T q, (0 : Int))])) := by
  unfold sqS
  rw [bnd_t (by rw [h1]), h1]
  show ((lpS T sep item 400 q).1, (lpS T sep item 400 q).2.1, c1 ++ (lpS T sep item 400 q).2.2) = _
  rw [lp_t s1, bnd_t (by rw [h2]), h2]
  show ((lpS T sep item 399 q2).1, (lpS T sep item 399 q2).2.1, c1 ++ (c2 ++ (tK T q, (0 : Int)) :: (lpS T sep item 399 q2).2.2)) = _
  rw [lp_f (by rw [s2]; decide)]
/-- the first token of a value, of a test -/
def hdV (kk : List Sg) : Prop := ∃ g l, kk = g :: l ∧ (g.1 = 26 ∨ opd g.1 = true)
def hdT (kk : List Sg) : Prop := ∃ g l, kk = g :: l ∧ (g.1 = 26 ∨ opd g.1 = true ∨ g.1 = 7 ∨ g.1 = 28)
def n7 (c : List Cmd) : Prop := ∀ x ∈ c, x.1 ≠ 7
theorem n7_app {a b : List Cmd} (x : n7 a) (y : n7 b) : n7 (a ++ b) := fun z hz => (List.mem_append.mp hz).elim (x z) (y z)
theorem n7_1 {k : Nat} {i : Int} (h : k ≠ 7) : n7 [(k, i)] := fun z hz => by rw [List.mem_singleton.mp hz]; exact h
theorem n7_rsl {T : List Tok} {F : List Int} : ∀ {c : List Cmd}, n7 c → c.map (rsl T F) = c ∧ fb T F c = (0, 0) := by
  intro c
  induction c with
  | nil => intro _; exact ⟨rfl, rfl⟩
  | cons x c ih =>
    intro h
    have hx := h x List.mem_cons_self
    obtain ⟨i1, i2⟩ := ih (fun z hz => h z (List.mem_cons_of_mem _ hz))
    exact ⟨by rw [List.map_cons, i1, rsl_n7 hx], by rw [fb_n7 hx, i2]⟩
/-- the token after is none of a value's signs -/
def flV (T : List Tok) (q : Nat) : Prop := spM (tK T q) = false ∧ spP (tK T q) = false
def APk (m : Nat) (kk : List Sg) (c : List Cmd) : Prop := hdV kk ∧ n7 c ∧ ∀ T p, segT T p kk → atm T m (subV T m) p = (true, p + kk.length, c)
def PPk (m : Nat) (kk : List Sg) (c : List Cmd) : Prop := hdV kk ∧ n7 c ∧ ∀ T p, segT T p kk → spM (tK T (p + kk.length)) = false → prS T m (subV T m) p = (true, p + kk.length, c)
def VPk (m : Nat) (kk : List Sg) (c : List Cmd) : Prop := hdV kk ∧ n7 c ∧ ∀ T p, segT T p kk → flV T (p + kk.length) → syV T m p = (true, p + kk.length, c)
theorem opd_26 {k : Nat} (h : opd k = true) : k ≠ 26 := by have := opd_t.mp h; omega
theorem AP_opd {m : Nat} {g : Sg} (h : opd g.1 = true) : APk m [g] [(g.1, g.2.1)] := by
  refine ⟨⟨g, [], rfl, .inr h⟩, n7_1 (by have := opd_t.mp h; omega), fun T p s => ?_⟩
  obtain ⟨s1, s2, -, -⟩ := segT_1 s
  unfold atm
  rw [if_neg (by rw [s1]; exact opd_26 h), if_pos (by rw [s1]; exact h), s1, s2]
  rfl
theorem AP_par {m : Nat} {kk : List Sg} {c : List Cmd} (h : VPk m kk c) : APk (m + 1) ((26, 0, 0) :: (kk ++ [(27, 0, 0)])) c := by
  obtain ⟨h1, h2, h3⟩ := h
  refine ⟨⟨_, _, rfl, .inl rfl⟩, h2, fun T p s => ?_⟩
  obtain ⟨s1, -, -, s2⟩ := segT_1 s
  obtain ⟨s3, s4⟩ := segT_app s2
  obtain ⟨s5, -, -, -⟩ := segT_1 s4
  replace s1 : tK T p = 26 := s1
  replace s5 : tK T (p + 1 + kk.length) = 27 := s5
  unfold atm
  rw [if_pos s1, if_neg (Nat.succ_ne_zero m)]
  have e := h3 T (p + 1) s3 ⟨by rw [s5]; rfl, by rw [s5]; rfl⟩
  show bnd (syV T m (p + 1)) (tkn T 27) = _
  rw [bnd_t (by rw [e]), e]
  show ((tkn T 27 (p + 1 + kk.length)).1, (tkn T 27 (p + 1 + kk.length)).2.1, c ++ (tkn T 27 (p + 1 + kk.length)).2.2) = _
  rw [tkn_t s5, List.append_nil, List.length_cons, List.length_append]
  show (true, p + 1 + kk.length + 1, c) = (true, p + (kk.length + 1 + 1), c)
  rw [show p + 1 + kk.length + 1 = p + (kk.length + 1 + 1) by omega]
theorem hdV_app {a : List Sg} (h : hdV a) (b : List Sg) : hdV (a ++ b) := by
  obtain ⟨g, l, rfl, h⟩ := h
  exact ⟨g, l ++ b, rfl, h⟩
theorem PP_1 {m : Nat} {kk : List Sg} {c : List Cmd} (h : APk m kk c) : PPk m kk c := ⟨h.1, h.2.1, fun T p s f => sq_1 (h.2.2 T p s) f⟩
theorem VP_1 {m : Nat} {kk : List Sg} {c : List Cmd} (h : PPk m kk c) : VPk m kk c := ⟨h.1, h.2.1, fun T p s f => by rw [syV_e]; exact sq_1 (h.2.2 T p s f.1) f.2⟩
theorem len3 {a b : List Sg} {g : Sg} {p : Nat} : p + a.length + 1 + b.length = p + (a ++ g :: b).length := by rw [List.length_append, List.length_cons]; omega
theorem PP_2 {m : Nat} {k1 k2 : List Sg} {c1 c2 : List Cmd} (h : APk m k1 c1) (g : APk m k2 c2) : PPk m (k1 ++ (37, 0, 0) :: k2) (c1 ++ (c2 ++ [(37, (0 : Int))])) := by
  refine ⟨hdV_app h.1 _, n7_app h.2.1 (n7_app g.2.1 (n7_1 (by decide))), fun T p s f => ?_⟩
  obtain ⟨s1, s2⟩ := segT_app s
  obtain ⟨s3, -, -, s4⟩ := segT_1 s2
  replace s3 : tK T (p + k1.length) = 37 := s3
  have e := sq_2 (T := T) (sep := spM) (h.2.2 T p s1) (by rw [s3]; rfl) (g.2.2 T _ s4) (by rw [len3 (g := (37, 0, 0))]; exact f)
  rw [s3, len3 (g := (37, 0, 0))] at e
  exact e
theorem VP_2 {m s : Nat} {k1 k2 : List Sg} {c1 c2 : List Cmd} (hs : s = 35 ∨ s = 36) (h : PPk m k1 c1) (g : PPk m k2 c2) : VPk m (k1 ++ (s, 0, 0) :: k2) (c1 ++ (c2 ++ [(s, (0 : Int))])) := by
  refine ⟨hdV_app h.1 _, n7_app h.2.1 (n7_app g.2.1 (n7_1 (by omega))), fun T p s f => ?_⟩
  obtain ⟨s1, s2⟩ := segT_app s
  obtain ⟨s3, -, -, s4⟩ := segT_1 s2
  rename_i y
  replace s3 : tK T (p + k1.length) = y := s3
  rw [syV_e]
  rw [← len3] at f
  have e := sq_2 (T := T) (sep := spP) (h.2.2 T p s1 (by rw [s3]; rcases hs with rfl | rfl <;> rfl)) (by rw [s3]; rcases hs with rfl | rfl <;> rfl) (g.2.2 T _ s4 f.1) f.2
  rw [s3, len3 (g := (y, 0, 0))] at e
  exact e
/-! tests; names of flocks F -/
def flS (T : List Tok) (q : Nat) : Prop := flV T q
def KPk (F : List Int) (m : Nat) (kk : List Sg) (c : List Cmd) : Prop := hdT kk ∧ ∀ T p, segT T p kk → flV T (p + kk.length) → ∃ raw, kpS T m (subT T m) (syV T m) p = (true, p + kk.length, raw) ∧ raw.map (rsl T F) = c ∧ fb T F raw = (0, 0)
def SPk (F : List Int) (m : Nat) (kk : List Sg) (c : List Cmd) : Prop := kk ≠ [] ∧ ∀ T p, segT T p kk → flV T (p + kk.length) → ∃ raw, sgS T m (subT T m) (syV T m) p = (true, p + kk.length, raw) ∧ raw.map (rsl T F) = c ∧ fb T F raw = (0, 0)
def BPk (F : List Int) (m : Nat) (kk : List Sg) (c : List Cmd) : Prop := kk ≠ [] ∧ ∀ T p, segT T p kk → flV T (p + kk.length) → spA (tK T (p + kk.length)) = false → ∃ raw, btS T m (subT T m) (syV T m) p = (true, p + kk.length, raw) ∧ raw.map (rsl T F) = c ∧ fb T F raw = (0, 0)
def TPk (F : List Int) (m : Nat) (kk : List Sg) (c : List Cmd) : Prop := kk ≠ [] ∧ ∀ T p, segT T p kk → flV T (p + kk.length) → spA (tK T (p + kk.length)) = false → spO (tK T (p + kk.length)) = false → ∃ raw, syT T m p = (true, p + kk.length, raw) ∧ raw.map (rsl T F) = c ∧ fb T F raw = (0, 0)
theorem KP_in {F : List Int} {m i : Nat} {w : Int} (h : lk F w = (i : Int)) : KPk F m [(7, 0, 0), (2, 0, w)] [(7, (i : Int))] := by
  refine ⟨⟨_, _, rfl, .inr (.inr (.inl rfl))⟩, fun T p s _ => ?_⟩
  obtain ⟨s1, -, -, s2⟩ := segT_1 s
  obtain ⟨s3, -, s5, -⟩ := segT_1 s2
  replace s1 : tK T p = 7 := s1
  replace s3 : tK T (p + 1) = 2 := s3
  replace s5 : tW T (p + 1) = w := s5
  refine ⟨[(7, ((p + 1 : Nat) : Int))], ?_, ?_, ?_⟩
  · unfold kpS
    rw [if_neg (by rw [s1]; decide), if_pos s1, if_pos s3]
    rfl
  · show [rsl T F (7, ((p + 1 : Nat) : Int))] = _
    unfold rsl
    rw [if_pos rfl]
    show [(7, lk F (tW T (((p + 1 : Nat) : Int)).toNat))] = _
    rw [Int.toNat_natCast, s5, h]
  · show (if _ then _ else _) = _
    rw [if_neg]
    · rfl
    · intro z
      have z2 := z.2
      replace z2 : lk F (tW T (((p + 1 : Nat) : Int)).toNat) < 0 := z2
      rw [Int.toNat_natCast, s5, h] at z2
      omega
theorem KP_cmp {F : List Int} {m s : Nat} {k1 k2 : List Sg} {c1 c2 : List Cmd} (hs : s = 32 ∨ s = 33 ∨ s = 34) (h : VPk m k1 c1) (g : VPk m k2 c2) : KPk F m (k1 ++ (s, 0, 0) :: k2) (c1 ++ (c2 ++ [(s, (0 : Int))])) := by
  obtain ⟨g0, l0, e0, q0⟩ := h.1
  refine ⟨⟨g0, l0 ++ (s, 0, 0) :: k2, by rw [e0]; rfl, q0.elim .inl (fun z => .inr (.inl z))⟩, fun T p sg f => ?_⟩
  obtain ⟨s1, s2⟩ := segT_app sg
  obtain ⟨s3, -, -, s4⟩ := segT_1 s2
  replace s3 : tK T (p + k1.length) = s := s3
  have a0 : tK T p = g0.1 := by rw [e0] at s1; exact (segT_1 s1).1
  rw [← len3] at f
  have x1 := h.2.2 T p s1 ⟨by rw [s3]; rcases hs with rfl | rfl | rfl <;> rfl, by rw [s3]; rcases hs with rfl | rfl | rfl <;> rfl⟩
  have x2 := g.2.2 T _ s4 f
  have n : n7 (c1 ++ (c2 ++ [(s, (0 : Int))])) := n7_app h.2.1 (n7_app g.2.1 (n7_1 (by omega)))
  refine ⟨_, ?_, (n7_rsl n).1, (n7_rsl n).2⟩
  unfold kpS
  rw [if_neg (by rw [a0]; rcases q0 with q | q; · omega
                 · have := opd_t.mp q; omega), if_neg (by rw [a0]; rcases q0 with q | q; · omega
                                                          · have := opd_t.mp q; omega)]
  rw [bnd_t (by rw [x1]), x1]
  dsimp only
  rw [if_pos (by rw [s3]; rcases hs with rfl | rfl | rfl <;> rfl), bnd_t (by rw [x2]), x2]
  dsimp only
  rw [s3, len3 (g := (s, 0, 0))]
theorem KP_br {F : List Int} {m : Nat} {kk : List Sg} {c : List Cmd} (h : TPk F m kk c) : KPk F (m + 1) ((28, 0, 0) :: (kk ++ [(29, 0, 0)])) c := by
  refine ⟨⟨_, _, rfl, .inr (.inr (.inr rfl))⟩, fun T p s _ => ?_⟩
  obtain ⟨s1, -, -, s2⟩ := segT_1 s
  obtain ⟨s3, s4⟩ := segT_app s2
  obtain ⟨s5, -, -, -⟩ := segT_1 s4
  replace s1 : tK T p = 28 := s1
  replace s5 : tK T (p + 1 + kk.length) = 29 := s5
  obtain ⟨raw, e, r1, r2⟩ := h.2 T (p + 1) s3 ⟨by rw [s5]; rfl, by rw [s5]; rfl⟩ (by rw [s5]; rfl) (by rw [s5]; rfl)
  refine ⟨raw, ?_, r1, r2⟩
  unfold kpS
  rw [if_pos s1, if_neg (Nat.succ_ne_zero m)]
  show bnd (syT T m (p + 1)) (tkn T 29) = _
  rw [bnd_t (by rw [e]), e]
  show ((tkn T 29 (p + 1 + kk.length)).1, (tkn T 29 (p + 1 + kk.length)).2.1, raw ++ (tkn T 29 (p + 1 + kk.length)).2.2) = _
  rw [tkn_t s5, List.append_nil, List.length_cons, List.length_append]
  show (true, p + 1 + kk.length + 1, raw) = (true, p + (kk.length + 1 + 1), raw)
  rw [show p + 1 + kk.length + 1 = p + (kk.length + 1 + 1) by omega]
theorem nts_0 {T : List Tok} {n p : Nat} {b : Bool} (h : tK T p ≠ 8) : nts T (n + 1) p b = (p, b) := if_neg h
theorem nts_1 {T : List Tok} {n p : Nat} {b : Bool} (h : tK T p = 8) : nts T (n + 1) p b = nts T n (p + 1) (!b) := if_pos h
theorem hdT_8 {T : List Tok} {p : Nat} {kk : List Sg} (h : hdT kk) (s : segT T p kk) : tK T p ≠ 8 := by
  obtain ⟨g, l, rfl, q⟩ := h
  rw [(segT_1 s).1]
  rcases q with q | q | q | q
  · omega
  · have := opd_t.mp q; omega
  · omega
  · omega
/-- no, one or two nots -/
theorem SP_0 {F : List Int} {m : Nat} {kk : List Sg} {c : List Cmd} (h : KPk F m kk c) : SPk F m kk c := by
  refine ⟨by obtain ⟨g, l, rfl, -⟩ := h.1; exact List.cons_ne_nil _ _, fun T p s f => ?_⟩
  obtain ⟨raw, e, r1, r2⟩ := h.2 T p s f
  refine ⟨raw, ?_, r1, r2⟩
  unfold sgS
  rw [nts_0 (hdT_8 h.1 s), bnd_t (by rw [e]), e]
  show (true, p + kk.length, raw ++ (if false = true then [((8 : Nat), (0 : Int))] else [])) = _
  rw [if_neg (by decide), List.append_nil]
theorem SP_1 {F : List Int} {m : Nat} {kk : List Sg} {c : List Cmd} (h : KPk F m kk c) : SPk F m ((8, 0, 0) :: kk) (c ++ [(8, (0 : Int))]) := by
  refine ⟨List.cons_ne_nil _ _, fun T p s f => ?_⟩
  obtain ⟨s1, -, -, s2⟩ := segT_1 s
  have le : p + ((8, 0, 0) :: kk : List Sg).length = p + 1 + kk.length := by rw [List.length_cons]; omega
  rw [le] at f ⊢
  obtain ⟨raw, e, r1, r2⟩ := h.2 T (p + 1) s2 f
  refine ⟨raw ++ [(8, 0)], ?_, ?_, ?_⟩
  · unfold sgS
    rw [nts_1 s1, nts_0 (hdT_8 h.1 s2), bnd_t (by rw [e]), e]
    rfl
  · rw [List.map_append, r1]; rfl
  · rw [fb_app, r2]; rfl
theorem SP_2 {F : List Int} {m : Nat} {kk : List Sg} {c : List Cmd} (h : KPk F m kk c) : SPk F m ((8, 0, 0) :: (8, 0, 0) :: kk) c := by
  refine ⟨List.cons_ne_nil _ _, fun T p s f => ?_⟩
  obtain ⟨s1, -, -, s2⟩ := segT_1 s
  obtain ⟨s3, -, -, s4⟩ := segT_1 s2
  have le : p + ((8, 0, 0) :: (8, 0, 0) :: kk : List Sg).length = p + 1 + 1 + kk.length := by rw [List.length_cons, List.length_cons]; omega
  rw [le] at f ⊢
  obtain ⟨raw, e, r1, r2⟩ := h.2 T (p + 1 + 1) s4 f
  refine ⟨raw, ?_, r1, r2⟩
  unfold sgS
  rw [nts_1 s1, nts_1 s3, nts_0 (hdT_8 h.1 s4), bnd_t (by rw [e]), e]
  show (true, p + 1 + 1 + kk.length, raw ++ (if false = true then [((8 : Nat), (0 : Int))] else [])) = _
  rw [if_neg (by decide), List.append_nil]
theorem BP_1 {F : List Int} {m : Nat} {kk : List Sg} {c : List Cmd} (h : SPk F m kk c) : BPk F m kk c := ⟨h.1, fun T p s f a => by
  obtain ⟨raw, e, r⟩ := h.2 T p s f
  exact ⟨raw, sq_1 e a, r⟩⟩
theorem TP_1 {F : List Int} {m : Nat} {kk : List Sg} {c : List Cmd} (h : BPk F m kk c) : TPk F m kk c := ⟨h.1, fun T p s f a b => by
  obtain ⟨raw, e, r⟩ := h.2 T p s f a
  exact ⟨raw, by rw [syT_e]; exact sq_1 e b, r⟩⟩
theorem mp_2 {T : List Tok} {F : List Int} {k : Nat} {r1 r2 c1 c2 : List Cmd} (hk : k ≠ 7) (a1 : r1.map (rsl T F) = c1) (b1 : fb T F r1 = (0, 0)) (a2 : r2.map (rsl T F) = c2) (b2 : fb T F r2 = (0, 0)) : (r1 ++ (r2 ++ [(k, (0 : Int))])).map (rsl T F) = c1 ++ (c2 ++ [(k, (0 : Int))]) ∧ fb T F (r1 ++ (r2 ++ [(k, (0 : Int))])) = (0, 0) := by
  have n := n7_rsl (T := T) (F := F) (n7_1 (i := 0) hk)
  exact ⟨by rw [List.map_append, List.map_append, a1, a2, n.1], by rw [fb_app, fb_app, b1, b2, n.2]; rfl⟩
theorem BP_2 {F : List Int} {m : Nat} {k1 k2 : List Sg} {c1 c2 : List Cmd} (h : SPk F m k1 c1) (g : SPk F m k2 c2) : BPk F m (k1 ++ (9, 0, 0) :: k2) (c1 ++ (c2 ++ [(9, (0 : Int))])) := by
  refine ⟨(fun z => by have := congrArg List.length z; rw [List.length_append, List.length_cons] at this; cases this), fun T p s f a => ?_⟩
  obtain ⟨s1, s2⟩ := segT_app s
  obtain ⟨s3, -, -, s4⟩ := segT_1 s2
  replace s3 : tK T (p + k1.length) = 9 := s3
  rw [← len3] at f a ⊢
  obtain ⟨r1, e1, a1, b1⟩ := h.2 T p s1 ⟨by rw [s3]; rfl, by rw [s3]; rfl⟩
  obtain ⟨r2, e2, a2, b2⟩ := g.2 T _ s4 f
  have e := sq_2 (T := T) (sep := spA) e1 (by rw [s3]; rfl) e2 a
  rw [s3] at e
  obtain ⟨u, v⟩ := mp_2 (k := 9) (by decide) a1 b1 a2 b2
  exact ⟨_, e, u, v⟩
theorem TP_2 {F : List Int} {m : Nat} {k1 k2 : List Sg} {c1 c2 : List Cmd} (h : BPk F m k1 c1) (g : BPk F m k2 c2) : TPk F m (k1 ++ (10, 0, 0) :: k2) (c1 ++ (c2 ++ [(10, (0 : Int))])) := by
  refine ⟨(fun z => by have := congrArg List.length z; rw [List.length_append, List.length_cons] at this; cases this), fun T p s f a b => ?_⟩
  obtain ⟨s1, s2⟩ := segT_app s
  obtain ⟨s3, -, -, s4⟩ := segT_1 s2
  replace s3 : tK T (p + k1.length) = 10 := s3
  rw [← len3] at f a b ⊢
  obtain ⟨r1, e1, a1, b1⟩ := h.2 T p s1 ⟨by rw [s3]; rfl, by rw [s3]; rfl⟩ (by rw [s3]; rfl)
  obtain ⟨r2, e2, a2, b2⟩ := g.2 T _ s4 f a
  have e := sq_2 (T := T) (sep := spO) e1 (by rw [s3]; rfl) e2 b
  rw [s3] at e
  obtain ⟨u, v⟩ := mp_2 (k := 10) (by decide) a1 b1 a2 b2
  exact ⟨_, by rw [syT_e]; exact e, u, v⟩
/-! what commands put -/
def EVk (c : List Cmd) (f : Ctx → Int32 → Int32) (K : Nat) : Prop := ∀ (x : Ctx) (tk : Int32) (s : List Int32), s.length + K ≤ 32 → evs c x tk s (f x tk :: s)
def b01 (f : Ctx → Int32 → Int32) : Prop := ∀ x tk, f x tk = iZ 0 ∨ f x tk = iZ 1
theorem EV_up {c : List Cmd} {f : Ctx → Int32 → Int32} {K M : Nat} (h : EVk c f K) (l : K ≤ M) : EVk c f M := fun x tk s hs => h x tk s (by omega)
theorem EV_1 {c : Cmd} (h : kPu c.1) : EVk [c] (psh c) 1 := fun x tk s hs => ⟨_, .inl ⟨h, by omega, rfl⟩, rfl⟩
theorem EV_2 {c1 c2 : List Cmd} {f g : Ctx → Int32 → Int32} {K k : Nat} (hk : kJ k) (h1 : EVk c1 f K) (h2 : EVk c2 g K) : EVk (c1 ++ (c2 ++ [(k, (0 : Int))])) (fun x t => opj k (f x t) (g x t)) (K + 1) := fun x tk s hs =>
  ev_join (c := (k, 0)) (h1 x tk s (by omega)) (h2 x tk (f x tk :: s) (by rw [List.length_cons]; omega)) hk
theorem EV_not {c : List Cmd} {f : Ctx → Int32 → Int32} {K : Nat} (h : EVk c f K) : EVk (c ++ [(8, (0 : Int))]) (fun x t => iZ 1 - f x t) K := fun x tk s hs =>
  evs_app _ _ c _ _ (h x tk s hs) ⟨_, .inr (.inl ⟨rfl, f x tk, s, rfl, rfl⟩), rfl⟩
theorem b01_cmp {k : Nat} (h : k = 32 ∨ k = 33 ∨ k = 34) (f g : Ctx → Int32 → Int32) : b01 (fun x t => opj k (f x t) (g x t)) := fun _ _ => opj_01 h _ _
theorem b01_lg {k : Nat} (h : k = 9 ∨ k = 10) {f g : Ctx → Int32 → Int32} (a : b01 f) (b : b01 g) : b01 (fun x t => opj k (f x t) (g x t)) := fun x t => opj_lg h (a x t) (b x t)
theorem b01_not {f : Ctx → Int32 → Int32} (a : b01 f) : b01 (fun x t => iZ 1 - f x t) := fun x t => by
  rcases a x t with e | e
  · right; show iZ 1 - f x t = _; rw [e]; decide
  · left; show iZ 1 - f x t = _; rw [e]; decide
theorem b01_in (i : Int) : b01 (psh (7, i)) := fun _ t => bitv_01 t _
