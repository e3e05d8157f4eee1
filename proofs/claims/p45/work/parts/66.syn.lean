/-! The book's grammar over tokens: what each place reads, how far, and what it puts. -/
abbrev Rz : Type := Bool × Nat × List Cmd
def tK (T : List Tok) (p : Nat) : Nat := (T.getD p tk0).1
def tS (T : List Tok) (p : Nat) : Int := (T.getD p tk0).2.1
def tN (T : List Tok) (p : Nat) : Int := (T.getD p tk0).2.2.1
def tW (T : List Tok) (p : Nat) : Int := (T.getD p tk0).2.2.2
theorem tK_in {T : List Tok} (w : tkW T) {p : Nat} (h : 2 ≤ tK T p) : p + 1 < T.length := by
  by_cases c : p < T.length
  · by_cases e : p = T.length - 1
    · have := w.2.2.2.2
      rw [← e] at this
      unfold tK at h
      omega
    · omega
  · unfold tK at h
    rw [List.getD_eq_getElem?_getD, List.getElem?_eq_none (by omega)] at h
    exact absurd h (by decide)
theorem tBk {T : List Tok} (w : tkW T) (p : Nat) : tkB (T.getD p tk0) := by
  by_cases c : p < T.length
  · exact w.2.2.1 p c
  · rw [List.getD_eq_getElem?_getD, List.getElem?_eq_none (by omega)]
    exact ⟨by decide, by decide, by decide, by decide, by decide, fun _ => rfl, by decide, by decide, fun z => absurd z (by decide), fun _ => rfl⟩
theorem tN_b {T : List Tok} (w : tkW T) (p : Nat) : 0 ≤ tN T p ∧ tN T p ≤ 9999 := ⟨(tBk w p).2.2.2.1, (tBk w p).2.2.2.2.1⟩
theorem tK_b {T : List Tok} (w : tkW T) (p : Nat) : tK T p ≤ 37 := (tBk w p).1
def bnd (r : Rz) (g : Nat → Rz) : Rz := if r.1 = true then ((g r.2.1).1, (g r.2.1).2.1, r.2.2 ++ (g r.2.1).2.2) else (false, r.2.1, [])
theorem bnd_t {r : Rz} {g : Nat → Rz} (h : r.1 = true) : bnd r g = ((g r.2.1).1, (g r.2.1).2.1, r.2.2 ++ (g r.2.1).2.2) := if_pos h
theorem bnd_f {r : Rz} {g : Nat → Rz} (h : r.1 = false) : bnd r g = (false, r.2.1, []) := if_neg (by rw [h]; decide)
theorem bnd_ok {r : Rz} {g : Nat → Rz} (h : (bnd r g).1 = true) : r.1 = true ∧ (g r.2.1).1 = true ∧ bnd r g = (true, (g r.2.1).2.1, r.2.2 ++ (g r.2.1).2.2) := by
  cases c : r.1 with
  | true => rw [bnd_t c] at h ⊢; exact ⟨rfl, h, by rw [show (g r.2.1).1 = true from h]⟩
  | false => rw [bnd_f c] at h; cases h
def tkn (T : List Tok) (k p : Nat) : Rz := if tK T p = k then (true, p + 1, []) else (false, p, [])
theorem tkn_t {T : List Tok} {k p : Nat} (h : tK T p = k) : tkn T k p = (true, p + 1, []) := if_pos h
theorem tkn_f {T : List Tok} {k p : Nat} (h : ¬ tK T p = k) : tkn T k p = (false, p, []) := if_neg h
def opd (k : Nat) : Bool := Nat.beq k 3 || Nat.beq k 11 || Nat.beq k 12 || Nat.beq k 13 || Nat.beq k 14
theorem opd_t {k : Nat} : opd k = true ↔ k = 3 ∨ k = 11 ∨ k = 12 ∨ k = 13 ∨ k = 14 := by
  unfold opd
  simp only [Bool.or_eq_true, Nat.beq_eq]
  omega
def cmk (k : Nat) : Bool := Nat.beq k 32 || Nat.beq k 33 || Nat.beq k 34
theorem cmk_t {k : Nat} : cmk k = true ↔ k = 32 ∨ k = 33 ∨ k = 34 := by
  unfold cmk
  simp only [Bool.or_eq_true, Nat.beq_eq]
  omega
def spM (k : Nat) : Bool := Nat.beq k 37
def spP (k : Nat) : Bool := Nat.beq k 35 || Nat.beq k 36
def spA (k : Nat) : Bool := Nat.beq k 9
def spO (k : Nat) : Bool := Nat.beq k 10
theorem spM_t {k : Nat} : spM k = true ↔ k = 37 := by unfold spM; exact Nat.beq_eq ▸ Iff.rfl
theorem spA_t {k : Nat} : spA k = true ↔ k = 9 := by unfold spA; exact Nat.beq_eq ▸ Iff.rfl
theorem spO_t {k : Nat} : spO k = true ↔ k = 10 := by unfold spO; exact Nat.beq_eq ▸ Iff.rfl
theorem spP_t {k : Nat} : spP k = true ↔ k = 35 ∨ k = 36 := by
  unfold spP
  simp only [Bool.or_eq_true, Nat.beq_eq]
def atm (T : List Tok) (lv : Nat) (sub : Nat → Rz) (p : Nat) : Rz :=
  if tK T p = 26 then (if lv = 0 then (false, p, []) else bnd (sub (p + 1)) (tkn T 27))
  else if opd (tK T p) = true then (true, p + 1, [(tK T p, tN T p)]) else (false, p, [])
def lpS (T : List Tok) (sep : Nat → Bool) (item : Nat → Rz) : Nat → Nat → Rz
  | 0, p => (true, p, [])
  | n + 1, p => if sep (tK T p) = true then bnd (item (p + 1)) (fun q => ((lpS T sep item n q).1, (lpS T sep item n q).2.1, (tK T p, (0 : Int)) :: (lpS T sep item n q).2.2)) else (true, p, [])
def sqS (T : List Tok) (sep : Nat → Bool) (item : Nat → Rz) (p : Nat) : Rz := bnd (item p) (lpS T sep item 400)
def prS (T : List Tok) (lv : Nat) (sub : Nat → Rz) : Nat → Rz := sqS T spM (atm T lv sub)
def vlS (T : List Tok) (lv : Nat) (sub : Nat → Rz) : Nat → Rz := sqS T spP (prS T lv sub)
def nul (p : Nat) : Rz := (false, p, [])
def syV (T : List Tok) : Nat → Nat → Rz
  | 0 => vlS T 0 nul
  | n + 1 => vlS T (n + 1) (syV T n)
def kpS (T : List Tok) (lv : Nat) (sub val : Nat → Rz) (p : Nat) : Rz :=
  if tK T p = 28 then (if lv = 0 then (false, p, []) else bnd (sub (p + 1)) (tkn T 29))
  else if tK T p = 7 then (if tK T (p + 1) = 2 then (true, p + 2, [(7, ((p + 1 : Nat) : Int))]) else (false, p + 1, []))
  else bnd (val p) (fun q => if cmk (tK T q) = true then bnd (val (q + 1)) (fun q2 => (true, q2, [(tK T q, 0)])) else (false, q, []))
def nts (T : List Tok) : Nat → Nat → Bool → Nat × Bool
  | 0, p, b => (p, b)
  | n + 1, p, b => if tK T p = 8 then nts T n (p + 1) (!b) else (p, b)
def sgS (T : List Tok) (lv : Nat) (sub val : Nat → Rz) (p : Nat) : Rz := bnd (kpS T lv sub val (nts T 400 p false).1) (fun q => (true, q, if (nts T 400 p false).2 = true then [(8, 0)] else []))
def btS (T : List Tok) (lv : Nat) (sub val : Nat → Rz) : Nat → Rz := sqS T spA (sgS T lv sub val)
def tsS (T : List Tok) (lv : Nat) (sub val : Nat → Rz) : Nat → Rz := sqS T spO (btS T lv sub val)
def syT (T : List Tok) : Nat → Nat → Rz
  | 0 => tsS T 0 nul (syV T 0)
  | n + 1 => tsS T (n + 1) (syT T n) (syV T (n + 1))
/-! What each place puts: good commands, no more than tokens read. -/
/-- lengths and commands of a place -/
def gdS (T : List Tok) (ok : Cmd → Prop) (f : Nat → Rz) : Prop := ∀ p, (f p).1 = true → (f p).2.2.length + p + 0 ≤ (f p).2.1 ∧ p + 1 ≤ (f p).2.1 ∧ ∀ c ∈ (f p).2.2, ok c
def okVl (c : Cmd) : Prop := ((c.1 = 3 ∨ c.1 = 11 ∨ c.1 = 12 ∨ c.1 = 13 ∨ c.1 = 14) ∨ c.1 = 35 ∨ c.1 = 36 ∨ c.1 = 37) ∧ 0 ≤ c.2 ∧ c.2 ≤ 9999
def okTs (T : List Tok) (c : Cmd) : Prop := okVl c ∨ c.1 = 8 ∨ c.1 = 9 ∨ c.1 = 10 ∨ c.1 = 32 ∨ c.1 = 33 ∨ c.1 = 34 ∨ (c.1 = 7 ∧ ∃ q : Nat, c.2 = (q : Int) ∧ tK T q = 2)
theorem gd_bnd {T : List Tok} {ok : Cmd → Prop} {r : Rz} {g : Nat → Rz} {p k : Nat} (h1 : r.1 = true → r.2.2.length + p + k ≤ r.2.1 ∧ p + 1 ≤ r.2.1 ∧ ∀ c ∈ r.2.2, ok c) (h2 : r.1 = true → ∀ q, p + 1 ≤ q → (g q).1 = true → (g q).2.2.length + q ≤ (g q).2.1 + k ∧ q ≤ (g q).2.1 ∧ ∀ c ∈ (g q).2.2, ok c) (h : (bnd r g).1 = true) : (bnd r g).2.2.length + p + 0 ≤ (bnd r g).2.1 ∧ p + 1 ≤ (bnd r g).2.1 ∧ ∀ c ∈ (bnd r g).2.2, ok c := by
  obtain ⟨a, b, e⟩ := bnd_ok h
  rw [e]
  obtain ⟨i1, i2, i3⟩ := h1 a
  obtain ⟨j1, j2, j3⟩ := h2 a _ i2 b
  refine ⟨by show (r.2.2 ++ (g r.2.1).2.2).length + p + 0 ≤ (g r.2.1).2.1; rw [List.length_append]; omega, by show p + 1 ≤ (g r.2.1).2.1; omega, fun c hc => ?_⟩
  rcases List.mem_append.mp hc with z | z
  · exact i3 c z
  · exact j3 c z
theorem gd_lp {T : List Tok} {ok : Cmd → Prop} {sep : Nat → Bool} {item : Nat → Rz} (hi : gdS T ok item) (hs : ∀ k, sep k = true → ok (k, 0)) : ∀ n p, (lpS T sep item n p).1 = true → (lpS T sep item n p).2.2.length + p ≤ (lpS T sep item n p).2.1 ∧ p ≤ (lpS T sep item n p).2.1 ∧ ∀ c ∈ (lpS T sep item n p).2.2, ok c := by
  intro n
  induction n with
  | zero => intro p _; exact ⟨by show 0 + p ≤ p; omega, Nat.le_refl _, fun c hc => absurd hc List.not_mem_nil⟩
  | succ n ih =>
    intro p h
    by_cases c : sep (tK T p) = true
    · have e : lpS T sep item (n + 1) p = bnd (item (p + 1)) (fun q => ((lpS T sep item n q).1, (lpS T sep item n q).2.1, (tK T p, (0 : Int)) :: (lpS T sep item n q).2.2)) := if_pos c
      rw [e] at h ⊢
      obtain ⟨a, b, e2⟩ := bnd_ok h
      rw [e2]
      obtain ⟨i1, i2, i3⟩ := hi (p + 1) a
      obtain ⟨j1, j2, j3⟩ := ih _ b
      refine ⟨by show ((item (p + 1)).2.2 ++ (tK T p, (0 : Int)) :: (lpS T sep item n (item (p + 1)).2.1).2.2).length + p ≤ (lpS T sep item n (item (p + 1)).2.1).2.1; rw [List.length_append, List.length_cons]; omega, by show p ≤ (lpS T sep item n (item (p + 1)).2.1).2.1; omega, fun c hc => ?_⟩
      rcases List.mem_append.mp hc with z | z
      · exact i3 c z
      · rcases List.mem_cons.mp z with y | y
        · rw [y]; exact hs _ (by assumption)
        · exact j3 c y
    · have e : lpS T sep item (n + 1) p = (true, p, []) := if_neg c
      rw [e]
      exact ⟨by show 0 + p ≤ p; omega, Nat.le_refl _, fun c hc => absurd hc List.not_mem_nil⟩
theorem gd_sq {T : List Tok} {ok : Cmd → Prop} {sep : Nat → Bool} {item : Nat → Rz} (hi : gdS T ok item) (hs : ∀ k, sep k = true → ok (k, 0)) : gdS T ok (sqS T sep item) := by
  intro p h
  refine gd_bnd (k := 0) (T := T) (hi p) (fun _ q _ hq => ?_) h
  exact gd_lp hi hs 400 q hq
theorem gd_atm {T : List Tok} (w : tkW T) {lv : Nat} {sub : Nat → Rz} (hs : gdS T okVl sub) : gdS T okVl (atm T lv sub) := by
  intro p h
  unfold atm at h ⊢
  by_cases c : tK T p = 26
  · rw [if_pos c] at h ⊢
    by_cases d : lv = 0
    · rw [if_pos d] at h; cases h
    · rw [if_neg d] at h ⊢
      refine gd_bnd (k := 0) (T := T) (fun a => ?_) (fun _ q _ hq => ?_) h
      · obtain ⟨i1, i2, i3⟩ := hs (p + 1) a
        exact ⟨by omega, by omega, i3⟩
      · by_cases e : tK T q = 27
        · rw [tkn_t e]; exact ⟨by show 0 + q ≤ q + 1 + 0; omega, by show q ≤ q + 1; omega, fun c hc => absurd hc List.not_mem_nil⟩
        · rw [tkn_f e] at hq; cases hq
  · rw [if_neg c] at h ⊢
    by_cases d : opd (tK T p) = true
    · rw [if_pos d]
      refine ⟨by show 1 + p + 0 ≤ p + 1; omega, Nat.le_refl _, fun c hc => ?_⟩
      rw [List.mem_singleton.mp hc]
      exact ⟨.inl (opd_t.mp d), tN_b w p⟩
    · rw [if_neg d] at h; cases h
theorem gd_nul {T : List Tok} {ok : Cmd → Prop} : gdS T ok nul := fun p h => by cases h
theorem gd_vl {T : List Tok} (w : tkW T) {lv : Nat} {sub : Nat → Rz} (hs : gdS T okVl sub) : gdS T okVl (vlS T lv sub) := by
  refine gd_sq (gd_sq (gd_atm w hs) (fun k hk => ?_)) (fun k hk => ?_)
  · exact ⟨by rw [spM_t] at hk; exact .inr (.inr (.inr hk)), Int.le_refl _, by show (0 : Int) ≤ 9999; omega⟩
  · exact ⟨by rw [spP_t] at hk; exact hk.elim (fun z => .inr (.inl z)) (fun z => .inr (.inr (.inl z))), Int.le_refl _, by show (0 : Int) ≤ 9999; omega⟩
theorem gd_syV {T : List Tok} (w : tkW T) : ∀ n, gdS T okVl (syV T n) := by
  intro n
  induction n with
  | zero => exact gd_vl w gd_nul
  | succ n ih => exact gd_vl w ih
theorem gd_up {T : List Tok} {f : Nat → Rz} (h : gdS T okVl f) : gdS T (okTs T) f := fun p a => ⟨(h p a).1, (h p a).2.1, fun c hc => .inl ((h p a).2.2 c hc)⟩
theorem gd_kp {T : List Tok} (w : tkW T) {lv : Nat} {sub val : Nat → Rz} (hs : gdS T (okTs T) sub) (hv : gdS T okVl val) : gdS T (okTs T) (kpS T lv sub val) := by
  intro p h
  unfold kpS at h ⊢
  by_cases c : tK T p = 28
  · rw [if_pos c] at h ⊢
    by_cases d : lv = 0
    · rw [if_pos d] at h; cases h
    · rw [if_neg d] at h ⊢
      refine gd_bnd (k := 0) (T := T) (fun a => ?_) (fun _ q _ hq => ?_) h
      · obtain ⟨i1, i2, i3⟩ := hs (p + 1) a
        exact ⟨by omega, by omega, i3⟩
      · by_cases e : tK T q = 29
        · rw [tkn_t e]; exact ⟨by show 0 + q ≤ q + 1 + 0; omega, by show q ≤ q + 1; omega, fun c hc => absurd hc List.not_mem_nil⟩
        · rw [tkn_f e] at hq; cases hq
  · rw [if_neg c] at h ⊢
    by_cases d : tK T p = 7
    · rw [if_pos d] at h ⊢
      by_cases e : tK T (p + 1) = 2
      · rw [if_pos e]
        refine ⟨by show 1 + p + 0 ≤ p + 2; omega, by show p + 1 ≤ p + 2; omega, fun c hc => ?_⟩
        rw [List.mem_singleton.mp hc]
        exact .inr (.inr (.inr (.inr (.inr (.inr (.inr ⟨rfl, p + 1, rfl, e⟩))))))
      · rw [if_neg e] at h; cases h
    · rw [if_neg d] at h ⊢
      refine gd_bnd (k := 0) (T := T) (gd_up hv p) (fun _ q _ hq => ?_) h
      by_cases e : cmk (tK T q) = true
      · rw [if_pos e] at hq ⊢
        obtain ⟨a, b, e2⟩ := bnd_ok hq
        rw [e2]
        obtain ⟨i1, i2, i3⟩ := gd_up hv (q + 1) a
        refine ⟨by show ((val (q + 1)).2.2 ++ [(tK T q, (0 : Int))]).length + q ≤ (val (q + 1)).2.1 + 0; rw [List.length_append]; show (val (q + 1)).2.2.length + 1 + q ≤ _; omega, by show q ≤ (val (q + 1)).2.1; omega, fun c hc => ?_⟩
        rcases List.mem_append.mp hc with z | z
        · exact i3 c z
        · rw [List.mem_singleton.mp z]
          rcases cmk_t.mp e with y | y | y
          · exact .inr (.inr (.inr (.inr (.inl y))))
          · exact .inr (.inr (.inr (.inr (.inr (.inl y)))))
          · exact .inr (.inr (.inr (.inr (.inr (.inr (.inl y))))))
      · rw [if_neg e] at hq; cases hq
theorem nts_ge (T : List Tok) : ∀ n p b, p ≤ (nts T n p b).1 ∧ ((nts T n p b).2 ≠ b → p + 1 ≤ (nts T n p b).1) := by
  intro n
  induction n with
  | zero => intro p b; exact ⟨Nat.le_refl _, fun z => absurd rfl z⟩
  | succ n ih =>
    intro p b
    show p ≤ (if tK T p = 8 then nts T n (p + 1) (!b) else (p, b)).1 ∧ ((if tK T p = 8 then nts T n (p + 1) (!b) else (p, b)).2 ≠ b → p + 1 ≤ (if tK T p = 8 then nts T n (p + 1) (!b) else (p, b)).1)
    by_cases c : tK T p = 8
    · rw [if_pos c]
      have i := (ih (p + 1) (!b)).1
      exact ⟨by omega, fun _ => i⟩
    · rw [if_neg c]; exact ⟨Nat.le_refl _, fun z => absurd rfl z⟩
theorem gd_sg {T : List Tok} (w : tkW T) {lv : Nat} {sub val : Nat → Rz} (hs : gdS T (okTs T) sub) (hv : gdS T okVl val) : gdS T (okTs T) (sgS T lv sub val) := by
  intro p h
  have g := nts_ge T 400 p false
  unfold sgS at h ⊢
  obtain ⟨a, -, e⟩ := bnd_ok h
  rw [e]
  obtain ⟨i1, i2, i3⟩ := gd_kp w hs hv _ a
  by_cases c : (nts T 400 p false).2 = true
  · have g2 := g.2 (by rw [c]; decide)
    rw [if_pos c]
    refine ⟨by show ((kpS T lv sub val (nts T 400 p false).1).2.2 ++ [(8, (0 : Int))]).length + p + 0 ≤ (kpS T lv sub val (nts T 400 p false).1).2.1; rw [List.length_append]; show _ + 1 + p + 0 ≤ _; omega, by show p + 1 ≤ (kpS T lv sub val (nts T 400 p false).1).2.1; omega, fun c hc => ?_⟩
    rcases List.mem_append.mp hc with z | z
    · exact i3 c z
    · rw [List.mem_singleton.mp z]; exact .inr (.inl rfl)
  · rw [if_neg c]
    refine ⟨by show ((kpS T lv sub val (nts T 400 p false).1).2.2 ++ []).length + p + 0 ≤ (kpS T lv sub val (nts T 400 p false).1).2.1; rw [List.append_nil]; omega, by show p + 1 ≤ (kpS T lv sub val (nts T 400 p false).1).2.1; omega, fun c hc => ?_⟩
    rcases List.mem_append.mp hc with z | z
    · exact i3 c z
    · exact absurd z List.not_mem_nil
theorem gd_bt {T : List Tok} (w : tkW T) {lv : Nat} {sub val : Nat → Rz} (hs : gdS T (okTs T) sub) (hv : gdS T okVl val) : gdS T (okTs T) (btS T lv sub val) := gd_sq (gd_sg w hs hv) (fun k hk => by rw [spA_t] at hk; exact .inr (.inr (.inl hk)))
theorem gd_ts {T : List Tok} (w : tkW T) {lv : Nat} {sub val : Nat → Rz} (hs : gdS T (okTs T) sub) (hv : gdS T okVl val) : gdS T (okTs T) (tsS T lv sub val) := gd_sq (gd_bt w hs hv) (fun k hk => by rw [spO_t] at hk; exact .inr (.inr (.inr (.inl hk))))
theorem gd_syT {T : List Tok} (w : tkW T) : ∀ n, gdS T (okTs T) (syT T n) := by
  intro n
  induction n with
  | zero => exact gd_ts w gd_nul (gd_syV w 0)
  | succ n ih => exact gd_ts w ih (gd_syV w (n + 1))
/-! Names: which flock; the first that is none. -/
/-- where a word stands in a row, from k on -/
def lkF : List Int → Nat → Int → Int
  | [], _, _ => -1
  | x :: F, k, w => if x = w then (k : Int) else lkF F (k + 1) w
def lk (F : List Int) (w : Int) : Int := lkF F 0 w
/-- a command with its flock in place of its name -/
def rsl (T : List Tok) (F : List Int) (c : Cmd) : Cmd := if c.1 = 7 then (7, lk F (tW T c.2.toNat)) else c
/-- the first name that is no flock -/
def fb (T : List Tok) (F : List Int) : List Cmd → Nat × Nat
  | [] => (0, 0)
  | c :: l => if c.1 = 7 ∧ lk F (tW T c.2.toNat) < 0 then (3, c.2.toNat) else fb T F l
/-- an error that was noted stays -/
def ntE (e x : Nat × Nat) : Nat × Nat := if e.1 = 0 then x else e
theorem ntE_0 (x : Nat × Nat) (k : Nat) : ntE (0, k) x = x := rfl
theorem ntE_as (e x y : Nat × Nat) : ntE (ntE e x) y = ntE e (ntE x y) := by
  unfold ntE
  by_cases c : e.1 = 0
  · rw [if_pos c, if_pos c]
  · rw [if_neg c, if_neg c, if_neg c]
theorem fb_app (T : List Tok) (F : List Int) (b : List Cmd) : ∀ a, fb T F (a ++ b) = ntE (fb T F a) (fb T F b) := by
  intro a
  induction a with
  | nil => rfl
  | cons c a ih =>
    show (if c.1 = 7 ∧ lk F (tW T c.2.toNat) < 0 then (3, c.2.toNat) else fb T F (a ++ b)) = ntE (if c.1 = 7 ∧ lk F (tW T c.2.toNat) < 0 then (3, c.2.toNat) else fb T F a) (fb T F b)
    by_cases h : c.1 = 7 ∧ lk F (tW T c.2.toNat) < 0
    · rw [if_pos h, if_pos h]; rfl
    · rw [if_neg h, if_neg h]; exact ih
theorem fb_V {T : List Tok} {F : List Int} : ∀ l : List Cmd, (∀ c ∈ l, okVl c) → fb T F l = (0, 0) ∧ l.map (rsl T F) = l := by
  intro l
  induction l with
  | nil => intro _; exact ⟨rfl, rfl⟩
  | cons c l ih =>
    intro h
    obtain ⟨i1, i2⟩ := ih (fun x hx => h x (List.mem_cons_of_mem _ hx))
    have hc := h c List.mem_cons_self
    have n7 : ¬ c.1 = 7 := by unfold okVl at hc; omega
    refine ⟨?_, ?_⟩
    · show (if c.1 = 7 ∧ lk F (tW T c.2.toNat) < 0 then (3, c.2.toNat) else fb T F l) = (0, 0)
      rw [if_neg (fun z => n7 z.1)]; exact i1
    · show rsl T F c :: l.map (rsl T F) = c :: l
      rw [i2]
      unfold rsl
      rw [if_neg n7]
theorem fb_n7 {T : List Tok} {F : List Int} {c : Cmd} (h : ¬ c.1 = 7) (l : List Cmd) : fb T F (c :: l) = fb T F l := if_neg (fun z => h z.1)
theorem rsl_n7 {T : List Tok} {F : List Int} {c : Cmd} (h : ¬ c.1 = 7) : rsl T F c = c := if_neg h
/-! What the commands of a place make of a stack. -/
def vlE (x : Ctx) (tk : Int32) (l : List Cmd) (k : Nat) : Prop := ∀ s : List Int32, s.length + k ≤ 32 → ∃ v, evs l x tk s (v :: s)
def tsE (x : Ctx) (tk : Int32) (l : List Cmd) (k : Nat) : Prop := ∀ s : List Int32, s.length + k ≤ 32 → ∃ v, (v = iZ 0 ∨ v = iZ 1) ∧ evs l x tk s (v :: s)
theorem ev1_j {c : Cmd} {x : Ctx} {tk : Int32} {r l : Int32} {t : List Int32} (h : kJ c.1) : ev1 c x tk (r :: l :: t) (opj c.1 l r :: t) := .inr (.inr ⟨h, r, l, t, rfl, rfl⟩)
theorem ev_join {x : Ctx} {tk : Int32} {a b : List Cmd} {c : Cmd} {s : List Int32} {v w : Int32} (h1 : evs a x tk s (v :: s)) (h2 : evs b x tk (v :: s) (w :: v :: s)) (hj : kJ c.1) : evs (a ++ (b ++ [c])) x tk s (opj c.1 v w :: s) := by
  refine evs_app _ _ a _ _ h1 (evs_app _ _ b _ _ h2 ⟨_, ev1_j hj, rfl⟩)
/-- a loop of items joined: values -/
theorem vl_lp {T : List Tok} {x : Ctx} {tk : Int32} {sep : Nat → Bool} {item : Nat → Rz} {k : Nat} (hi : ∀ p, (item p).1 = true → vlE x tk (item p).2.2 k) (hs : ∀ q, sep q = true → kJ q) : ∀ n p, (lpS T sep item n p).1 = true → ∀ (s : List Int32) (v : Int32), s.length + (k + 1) ≤ 32 → ∃ w, evs (lpS T sep item n p).2.2 x tk (v :: s) (w :: s) := by
  intro n
  induction n with
  | zero => intro p _ s v _; exact ⟨v, rfl⟩
  | succ n ih =>
    intro p h s v hk
    by_cases c : sep (tK T p) = true
    · have e : lpS T sep item (n + 1) p = bnd (item (p + 1)) (fun q => ((lpS T sep item n q).1, (lpS T sep item n q).2.1, (tK T p, (0 : Int)) :: (lpS T sep item n q).2.2)) := if_pos c
      rw [e] at h ⊢
      obtain ⟨a, b, e2⟩ := bnd_ok h
      rw [e2]
      obtain ⟨w, hw⟩ := hi (p + 1) a (v :: s) (by show s.length + 1 + k ≤ 32; omega)
      obtain ⟨z, hz⟩ := ih _ b s (opj (tK T p) v w) hk
      exact ⟨z, evs_app _ _ _ _ _ hw ⟨_, ev1_j (c := (tK T p, 0)) (hs _ c), hz⟩⟩
    · have e : lpS T sep item (n + 1) p = (true, p, []) := if_neg c
      rw [e]; exact ⟨v, rfl⟩
theorem vl_sq {T : List Tok} {x : Ctx} {tk : Int32} {sep : Nat → Bool} {item : Nat → Rz} {k : Nat} (hi : ∀ p, (item p).1 = true → vlE x tk (item p).2.2 k) (hs : ∀ q, sep q = true → kJ q) : ∀ p, (sqS T sep item p).1 = true → vlE x tk (sqS T sep item p).2.2 (k + 1) := by
  intro p h s hk
  unfold sqS at h ⊢
  obtain ⟨a, b, e⟩ := bnd_ok h
  rw [e]
  obtain ⟨v, hv⟩ := hi p a s (by omega)
  obtain ⟨w, hw⟩ := vl_lp hi hs 400 _ b s v (by omega)
  exact ⟨w, evs_app _ _ _ _ _ hv hw⟩
theorem vl_atm {T : List Tok} {x : Ctx} {tk : Int32} {lv : Nat} {sub : Nat → Rz} {k : Nat} (hs : ∀ p, (sub p).1 = true → vlE x tk (sub p).2.2 k) (hk1 : 1 ≤ k) : ∀ p, (atm T lv sub p).1 = true → vlE x tk (atm T lv sub p).2.2 k := by
  intro p h s hk
  unfold atm at h ⊢
  by_cases c : tK T p = 26
  · rw [if_pos c] at h ⊢
    by_cases d : lv = 0
    · rw [if_pos d] at h; cases h
    · rw [if_neg d] at h ⊢
      obtain ⟨a, b, e⟩ := bnd_ok h
      rw [e]
      have e2 : (tkn T 27 (sub (p + 1)).2.1).2.2 = [] := by unfold tkn; split <;> rfl
      show ∃ v, evs ((sub (p + 1)).2.2 ++ (tkn T 27 (sub (p + 1)).2.1).2.2) x tk s (v :: s)
      rw [e2, List.append_nil]
      exact hs (p + 1) a s hk
  · rw [if_neg c] at h ⊢
    by_cases d : opd (tK T p) = true
    · rw [if_pos d]
      refine ⟨psh (tK T p, tN T p) x tk, _, .inl ⟨?_, by omega, rfl⟩, rfl⟩
      have := opd_t.mp d
      unfold kPu
      show tK T p = 3 ∨ tK T p = 7 ∨ tK T p = 11 ∨ tK T p = 12 ∨ tK T p = 13 ∨ tK T p = 14
      omega
    · rw [if_neg d] at h; cases h
theorem vl_vl {T : List Tok} {x : Ctx} {tk : Int32} {lv : Nat} {sub : Nat → Rz} {k : Nat} (hs : ∀ p, (sub p).1 = true → vlE x tk (sub p).2.2 k) (hk1 : 1 ≤ k) : ∀ p, (vlS T lv sub p).1 = true → vlE x tk (vlS T lv sub p).2.2 (k + 1 + 1) := by
  refine vl_sq (vl_sq (vl_atm hs hk1) (fun q hq => ?_)) (fun q hq => ?_)
  · rw [spM_t] at hq; unfold kJ; omega
  · rw [spP_t] at hq; unfold kJ; omega
theorem vl_syV {T : List Tok} {x : Ctx} {tk : Int32} : ∀ n p, (syV T n p).1 = true → vlE x tk (syV T n p).2.2 (2 * n + 3) := by
  intro n
  induction n with
  | zero => exact vl_vl (k := 1) (fun p h => by cases h) (Nat.le_refl _)
  | succ n ih =>
    intro p h
    have := vl_vl (k := 2 * n + 3) ih (by omega) p h
    rw [show 2 * (n + 1) + 3 = 2 * n + 3 + 1 + 1 by omega]
    exact this
theorem opj_01 {k : Nat} (h : k = 32 ∨ k = 33 ∨ k = 34) (a b : Int32) : opj k a b = iZ 0 ∨ opj k a b = iZ 1 := by
  rcases h with h | h | h
  · rw [h, opj_32]; split <;> simp
  · rw [h, opj_33]; split <;> simp
  · rw [h, opj_34]; split <;> simp
theorem opj_lg {k : Nat} (h : k = 9 ∨ k = 10) {a b : Int32} (ha : a = iZ 0 ∨ a = iZ 1) (hb : b = iZ 0 ∨ b = iZ 1) : opj k a b = iZ 0 ∨ opj k a b = iZ 1 := by
  rcases h with h | h <;> rcases ha with ha | ha <;> rcases hb with hb | hb <;> subst h <;> subst ha <;> subst hb <;> decide
theorem bitv_01 (t f : Int32) : bitv t f = iZ 0 ∨ bitv t f = iZ 1 := by
  unfold bitv
  generalize t >>> (f &&& 31) = y
  have e : (y &&& iZ 1).toBitVec = y.toBitVec &&& 1#32 := rfl
  have h : ∀ z : BitVec 32, z &&& 1#32 = 0#32 ∨ z &&& 1#32 = 1#32 := by
    intro z
    have hz : (z &&& 1#32).toNat = z.toNat % 2 := by rw [BitVec.toNat_and]; exact Nat.and_one_is_mod _
    rcases Nat.mod_two_eq_zero_or_one z.toNat with c | c
    · left; apply BitVec.eq_of_toNat_eq; rw [hz, c]; rfl
    · right; apply BitVec.eq_of_toNat_eq; rw [hz, c]; rfl
  rcases h y.toBitVec with c | c
  · left; apply Int32.toBitVec_inj.mp; rw [e, c]; rfl
  · right; apply Int32.toBitVec_inj.mp; rw [e, c]; rfl
theorem ts_lp {T : List Tok} {F : List Int} {x : Ctx} {tk : Int32} {sep : Nat → Bool} {item : Nat → Rz} {k : Nat} (hi : ∀ p, (item p).1 = true → tsE x tk ((item p).2.2.map (rsl T F)) k) (hs : ∀ q, sep q = true → q = 9 ∨ q = 10) : ∀ n p, (lpS T sep item n p).1 = true → ∀ (s : List Int32) (v : Int32), (v = iZ 0 ∨ v = iZ 1) → s.length + (k + 1) ≤ 32 → ∃ w, (w = iZ 0 ∨ w = iZ 1) ∧ evs ((lpS T sep item n p).2.2.map (rsl T F)) x tk (v :: s) (w :: s) := by
  intro n
  induction n with
  | zero => intro p _ s v hv _; exact ⟨v, hv, rfl⟩
  | succ n ih =>
    intro p h s v hv hk
    by_cases c : sep (tK T p) = true
    · have e : lpS T sep item (n + 1) p = bnd (item (p + 1)) (fun q => ((lpS T sep item n q).1, (lpS T sep item n q).2.1, (tK T p, (0 : Int)) :: (lpS T sep item n q).2.2)) := if_pos c
      rw [e] at h ⊢
      obtain ⟨a, b, e2⟩ := bnd_ok h
      rw [e2]
      have s9 := hs _ c
      obtain ⟨w, w1, hw⟩ := hi (p + 1) a (v :: s) (by show s.length + 1 + k ≤ 32; omega)
      obtain ⟨z, z1, hz⟩ := ih _ b s (opj (tK T p) v w) (opj_lg s9 hv w1) hk
      refine ⟨z, z1, ?_⟩
      show evs (((item (p + 1)).2.2 ++ (tK T p, (0 : Int)) :: (lpS T sep item n (item (p + 1)).2.1).2.2).map (rsl T F)) x tk (v :: s) (z :: s)
      rw [List.map_append, List.map_cons, rsl_n7 (c := (tK T p, 0)) (by show ¬ tK T p = 7; omega)]
      exact evs_app _ _ _ _ _ hw ⟨_, ev1_j (c := (tK T p, 0)) (by unfold kJ; show tK T p = 9 ∨ tK T p = 10 ∨ _; omega), hz⟩
    · have e : lpS T sep item (n + 1) p = (true, p, []) := if_neg c
      rw [e]; exact ⟨v, hv, rfl⟩
theorem ts_sq {T : List Tok} {F : List Int} {x : Ctx} {tk : Int32} {sep : Nat → Bool} {item : Nat → Rz} {k : Nat} (hi : ∀ p, (item p).1 = true → tsE x tk ((item p).2.2.map (rsl T F)) k) (hs : ∀ q, sep q = true → q = 9 ∨ q = 10) : ∀ p, (sqS T sep item p).1 = true → tsE x tk ((sqS T sep item p).2.2.map (rsl T F)) (k + 1) := by
  intro p h s hk
  unfold sqS at h ⊢
  obtain ⟨a, b, e⟩ := bnd_ok h
  rw [e]
  obtain ⟨v, v1, hv⟩ := hi p a s (by omega)
  obtain ⟨w, w1, hw⟩ := ts_lp hi hs 400 _ b s v v1 (by omega)
  refine ⟨w, w1, ?_⟩
  show evs (((item p).2.2 ++ (lpS T sep item 400 (item p).2.1).2.2).map (rsl T F)) x tk s (w :: s)
  rw [List.map_append]
  exact evs_app _ _ _ _ _ hv hw
theorem ts_kp {T : List Tok} {F : List Int} {x : Ctx} {tk : Int32} {lv : Nat} {sub val : Nat → Rz} {k : Nat} (hs : ∀ p, (sub p).1 = true → tsE x tk ((sub p).2.2.map (rsl T F)) k) (hv : ∀ p, (val p).1 = true → vlE x tk (val p).2.2 k) (gv : gdS T okVl val) : ∀ p, (kpS T lv sub val p).1 = true → tsE x tk ((kpS T lv sub val p).2.2.map (rsl T F)) (k + 1) := by
  intro p h s hk
  unfold kpS at h ⊢
  by_cases c : tK T p = 28
  · rw [if_pos c] at h ⊢
    by_cases d : lv = 0
    · rw [if_pos d] at h; cases h
    · rw [if_neg d] at h ⊢
      obtain ⟨a, b, e⟩ := bnd_ok h
      rw [e]
      have e2 : (tkn T 29 (sub (p + 1)).2.1).2.2 = [] := by unfold tkn; split <;> rfl
      show ∃ v, (v = iZ 0 ∨ v = iZ 1) ∧ evs (((sub (p + 1)).2.2 ++ (tkn T 29 (sub (p + 1)).2.1).2.2).map (rsl T F)) x tk s (v :: s)
      rw [e2, List.append_nil]
      exact hs (p + 1) a s (by omega)
  · rw [if_neg c] at h ⊢
    by_cases d : tK T p = 7
    · rw [if_pos d] at h ⊢
      by_cases e : tK T (p + 1) = 2
      · rw [if_pos e]
        refine ⟨bitv tk (iZ (lk F (tW T (p + 1)))), bitv_01 _ _, _, .inl ⟨.inr (.inl rfl), by omega, ?_⟩, rfl⟩
        rfl
      · rw [if_neg e] at h; cases h
    · rw [if_neg d] at h ⊢
      obtain ⟨a, b, e⟩ := bnd_ok h
      rw [e]
      by_cases f : cmk (tK T (val p).2.1) = true
      · rw [if_pos f] at b ⊢
        obtain ⟨a2, -, e2⟩ := bnd_ok b
        rw [e2]
        obtain ⟨v, v1⟩ := hv p a s (by omega)
        obtain ⟨w, w1⟩ := hv _ a2 (v :: s) (by show s.length + 1 + k ≤ 32; omega)
        have c3 := cmk_t.mp f
        refine ⟨opj (tK T (val p).2.1) v w, opj_01 c3 _ _, ?_⟩
        show evs (((val p).2.2 ++ ((val ((val p).2.1 + 1)).2.2 ++ [(tK T (val p).2.1, (0 : Int))])).map (rsl T F)) x tk s _
        rw [List.map_append, List.map_append, (fb_V (T := T) (F := F) _ (gv p a).2.2).2, (fb_V (T := T) (F := F) _ (gv _ a2).2.2).2, List.map_singleton, rsl_n7 (c := (tK T (val p).2.1, 0)) (by show ¬ tK T (val p).2.1 = 7; omega)]
        exact ev_join (c := (tK T (val p).2.1, 0)) v1 w1 (by unfold kJ; show tK T (val p).2.1 = 9 ∨ tK T (val p).2.1 = 10 ∨ _; omega)
      · rw [if_neg f] at b; cases b
theorem ts_sg {T : List Tok} {F : List Int} {x : Ctx} {tk : Int32} {lv : Nat} {sub val : Nat → Rz} {k : Nat} (hs : ∀ p, (sub p).1 = true → tsE x tk ((sub p).2.2.map (rsl T F)) k) (hv : ∀ p, (val p).1 = true → vlE x tk (val p).2.2 k) (gv : gdS T okVl val) : ∀ p, (sgS T lv sub val p).1 = true → tsE x tk ((sgS T lv sub val p).2.2.map (rsl T F)) (k + 1) := by
  intro p h s hk
  unfold sgS at h ⊢
  obtain ⟨a, -, e⟩ := bnd_ok h
  rw [e]
  obtain ⟨v, v1, hv2⟩ := ts_kp hs hv gv _ a s hk
  show ∃ w, (w = iZ 0 ∨ w = iZ 1) ∧ evs (((kpS T lv sub val (nts T 400 p false).1).2.2 ++ (if (nts T 400 p false).2 = true then [(8, (0 : Int))] else [])).map (rsl T F)) x tk s (w :: s)
  by_cases c : (nts T 400 p false).2 = true
  · rw [if_pos c, List.map_append]
    refine ⟨iZ 1 - v, by rcases v1 with z | z <;> rw [z] <;> decide, evs_app _ _ _ _ _ hv2 ⟨_, .inr (.inl ⟨rfl, v, s, rfl, rfl⟩), rfl⟩⟩
  · rw [if_neg c, List.append_nil]
    exact ⟨v, v1, hv2⟩
theorem ts_ts {T : List Tok} {F : List Int} {x : Ctx} {tk : Int32} {lv : Nat} {sub val : Nat → Rz} {k : Nat} (hs : ∀ p, (sub p).1 = true → tsE x tk ((sub p).2.2.map (rsl T F)) k) (hv : ∀ p, (val p).1 = true → vlE x tk (val p).2.2 k) (gv : gdS T okVl val) : ∀ p, (tsS T lv sub val p).1 = true → tsE x tk ((tsS T lv sub val p).2.2.map (rsl T F)) (k + 3) :=
  ts_sq (ts_sq (ts_sg hs hv gv) (fun q hq => .inl (spA_t.mp hq))) (fun q hq => .inr (spO_t.mp hq))
theorem vlE_up {x : Ctx} {tk : Int32} {l : List Cmd} {k m : Nat} (h : vlE x tk l k) (hk : k ≤ m) : vlE x tk l m := fun s hs => h s (by omega)
theorem ts_syT {T : List Tok} (w : tkW T) {F : List Int} {x : Ctx} {tk : Int32} : ∀ n p, (syT T n p).1 = true → tsE x tk ((syT T n p).2.2.map (rsl T F)) (3 * n + 6) := by
  intro n
  induction n with
  | zero => exact ts_ts (k := 3) (fun p h => by cases h) (fun p h => vl_syV 0 p h) (gd_syV w 0)
  | succ n ih =>
    intro p h
    have := ts_ts (k := 3 * n + 6) ih (fun p h => vlE_up (vl_syV (n + 1) p h) (by omega)) (gd_syV w (n + 1)) p h
    rw [show 3 * (n + 1) + 6 = 3 * n + 6 + 3 by omega]
    exact this
/-- a value's row doesn't look at takers -/
theorem evs_tk {x : Ctx} {tk tk2 : Int32} : ∀ (l : List Cmd) (s s1 : List Int32), (∀ c ∈ l, okVl c) → evs l x tk s s1 → evs l x tk2 s s1 := by
  intro l
  induction l with
  | nil => intro s s1 _ h; exact h
  | cons c l ih =>
    intro s s1 h e
    obtain ⟨s2, e1, e2⟩ := e
    refine ⟨s2, ?_, ih s2 s1 (fun x hx => h x (List.mem_cons_of_mem _ hx)) e2⟩
    have n7 : ¬ c.1 = 7 := by have := h c List.mem_cons_self; unfold okVl at this; omega
    have e3 : psh c x tk = psh c x tk2 := by unfold psh; rw [if_neg n7, if_neg n7]
    rcases e1 with ⟨a, b, d⟩ | a | a
    · exact .inl ⟨a, b, by rw [d, e3]⟩
    · exact .inr (.inl a)
    · exact .inr (.inr a)
