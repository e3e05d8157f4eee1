/-! The pure machine's own rules: what is reached, one step, a branch, a call. -/
theorem run_more (n : Nat) : ∀ (k d m : Nat) (c : Cf) (x : Rs × PH), run n d m c = some x → run (n + k) d m c = some x := by
  induction n with
  | zero => intro k d m c x h; exact absurd h (by simp [run])
  | succ n ih =>
    intro k d m c x h
    have e : n + 1 + k = (n + k) + 1 := by omega
    rw [e]
    show runF (run (n + k)) d m c = some x
    have h' : runF (run n) d m c = some x := h
    unfold runF at h' ⊢
    cases hs : step m c with
    | none => rw [hs] at h'; exact h'
    | some s =>
      rw [hs] at h'
      match s, h' with
      | .inl c', h' => exact ih k d m c' x h'
      | .inr (.inr q), h' => exact h'
      | .inr (.inl (y, a, c')), h' =>
        dsimp only at h' ⊢
        match d, h' with
        | 0, h' => exact h'
        | d' + 1, h' =>
          dsimp only at h' ⊢
          cases hr : run n d' y (0, entL y a, [], c'.2.2.2) with
          | none => rw [hr] at h'; exact absurd h' (by simp)
          | some q =>
            rw [hr] at h'
            rw [ih k d' y _ q hr]
            match q, h' with
            | (.inl v, h2), h' => exact ih k _ m _ x h'
            | (.inr e, h2), h' =>
              dsimp only at h' ⊢
              exact h'
/-- method m comes from c, with at most d calls open, to an end that Q says -/
def Ev (d m : Nat) (c : Cf) (Q : Rs → PH → Prop) : Prop := ∃ (n : Nat) (r : Rs) (h : PH), run n d m c = some (r, h) ∧ Q r h
theorem Ev.mono {d m : Nat} {c : Cf} {Q Q' : Rs → PH → Prop} (h : Ev d m c Q) (hq : ∀ r h, Q r h → Q' r h) : Ev d m c Q' := by
  obtain ⟨n, r, h', e, q⟩ := h
  exact ⟨n, r, h', e, hq r h' q⟩
theorem Ev.st {d m : Nat} {c c' : Cf} {Q : Rs → PH → Prop} (hs : step m c = some (.inl c')) (k : Ev d m c' Q) : Ev d m c Q := by
  obtain ⟨n, r, h', e, q⟩ := k
  refine ⟨n + 1, r, h', ?_, q⟩
  show runF (run n) d m c = _
  unfold runF
  rw [hs]
  exact e
/-- k plain steps -/
noncomputable def stepN (m : Nat) : Nat → Cf → Option Cf
  | 0 => fun c => some c
  | k + 1 => fun c => match step m c with
    | some (.inl c') => stepN m k c'
    | _ => none
theorem Ev.sts {d m : Nat} {Q : Rs → PH → Prop} (k : Nat) : ∀ {c c' : Cf}, stepN m k c = some c' → Ev d m c' Q → Ev d m c Q := by
  induction k with
  | zero => intro c c' h q; cases (Option.some.inj h); exact q
  | succ k ih =>
    intro c c' h q
    have h1 : (match step m c with | some (.inl c') => stepN m k c' | _ => none) = some c' := h
    cases hs : step m c with
    | none => rw [hs] at h1; cases h1
    | some s =>
      rw [hs] at h1
      match s, h1, hs with
      | .inl c2, h1, hs => exact Ev.st hs (ih h1 q)
theorem Ev.br {d m : Nat} {c c1 c2 : Cf} {p : Prop} [Decidable p] {Q : Rs → PH → Prop} (hs : step m c = some (.inl (if p then c1 else c2))) (k1 : p → Ev d m c1 Q) (k2 : ¬ p → Ev d m c2 Q) : Ev d m c Q := by
  by_cases h : p
  · rw [if_pos h] at hs; exact Ev.st hs (k1 h)
  · rw [if_neg h] at hs; exact Ev.st hs (k2 h)
theorem Ev.ret {d m : Nat} {c : Cf} {r : Rs} {h : PH} {Q : Rs → PH → Prop} (hs : step m c = some (.inr (.inr (r, h)))) (q : Q r h) : Ev d m c Q := by
  refine ⟨1, r, h, ?_, q⟩
  show runF (run 0) d m c = _
  unfold runF
  rw [hs]
/-- method y, called with a over h -/
def Rn (d y : Nat) (a : List VV) (h : PH) (Q : Rs → PH → Prop) : Prop := Ev d y (0, entL y a, [], h) Q
theorem Ev.callX {d m y : Nat} {c : Cf} {a : List VV} {pc : Nat} {ls : LV} {st : List VV} {h : PH} {Q Q1 : Rs → PH → Prop} (hs : step m c = some (.inr (.inl (y, a, (pc, ls, st, h))))) (hc : Rn d y a h Q1)
    (k : ∀ v h', Q1 (.inl v) h' → Ev (d + 1) m (pc, ls, v.toList ++ st, h') Q)
    (kx : ∀ e h', Q1 (.inr e) h' → thr m y c.1 = true ∧ match hnd m c.1 e with | none => 24 < m ∧ Q (.inr e) h' | some k => ∃ x, hres m k = some x ∧ Q (.inl (some (.inl x))) h') : Ev (d + 1) m c Q := by
  obtain ⟨n1, r1, h1, e1, q1⟩ := hc
  match r1, e1, q1 with
  | .inl v, e1, q1 =>
    obtain ⟨n2, r2, h2, e2, q2⟩ := k v h1 q1
    refine ⟨n1 + n2 + 1, r2, h2, ?_, q2⟩
    show runF (run (n1 + n2)) (d + 1) m c = _
    unfold runF
    rw [hs]
    dsimp only
    rw [run_more n1 n2 d y _ _ e1]
    dsimp only
    have := run_more n2 n1 (d + 1) m _ _ e2
    rw [Nat.add_comm] at this
    exact this
  | .inr e, e1, q1 =>
    obtain ⟨ht, hk⟩ := kx e h1 q1
    cases hh : hnd m c.1 e with
    | none =>
      rw [hh] at hk
      refine ⟨n1 + 1, .inr e, h1, ?_, hk.2⟩
      show runF (run n1) (d + 1) m c = _
      unfold runF
      rw [hs]
      dsimp only
      rw [e1]
      dsimp only
      rw [ht, hh]
      dsimp only [cond_true]
      rw [Nat.blt_eq.mpr hk.1]
      rfl
    | some pc' =>
      rw [hh] at hk
      obtain ⟨x, hx, q2⟩ := hk
      refine ⟨n1 + 1, _, h1, ?_, q2⟩
      show runF (run n1) (d + 1) m c = _
      unfold runF
      rw [hs]
      dsimp only
      rw [e1]
      dsimp only
      rw [ht, hh]
      dsimp only [cond_true]
      rw [hx]
/-- a call that returns -/
theorem Ev.call {d m y : Nat} {c : Cf} {a : List VV} {pc : Nat} {ls : LV} {st : List VV} {h : PH} {Q : Rs → PH → Prop} {Q1 : Option VV → PH → Prop} (hs : step m c = some (.inr (.inl (y, a, (pc, ls, st, h))))) (hc : Rn d y a h (fun r h' => ∃ v, r = .inl v ∧ Q1 v h'))
    (k : ∀ v h', Q1 v h' → Ev (d + 1) m (pc, ls, v.toList ++ st, h') Q) : Ev (d + 1) m c Q :=
  Ev.callX hs hc (fun v h' ⟨w, e, q⟩ => by cases e; exact k v h' q) (fun e h' ⟨w, e2, q⟩ => by cases e2)
/-- y called with a over h answers v and leaves h' -/
def Rv (d y : Nat) (a : List VV) (h : PH) (v : Option VV) (h' : PH) : Prop := Rn d y a h (fun r h2 => r = .inl v ∧ h2 = h')
theorem Ev.callv {d m y : Nat} {c : Cf} {a : List VV} {pc : Nat} {ls : LV} {st : List VV} {h h1 : PH} {v : Option VV} {Q : Rs → PH → Prop} (hs : step m c = some (.inr (.inl (y, a, (pc, ls, st, h))))) (hc : Rv d y a h v h1)
    (k : Ev (d + 1) m (pc, ls, v.toList ++ st, h1) Q) : Ev (d + 1) m c Q :=
  Ev.callX hs hc (fun w h' ⟨e, q⟩ => by cases e; cases q; exact k) (fun e h' ⟨e2, q⟩ => by cases e2)
