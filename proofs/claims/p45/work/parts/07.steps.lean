/-! One step of the pure machine is one of the machine. -/
def lrel (K : KT) (ρ : Nat → Nat) (al : List VR) (n : Nat) (ls : Array Slot) (nl : Nat) (f : LV) : Prop := ls.size = nl ∧ lv_wf ls ∧ f.length = nl ∧ ∀ (i : Nat) (v : VV), f.getD i none = some v → ls[i]? = some (.val (pm_v K ρ v)) ∧ okV K al n v
def pm_X (p : Program) (s : State) (m : MethodId) (args : Array Value) (c : Code) (K : KT) (A : Nat → Prop) (mm : Nat) : Prop :=
  p.tables.exec = Jvm.exec ∧ c.code = mb mm ∧ c.maxLocals = mxl mm ∧ s.vm.findClass (cnm (mow mm)) = some m.cls ∧ (∀ w ∈ TBL, w.before args s = true) ∧ pm_C K A s s.heap ∧ ∀ q, s.heap.size ≤ q → A q
def PW (p : Program) (l : Launch) (e : Env) (R : Room) (s : State) (m : MethodId) (args : Array Value) (below : List Frame) (meth : Method) (c : Code) (Q : State → Prop) (K : KT) (A : Nat → Prop) (ρ0 : Nat → Nat) (al0 : List VR) (n0 s0 mm : Nat) (cf : Cf) : Prop :=
  ∀ (ρ : Nat → Nat) (al : List VR) (H : Heap) (locs : List Loc) (cells slots : Nat) (ls : Array Slot), inH K A ρ al cf.2.2.2 H → va_S A s.heap H locs → okH K al cf.2.2.2 → pm_x ρ0 al0 ρ al → hN cf.2.2.2 = n0 + cells → hS cf.2.2.2 = s0 + slots → lrel K ρ al (hN cf.2.2.2) ls (mxl mm) cf.2.1 → (∀ v ∈ cf.2.2.1, okV K al (hN cf.2.2.2) v) →
    W p l e R s m args below meth c H locs cells slots Q (F0 m cf.1 ls (cf.2.2.1.map (pm_v K ρ)))
theorem pm_cat (K : KT) (ρ : Nat → Nat) (ho : (ko K).category = 1) (v : VV) : (pm_v K ρ v).category = vcat v := by
  match v with
  | .inl x => rfl
  | .inr (.inl x) => rfl
  | .inr (.inr (.inl x)) => rfl
  | .inr (.inr (.inr r)) =>
    show (pm_r K ρ r).category = 1
    unfold pm_r
    split
    · rfl
    · split
      · exact ho
      · rfl
theorem pm_r_cases (K : KT) (ρ : Nat → Nat) (ho : ko K = .null ∨ ∃ a, ko K = .ref a) (r : VR) : pm_r K ρ r = .null ∨ ∃ a, pm_r K ρ r = .ref a := by
  unfold pm_r
  split
  · exact Or.inl rfl
  · split
    · exact ho
    · exact Or.inr ⟨_, rfl⟩
theorem pm_r_some {K : KT} {ρ : Nat → Nat} {r : VR} (h0 : 0 < r.1) (h1 : r.1 < 46) : pm_r K ρ r = .ref (pm_ad K ρ r) := by
  unfold pm_r
  rw [if_neg (by omega), if_neg (by omega)]
theorem pm_ko_cat {K : KT} (ho : ko K = .null ∨ ∃ a, ko K = .ref a) : (ko K).category = 1 := by
  rcases ho with h | ⟨a, h⟩ <;> rw [h] <;> rfl
/-! the locals as the kit has them -/
def lvl (K : KT) (ρ : Nat → Nat) (f : LV) : List (Nat × Value) := (List.range f.length).filterMap (fun i => match f.getD i none with | some v => some (i, pm_v K ρ v) | none => none)
theorem lvl_mem {K : KT} {ρ : Nat → Nat} {f : LV} {i : Nat} {v : VV} (h : f.getD i none = some v) : (i, pm_v K ρ v) ∈ lvl K ρ f := by
  refine List.mem_filterMap.mpr ⟨i, List.mem_range.mpr ?_, by rw [h]⟩
  rcases Nat.lt_or_ge i f.length with q | q
  · exact q
  · rw [List.getD_eq_getElem?_getD, List.getElem?_eq_none q] at h
    cases h
theorem lvl_has {K : KT} {ρ : Nat → Nat} {al : List VR} {n nl : Nat} {ls : Array Slot} {f : LV} (h : lrel K ρ al n ls nl f) : lv_has ls nl (lvl K ρ f) := by
  refine ⟨h.1, h.2.1, fun q hq => ?_⟩
  obtain ⟨i, -, hi⟩ := List.mem_filterMap.mp hq
  cases hg : f.getD i none with
  | none => rw [hg] at hi; cases hi
  | some v =>
    rw [hg] at hi
    cases hi
    exact (h.2.2.2 i v hg).1
theorem getD_set (f : LV) (i j : Nat) (x : Option VV) : (f.set i x).getD j none = if i = j ∧ i < f.length then x else f.getD j none := by
  rw [List.getD_eq_getElem?_getD, List.getElem?_set, List.getD_eq_getElem?_getD]
  by_cases h : i = j
  · subst h
    rw [if_pos rfl]
    by_cases q : i < f.length
    · rw [if_pos q, if_pos ⟨rfl, q⟩]; rfl
    · rw [if_neg q, if_neg (fun z => q z.2), List.getElem?_eq_none (by omega)]
  · rw [if_neg h, if_neg (fun z => h z.1)]
theorem lkill_len (f : LV) (i : Nat) : (lkill f i).length = f.length := by
  unfold lkill
  split
  · rfl
  · split
    · rename_i v _
      cases Nat.beq (vcat v) 2
      · rfl
      · exact List.length_set
    · rfl
theorem lkill_get {f : LV} {i j : Nat} {w : VV} (h : (lkill f i).getD j none = some w) : f.getD j none = some w ∧ (j + 1 = i → vcat w ≠ 2) := by
  unfold lkill at h
  split at h
  · exact ⟨h, fun q => by omega⟩
  · rename_i k
    split at h
    · rename_i v hv
      cases hb : Nat.beq (vcat v) 2 with
      | true =>
        rw [hb] at h
        have h' : (f.set k none).getD j none = some w := h
        rw [getD_set] at h'
        split at h'
        · cases h'
        · rename_i hn
          refine ⟨h', fun q => ?_⟩
          have e : k = j := by omega
          exfalso
          apply hn
          refine ⟨e, ?_⟩
          rcases Nat.lt_or_ge k f.length with z | z
          · exact z
          · rw [List.getD_eq_getElem?_getD, List.getElem?_eq_none z] at hv
            cases hv
      | false =>
        rw [hb] at h
        have h' : f.getD j none = some w := h
        refine ⟨h', fun q => ?_⟩
        have e : j = k := by omega
        subst e
        rw [hv] at h'
        cases h'
        intro z
        rw [z] at hb
        cases hb
    · rename_i hv
      refine ⟨h, fun q => ?_⟩
      have e : j = k := by omega
      subst e
      rw [hv] at h
      cases h
theorem lput_len (f : LV) (i : Nat) (v : VV) : (lput f i v).length = f.length := by
  unfold lput
  cases Nat.beq (vcat v) 2
  · show ((lkill f i).set i (some v)).length = _
    rw [List.length_set, lkill_len]
  · show (((lkill f i).set i (some v)).set (i + 1) none).length = _
    rw [List.length_set, List.length_set, lkill_len]
theorem lput_get {f : LV} {i j : Nat} {v w : VV} (h : (lput f i v).getD j none = some w) : (j = i ∧ w = v) ∨ (j ≠ i ∧ f.getD j none = some w ∧ (j + 1 = i → vcat w ≠ 2) ∧ (vcat v = 2 → j ≠ i + 1)) := by
  unfold lput at h
  cases hb : Nat.beq (vcat v) 2 with
  | true =>
    rw [hb] at h
    have hc : vcat v = 2 := Nat.eq_of_beq_eq_true hb
    have h' : (((lkill f i).set i (some v)).set (i + 1) none).getD j none = some w := h
    rw [getD_set] at h'
    split at h'
    · cases h'
    · rename_i hn
      rw [getD_set] at h'
      split at h'
      · rename_i q
        exact Or.inl ⟨q.1.symm, (Option.some.inj h').symm⟩
      · rename_i q
        obtain ⟨a, b⟩ := lkill_get h'
        have hl : j < f.length := by
          rcases Nat.lt_or_ge j f.length with z | z
          · exact z
          · rw [List.getD_eq_getElem?_getD, List.getElem?_eq_none z] at a
            cases a
        refine Or.inr ⟨fun e => q ⟨e.symm, by rw [lkill_len]; omega⟩, a, b, fun _ e => hn ⟨e.symm, by rw [List.length_set, lkill_len]; omega⟩⟩
  | false =>
    rw [hb] at h
    have hc : vcat v ≠ 2 := fun e => by rw [e] at hb; cases hb
    have h' : ((lkill f i).set i (some v)).getD j none = some w := h
    rw [getD_set] at h'
    split at h'
    · rename_i q
      exact Or.inl ⟨q.1.symm, (Option.some.inj h').symm⟩
    · rename_i q
      obtain ⟨a, b⟩ := lkill_get h'
      have hl : j < f.length := by
        rcases Nat.lt_or_ge j f.length with z | z
        · exact z
        · rw [List.getD_eq_getElem?_getD, List.getElem?_eq_none z] at a
          cases a
      exact Or.inr ⟨fun e => q ⟨e.symm, by rw [lkill_len]; omega⟩, a, b, fun z => absurd z hc⟩
theorem lput_rel {K : KT} {ρ : Nat → Nat} {al : List VR} {n nl i : Nat} {ls ls' : Array Slot} {f : LV} {v : VV} (ho : (ko K).category = 1) (h : lrel K ρ al n ls nl f) (hv : okV K al n v)
    (h' : lv_has ls' nl ((i, pm_v K ρ v) :: (lvl K ρ f).filter (fun q => !(q.1 == i) && ((!(vcat v == 2 && q.1 == i + 1)) && !(q.1 + 1 == i && q.2.category == 2))))) : lrel K ρ al n ls' nl (lput f i v) := by
  refine ⟨h'.1, h'.2.1, by rw [lput_len]; exact h.2.2.1, fun j w hw => ?_⟩
  rcases lput_get hw with ⟨rfl, rfl⟩ | ⟨hne, hg, hk, h2⟩
  · exact ⟨h'.2.2 (j, pm_v K ρ w) List.mem_cons_self, hv⟩
  · refine ⟨h'.2.2 (j, pm_v K ρ w) (List.mem_cons_of_mem _ (List.mem_filter.mpr ⟨lvl_mem hg, ?_⟩)), (h.2.2.2 j w hg).2⟩
    have h1 : (j == i) = false := by simpa using hne
    have h3 : (vcat v == 2 && j == i + 1) = false := by
      by_cases q : vcat v = 2
      · have := h2 q
        simp [q, this]
      · simp [q]
    have h4 : (j + 1 == i && (pm_v K ρ w).category == 2) = false := by
      rw [pm_cat K ρ ho]
      by_cases q : j + 1 = i
      · have := hk q
        simp [this]
      · simp [q]
    dsimp only
    rw [h1, h3, h4]
    rfl
section SIM
variable {p : Program} {l : Launch} {e : Env} {R : Room} {s : State} {m : MethodId} {args : Array Value} {below : List Frame} {meth : Method} {c : Code} {Q : State → Prop}
variable {K : KT} {A : Nat → Prop} {ρ0 : Nat → Nat} {al0 : List VR} {n0 s0 mm : Nat} {pc : Nat} {lsv : LV} {r : List VV} {h : PH}
abbrev WW (p : Program) (l : Launch) (e : Env) (R : Room) (s : State) (m : MethodId) (args : Array Value) (below : List Frame) (meth : Method) (c : Code) (Q : State → Prop) (H : Heap) (locs : List Loc) (cells slots pc : Nat) (ls : Array Slot) (st : List Value) : Prop := W p l e R s m args below meth c H locs cells slots Q (F0 m pc ls st)
/-- a step on the stack alone -/
theorem sim_g {pc' : Nat} {st st' : List VV} (row : ∀ {ρ : Nat → Nat} {H : Heap} {locs : List Loc} {cells slots : Nat} {ls : Array Slot}, WW p l e R s m args below meth c Q H locs cells slots pc' ls (st'.map (pm_v K ρ)) → WW p l e R s m args below meth c Q H locs cells slots pc ls (st.map (pm_v K ρ)))
    (hv : ∀ (al : List VR) (n : Nat), (∀ v ∈ st, okV K al n v) → ∀ v ∈ st', okV K al n v) (k : PW p l e R s m args below meth c Q K A ρ0 al0 n0 s0 mm (pc', lsv, st', h)) : PW p l e R s m args below meth c Q K A ρ0 al0 n0 s0 mm (pc, lsv, st, h) := by
  intro ρ al H locs cells slots ls iH iS oH ix iN iM iL iV
  exact row (k ρ al H locs cells slots ls iH iS oH ix iN iM iL (hv al _ iV))
theorem sim_br {t : Nat} {st r : List VV} {q : Prop} [Decidable q] (row : ∀ {ρ : Nat → Nat} {H : Heap} {locs : List Loc} {cells slots : Nat} {ls : Array Slot}, (q → WW p l e R s m args below meth c Q H locs cells slots t ls (r.map (pm_v K ρ))) → (¬ q → WW p l e R s m args below meth c Q H locs cells slots (pc + 3) ls (r.map (pm_v K ρ))) → WW p l e R s m args below meth c Q H locs cells slots pc ls (st.map (pm_v K ρ)))
    (hv : ∀ (al : List VR) (n : Nat), (∀ v ∈ st, okV K al n v) → ∀ v ∈ r, okV K al n v) (k : PW p l e R s m args below meth c Q K A ρ0 al0 n0 s0 mm (if q then (t, lsv, r, h) else (pc + 3, lsv, r, h))) : PW p l e R s m args below meth c Q K A ρ0 al0 n0 s0 mm (pc, lsv, st, h) := by
  intro ρ al H locs cells slots ls iH iS oH ix iN iM iL iV
  refine row (fun z => ?_) (fun z => ?_)
  · rw [if_pos z] at k
    exact k ρ al H locs cells slots ls iH iS oH ix iN iM iL (hv al _ iV)
  · rw [if_neg z] at k
    exact k ρ al H locs cells slots ls iH iS oH ix iN iM iL (hv al _ iV)
theorem sim_ld {t i n : Nat} {st : List VV} {c' : Cf} (hs : sLd t i n pc lsv st h = some (.inl c')) (row : ∀ {ρ : Nat → Nat} {H : Heap} {locs : List Loc} {cells slots : Nat} {ls : Array Slot} {v : VV}, vkd v = t → ls[i]? = some (.val (pm_v K ρ v)) → WW p l e R s m args below meth c Q H locs cells slots (pc + n) ls (pm_v K ρ v :: st.map (pm_v K ρ)) → WW p l e R s m args below meth c Q H locs cells slots pc ls (st.map (pm_v K ρ)))
    (k : PW p l e R s m args below meth c Q K A ρ0 al0 n0 s0 mm c') : PW p l e R s m args below meth c Q K A ρ0 al0 n0 s0 mm (pc, lsv, st, h) := by
  unfold sLd at hs
  cases hg : lsv.getD i none with
  | none => rw [hg] at hs; cases hs
  | some v =>
    rw [hg] at hs
    dsimp only at hs
    cases hb : Nat.beq (vkd v) t with
    | false => rw [hb] at hs; cases hs
    | true =>
      rw [hb] at hs
      cases hs
      intro ρ al H locs cells slots ls iH iS oH ix iN iM iL iV
      obtain ⟨q1, q2⟩ := iL.2.2.2 i v hg
      exact row (Nat.eq_of_beq_eq_true hb) q1 (k ρ al H locs cells slots ls iH iS oH ix iN iM iL (List.forall_mem_cons.mpr ⟨q2, iV⟩))
theorem sim_sto {t i n : Nat} {st : List VV} {c' : Cf} (ho : (ko K).category = 1) (hs : sSt t i n pc lsv st h = some (.inl c')) (row : ∀ {ρ : Nat → Nat} {H : Heap} {locs : List Loc} {cells slots : Nat} {ls : Array Slot} {v : VV} {r : List VV} {lv : List (Nat × Value)}, vkd v = t → i + vcat v < mxl mm + 1 → lv_has ls (mxl mm) lv → (∀ ls', lv_has ls' (mxl mm) ((i, pm_v K ρ v) :: lv.filter (fun q => !(q.1 == i) && ((!(vcat v == 2 && q.1 == i + 1)) && !(q.1 + 1 == i && q.2.category == 2)))) → WW p l e R s m args below meth c Q H locs cells slots (pc + n) ls' (r.map (pm_v K ρ))) → WW p l e R s m args below meth c Q H locs cells slots pc ls (pm_v K ρ v :: r.map (pm_v K ρ)))
    (k : PW p l e R s m args below meth c Q K A ρ0 al0 n0 s0 mm c') : PW p l e R s m args below meth c Q K A ρ0 al0 n0 s0 mm (pc, lsv, st, h) := by
  match st, hs with
  | [], hs => cases hs
  | v :: r, hs =>
    unfold sSt at hs
    dsimp only at hs
    cases hb : (Nat.beq (vkd v) t && Nat.blt (i + vcat v) (lsv.length + 1)) with
    | false => rw [hb] at hs; cases hs
    | true =>
      rw [hb] at hs
      cases hs
      rw [Bool.and_eq_true] at hb
      intro ρ al H locs cells slots ls iH iS oH ix iN iM iL iV
      obtain ⟨iv, iV⟩ := List.forall_mem_cons.mp iV
      refine row (Nat.eq_of_beq_eq_true hb.1) (by have := Nat.blt_eq.mp hb.2; rw [iL.2.2.1] at this; exact this) (lvl_has iL) (fun ls' hl' => ?_)
      exact k ρ al H locs cells slots ls' iH iS oH ix iN iM (lput_rel ho iL iv hl') iV
theorem sim_i2 {f : Int32 → Int32 → Int32} {x y : Int32} (X : pm_X p s m args c K A mm)
    (row : ∀ {H : Heap} {locs : List Loc} {cells slots : Nat} {ls : Array Slot} {rest : List Value}, W p l e R s m args below meth c H locs cells slots Q (F0 m (pc + 1) ls (.int (f x y) :: rest)) → W p l e R s m args below meth c H locs cells slots Q (F0 m pc ls (.int y :: .int x :: rest)))
    (k : PW p l e R s m args below meth c Q K A ρ0 al0 n0 s0 mm (pc + 1, lsv, .inl (f x y) :: r, h)) : PW p l e R s m args below meth c Q K A ρ0 al0 n0 s0 mm (pc, lsv, .inl y :: .inl x :: r, h) := by
  intro ρ al H locs cells slots ls iH iS oH ix iN iM iL iV
  refine row (k ρ al H locs cells slots ls iH iS oH ix iN iM iL ?_)
  intro v hv
  rcases List.mem_cons.mp hv with rfl | hv
  · trivial
  · exact iV v (List.mem_cons_of_mem _ (List.mem_cons_of_mem _ hv))
theorem sim_iadd {x y : Int32} (X : pm_X p s m args c K A mm) (hd : decode (mb mm) pc = .ok (.iadd, 1)) (k : PW p l e R s m args below meth c Q K A ρ0 al0 n0 s0 mm (pc + 1, lsv, .inl (x + y) :: r, h)) : PW p l e R s m args below meth c Q K A ρ0 al0 n0 s0 mm (pc, lsv, .inl y :: .inl x :: r, h) :=
  sim_i2 (f := fun x y => x + y) X (fun w => lv_iadd X.1 X.2.1 hd w) k
end SIM
