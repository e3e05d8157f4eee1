/-! How the pure machine's stores stand in the machine's heap. -/
abbrev KT : Type := va_G × (Nat → ClassId) × (Nat → Nat) × (Nat → Nat) × (Nat → Nat) × Nat × Nat × Nat × Value × Nat × (Nat → Int32) × (Nat → Nat)
def kD (K : KT) : va_G := K.1
def kA (K : KT) : Nat → ClassId := K.2.1
def kE (K : KT) : Nat → Nat := K.2.2.1
def kS (K : KT) : Nat → Nat := K.2.2.2.1
def kB (K : KT) : Nat → Nat := K.2.2.2.2.1
def kk (K : KT) : Nat := K.2.2.2.2.2.1
def kw (K : KT) : Nat := K.2.2.2.2.2.2.1
def kx (K : KT) : Nat := K.2.2.2.2.2.2.2.1
def ko (K : KT) : Value := K.2.2.2.2.2.2.2.2.1
def kl (K : KT) : Nat := K.2.2.2.2.2.2.2.2.2.1
def ks (K : KT) : Nat → Int32 := K.2.2.2.2.2.2.2.2.2.2.1
/-- the constant arrays: two of texts, two of digits -/
def kf (K : KT) : Nat → Nat := K.2.2.2.2.2.2.2.2.2.2.2
def pm_tys (K : KT) : List (ClassId × FieldType) := [(kA K 20, .int), (kA K 21, .long), (kA K 22, .byte), (kA K 23, .object "CommaStream$Kind"), (kA K 24, .object "CommaStream$Goose"), (kA K 25, .object "CommaStream$Windows"), (kA K 26, .boolean), (kA K 27, .object "CommaStreamLaw$Tree"), (kA K 28, .array .int), (kA K 29, .array .boolean)]
/-- the cell of a reference: the constants' own, else by number -/
def pm_ad (K : KT) (ρ : Nat → Nat) (r : VR) : Nat := if r.1 = 40 then kE K r.2.2 else if r.1 = 41 then kk K else if r.1 = 42 then kw K else if r.1 = 43 then kS K r.2.2 else if r.1 = 44 then kB K r.2.2 else if r.1 = 45 then kx K else if r.1 = 47 then kf K r.2.2 else if r.1 = 48 then kf K (2 + r.2.2) else ρ r.2.2
def pm_r (K : KT) (ρ : Nat → Nat) (r : VR) : Value := if r.1 = 0 then .null else if r.1 = 46 then ko K else .ref (pm_ad K ρ r)
def pm_v (K : KT) (ρ : Nat → Nat) (v : VV) : Value := match v with
  | .inl x => .int x
  | .inr (.inl x) => .long x
  | .inr (.inr (.inl x)) => .double x
  | .inr (.inr (.inr r)) => pm_r K ρ r
def pm_o (K : KT) (ρ : Nat → Nat) (r : VR) : Option Nat := if r.1 = 0 then none else some (pm_ad K ρ r)
noncomputable def pm_f (K : KT) (ρ : Nat → Nat) (h : PH) (r : VR) (k : Nat) : Value := if fk r.1 k = 0 then .int (h.1 r.2.2 k) else if fk r.1 k = 1 then .long (h.2.1 r.2.2 k) else pm_r K ρ (h.2.2.1 r.2.2 k)
noncomputable def pm_e (K : KT) (ρ : Nat → Nat) (h : PH) (r : VR) : va_E :=
  if r.1 < 20 then .inr (r.1 - 1, (List.range (nF r.1)).map (pm_f K ρ h r))
  else if (r.1 < 23 ∨ r.1 = 26) then (if r.1 = 21 then .inl (kA K 21, (r.2.1, .inr (.inl (h.2.1 r.2.2)))) else .inl (kA K r.1, (r.2.1, .inl (h.1 r.2.2))))
  else .inl (kA K r.1, (r.2.1, .inr (.inr (.inr (.inr (fun j => pm_o K ρ (h.2.2.1 r.2.2 j)))))))
noncomputable def pm_w (K : KT) (ρ : Nat → Nat) (h : PH) (al : List VR) : va_W := al.map (fun r => (ρ r.2.2, pm_e K ρ h r))
/-- a reference that may be held -/
def okR (K : KT) (al : List VR) (n : Nat) (r : VR) : Prop := r.1 = 0 ∨ (r.1 = 40 ∧ r.2.2 < 38) ∨ (r.1 = 41 ∧ r.2.1 = 38) ∨ (r.1 = 42 ∧ r.2.1 = 38) ∨ (r.1 = 43 ∧ r.2.2 < 70) ∨ (r.1 = 44 ∧ r.2.2 < 70 ∧ r.2.1 = slen r.2.2) ∨ (r.1 = 45 ∧ r.2.1 = kl K ∧ r.2.2 = 0) ∨ (r.1 = 46 ∨ (r.1 = 47 ∧ r.2.1 = 4 ∧ r.2.2 < 2) ∨ (r.1 = 48 ∧ r.2.1 = 100 ∧ r.2.2 < 2)) ∨ (r.1 = 30 ∧ r.2.2 < 0 ∧ r.2.2 < n) ∨ r ∈ al
def okV (K : KT) (al : List VR) (n : Nat) (v : VV) : Prop := match v with
  | .inr (.inr (.inr r)) => okR K al n r
  | _ => True
/-- the cells that live: of a kind that is made, each with its own number below n -/
def okA (al : List VR) (n : Nat) : Prop := (∀ r ∈ al, ((1 ≤ r.1 ∧ r.1 ≤ 15) ∨ (20 ≤ r.1 ∧ r.1 ≤ 29)) ∧ 0 < r.2.2 ∧ r.2.2 < n) ∧ (∀ (i j : Nat) (p q : VR), al[i]? = some p → al[j]? = some q → p.2.2 = q.2.2 → i = j) ∧ 0 < n
/-- what the stores say by themselves -/
def okH (K : KT) (al : List VR) (h : PH) : Prop := okA al (hN h) ∧ (∀ r ∈ al, ∀ k, okR K al (hN h) (h.2.2.1 r.2.2 k) ∧ (h.2.2.1 r.2.2 k).1 ≠ 46) ∧ (∀ a, hN h ≤ a → ∀ k, h.1 a k = 0 ∧ h.2.1 a k = 0 ∧ h.2.2.1 a k = (0, 0, 0)) ∧ ∀ j, h.1 0 j = ks K j
/-- the stores in the heap H -/
def inH (K : KT) (A : Nat → Prop) (ρ : Nat → Nat) (al : List VR) (h : PH) (H : Heap) : Prop := va_P (kD K) pm_cl (pm_w K ρ h al) H ∧ va_D A (pm_w K ρ h al)
/-- later cells beside the old ones -/
def pm_x (ρ0 : Nat → Nat) (al0 : List VR) (ρ : Nat → Nat) (al : List VR) : Prop := ∀ r ∈ al0, r ∈ al ∧ ρ r.2.2 = ρ0 r.2.2
def pm_AA (t : FieldType) (U : State) : Prop := (Cond.arrayOver (.array t)).before #[] U = true
theorem pm_AA.moved {t : FieldType} {u U : State} (hvm : u.vm.Alike U.vm) (h : pm_AA t u) : pm_AA t U := by
  obtain ⟨comp, c, k, h1, h2, h3, h4, h5⟩ := arrayOverA_spec h
  obtain ⟨k', hk', he⟩ := hvm.2.2 _ _ h3
  have e9 : u.vm.bare = U.vm.bare := by first | exact hvm.bare_eq | exact hvm.bare_eq.symm
  have h6 := (va_idx_bare u.vm comp).trans h2
  rw [e9] at h6
  have hi := (va_idx_bare U.vm comp).symm.trans h6
  have hkind : k'.kind = .array comp (.array t) := by rw [he]; exact h4
  have f1 : U.vm.findClass (FieldType.array t).toString = some comp := by rw [hvm.findClass]; exact h1
  have f2 : U.vm.findClass ("[" ++ (FieldType.array t).toString) = some c := by rw [hvm.findClass]; exact h5
  unfold pm_AA Cond.before Cond.holds
  simp only [Cond.value]
  rw [f1, Option.bind_some]
  refine (congrArg (fun o : Option Nat => (o.bind (fun c => (U.vm.classes[c]?).map fun (k : Class) => match k.kind with | .array _ ty => decide (ty = FieldType.array t) && decide (U.vm.findClass ("[" ++ (FieldType.array t).toString) = some c) | _ => false) == some true)) hi).trans ?_
  simp [hk', hkind, f2]
/-- what is never written: the constants, and what the tables alone decide -/
def pm_C (K : KT) (A : Nat → Prop) (U : State) (H : Heap) : Prop :=
  va_K (kD K) pm_cl (pm_tys K) U ∧
  va_Ec "CommaStream$Kind" "CommaStream$Kind" "LCommaStream$Kind;" enL ordF (kE K) A U H ∧
  va_Ef 38 "CommaStream$Kind" "text" "Ljava/lang/String;" (fun i => .ref (kS K (tid i))) (kE K) A U H ∧
  (∀ i, i < 70 → va_O "java/lang/String" (kS K i) A U H ∧ va_OF "java/lang/String" "coder" "B" (.int 0) (kS K i) A U H ∧ va_OF "java/lang/String" "value" "[B" (.ref (kB K i)) (kS K i) A U H ∧ va_T .byte (kB K i) (slen i) (fun j => .int (sbyt i j)) A U H) ∧
  va_Z "CommaStream" "KINDS" "[LCommaStream$Kind;" (.ref (kk K)) A U H ∧ va_T (.object "CommaStream$Kind") (kk K) 38 (fun j => .ref (kE K j)) A U H ∧
  va_Z "CommaStream$1" "$SwitchMap$CommaStream$Kind" "[I" (.ref (kw K)) A U H ∧ va_T .int (kw K) 38 (fun j => .int (swmL.getD j 0)) A U H ∧
  (∀ i, i < 2 → (va_Z "CommaStreamLaw$Book" (if i = 0 then "FIELDS" else "TELLS") "[Ljava/lang/String;" (.ref (kf K i)) A U H ∧ va_T (.object "java/lang/String") (kf K i) 4 (fun j => .ref (kS K (fid i j))) A U H) ∧ (va_Z "java/lang/Integer" (if i = 0 then "DigitOnes" else "DigitTens") "[B" (.ref (kf K (2 + i))) A U H ∧ va_T .byte (kf K (2 + i)) 100 (fun j => .int (dgt i j)) A U H)) ∧
  va_Z "java/lang/String" "COMPACT_STRINGS" "Z" (.int 1) A U H ∧
  va_Z "jdk/internal/util/Preconditions" "SIOOBE_FORMATTER" "Ljava/util/function/BiFunction;" (ko K) A U H ∧
  vx_Zq Bundle.tN "UNASSIGNED_STACK" Bundle.steD A U H ∧ vx_Zq Bundle.tN "SUPPRESSED_SENTINEL" Bundle.listD A U H ∧
  (va_X (kx K) (kl K) (ks K) U H ∧ kx K < H.size ∧ ¬ A (kx K)) ∧
  (∀ q ∈ msL, ∃ a, vk_R "CommaStream" q.1 q.2 a U) ∧
  (∀ q ∈ lsL, vk_R "CommaStreamLaw$Book" q.1 q.2.1 (kS K q.2.2) U) ∧
  (∀ w ∈ NW, va_Nw w U) ∧ va_AO "CommaStream$Kind" U ∧ va_AO "CommaStream$Goose" U ∧ (va_AO "CommaStream$Windows" U ∧ va_AO "CommaStreamLaw$Tree" U ∧ pm_AA .int U ∧ pm_AA .boolean U) ∧
  True ∧ True
theorem pm_nest_warm {w : Cond} (hn : pm_nest w = true) {s U : State} (hW : s.WarmedH U.vm) (h : va_Nw w s) : va_Nw w U := by
  cases w <;> first | exact va_Nw.warmF hW h | exact va_Nw.warmM hW h | exact va_Nw.warmD hW h | exact va_Nw.warmC hW h | exact absurd hn (by simp [pm_nest])
theorem pm_C.go {K : KT} {A B : Nat → Prop} {s U : State} {H H1 : Heap} (h : pm_C K A s H) (hW : s.WarmedH U.vm) (hq : ∀ a : Nat, a < H.size → ¬ A a → H1[a]? = H[a]?) (hz : H.size ≤ H1.size) (hAB : ∀ q, B q → A q) : pm_C K B U H1 := by
  obtain ⟨h1, h2, h3, h4, h5, h6, h7, h8, h9, h10, h11, h12, h13, ⟨h14, h15, h16⟩, h17, h18, h19, h20, h21, h22, h23, h24⟩ := h
  have al := hW.alike
  refine ⟨va_K.moved al h1, ((va_Ec.moved al h2).kept hq).narrow hAB, ((va_Ef.moved al h3).kept hq).narrow hAB, fun i hi => ?_, ((va_Z.moved al h5).kept hq).narrow hAB, ((va_T.moved al h6).kept hq).narrow hAB, ((va_Z.moved al h7).kept hq).narrow hAB, ((va_T.moved al h8).kept hq).narrow hAB, fun i hi => ⟨⟨((va_Z.moved al (h9 i hi).1.1).kept hq).narrow hAB, ((va_T.moved al (h9 i hi).1.2).kept hq).narrow hAB⟩, ⟨((va_Z.moved al (h9 i hi).2.1).kept hq).narrow hAB, ((va_T.moved al (h9 i hi).2.2).kept hq).narrow hAB⟩⟩, ((va_Z.moved al h10).kept hq).narrow hAB, ((va_Z.moved al h11).kept hq).narrow hAB, ((vx_Zq.moved al h12).kept hq).narrow hAB, ((vx_Zq.moved al h13).kept hq).narrow hAB, ⟨(va_X.moved al h14).kept (hq _ h15 h16), Nat.lt_of_lt_of_le h15 hz, fun z => h16 (hAB _ z)⟩, fun q h => ?_, fun q h => vk_R.warm hW (h18 q h), fun w h => ?_, va_AO.moved al h20, va_AO.moved al h21, ⟨va_AO.moved al h22.1, va_AO.moved al h22.2.1, pm_AA.moved al h22.2.2.1, pm_AA.moved al h22.2.2.2⟩, trivial, trivial⟩
  · obtain ⟨a1, a2, a3, a4⟩ := h4 i hi
    exact ⟨((va_O.moved al a1).kept hq).narrow hAB, ((va_OF.moved al a2).kept hq).narrow hAB, ((va_OF.moved al a3).kept hq).narrow hAB, ((va_T.moved al a4).kept hq).narrow hAB⟩
  · obtain ⟨a, h9⟩ := h17 q h
    exact ⟨a, vk_R.warm hW h9⟩
  · exact pm_nest_warm (List.mem_filter.mp h).2 hW (h19 w h)
/-! the world's list: one cell's entry, one cell changed, one cell more -/
theorem pm_w_get {K : KT} {ρ : Nat → Nat} {h : PH} {al : List VR} {r : VR} (hr : r ∈ al) : ∃ q0 : Nat, (pm_w K ρ h al)[q0]? = some (ρ r.2.2, pm_e K ρ h r) ∧ al[q0]? = some r := by
  obtain ⟨i, hi⟩ := List.getElem?_of_mem hr
  exact ⟨i, by unfold pm_w; rw [List.getElem?_map, hi]; rfl, hi⟩
theorem pm_w_set {K : KT} {ρ : Nat → Nat} {h h' : PH} {al : List VR} {r : VR} {q0 n : Nat} {e : va_E} (hA : okA al n) (hq : al[q0]? = some r) (he : e = pm_e K ρ h' r) (ho : ∀ r2 ∈ al, r2.2.2 ≠ r.2.2 → pm_e K ρ h' r2 = pm_e K ρ h r2) : (pm_w K ρ h al).set q0 (ρ r.2.2, e) = pm_w K ρ h' al := by
  apply List.ext_getElem?
  intro i
  unfold pm_w
  rw [List.getElem?_set, List.getElem?_map, List.length_map]
  by_cases hi : q0 = i
  · subst hi
    have hlt := (List.getElem?_eq_some_iff.mp hq).1
    rw [if_pos rfl, if_pos hlt, List.getElem?_map, hq, he]
    rfl
  · rw [if_neg hi, List.getElem?_map]
    cases hc : al[i]? with
    | none => rfl
    | some r2 =>
      have hne : r2.2.2 ≠ r.2.2 := fun e => hi (hA.2.1 q0 i r r2 hq hc e.symm)
      show some (ρ r2.2.2, pm_e K ρ h r2) = some (ρ r2.2.2, pm_e K ρ h' r2)
      rw [ho r2 (List.mem_of_getElem? hc) hne]
theorem pm_ad_of {K : KT} {ρ : Nat → Nat} {al : List VR} {n : Nat} (hA : okA al n) {r : VR} (hr : r ∈ al) : pm_ad K ρ r = ρ r.2.2 := by
  have := (hA.1 r hr).1
  unfold pm_ad
  rw [if_neg (by omega), if_neg (by omega), if_neg (by omega), if_neg (by omega), if_neg (by omega), if_neg (by omega), if_neg (by omega), if_neg (by omega)]
theorem pm_r_of {K : KT} {ρ : Nat → Nat} {al : List VR} {n : Nat} (hA : okA al n) {r : VR} (hr : r ∈ al) : pm_r K ρ r = .ref (ρ r.2.2) := by
  have := (hA.1 r hr).1
  unfold pm_r
  rw [if_neg (by omega), if_neg (by omega), pm_ad_of hA hr]
/-- a number that no live cell bears -/
theorem pm_r_up {K : KT} {ρ : Nat → Nat} {al : List VR} {n a : Nat} (hA : okA al n) {r : VR} (hr : okR K al n r) : pm_r K (fun x => if x = n then a else ρ x) r = pm_r K ρ r := by
  unfold pm_r pm_ad
  by_cases h0 : r.1 = 0
  · rw [if_pos h0, if_pos h0]
  rw [if_neg h0, if_neg h0]
  by_cases h46 : r.1 = 46
  · rw [if_pos h46, if_pos h46]
  rw [if_neg h46, if_neg h46]
  rcases hr with h | h | h | h | h | h | h | h | h | h
  · exact absurd h h0
  · rw [if_pos h.1, if_pos h.1]
  · rw [if_neg (by omega), if_pos h.1, if_neg (by omega), if_pos h.1]
  · rw [if_neg (by omega), if_neg (by omega), if_pos h.1, if_neg (by omega), if_neg (by omega), if_pos h.1]
  · rw [if_neg (by omega), if_neg (by omega), if_neg (by omega), if_pos h.1, if_neg (by omega), if_neg (by omega), if_neg (by omega), if_pos h.1]
  · rw [if_neg (by omega), if_neg (by omega), if_neg (by omega), if_neg (by omega), if_pos h.1, if_neg (by omega), if_neg (by omega), if_neg (by omega), if_neg (by omega), if_pos h.1]
  · rw [if_neg (by omega), if_neg (by omega), if_neg (by omega), if_neg (by omega), if_neg (by omega), if_pos h.1, if_neg (by omega), if_neg (by omega), if_neg (by omega), if_neg (by omega), if_neg (by omega), if_pos h.1]
  · rcases h with h | h | h
    · exact absurd h h46
    · rw [if_neg (by omega), if_neg (by omega), if_neg (by omega), if_neg (by omega), if_neg (by omega), if_neg (by omega), if_pos h.1, if_neg (by omega), if_neg (by omega), if_neg (by omega), if_neg (by omega), if_neg (by omega), if_neg (by omega), if_pos h.1]
    · rw [if_neg (by omega), if_neg (by omega), if_neg (by omega), if_neg (by omega), if_neg (by omega), if_neg (by omega), if_neg (by omega), if_pos h.1, if_neg (by omega), if_neg (by omega), if_neg (by omega), if_neg (by omega), if_neg (by omega), if_neg (by omega), if_neg (by omega), if_pos h.1]
  · have hne : r.2.2 ≠ n := by omega
    rw [if_neg (by omega), if_neg (by omega), if_neg (by omega), if_neg (by omega), if_neg (by omega), if_neg (by omega), if_neg (by omega), if_neg (by omega), if_neg (by omega), if_neg (by omega), if_neg (by omega), if_neg (by omega), if_neg (by omega), if_neg (by omega), if_neg (by omega), if_neg (by omega)]
    dsimp only
    rw [if_neg hne]
  · have h1 := hA.1 r h
    have hne : r.2.2 ≠ n := by omega
    rw [if_neg (by omega), if_neg (by omega), if_neg (by omega), if_neg (by omega), if_neg (by omega), if_neg (by omega), if_neg (by omega), if_neg (by omega), if_neg (by omega), if_neg (by omega), if_neg (by omega), if_neg (by omega), if_neg (by omega), if_neg (by omega), if_neg (by omega), if_neg (by omega)]
    dsimp only
    rw [if_neg hne]
theorem okR_more {K : KT} {al al2 : List VR} {n n2 : Nat} {r : VR} (h : okR K al n r) (hn : n ≤ n2) (hs : ∀ r ∈ al, r ∈ al2) : okR K al2 n2 r := by
  rcases h with h | h | h | h | h | h | h | h | h | h
  · exact Or.inl h
  · exact Or.inr (Or.inl h)
  · exact Or.inr (Or.inr (Or.inl h))
  · exact Or.inr (Or.inr (Or.inr (Or.inl h)))
  · exact Or.inr (Or.inr (Or.inr (Or.inr (Or.inl h))))
  · exact Or.inr (Or.inr (Or.inr (Or.inr (Or.inr (Or.inl h)))))
  · exact Or.inr (Or.inr (Or.inr (Or.inr (Or.inr (Or.inr (Or.inl h))))))
  · exact Or.inr (Or.inr (Or.inr (Or.inr (Or.inr (Or.inr (Or.inr (Or.inl h)))))))
  · exact Or.inr (Or.inr (Or.inr (Or.inr (Or.inr (Or.inr (Or.inr (Or.inr (Or.inl ⟨h.1, h.2.1, Nat.lt_of_lt_of_le h.2.2 hn⟩))))))))
  · exact Or.inr (Or.inr (Or.inr (Or.inr (Or.inr (Or.inr (Or.inr (Or.inr (Or.inr (hs r h)))))))))
theorem pm_ad_up {K : KT} {ρ : Nat → Nat} {al : List VR} {n a : Nat} (hA : okA al n) {r : VR} (hr : okR K al n r) (h0 : r.1 ≠ 0) (h46 : r.1 ≠ 46) : pm_ad K (fun x => if x = n then a else ρ x) r = pm_ad K ρ r := by
  have h := pm_r_up (ρ := ρ) (a := a) hA hr
  unfold pm_r at h
  rw [if_neg h0, if_neg h46, if_neg h0, if_neg h46] at h
  injection h
theorem pm_o_up {K : KT} {ρ : Nat → Nat} {al : List VR} {n a : Nat} (hA : okA al n) {r : VR} (hr : okR K al n r) (h46 : r.1 ≠ 46) : pm_o K (fun x => if x = n then a else ρ x) r = pm_o K ρ r := by
  unfold pm_o
  by_cases h0 : r.1 = 0
  · rw [if_pos h0, if_pos h0]
  · rw [if_neg h0, if_neg h0, pm_ad_up hA hr h0 h46]
theorem pm_v_up {K : KT} {ρ : Nat → Nat} {al : List VR} {n a : Nat} (hA : okA al n) {v : VV} (hv : okV K al n v) : pm_v K (fun x => if x = n then a else ρ x) v = pm_v K ρ v := by
  match v, hv with
  | .inl x, _ => rfl
  | .inr (.inl x), _ => rfl
  | .inr (.inr (.inl x)), _ => rfl
  | .inr (.inr (.inr r)), hv => exact pm_r_up hA hv
theorem okV_more {K : KT} {al al2 : List VR} {n n2 : Nat} {v : VV} (h : okV K al n v) (hn : n ≤ n2) (hs : ∀ r ∈ al, r ∈ al2) : okV K al2 n2 v := by
  match v, h with
  | .inl x, _ => trivial
  | .inr (.inl x), _ => trivial
  | .inr (.inr (.inl x)), _ => trivial
  | .inr (.inr (.inr r)), h => exact okR_more h hn hs
theorem pm_e_up {K : KT} {ρ : Nat → Nat} {al : List VR} {h : PH} {k a : Nat} (o : okH K al h) {r : VR} (hr : r ∈ al) : pm_e K (fun x => if x = hN h then a else ρ x) (grow h k) r = pm_e K ρ h r := by
  have ef : pm_f K (fun x => if x = hN h then a else ρ x) (grow h k) r = pm_f K ρ h r := by
    funext j
    unfold pm_f
    show (if _ then _ else if _ then _ else pm_r K _ (h.2.2.1 r.2.2 j)) = _
    rw [pm_r_up o.1 (o.2.1 r hr j).1]
    rfl
  have eo : (fun j => pm_o K (fun x => if x = hN h then a else ρ x) (h.2.2.1 r.2.2 j)) = (fun j => pm_o K ρ (h.2.2.1 r.2.2 j)) := by
    funext j
    exact pm_o_up o.1 (o.2.1 r hr j).1 (o.2.1 r hr j).2
  unfold pm_e
  rw [ef]
  show (if _ then _ else if _ then _ else Sum.inl (kA K r.1, r.2.1, Sum.inr (Sum.inr (Sum.inr (Sum.inr (fun j => pm_o K (fun x => if x = hN h then a else ρ x) (h.2.2.1 r.2.2 j))))))) = _
  rw [eo]
  rfl
theorem pm_w_new {K : KT} {ρ : Nat → Nat} {al : List VR} {h : PH} {k q : Nat} {r : VR} (o : okH K al h) (hr : r.2.2 = hN h) : pm_w K (fun x => if x = hN h then q else ρ x) (grow h k) (al ++ [r]) = pm_w K ρ h al ++ [(q, pm_e K (fun x => if x = hN h then q else ρ x) (grow h k) r)] := by
  unfold pm_w
  rw [List.map_append]
  congr 1
  · apply List.map_congr_left
    intro r2 h2
    have hb := (o.1.1 r2 h2).2.2
    rw [pm_e_up o h2]
    dsimp only
    rw [if_neg (by omega)]
  · show [((if r.2.2 = hN h then q else ρ r.2.2), _)] = _
    rw [if_pos hr]
theorem okH_new {K : KT} {al : List VR} {h : PH} {k : Nat} {r : VR} (o : okH K al h) (hr : r.2.2 = hN h) (hk : (1 ≤ r.1 ∧ r.1 ≤ 15) ∨ (20 ≤ r.1 ∧ r.1 ≤ 29)) : okH K (al ++ [r]) (grow h k) := by
  obtain ⟨⟨o1, o2, o5⟩, o3, o4, o6⟩ := o
  have hn : hN (grow h k) = hN h + 1 := rfl
  have sub2 : ∀ r2 ∈ al, r2 ∈ al ++ [r] := fun r2 h2 => List.mem_append_left _ h2
  refine ⟨⟨fun r2 h2 => ?_, fun i j p q hi hj he => ?_, by rw [hn]; omega⟩, fun r2 h2 j => ?_, fun a ha j => o4 a (by rw [hn] at ha; omega) j, o6⟩
  · rcases List.mem_append.mp h2 with z | z
    · have := o1 r2 z
      exact ⟨this.1, this.2.1, by rw [hn]; omega⟩
    · rw [List.mem_singleton] at z
      subst z
      exact ⟨hk, by omega, by rw [hn]; omega⟩
  · have hh : ∀ (i : Nat) (p : VR), (al ++ [r])[i]? = some p → (al[i]? = some p ∧ p.2.2 < hN h) ∨ (i = al.length ∧ p = r) := by
      intro i p hi
      rcases Nat.lt_or_ge i al.length with z | z
      · rw [List.getElem?_append_left z] at hi
        exact Or.inl ⟨hi, (o1 p (List.mem_of_getElem? hi)).2.2⟩
      · rw [List.getElem?_append_right z] at hi
        have hz : i - al.length < 1 := (List.getElem?_eq_some_iff.mp hi).1
        rw [show i - al.length = 0 by omega] at hi
        exact Or.inr ⟨by omega, (Option.some.inj hi).symm⟩
    rcases hh i p hi with ⟨a1, a2⟩ | ⟨a1, a2⟩ <;> rcases hh j q hj with ⟨b1, b2⟩ | ⟨b1, b2⟩
    · exact o2 i j p q a1 b1 he
    · subst b2; omega
    · subst a2; omega
    · omega
  · rcases List.mem_append.mp h2 with z | z
    · exact ⟨okR_more (o3 r2 z j).1 (by rw [hn]; omega) sub2, (o3 r2 z j).2⟩
    · rw [List.mem_singleton] at z
      subst z
      have := (o4 r2.2.2 (by omega) j).2.2
      show okR K (al ++ [r2]) _ (h.2.2.1 r2.2.2 j) ∧ (h.2.2.1 r2.2.2 j).1 ≠ 46
      rw [this]
      exact ⟨Or.inl rfl, by decide⟩
