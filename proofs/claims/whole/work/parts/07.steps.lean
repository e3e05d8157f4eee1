/-! One step of the pure machine is one of the machine. -/
def lrel (K : KT) (ρ : Nat → Nat) (al : List VR) (n : Nat) (ls : Array Slot) (nl : Nat) (f : LV) : Prop := ls.size = nl ∧ lv_wf ls ∧ f.length = nl ∧ ∀ (i : Nat) (v : VV), f.getD i none = some v → ls[i]? = some (.val (pm_v K ρ v)) ∧ okV K al n v
def pm_X (p : Program) (s : State) (m : MethodId) (args : Array Value) (c : Code) (K : KT) (A : Nat → Prop) (mm : Nat) : Prop :=
  p.tables.exec = Jvm.exec ∧ c.code = mb mm ∧ c.maxLocals = mxl mm ∧ s.vm.findClass (cnm (mow mm)) = some m.cls ∧ (∀ w ∈ TBL, w.before args s = true) ∧ pm_C K A s s.heap ∧ ∀ q, s.heap.size ≤ q → A q
def PW (p : Program) (l : Launch) (e : Env) (R : Room) (s : State) (m : MethodId) (args : Array Value) (below : List Frame) (meth : Method) (c : Code) (Q : State → Prop) (K : KT) (A : Nat → Prop) (ρ0 : Nat → Nat) (al0 : List VR) (n0 s0 mm : Nat) (cf : Cf) : Prop :=
  ∀ (ρ : Nat → Nat) (al : List VR) (H : Heap) (locs : List Loc) (cells slots : Nat) (ls : Array Slot), inH K A ρ al cf.2.2.2 H → va_S A s.heap H locs → okH K al cf.2.2.2 → pm_x ρ0 al0 ρ al → hN cf.2.2.2 = n0 + cells → hS cf.2.2.2 = s0 + slots → lrel K ρ al (hN cf.2.2.2) ls (mxl mm) cf.2.1 → (∀ v ∈ cf.2.2.1, okV K al (hN cf.2.2.2) v) →
    W p l e R s m args below meth c H locs cells slots Q (F0 m cf.1 ls (cf.2.2.1.map (pm_v K ρ)))
theorem pm_cat (K : KT) (ρ : Nat → Nat) (ho : (ko K).category = 1) (v : VV) : (pm_v K ρ v).category = vcat v := by
  match v with
  | .inl x => rfl
  | .inr (.inl x) => rfl
  | .inr (.inr (.inl x)) => rfl
  | .inr (.inr (.inr r)) =>
    show (pm_r K ρ r).category = 1
    unfold pm_r
    split
    · rfl
    · split
      · exact ho
      · rfl
section SIM
variable {p : Program} {l : Launch} {e : Env} {R : Room} {s : State} {m : MethodId} {args : Array Value} {below : List Frame} {meth : Method} {c : Code} {Q : State → Prop}
variable {K : KT} {A : Nat → Prop} {ρ0 : Nat → Nat} {al0 : List VR} {n0 s0 mm : Nat} {pc : Nat} {lsv : LV} {r : List VV} {h : PH}
theorem sim_i2 {f : Int32 → Int32 → Int32} {x y : Int32} (X : pm_X p s m args c K A mm)
    (row : ∀ {H : Heap} {locs : List Loc} {cells slots : Nat} {ls : Array Slot} {rest : List Value}, W p l e R s m args below meth c H locs cells slots Q (F0 m (pc + 1) ls (.int (f x y) :: rest)) → W p l e R s m args below meth c H locs cells slots Q (F0 m pc ls (.int y :: .int x :: rest)))
    (k : PW p l e R s m args below meth c Q K A ρ0 al0 n0 s0 mm (pc + 1, lsv, .inl (f x y) :: r, h)) : PW p l e R s m args below meth c Q K A ρ0 al0 n0 s0 mm (pc, lsv, .inl y :: .inl x :: r, h) := by
  intro ρ al H locs cells slots ls iH iS oH ix iN iM iL iV
  refine row (k ρ al H locs cells slots ls iH iS oH ix iN iM iL ?_)
  intro v hv
  rcases List.mem_cons.mp hv with rfl | hv
  · trivial
  · exact iV v (List.mem_cons_of_mem _ (List.mem_cons_of_mem _ hv))
theorem sim_iadd {x y : Int32} (X : pm_X p s m args c K A mm) (hd : decode (mb mm) pc = .ok (.iadd, 1)) (k : PW p l e R s m args below meth c Q K A ρ0 al0 n0 s0 mm (pc + 1, lsv, .inl (x + y) :: r, h)) : PW p l e R s m args below meth c Q K A ρ0 al0 n0 s0 mm (pc, lsv, .inl y :: .inl x :: r, h) :=
  sim_i2 (f := fun x y => x + y) X (fun w => lv_iadd X.1 X.2.1 hd w) k
end SIM
