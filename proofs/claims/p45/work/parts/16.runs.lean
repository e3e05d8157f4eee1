/-! A run of the pure machine is a run of the machine. -/
/-- what a body's walk stands on -/
def pm_B (p : Program) (l : Launch) (e : Env) (R : Room) (s : State) (m : MethodId) (args : Array Value) (below : List Frame) (meth : Method) (c : Code) (Q : State → Prop) (K : KT) (ρ0 : Nat → Nat) (al0 : List VR) (n0 s0 mm d : Nat) (rr : Rs × PH) : Prop :=
  pm_X p s m args c K (pm_A ρ0 al0 s.heap.size) mm ∧ pm_ko K ∧ (mini mm = true → meth.name = "<init>") ∧ (d + 10 ≤ R.frames ∧ 60 * d + 300 ≤ R.locals) ∧ (hN rr.2 ≤ n0 + R.cells ∧ hS rr.2 ≤ s0 + R.slots) ∧
  (∀ cf, step mm cf = some (.inr (.inr rr)) → PW p l e R s m args below meth c Q K (pm_A ρ0 al0 s.heap.size) ρ0 al0 n0 s0 mm cf) ∧
  (∀ (pc x : Nat) (h2 : PH), (match hnd mm pc x with | none => bif Nat.blt 24 mm then some ((Sum.inr x : Rs), h2) else none | some k => match hres mm k with | some v => some ((Sum.inl (some (.inl v)) : Rs), h2) | none => none) = some rr → ∀ (ρ : Nat → Nat) (al : List VR) (H : Heap) (locs : List Loc) (cells slots : Nat) (ls : Array Slot) (q : Addr) (ce : Cell) (rest : List Value), inH K (pm_A ρ0 al0 s.heap.size) ρ al h2 H → va_S (pm_A ρ0 al0 s.heap.size) s.heap H locs → okH K al h2 → okA al (hN h2 - 1) → pm_x ρ0 al0 ρ al → hN h2 = n0 + cells → hS h2 = s0 + slots → ls.size = mxl mm ∧ lv_wf ls → H[q]? = some ce → ce.vm = .none → s.vm.findClass (exn x) = some ce.cls → vx_W p l e R s m args below meth c H locs cells slots Q (F0 m pc ls rest) q)
def pm_S (l : Launch) (n : Nat) : Prop := ∀ {p : Program} {e : Env} {R : Room} {s : State} {m : MethodId} {args : Array Value} {below : List Frame} {meth : Method} {c : Code} {Q : State → Prop} {K : KT} {ρ0 : Nat → Nat} {al0 : List VR} {n0 s0 mm d : Nat} {rr : Rs × PH},
  pm_B p l e R s m args below meth c Q K ρ0 al0 n0 s0 mm d rr → ∀ cf, run n d mm cf = some rr → PW p l e R s m args below meth c Q K (pm_A ρ0 al0 s.heap.size) ρ0 al0 n0 s0 mm cf
theorem thr_of {o idx m y pc : Nat} {i : Instr} (hf : fetch m pc = some i) (hi : i = (match o with | 0 => .invokevirtual idx | 1 => .invokespecial idx | _ => .invokestatic idx)) (h : thr m y pc = true) : o = 0 ∧ MQN (ky m idx) = false ∧ y ≠ 213 ∧ y ≠ 196 := by
  unfold thr at h
  rw [hf, hi, Bool.and_eq_true, Bool.and_eq_true] at h
  obtain ⟨⟨h1, h1b⟩, h2⟩ := h
  have h3 : y ≠ 213 ∧ y ≠ 196 := ⟨(fun z => by (subst z; cases h1)), (fun z => by (subst z; cases h1b))⟩
  match o, h2 with
  | 0, h2 =>
    refine ⟨rfl, ?_, h3⟩
    have h4 : (!MQN (ky m idx)) = true := h2
    cases q : MQN (ky m idx)
    · rfl
    · rw [q] at h4; cases h4
  | 1, h2 => cases h2
  | n + 2, h2 => cases h2
/-- a contract out of a run -/
theorem ct_of {l : Launch} (hl : l.stackTraces = false) {n : Nat} (B : pm_S l n) {d y : Nat} {a : List VV} {h : PH} {rr : Rs × PH} (hy : okM y) (ha : (layA a).length ≤ mxl y) (hr : run n d y (0, entL y a, [], h) = some rr) : CT l d y a h rr := by
  intro K ρ al sz hko oH hv
  obtain ⟨f1, f2, f3, f4, f5, f6, f7, f8, f9, f10⟩ := m_facts hy
  have hm := run_mono n d y _ rr hr
  have hm : hN h ≤ hN rr.2 ∧ hS h ≤ hS rr.2 := hm
  have hko' := pm_ko_cat hko
  have hn : hN rr.2 = hN h + (hN rr.2 - hN h) ∧ hS rr.2 = hS h + (hS rr.2 - hS h) := by omega
  have h25 : 24 < y := f10
  · have hw : wsm y = Cond.code (mn y) (mb y) (mxl y) (mrt y) :: TBL := by unfold wsm; rw [mhd_code (y := y)]
    refine vx_ofW (cc := mb y) (maxL := mxl y) (ret := mrt y) f5 hw ?_
    intro p e s m args below meth c s₁ Bd hml htb hP
    obtain ⟨hargs, hsz, hH, hC⟩ := hP
    subst hsz
    have hts := atoms_spec (ws := wsm y) Bd.pre
    have X : pm_X p s m args c K (pm_A ρ al s.heap.size) y := ⟨Bd.exec, Bd.bytes, hml, by rw [f8]; exact findClass_of_methodNamed Bd.named, fun w hw => hts w (List.mem_cons_of_mem _ hw), hC, fun q hq => Or.inr hq⟩
    have hB : pm_B p l e (headSpec (wsm y) (RM d (hN rr.2 - hN h) (hS rr.2 - hS h))).room s m args below meth c (vx_MQ below (pm_Qc K ρ al s.heap.size rr) (pm_XC K ρ al s.heap.size rr) args s (hN rr.2 - hN h) (hS rr.2 - hS h) (pm_A ρ al s.heap.size)) K ρ al (hN h) (hS h) y d rr := by
      refine ⟨X, hko, fun z => ?_, ⟨Nat.le_refl _, Nat.le_refl _⟩, ⟨by show _ ≤ hN h + (hN rr.2 - hN h); omega, by show _ ≤ hS h + (hS rr.2 - hS h); omega⟩, fun cf hs => ?_, ?_⟩
      · rw [z] at f9
        exact (name_of_methodNamed Bd.named Bd.method).1.trans (of_decide_eq_true f9.symm)
      · obtain ⟨pc, lsv, st, h1⟩ := cf
        exact sim_end X hko hl Bd.notSynchronized Bd.returns (fun _ => htb) (fun _ => h25) ⟨by show 10 ≤ d + 10; omega, by show 200 ≤ 60 * d + 300; omega, rfl, rfl⟩ hs hn
      · intro pc x h2 hrr ρ' al' H locs cells slots ls q ce rest iH iS oH' oA ix iN iM iL hce hcv hcl
        cases hh : hnd y pc x with
        | some k => rw [hnd_none] at hh; cases hh
        | none =>
          rw [hh] at hrr
          dsimp only at hrr
          rw [Nat.blt_eq.mpr h25] at hrr
          cases hrr
          have hn9 : hN h2 = hN h + (hN h2 - hN h) ∧ hS h2 = hS h + (hS h2 - hS h) := hn
          refine vx_out (fun x hx => (htb x hx).elim) Bd.notSynchronized hce hcv hcl (fun t ht _ => ⟨x, rfl, rfl, ρ', al', oA, by rw [ht]; exact iH, oH', ix, iS.F ht⟩) iS.2.2 ?_ ?_
          · show cells ≤ hN h2 - hN h; omega
          · show slots ≤ hS h2 - hS h; omega
    have e9 : entryFrame m args (mxl y) = F0 m 0 ((lg_sl (a.map (pm_v K ρ)) ++ List.replicate (mxl y - (lg_sl (a.map (pm_v K ρ))).length) Slot.unset).toArray) [] := by rw [hargs, lg_entry_eq]
    rw [e9]
    exact B hB (0, entL y a, [], h) hr ρ al s.heap [] 0 0 _ hH ⟨Nat.le_refl _, fun _ _ _ => rfl, fun _ h => nomatch h⟩ oH (fun r hr => ⟨hr, rfl⟩) rfl rfl (entL_rel hko' ha hv) (fun _ h => nomatch h)
theorem sim_all {l : Launch} (hl : l.stackTraces = false) : ∀ n, pm_S l n := by
  intro n
  induction n with
  | zero =>
    intro p e R s m args below meth c Q K ρ0 al0 n0 s0 mm d rr hB cf hr
    cases hr
  | succ n ih =>
    intro p e R s m args below meth c Q K ρ0 al0 n0 s0 mm d rr hB cf hr
    have hB0 := hB
    obtain ⟨X, hko, hin, hR, hfit, hend, hexc⟩ := hB
    obtain ⟨pc, lsv, st, h⟩ := cf
    have hr : runF (run n) d mm (pc, lsv, st, h) = some rr := hr
    unfold runF at hr
    cases hs : step mm (pc, lsv, st, h) with
    | none => rw [hs] at hr; cases hr
    | some q =>
      rw [hs] at hr
      match q, hr, hs with
      | .inl c', hr, hs =>
        have hm := run_mono n d mm c' rr hr
        exact sim_step X hko hin ⟨by omega, by omega⟩ hs ⟨by omega, by omega⟩ (ih hB0 c' hr)
      | .inr (.inr r2), hr, hs =>
        cases hr
        exact hend _ hs
      | .inr (.inl (y, a, c')), hr, hs =>
        dsimp only at hr
        match d, hr, hR, hB0 with
        | d' + 1, hr, hR, hB0 =>
        dsimp only at hr
        cases hr2 : run n d' y (0, entL y a, [], c'.2.2.2) with
        | none => rw [hr2] at hr; cases hr
        | some rr2 =>
          rw [hr2] at hr
          have hm2 := run_mono n d' y _ rr2 hr2
          have hc' : c'.2.2.2 = h := (step_mono hs : _)
          rw [hc'] at hm2 hr2
          have hm2 : hN h ≤ hN rr2.2 ∧ hS h ≤ hS rr2.2 := hm2
          -- the instruction
          cases hf : fetch mm pc with
          | none =>
            unfold step at hs
            dsimp only at hs
            rw [hf] at hs; cases hs
          | some i =>
          have hcal := step_cal hf hs
          have fit2 : hN rr2.2 ≤ n0 + R.cells ∧ hS rr2.2 ≤ s0 + R.slots := by
            obtain ⟨v2, h2⟩ := rr2
            match v2, hr with
            | .inl v, hr =>
              have := run_mono n (d' + 1) mm _ rr hr
              have : hN h2 ≤ hN rr.2 ∧ hS h2 ≤ hS rr.2 := this
              show hN h2 ≤ _ ∧ hS h2 ≤ _
              omega
            | .inr x, hr =>
              dsimp only at hr
              have hr := (bif_t hr).2
              have : rr.2 = h2 := by
                cases hh : hnd mm pc x with
                | none =>
                  rw [hh] at hr
                  dsimp only at hr
                  have := (bif_t hr).2
                  cases this; rfl
                | some k =>
                  rw [hh] at hr
                  dsimp only at hr
                  cases hv9 : hres mm k with
                  | none => rw [hv9] at hr; cases hr
                  | some v => rw [hv9] at hr; cases hr; rfl
              rw [this] at hfit
              exact hfit
          have kgo : ∀ v, rr2.1 = .inl v → PW p l e R s m args below meth c Q K (pm_A ρ0 al0 s.heap.size) ρ0 al0 n0 s0 mm (c'.1, c'.2.1, v.toList ++ c'.2.2.1, rr2.2) := by
            intro v hv
            obtain ⟨v2, h2⟩ := rr2
            dsimp only at hv
            subst hv
            exact ih hB0 _ hr
          have kxx : ∀ x, rr2.1 = .inr x → thr mm y pc = true ∧ ∀ (ρ : Nat → Nat) (al : List VR) (H : Heap) (locs : List Loc) (cells slots : Nat) (ls : Array Slot) (q : Addr) (ce : Cell) (rest : List Value), inH K (pm_A ρ0 al0 s.heap.size) ρ al rr2.2 H → va_S (pm_A ρ0 al0 s.heap.size) s.heap H locs → okH K al rr2.2 → okA al (hN rr2.2 - 1) → pm_x ρ0 al0 ρ al → hN rr2.2 = n0 + cells → hS rr2.2 = s0 + slots → ls.size = mxl mm ∧ lv_wf ls → H[q]? = some ce → ce.vm = .none → s.vm.findClass (exn x) = some ce.cls → vx_W p l e R s m args below meth c H locs cells slots Q (F0 m pc ls rest) q := by
            intro x hv
            obtain ⟨v2, h2⟩ := rr2
            dsimp only at hv
            subst hv
            dsimp only at hr
            obtain ⟨ht, hr⟩ := bif_t hr
            exact ⟨ht, hexc pc x h2 hr⟩
          have key : ∀ {o idx : Nat}, o ≤ 2 → i = (match o with | 0 => .invokevirtual idx | 1 => .invokespecial idx | _ => .invokestatic idx) → sCall o mm idx pc lsv st h = some (.inr (.inl (y, a, c'))) → PW p l e R s m args below meth c Q K (pm_A ρ0 al0 s.heap.size) ρ0 al0 n0 s0 mm (pc, lsv, st, h) := by
            intro o idx ho hi hsc
            obtain ⟨kk, hd, hlen⟩ := fetch_ok hf
            obtain ⟨na, y', t, hMR, b1, b2, b3, b4, b5, b6, hq, z0, z1, z2, z3, z4⟩ := sCall_inv hsc
            cases hq
            refine sim_cl2 X hko ho (fun z => ?_) (fun z => ?_) (fun z => ?_) hsc (d := d') ⟨by omega, by omega⟩ hm2 fit2 (fun hy => ct_of hl ih hy b4 hr2) (fun x hx => thr_of hf hi (kxx x hx).1) kgo (fun x hx => (kxx x hx).2)
            all_goals
              subst z
              subst hi
              obtain rfl := il (n := 3) hlen (by decide)
              exact hd
          unfold step at hs
          dsimp only at hs
          rw [hf] at hs
          cases i
          case invokevirtual idx => exact key (o := 0) (idx := idx) (by omega) rfl hs
          case invokespecial idx => exact key (o := 1) (idx := idx) (by omega) rfl hs
          case invokestatic idx => exact key (o := 2) (idx := idx) (by omega) rfl hs
          all_goals (exact absurd hcal (by simp [calI]))
