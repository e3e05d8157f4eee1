/-! A call simulated. -/
theorem rcv_inv {t : Nat} {a : List VV} (h0 : Nat.beq t 0 = false) (h : rcv t a = true) : ∃ r as, a = .inr (.inr (.inr r)) :: as ∧ (r.1 = t ∨ (t = 14 ∧ r.1 = 43)) := by
  unfold rcv at h
  rw [h0] at h
  dsimp only [cond_false] at h
  split at h
  · rename_i r as
    simp only [Bool.or_eq_true, Bool.and_eq_true, Nat.beq_eq] at h
    exact ⟨r, as, rfl, h⟩
  · cases h
theorem run_va {p : Program} {l : Launch} {e : Env} {R : Room} {s : State} {m : MethodId} {args : Array Value} {below : List Frame} {meth : Method} {c : Code} {H : Heap} {locs : List Loc} {cells slots mc ms : Nat} {g : JFrame} {rest : List Value} {Qa : State → Outcome → State → Prop} {XC : String → State → State → Prop} {free : Addr → Prop} (h : va_Run p l e R s m args below meth c H locs cells slots mc ms g rest Qa free) : vx_Run p l e R s m args below meth c H locs cells slots mc ms g rest Qa XC free := fun T hT X => Or.inl (h T hT X)
section CALLS
variable {p : Program} {l : Launch} {e : Env} {R : Room} {s : State} {m : MethodId} {args : Array Value} {below : List Frame} {meth : Method} {c : Code} {Q : State → Prop}
variable {K : KT} {A : Nat → Prop} {ρ0 : Nat → Nat} {al0 : List VR} {n0 s0 mm : Nat} {pc : Nat} {lsv : LV} {st : List VV} {h : PH}
theorem ov_t : MR 29221 = some (1, 196, 15) := by decide +kernel
theorem sim_cl2 {o idx d y : Nat} {a : List VV} {c' : Cf} {rr2 : Rs × PH} (X : pm_X p s m args c K A mm) (hko : pm_ko K) (ho : o ≤ 2) (hd0 : o = 0 → decode (mb mm) pc = .ok (.invokevirtual idx, 3)) (hd1 : o = 1 → decode (mb mm) pc = .ok (.invokespecial idx, 3)) (hd2 : o = 2 → decode (mb mm) pc = .ok (.invokestatic idx, 3))
    (hs : sCall o mm idx pc lsv st h = some (.inr (.inl (y, a, c')))) (hR : d + 11 ≤ R.frames ∧ 60 * d + 360 ≤ R.locals) (hmono : hN h ≤ hN rr2.2 ∧ hS h ≤ hS rr2.2) (hfit : hN rr2.2 ≤ n0 + R.cells ∧ hS rr2.2 ≤ s0 + R.slots) (hct : okM y → CT l d y a h rr2) (hthr : ∀ x, rr2.1 = .inr x → o = 0 ∧ MQN (ky mm idx) = false ∧ y ≠ 213 ∧ y ≠ 196)
    (k : ∀ v, rr2.1 = .inl v → PW p l e R s m args below meth c Q K A ρ0 al0 n0 s0 mm (c'.1, c'.2.1, v.toList ++ c'.2.2.1, rr2.2))
    (kx : ∀ x, rr2.1 = .inr x → ∀ (ρ : Nat → Nat) (al : List VR) (H : Heap) (locs : List Loc) (cells slots : Nat) (ls : Array Slot) (q : Addr) (ce : Cell) (rest : List Value), inH K A ρ al rr2.2 H → va_S A s.heap H locs → okH K al rr2.2 → okA al (hN rr2.2 - 1) → pm_x ρ0 al0 ρ al → hN rr2.2 = n0 + cells → hS rr2.2 = s0 + slots → ls.size = mxl mm ∧ lv_wf ls → H[q]? = some ce → ce.vm = .none → s.vm.findClass (exn x) = some ce.cls → vx_W p l e R s m args below meth c H locs cells slots Q (F0 m pc ls rest) q) :
    PW p l e R s m args below meth c Q K A ρ0 al0 n0 s0 mm (pc, lsv, st, h) := by
  obtain ⟨na, y', t, hMR, b1, b2, b3, b4, b5, b6, hq, z0, z1, z2, z3, z4⟩ := sCall_inv hs
  cases hq
  have hk0 : ky mm idx ≠ 0 := fun z => by rw [z, MR0] at hMR; cases hMR
  obtain ⟨hq1, hq2⟩ := ky_of hk0
  obtain ⟨hy, hna, hst, ht, hlk⟩ := mrc_at (ky_lt (m := mm) (idx := idx) (mow_lt mm)) hMR z0 z1 z2 z3 z4
  rw [hq1, hq2] at hlk
  obtain ⟨f1, f2, f3, f4, f5, f6, f7, f8, f9, f10⟩ := m_facts hy
  obtain ⟨g1, g2, g4, g5, g6⟩ := cy_at (Nat.le_of_lt hy.2.1) hy.1
  have wT : ∀ w ∈ TBL, w.before args s = true := X.2.2.2.2.1
  have hws := pay_in wT (wsm_good hy)
  have hlen : ∀ sig, parseMethodDescriptor (mn y).desc = some sig → mna y = sig.parameters.length := fun sig h => by rw [h] at f7; exact (Option.some.inj f7).symm
  have S : CallFix p m c (mb mm) (mxl mm) s args TBL (cnm (mow mm)) := ⟨X.1, X.2.1, X.2.2.1, X.2.2.2.1, wT⟩
  intro ρ al H locs cells slots ls iH iS oH ix iN iM iL iV
  have iN : hN h = n0 + cells := iN
  have iM : hS h = s0 + slots := iM
  have iH : inH K A ρ al h H := iH
  have oH : okH K al h := oH
  have iL : lrel K ρ al (hN h) ls (mxl mm) lsv := iL
  have iV : ∀ v ∈ st, okV K al (hN h) v := iV
  have hst0 : ∀ f : VV → Value, st.map f = (((st.take na).reverse).map f).reverse ++ (st.drop na).map f := fun f => by
    rw [List.map_reverse, List.reverse_reverse, ← List.map_append, List.take_append_drop]
  have hal : ((st.take na).reverse).length = na := by rw [List.length_reverse, List.length_take]; omega
  have iVr : ∀ v ∈ st.drop na, okV K al (hN h) v := fun v hv => iV v (List.mem_of_mem_drop hv)
  have iVa : ∀ v ∈ (st.take na).reverse, okV K al (hN h) v := fun v hv => iV v (List.mem_of_mem_take (List.mem_reverse.mp hv))
  have hM := hct hy K ρ al H.size hko oH iVa
  have hcat : (((st.drop na).map (pm_v K ρ)).map (fun v => v.category)).sum = ((st.drop na).map vcat).sum := by
    have e1 : ((st.drop na).map (pm_v K ρ)).map (fun v => v.category) = (st.drop na).map vcat := by
      rw [List.map_map]
      exact List.map_congr_left fun v _ => pm_cat K ρ (pm_ko_cat hko) v
    rw [e1]
  have hW : 2 * (F0 m pc ls (st.map (pm_v K ρ))).monitorRoom + (((st.drop na).map (pm_v K ρ)).map (fun v => v.category)).sum ≤ 8 := by
    rw [hcat]
    show 2 * 0 + _ ≤ 8
    omega
  have hf : cells + (hN rr2.2 - hN h) ≤ R.cells ∧ slots + (hS rr2.2 - hS h) ≤ R.slots := by omega
  have hfr : (RM d (hN rr2.2 - hN h) (hS rr2.2 - hS h)).frames + 1 ≤ R.frames := by show d + 10 + 1 ≤ _; omega
  have hlo : 8 + (mxl y + 11) + (RM d (hN rr2.2 - hN h) (hS rr2.2 - hS h)).locals ≤ R.locals := by show 8 + (mxl y + 11) + (60 * d + 300) ≤ _; omega
  have hini : (Cond.initialized (mn y).cls).before args s = true := wT _ f4
  have fin : ∀ {av : Array Value}, vx_Run p l e R s m args below meth c H locs cells slots (hN rr2.2 - hN h) (hS rr2.2 - hS h) (F0 m pc ls (st.map (pm_v K ρ))) ((st.drop na).map (pm_v K ρ)) (pm_Qc K ρ al H.size rr2 av) (pm_XC K ρ al H.size rr2) (pm_A ρ al H.size) → W p l e R s m args below meth c H locs cells slots Q (F0 m pc ls (st.map (pm_v K ρ))) :=
    fun hr => sim_run X.2.2.2.2.2.2 hmono hr iH iS ix iN iM iL iVr k (fun x hx ρ al H locs cells slots q ce rest => kx x hx ρ al H locs cells slots ls q ce rest)
  show W p l e R s m args below meth c H locs cells slots Q (F0 m pc ls (st.map (pm_v K ρ)))
  have hMn : ∀ {y2 : MethodName}, mn y = y2 → ¬ (o = 0 ∧ MQN (ky mm idx) = false ∧ y ≠ 213 ∧ y ≠ 196) → Met l y2 (wsm y) (RM d (hN rr2.2 - hN h) (hS rr2.2 - hS h)) (pm_Pc K ρ al h H.size (st.take na).reverse) (pm_Qc K ρ al H.size rr2) (hN rr2.2 - hN h) (hS rr2.2 - hS h) (pm_A ρ al H.size) := fun {y2} e9 hno => by
    subst e9
    exact met_of hM fun E s1 t1 ⟨x, hx, _⟩ => hno (hthr x hx)
  have ho3 : o = 0 ∨ o = 1 ∨ o = 2 := by omega
  rcases ho3 with rfl | rfl | rfl
  · have t0 : Nat.beq t 0 = false := b1.symm
    have hst' : mst y = false := hst.symm.trans t0
    have b2' : (mini y || SUq (ky mm idx)) = false := b2.symm
    rw [Bool.or_eq_false_iff] at b2'
    obtain ⟨hmi, hsuq⟩ := b2'
    have hcode := mhd_code (y := y)
    have hcb : (Cond.code (mn y) (mb y) (mxl y) (mrt y)).before args s = true := by rw [← hcode]; exact wT _ f1
    have hcm : Cond.code (mn y) (mb y) (mxl y) (mrt y) ∈ wsm y := List.mem_cons.mpr (Or.inl hcode.symm)
    rw [hst', if_neg (by decide)] at f2
    rw [hst'] at hna
    have hna : na = mna y + 1 := hna
    obtain ⟨r, as, ha, hr⟩ := rcv_inv t0 b5
    have ht0 : t ≠ 0 := fun z => by subst z; cases t0
    rw [ha] at hal iVa hM hst0 hMn
    have hrv := iVa _ List.mem_cons_self
    have ebr : pm_v K ρ (.inr (.inr (.inr r))) = .ref (pm_ad K ρ r) := pm_r_some (by omega) (by omega)
    have hstk : st.map (pm_v K ρ) = ((as.map (pm_v K ρ)).reverse ++ .ref (pm_ad K ρ r) :: (st.drop na).map (pm_v K ρ)) := by
      rw [hst0, List.map_cons, List.reverse_cons, List.append_assoc, ebr]
      rfl
    have hn : (as.map (pm_v K ρ)).length = mna y := by
      rw [List.length_map]
      have := hal
      rw [List.length_cons] at this
      omega
    obtain ⟨cell, hc1, hc2, hc3⟩ := rcv_cell X iH iS oH.1 hrv (by omega) (by omega)
    have hpc : ∀ U : State, U.heap = H → s.WarmedH U.vm → pm_Pc K ρ al h H.size (.inr (.inr (.inr r)) :: as) (Value.ref (pm_ad K ρ r) :: as.map (pm_v K ρ)).toArray U := Pc_at X iH iS (by rw [List.map_cons, ebr])
    have hcls : t ≠ 40 → s.vm.findClass (rcn y) = some cell.cls := by
      intro e40
      have htt : t < 16 ∧ cnm t = rcn y := by
        rcases ht with q | q | q
        · exact absurd q ht0
        · exact absurd q e40
        · exact q
      rw [if_neg (by omega)] at hc3
      by_cases q43 : r.1 = 43
      · rw [if_pos q43] at hc3
        have e14 : t = 14 := by omega
        rw [← htt.2, e14]
        exact hc3
      · rw [if_neg q43] at hc3
        have e1 : r.1 = t := by omega
        rw [← htt.2, ← e1]
        exact hc3
    rcases hlk with ⟨e1, -⟩ | ⟨-, hsu, hlk⟩
    · rw [hsuq] at e1; cases e1
    rcases hlk with ⟨e1, e2, hl⟩ | ⟨e0, e1, e2, hl⟩ | ⟨e0, e1, e40, e3, hl⟩ | ⟨e0, e1, e40, e3, hl⟩
    · have hc4 := hcls (fun z => by
        have h9 := ov_t
        rw [← e1, hMR] at h9
        cases h9
        omega)
      subst e2
      obtain ⟨n1, n2, n3⟩ := ov_4
      obtain ⟨m1, m2, m3⟩ := ov_3
      have hA := m_facts (m := 207) ⟨by decide, by decide, by decide, by decide⟩
      have hAm : mst 207 = false := by decide +kernel
      have hA2 := hA.2.1
      rw [hAm, if_neg (by decide), m1] at hA2
      have hAc : (Cond.code (mn 207) (mb 207) (mxl 207) (mrt 207)).before args s = true := wT _ hA.1
      rw [m1] at hAc hl
      have hsel := wT _ (wt_ok ov_2)
      rw [m1] at hsel
      rw [m3] at hc4
      have cw : va_CU R s args (cnm (mow mm)) "java/lang/StringBuilder" "java/lang/AbstractStringBuilder" idx ⟨"java/lang/AbstractStringBuilder", "length", "()I"⟩ (mn 196) (mb 196) (mxl 196) (mrt 196) (wsm 196) (RM d (hN rr2.2 - hN h) (hS rr2.2 - hS h)) (hN rr2.2 - hN h) (hS rr2.2 - hS h) (mna 196) :=
        ⟨⟨rfl, rfl, hfr, hlo, hws, hcm⟩, hcb, hini, n1, (fun sig h9 => by rw [n3]; have h8 : (parseMethodDescriptor "()I") = some sig := h9; rw [h8] at n2; exact (Option.some.inj n2).symm), wT _ hl, wT _ (wt_ok ov_1), va_Decl.of (wT _ hA2) hAc, hsel, wT _ f2⟩
      exact fin (run_va <| va_runU S (hMn rfl (fun z => z.2.2.2 rfl)) cw ⟨Pc_blind, ⟨cell, hc1, hc2, hc4⟩, hpc⟩ rfl hn (iL.1) hstk hW (hd0 rfl) hf)
    · rw [if_pos (by omega)] at hc3
      subst e1
      rw [en_3] at f2 f4 hcb hcm hini hlen
      obtain ⟨n1, n2, n3⟩ := en_4
      have cw : va_CU R s args (cnm (mow mm)) "CommaStream$Kind" "java/lang/Enum" idx ⟨"CommaStream$Kind", "ordinal", "()I"⟩ ⟨"java/lang/Enum", "ordinal", "()I"⟩ (mb 213) (mxl 213) (mrt 213) (wsm 213) (RM d (hN rr2.2 - hN h) (hS rr2.2 - hS h)) (hN rr2.2 - hN h) (hS rr2.2 - hS h) (mna 213) :=
        ⟨⟨rfl, rfl, hfr, hlo, hws, hcm⟩, hcb, hini, n1, hlen, wT _ hl, wT _ (wt_ok en_1), va_Decl.of (wT _ f2) hcb, by have := wT _ (wt_ok en_2); rw [en_3] at this; exact this, wT _ f2⟩
      exact fin (run_va <| va_runU S (hMn en_3 (fun z => z.2.2.1 rfl)) cw ⟨Pc_blind, ⟨cell, hc1, hc2, hc3⟩, hpc⟩ rfl hn (iL.1) hstk hW (hd0 rfl) hf)
    · have hsel := wT _ (f3 hst' hmi e1 hsu e0)
      exact fin (run_va <| va_runVN S (hMn rfl (fun z => by rw [e3] at z; cases z.2.1)) ⟨⟨⟨rfl, rfl, hfr, hlo, hws, hcm⟩, hcb, hini, f6, hlen, nest_at X hl⟩, wT _ f2, hsel⟩ ⟨Pc_blind, ⟨cell, hc1, hc2, hcls e40⟩, hpc⟩ rfl hn (iL.1) hstk hW (hd0 rfl) hf)
    · have hsel := wT _ (f3 hst' hmi e1 hsu e0)
      exact fin (vx_runV S hM ⟨⟨rfl, rfl, hfr, hlo, hws, hcm, hcb, hini, f6, hlen, wT _ hl⟩, wT _ f2, hsel⟩ ⟨Pc_blind, ⟨cell, hc1, hc2, hcls e40⟩, hpc⟩ rfl hn (iL.1) hstk hW (hd0 rfl) hf)
  · have t0 : Nat.beq t 0 = false := b1.symm
    have hst' : mst y = false := hst.symm.trans t0
    have b2' : (mini y || SUq (ky mm idx)) = true := b2.symm
    have hcode := mhd_code (y := y)
    rw [hst', if_neg (by decide)] at f2
    rw [hst'] at hna
    have hna : na = mna y + 1 := hna
    obtain ⟨r, as, ha, hr⟩ := rcv_inv t0 b5
    have ht0 : t ≠ 0 := fun z => by subst z; cases t0
    rw [ha] at hal iVa hM hst0 hMn
    have ebr : pm_v K ρ (.inr (.inr (.inr r))) = .ref (pm_ad K ρ r) := pm_r_some (by omega) (by omega)
    have hstk : st.map (pm_v K ρ) = ((as.map (pm_v K ρ)).reverse ++ .ref (pm_ad K ρ r) :: (st.drop na).map (pm_v K ρ)) := by
      rw [hst0, List.map_cons, List.reverse_cons, List.append_assoc, ebr]
      rfl
    have hn : (as.map (pm_v K ρ)).length = mna y := by
      rw [List.length_map]
      have := hal
      rw [List.length_cons] at this
      omega
    have hpc : ∀ U : State, U.heap = H → s.WarmedH U.vm → pm_Pc K ρ al h H.size (.inr (.inr (.inr r)) :: as) (Value.ref (pm_ad K ρ r) :: as.map (pm_v K ρ)).toArray U := Pc_at X iH iS (by rw [List.map_cons, ebr])
    rcases hlk with ⟨e1, e15, et15, emi, eEO, esame, ecls, ename, hl⟩ | ⟨hsuq, hsu, hlk⟩
    · have hcb : (Cond.code (mn y) (mb y) (mxl y) (mrt y)).before args s = true := by rw [← hcode]; exact wT _ f1
      have hcm : Cond.code (mn y) (mb y) (mxl y) (mrt y) ∈ wsm y := List.mem_cons.mpr (Or.inl hcode.symm)
      have hrv := iVa _ List.mem_cons_self
      obtain ⟨cell, hc1, hc2, hc3⟩ := rcv_cell X iH iS oH.1 hrv (by omega) (by omega)
      rw [if_neg (by omega), if_neg (by omega), show r.1 = 15 by omega, cn15_sb] at hc3
      have eown : cnm (mow mm) = "java/lang/StringBuilder" := by rw [e15]; exact cn15_sb
      have hsup : (Cond.superclass (cnm (mow mm)) (mn y).cls).before args s = true := by
        rw [eown, ecls]
        exact wT _ (wt_ok su_cls)
      have hat : ClassAt s "java/lang/StringBuilder" ((kD K).1 14) := by
        have := ((GK X).1 14 _ (cl_at (ty := 15) (by decide) (by decide))).2
        exact this
      exact fin (run_va <| va_runSU hat S (hMn rfl (fun z => by cases z.1)) ⟨⟨rfl, rfl, hfr, hlo, hws, hcm⟩, wT _ hl, wT _ esame, hsup, wT _ f2, hini, hcb, ename, hlen⟩ ⟨Pc_blind, ⟨cell, hc1, hc2, hc3⟩, hpc⟩ rfl hn (iL.1) hstk hW (hd1 rfl) hf)
    have hmi : mini y = true := by rw [hsuq, Bool.or_false] at b2'; exact b2'
    have hno := (g2 hmi).1
    have hcb : (Cond.code (mn y) (mb y) (mxl y) none).before args s = true := by rw [← hno, ← hcode]; exact wT _ f1
    have hcm : Cond.code (mn y) (mb y) (mxl y) none ∈ wsm y := by rw [← hno]; exact List.mem_cons.mpr (Or.inl hcode.symm)
    have hnm : (mn y).name = "<init>" := by rw [hmi] at f9; exact of_decide_eq_true f9.symm
    rcases hlk with ⟨e1, e2, hl⟩ | ⟨e0, e1, e2, hl⟩ | ⟨e0, e1, e40, e3, hl⟩ | ⟨e0, e1, e40, e3, hl⟩
    · have := (g6 e2).2
      rw [hmi] at this; cases this
    · have := (g4 e1).2
      rw [hmi] at this; cases this
    · exact fin (run_va <| va_runIN S (hMn rfl (fun z => by cases z.1)) ⟨⟨⟨rfl, rfl, hfr, hlo, hws, hcm⟩, hcb, hini, f6, hlen, nest_at X hl⟩, hnm, wT _ f2⟩ ⟨Pc_blind, hpc⟩ rfl hn (iL.1) hstk hW (hd1 rfl) hf)
    · exact fin (run_va <| va_runI S (hMn rfl (fun z => by cases z.1)) ⟨⟨rfl, rfl, hfr, hlo, hws, hcm, hcb, hini, f6, hlen, wT _ hl⟩, hnm, wT _ f2⟩ ⟨Pc_blind, hpc⟩ rfl hn (iL.1) hstk hW (hd1 rfl) hf)
  · have t0 : Nat.beq t 0 = true := b1.symm
    have hst' : mst y = true := hst.symm.trans t0
    rw [hst', if_pos rfl] at f2
    rw [hst'] at hna
    have hna : na = mna y := hna
    have hn : (((st.take na).reverse).map (pm_v K ρ)).length = mna y := by
      rw [List.length_map, hal]; exact hna
    have hpc : ∀ U : State, U.heap = H → s.WarmedH U.vm → pm_Pc K ρ al h H.size (st.take na).reverse (((st.take na).reverse).map (pm_v K ρ)).toArray U := Pc_at X iH iS rfl
    have hcode := mhd_code (y := y)
    have hcb : (Cond.code (mn y) (mb y) (mxl y) (mrt y)).before args s = true := by rw [← hcode]; exact wT _ f1
    have hcm : Cond.code (mn y) (mb y) (mxl y) (mrt y) ∈ wsm y := List.mem_cons.mpr (Or.inl hcode.symm)
    rcases hlk with ⟨e1, e15, et15, -⟩ | ⟨-, hsu, hlk⟩
    · rw [et15] at t0; cases t0
    rcases hlk with ⟨e1, e2, hl⟩ | ⟨e0, e1, e2, hl⟩ | ⟨e0, e1, e40, e3, hl⟩ | ⟨e0, e1, e40, e3, hl⟩
    · have := (g6 e2).1
      rw [hst'] at this; cases this
    · have := (g4 e1).1
      rw [hst'] at this; cases this
    · exact fin (run_va <| va_runSN S (hMn rfl (fun z => by cases z.1)) ⟨⟨⟨rfl, rfl, hfr, hlo, hws, hcm⟩, hcb, hini, f6, hlen, nest_at X hl⟩, wT _ f2, trivial⟩ ⟨Pc_blind, hpc⟩ rfl hn (iL.1) (hst0 _) hW (hd2 rfl) hf)
    · exact fin (run_va <| va_runS S (hMn rfl (fun z => by cases z.1)) ⟨⟨rfl, rfl, hfr, hlo, hws, hcm, hcb, hini, f6, hlen, wT _ hl⟩, wT _ f2⟩ ⟨Pc_blind, hpc⟩ rfl hn (iL.1) (hst0 _) hW (hd2 rfl) hf)
end CALLS
