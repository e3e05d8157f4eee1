/-! Calls: one run of a callee under the caller's frame. -/
theorem pm_r_x {K : KT} {ρ ρ' : Nat → Nat} {al al' : List VR} {n : Nat} {r : VR} (hx : pm_x ρ al ρ' al') (hr : okR K al n r) : pm_r K ρ' r = pm_r K ρ r := by
  unfold pm_r pm_ad
  by_cases h0 : r.1 = 0
  · rw [if_pos h0, if_pos h0]
  rw [if_neg h0, if_neg h0]
  by_cases h46 : r.1 = 46
  · rw [if_pos h46, if_pos h46]
  rw [if_neg h46, if_neg h46]
  rcases hr with h | h | h | h | h | h | h | h | h | h
  · exact absurd h h0
  · rw [if_pos h.1, if_pos h.1]
  · rw [if_neg (by omega), if_pos h.1, if_neg (by omega), if_pos h.1]
  · rw [if_neg (by omega), if_neg (by omega), if_pos h.1, if_neg (by omega), if_neg (by omega), if_pos h.1]
  · rw [if_neg (by omega), if_neg (by omega), if_neg (by omega), if_pos h.1, if_neg (by omega), if_neg (by omega), if_neg (by omega), if_pos h.1]
  · rw [if_neg (by omega), if_neg (by omega), if_neg (by omega), if_neg (by omega), if_pos h.1, if_neg (by omega), if_neg (by omega), if_neg (by omega), if_neg (by omega), if_pos h.1]
  · rw [if_neg (by omega), if_neg (by omega), if_neg (by omega), if_neg (by omega), if_neg (by omega), if_pos h.1, if_neg (by omega), if_neg (by omega), if_neg (by omega), if_neg (by omega), if_neg (by omega), if_pos h.1]
  · rcases h with h | h | h
    · exact absurd h h46
    · rw [if_neg (by omega), if_neg (by omega), if_neg (by omega), if_neg (by omega), if_neg (by omega), if_neg (by omega), if_pos h.1, if_neg (by omega), if_neg (by omega), if_neg (by omega), if_neg (by omega), if_neg (by omega), if_neg (by omega), if_pos h.1]
    · rw [if_neg (by omega), if_neg (by omega), if_neg (by omega), if_neg (by omega), if_neg (by omega), if_neg (by omega), if_neg (by omega), if_pos h.1, if_neg (by omega), if_neg (by omega), if_neg (by omega), if_neg (by omega), if_neg (by omega), if_neg (by omega), if_neg (by omega), if_pos h.1]
  · exact absurd h.2.1 (Nat.not_lt_zero _)
  · rw [(hx r h).2]
theorem pm_v_x {K : KT} {ρ ρ' : Nat → Nat} {al al' : List VR} {n : Nat} {v : VV} (hx : pm_x ρ al ρ' al') (hv : okV K al n v) : pm_v K ρ' v = pm_v K ρ v := by
  match v, hv with
  | .inl x, _ => rfl
  | .inr (.inl x), _ => rfl
  | .inr (.inr (.inl x)), _ => rfl
  | .inr (.inr (.inr r)), hv => exact pm_r_x hx hv
theorem lrel_x {K : KT} {ρ ρ' : Nat → Nat} {al al' : List VR} {n n' nl : Nat} {ls : Array Slot} {f : LV} (hx : pm_x ρ al ρ' al') (hn : n ≤ n') (h : lrel K ρ al n ls nl f) : lrel K ρ' al' n' ls nl f := by
  obtain ⟨h1, h2, h3, h4⟩ := h
  refine ⟨h1, h2, h3, fun i v hv => ?_⟩
  obtain ⟨a, b⟩ := h4 i v hv
  exact ⟨by rw [pm_v_x hx b]; exact a, okV_more b hn fun r hr => (hx r hr).1⟩
theorem pm_x_tr {ρ0 ρ ρ' : Nat → Nat} {al0 al al' : List VR} (h : pm_x ρ0 al0 ρ al) (h2 : pm_x ρ al ρ' al') : pm_x ρ0 al0 ρ' al' := fun r hr => ⟨(h2 r (h r hr).1).1, (h2 r (h r hr).1).2.trans (h r hr).2⟩
/-- the callee's cells are the caller's -/
theorem pm_A_le {K : KT} {A : Nat → Prop} {ρ : Nat → Nat} {al : List VR} {h : PH} {H H0 : Heap} (iH : inH K A ρ al h H) (hz : H0.size ≤ H.size) (hge : ∀ q, H0.size ≤ q → A q) : ∀ q, pm_A ρ al H.size q → A q := by
  intro q hq
  rcases hq with ⟨r, hr, rfl⟩ | hq
  · obtain ⟨i, hi, -⟩ := pm_w_get (K := K) (ρ := ρ) (h := h) hr
    exact iH.2.2 i _ hi
  · exact hge q (Nat.le_trans hz hq)
theorem inH_A {K : KT} {A B : Nat → Prop} {ρ : Nat → Nat} {al : List VR} {h : PH} {H : Heap} (iH : inH K A ρ al h H) (hAB : ∀ q, A q → B q) : inH K B ρ al h H := ⟨iH.1, iH.2.1, fun k q hq => hAB _ (iH.2.2 k q hq)⟩
theorem inH_own {K : KT} {A : Nat → Prop} {ρ : Nat → Nat} {al : List VR} {h : PH} {H : Heap} (iH : inH K A ρ al h H) (n : Nat) : inH K (pm_A ρ al n) ρ al h H := by
  refine ⟨iH.1, iH.2.1, fun k q hq => Or.inl ?_⟩
  unfold pm_w at hq
  rw [List.getElem?_map] at hq
  cases hc : al[k]? with
  | none => rw [hc] at hq; cases hq
  | some r =>
    rw [hc] at hq
    cases hq
    exact ⟨r, List.mem_of_getElem? hc, rfl⟩
theorem Pc_blind {K : KT} {ρ : Nat → Nat} {al : List VR} {h : PH} {sz : Nat} {a : List VV} : FrameBlind (pm_Pc K ρ al h sz a) := by
  intro v U g mk hq
  obtain ⟨h1, h2, h3, h4⟩ := hq
  exact ⟨h1, h2, h3, pm_C.go (U := U.calling g mk v) h4 (State.WarmedH.refl U) (fun _ _ _ => rfl) (Nat.le_refl _) (fun _ z => z)⟩
section CALLS
variable {p : Program} {l : Launch} {e : Env} {R : Room} {s : State} {m : MethodId} {args : Array Value} {below : List Frame} {meth : Method} {c : Code} {Q : State → Prop}
variable {K : KT} {A : Nat → Prop} {ρ0 : Nat → Nat} {al0 : List VR} {n0 s0 mm : Nat} {pc : Nat} {lsv : LV} {st : List VV} {h : PH}
theorem Pc_at (X : pm_X p s m args c K A mm) {ρ : Nat → Nat} {al : List VR} {H : Heap} {locs : List Loc} {a : List VV} {av : Array Value} (iH : inH K A ρ al h H) (iS : va_S A s.heap H locs) (ha : av = (a.map (pm_v K ρ)).toArray) : ∀ U : State, U.heap = H → s.WarmedH U.vm → pm_Pc K ρ al h H.size a av U := by
  intro U hU hW
  refine ⟨ha, by rw [hU], ?_, ?_⟩
  · rw [hU]; exact inH_own iH _
  · rw [hU]; exact pm_C.go X.2.2.2.2.2.1 hW (fun q h1 h2 => iS.2.1 q h1 h2) iS.1 (pm_A_le iH iS.1 X.2.2.2.2.2.2)
theorem rcv_cell (X : pm_X p s m args c K A mm) {ρ : Nat → Nat} {al : List VR} {H : Heap} {locs : List Loc} (iH : inH K A ρ al h H) (iS : va_S A s.heap H locs) (oH : okA al (hN h)) {n : Nat} {r : VR} (iv : okR K al n r) (h0 : 0 < r.1) (hk : r.1 < 16 ∨ r.1 = 40 ∨ r.1 = 43) :
    ∃ cell : Cell, H[pm_ad K ρ r]? = some cell ∧ cell.vm.isStatics = false ∧ s.vm.findClass (if r.1 = 40 then "CommaStream$Kind" else if r.1 = 43 then "java/lang/String" else cnm r.1) = some cell.cls := by
  have up : ∀ {E : String} {q : Nat}, va_O E q A s s.heap → ∃ cell : Cell, H[q]? = some cell ∧ cell.vm.isStatics = false ∧ s.vm.findClass E = some cell.cls := by
    intro E q hq
    obtain ⟨cB, h1, h2, h3, h4⟩ := hq
    exact ⟨cB, by rw [iS.2.1 q (Array.getElem?_eq_some_iff.mp h1).1 h4]; exact h1, h2, h3⟩
  have hC := X.2.2.2.2.2.1
  rcases iv with q | q | q | q | q | q | q | q | q | q
  · omega
  · rw [if_pos q.1]
    have e1 : pm_ad K ρ r = kE K r.2.2 := by unfold pm_ad; rw [if_pos q.1]
    rw [e1]
    exact up (hC.2.1.1 r.2.2 (by show r.2.2 < 38; exact q.2)).2.1
  · omega
  · omega
  · rw [if_neg (by omega), if_pos q.1]
    have e1 : pm_ad K ρ r = kS K r.2.2 := by unfold pm_ad; rw [if_neg (by omega), if_neg (by omega), if_neg (by omega), if_pos q.1]
    rw [e1]
    exact up (hC.2.2.2.1 r.2.2 q.2).1
  · omega
  · omega
  · omega
  · exact absurd q.2.1 (Nat.not_lt_zero _)
  · have hr := oH.1 r q
    have h12 : r.1 < 16 := by omega
    rw [if_neg (by omega), if_neg (by omega), pm_ad_of oH q]
    obtain ⟨i, hi, -⟩ := pm_w_get (K := K) (ρ := ρ) (h := h) q
    have h1 := iH.1 i _ hi
    unfold va_at pm_e at h1
    dsimp only at h1
    rw [if_pos (by omega)] at h1
    dsimp only at h1
    obtain ⟨rw9, h2, cell, h3, h4, h5, -⟩ := h1
    rw [cl_at (by omega) h12] at h2
    have h6 := (hC.1.1 (r.1 - 1) _ (cl_at (by omega) h12)).2.1
    exact ⟨cell, h3, by rw [h5]; rfl, by rw [h4]; exact h6⟩
/-- a run of the callee, put into the caller's stores -/
theorem sim_run {ρ : Nat → Nat} {al : List VR} {H : Heap} {locs : List Loc} {cells slots : Nat} {ls : Array Slot} {st0 : List Value} {rest : List VV} {rr2 : Rs × PH} {av : Array Value} (hge : ∀ q, s.heap.size ≤ q → A q) (hmono : hN h ≤ hN rr2.2 ∧ hS h ≤ hS rr2.2)
    (hr : vx_Run p l e R s m args below meth c H locs cells slots (hN rr2.2 - hN h) (hS rr2.2 - hS h) (F0 m pc ls st0) (rest.map (pm_v K ρ)) (pm_Qc K ρ al H.size rr2 av) (pm_XC K ρ al H.size rr2) (pm_A ρ al H.size))
    (iH : inH K A ρ al h H) (iS : va_S A s.heap H locs) (ix : pm_x ρ0 al0 ρ al) (iN : hN h = n0 + cells) (iM : hS h = s0 + slots) (iL : lrel K ρ al (hN h) ls (mxl mm) lsv) (iV : ∀ v ∈ rest, okV K al (hN h) v)
    (k : ∀ v, rr2.1 = .inl v → PW p l e R s m args below meth c Q K A ρ0 al0 n0 s0 mm (pc + 3, lsv, v.toList ++ rest, rr2.2))
    (kx : ∀ x, rr2.1 = .inr x → ∀ (ρ : Nat → Nat) (al : List VR) (H : Heap) (locs : List Loc) (cells slots : Nat) (q : Addr) (ce : Cell) (rest : List Value), inH K A ρ al rr2.2 H → va_S A s.heap H locs → okH K al rr2.2 → okA al (hN rr2.2 - 1) → pm_x ρ0 al0 ρ al → hN rr2.2 = n0 + cells → hS rr2.2 = s0 + slots → ls.size = mxl mm ∧ lv_wf ls → H[q]? = some ce → ce.vm = .none → s.vm.findClass (exn x) = some ce.cls → vx_W p l e R s m args below meth c H locs cells slots Q (F0 m pc ls rest) q) :
    W p l e R s m args below meth c H locs cells slots Q (F0 m pc ls st0) := by
  intro T hT Xs
  have hAB := pm_A_le iH iS.1 hge
  rcases hr T hT Xs with ⟨v, st₀, t, T', L, g0, X', hL, e1, e2, hq, hgo⟩ | ⟨q, st₀, t, T', L, E, ce, g0, X', hL, e1, e2, hq, hce, hcv, hcl, hgo⟩
  · obtain ⟨v2, hv, ρ', al', ho, hok, iH', oH', ix', hF⟩ := hq
    cases ho
    obtain ⟨-, -, k3⟩ := vx_keep g0 e1 iS (fun q _ z => hAB q z) hAB hL hF
    have iH2 : inH K A ρ' al' rr2.2 T'.heap := by rw [e1]; exact inH_A iH' hAB
    have em : rest.map (pm_v K ρ) = rest.map (pm_v K ρ') := List.map_congr_left fun v hv => (pm_v_x ix' (iV v hv)).symm
    have ev : (v2.map (pm_v K ρ')).toList ++ rest.map (pm_v K ρ) = (v2.toList ++ rest).map (pm_v K ρ') := by
      rw [List.map_append, em]
      cases v2 <;> rfl
    have kk := k v2 hv ρ' al' T'.heap (locs ++ L) (cells + (hN rr2.2 - hN h)) (slots + (hS rr2.2 - hS h)) ls iH2 k3 oH' (pm_x_tr ix ix') (by show hN rr2.2 = _; omega) (by show hS rr2.2 = _; omega) (lrel_x ix' hmono.1 iL)
      (fun w hw => by
        rcases List.mem_append.mp hw with z | z
        · cases v2 with
          | none => cases z
          | some x =>
            rw [show (some x).toList = [x] from rfl, List.mem_singleton] at z
            rw [z]; exact hok x rfl
        · exact okV_more (iV w z) hmono.1 fun r hr => (ix' r hr).1)
    obtain ⟨t2, a1, b1⟩ := kk T' rfl X'
    refine ⟨t2, hgo t2 ?_, b1⟩
    rw [ev]
    exact a1
  · obtain ⟨x, hx, hE, ρ', al', oA, iH', oH', ix', hF⟩ := hq
    obtain ⟨-, -, k3⟩ := vx_keep g0 e1 iS (fun q _ z => hAB q z) hAB hL hF
    subst hE
    have iH2 : inH K A ρ' al' rr2.2 T'.heap := by rw [e1]; exact inH_A iH' hAB
    obtain ⟨t2, a1, b1⟩ := kx x hx ρ' al' T'.heap (locs ++ L) (cells + (hN rr2.2 - hN h)) (slots + (hS rr2.2 - hS h)) q ce (rest.map (pm_v K ρ)) iH2 k3 oH' oA (pm_x_tr ix ix') (by omega) (by omega) ⟨iL.1, iL.2.1⟩ (by rw [e1]; exact hce) hcv hcl T' rfl X'
    exact ⟨t2, hgo.trans a1, b1⟩
theorem wsm_good {y : Nat} (hy : okM y) : GoodIn TBL (wsm y) := by
  intro w hw
  have hT : w ∈ TBL := by
    rcases List.mem_cons.mp hw with z | z
    · rw [z]; exact (m_facts hy).1
    · exact z
  exact ⟨hT, good_of_word (List.mem_filter.mp hT).2⟩
theorem mhd_code {y : Nat} : mhd y = .code (mn y) (mb y) (mxl y) (mrt y) := rfl
end CALLS
