/-! Handlers; and a run of the pure machine is a run of the machine. -/
def hix (x : Nat) : Nat := match x with | 0 => 13 | 1 => 19 | _ => 31
noncomputable def hrow (r : Nat × Nat × Nat × Nat) (pc x k : Nat) : Bool := Nat.ble r.1 pc && Nat.blt pc r.2.1 && Nat.beq r.2.2.1 k && Nat.beq r.2.2.2 (hix x)
noncomputable def hpas (z : Nat × Nat × Nat × Nat) (x : Nat) : Bool := (Nat.beq x 0 && Nat.beq z.2.2.2 19) || (Nat.beq x 1 && Nat.beq z.2.2.2 31)
noncomputable def hok (m pc x k : Nat) : Bool := match mhh m with
  | [r] => hrow r pc x k
  | [r, r2] => hrow r pc x k || (hpas r x && hrow r2 pc x k)
  | _ => false
theorem hk_all : ((List.range 25).all fun m => (List.range 64).all fun pc => (List.range 3).all fun x => match hnd m pc x with | none => true | some k => hok m pc x k && Nat.blt k 64) = true := by decide +kernel
theorem hm_all : ((List.range 296).all fun m => Nat.blt 24 m || (decide (cnm (mow m) = "CommaStreamLaw") && Nat.beq (mrk m) 1 && !Nat.beq (mow m) 1 && (List.range 64).all fun k => match fetch m k with | some (.astore_n i) => Nat.blt i.val (mxl m) | some (.astore i) => Nat.blt i (mxl m) | _ => true)) = true := by decide +kernel
theorem hl_0 : wt 5035 (.classLink "CommaStreamLaw" 13 (exn 0)) = true := by decide +kernel
theorem hl_1 : wt 5063 (.classLink "CommaStreamLaw" 19 (exn 1)) = true := by decide +kernel
theorem hl_2 : wt 5200 (.classLink "CommaStreamLaw" 31 (exn 2)) = true := by decide +kernel
theorem hc_0 : Cond.castable (exn 0) (exn 0) ∈ tables_1 := List.mem_of_getElem? (i := 1002) (by decide +kernel)
theorem hc_1 : Cond.castable (exn 1) (exn 1) ∈ tables_1 := List.mem_of_getElem? (i := 1030) (by decide +kernel)
theorem hc_2 : Cond.castable (exn 2) (exn 2) ∈ tables_1 := List.mem_of_getElem? (i := 835) (by decide +kernel)
theorem hnd_lt {m pc x k : Nat} (h : hnd m pc x = some k) : m < 25 ∧ pc < 64 ∧ x < 3 := by
  unfold hnd at h
  simp only [Bool.cond_eq_ite] at h
  repeat' (split at h)
  all_goals first
    | (cases h; done)
    | (simp only [Bool.and_eq_true, Nat.beq_eq, Nat.blt_eq, Nat.ble_eq] at *
       omega)
theorem hk_at {m pc x k : Nat} (h : hnd m pc x = some k) : k < 64 ∧ ∃ pre r suf, mhh m = pre ++ r :: suf ∧ (r.1 ≤ pc ∧ pc < r.2.1 ∧ r.2.2.1 = k ∧ r.2.2.2 = hix x) ∧ ∀ z ∈ pre, (x = 0 ∧ z.2.2.2 = 19) ∨ (x = 1 ∧ z.2.2.2 = 31) := by
  obtain ⟨h1, h2, h3⟩ := hnd_lt h
  have h4 := all_at (all_at (all_at hk_all h1) h2) h3
  rw [h] at h4
  dsimp only at h4
  rw [Bool.and_eq_true, Nat.blt_eq] at h4
  obtain ⟨h4, h5⟩ := h4
  refine ⟨h5, ?_⟩
  have row : ∀ {r : Nat × Nat × Nat × Nat}, hrow r pc x k = true → r.1 ≤ pc ∧ pc < r.2.1 ∧ r.2.2.1 = k ∧ r.2.2.2 = hix x := by
    intro r hr
    unfold hrow at hr
    simp only [Bool.and_eq_true, Nat.beq_eq, Nat.blt_eq, Nat.ble_eq] at hr
    exact ⟨hr.1.1.1, hr.1.1.2, hr.1.2, hr.2⟩
  unfold hok at h4
  split at h4
  · rename_i r e9
    exact ⟨[], r, [], e9, row h4, fun z hz => nomatch hz⟩
  · rename_i r r2 e9
    rw [Bool.or_eq_true] at h4
    rcases h4 with h4 | h4
    · exact ⟨[], r, [r2], e9, row h4, fun z hz => nomatch hz⟩
    · rw [Bool.and_eq_true] at h4
      refine ⟨[r], r2, [], e9, row h4.2, fun z hz => ?_⟩
      rw [List.mem_singleton] at hz
      subst hz
      have h6 := h4.1
      unfold hpas at h6
      simp only [Bool.and_eq_true, Bool.or_eq_true, Nat.beq_eq] at h6
      exact h6
  · cases h4
theorem hres_inv {m k : Nat} {v : Int32} (h : hres m k = some v) : ∃ n, v = Int32.ofInt n ∧ ((∃ i, fetch m k = some (.astore_n i) ∧ fetch m (k + 1) = some (.iconst n) ∧ fetch m (k + 2) = some .ireturn) ∨ ∃ i, fetch m k = some (.astore i) ∧ fetch m (k + 2) = some (.iconst n) ∧ fetch m (k + 3) = some .ireturn) := by
  unfold hres at h
  split at h
  · rename_i i e1
    split at h
    · rename_i n e2 e3
      cases h
      exact ⟨n, rfl, Or.inl ⟨i, e1, e2, e3⟩⟩
    · cases h
  · rename_i i e1
    split at h
    · rename_i n e2 e3
      cases h
      exact ⟨n, rfl, Or.inr ⟨i, e1, e2, e3⟩⟩
    · cases h
  · cases h
section MAIN
variable {p : Program} {l : Launch} {e : Env} {R : Room} {s : State} {m : MethodId} {args : Array Value} {below : List Frame} {meth : Method} {c : Code}
variable {K : KT} {ρ0 : Nat → Nat} {al0 : List VR} {n0 s0 mm mc ms : Nat} {pc : Nat}
theorem sim_hdl {XC : String → State → State → Prop} (X : pm_X p s m args c K (pm_A ρ0 al0 s.heap.size) mm) (hlocks : meth.locks = false) (hret : meth.sig.returnType = mrt mm) (htb : c.exceptionTable.toList = tableOf (mhh mm)) {x k : Nat} {v : Int32} {h2 : PH} (hh : hnd mm pc x = some k) (hv : hres mm k = some v) (hn : hN h2 = n0 + mc ∧ hS h2 = s0 + ms)
    {ρ : Nat → Nat} {al : List VR} {H : Heap} {locs : List Loc} {cells slots : Nat} {ls : Array Slot} {q : Addr} {ce : Cell} {rest : List Value} (iH : inH K (pm_A ρ0 al0 s.heap.size) ρ al h2 H) (iS : va_S (pm_A ρ0 al0 s.heap.size) s.heap H locs) (oH : okH K al h2) (ix : pm_x ρ0 al0 ρ al) (iN : hN h2 = n0 + cells) (iM : hS h2 = s0 + slots) (iL : ls.size = mxl mm ∧ lv_wf ls) (hce : H[q]? = some ce) (hcv : ce.vm = .none) (hcl : s.vm.findClass (exn x) = some ce.cls) :
    vx_W p l e R s m args below meth c H locs cells slots (vx_MQ below (pm_Qc K ρ0 al0 s.heap.size (.inl (some (.inl v)), h2)) XC args s mc ms (pm_A ρ0 al0 s.heap.size)) (F0 m pc ls rest) q := by
  obtain ⟨hm, -, hx3⟩ := hnd_lt hh
  obtain ⟨hk64, pre, r, suf, hsp, ⟨r1, r2, r3, r4⟩, hpre⟩ := hk_at hh
  have hf := all_at hm_all (show mm < 296 by omega)
  simp only [Bool.or_eq_true, Nat.blt_eq, Bool.and_eq_true, decide_eq_true_eq, Nat.beq_eq] at hf
  rcases hf with hf | ⟨⟨⟨hf1, hf2⟩, -⟩, hf4⟩
  · omega
  have hmr := all_at mrk_all (show mm < 296 by omega)
  rw [hf2] at hmr
  have hrt : mrt mm = some .int := of_decide_eq_true hmr
  have hown := X.2.2.2.1
  rw [hf1] at hown
  obtain ⟨rfl, rfl⟩ : cells = mc ∧ slots = ms := by omega
  have hC := X.2.2.2.2.2.1
  have wT := X.2.2.2.2.1
  have nw : ∀ {a b : String}, Cond.castable a b ∈ tables_1 → (Cond.castable a b).before args s = true := fun {a b} h9 => nest_at X (List.mem_filter.mpr ⟨h9, rfl⟩)
  obtain ⟨-, -, -, -, -, -, -, -, -, -, -, -, -, -, -, -, -, -, -, -, nc1, nc2⟩ := hC
  have hcc : (Cond.classLink "CommaStreamLaw" (hix x) (exn x)).before args s = true ∧ (Cond.castable (exn x) (exn x)).before args s = true := by
    have : x = 0 ∨ x = 1 ∨ x = 2 := by omega
    rcases this with rfl | rfl | rfl
    · exact ⟨wT _ (wt_ok hl_0), nw hc_0⟩
    · exact ⟨wT _ (wt_ok hl_1), nw hc_1⟩
    · exact ⟨wT _ (wt_ok hl_2), nw hc_2⟩
  have hpl : hix x ≠ 0 := by
    unfold hix
    split <;> decide
  have fin : ∀ {t : State}, t.heap = H → pm_Qc K ρ0 al0 s.heap.size (.inl (some (.inl v)), h2) args s (.returned (some (.int v))) t := by
    intro t ht
    exact ⟨some (.inl v), rfl, ρ, al, rfl, (fun y hy => by cases hy; trivial), by rw [ht]; exact iH, oH, ix, iS.F ht⟩
  have has : lv_has ls (mxl mm) [] := ⟨iL.1, iL.2, fun z hz => nomatch hz⟩
  refine vx_catch (own := "CommaStreamLaw") (name := exn x) (E := exn x) hown (tableOf pre) ⟨r.1, r.2.1, r.2.2.1, r.2.2.2⟩ (tableOf suf) (by rw [htb, hsp]; unfold tableOf; rw [List.map_append]; rfl) ?_ ?_ (by show r.2.2.2 ≠ 0; rw [r4]; exact hpl) (by show (Cond.classLink "CommaStreamLaw" r.2.2.2 (exn x)).before args s = true; rw [r4]; exact hcc.1) hcc.2 hce hcv hcl ?_
  · intro z hz
    obtain ⟨z0, hz0, rfl⟩ := List.mem_map.mp hz
    refine Or.inr ?_
    rcases hpre z0 hz0 with ⟨rfl, e1⟩ | ⟨rfl, e1⟩
    · refine ⟨by show z0.2.2.2 ≠ 0; omega, exn 1, ?_, nc1⟩
      show (Cond.classLink "CommaStreamLaw" z0.2.2.2 (exn 1)).before args s = true
      rw [e1]
      exact wT _ (wt_ok hl_1)
    · refine ⟨by show z0.2.2.2 ≠ 0; omega, exn 2, ?_, nc2⟩
      show (Cond.classLink "CommaStreamLaw" z0.2.2.2 (exn 2)).before args s = true
      rw [e1]
      exact wT _ (wt_ok hl_2)
  · show (decide (r.1 ≤ pc) && decide (pc < r.2.1)) = true
    rw [decide_eq_true r1, decide_eq_true r2]; rfl
  · show W p l e R s m args below meth c H locs cells slots _ (F0 m r.2.2.1 ls [.ref q])
    rw [r3]
    obtain ⟨n, hvn, hcase⟩ := hres_inv hv
    have hb := all_at hf4 hk64
    rcases hcase with ⟨i, f0, f1, f2⟩ | ⟨i, f0, f1, f2⟩
    · obtain ⟨k0, d0, l0⟩ := fetch_ok f0
      obtain ⟨k1, d1, l1⟩ := fetch_ok f1
      obtain ⟨k2, d2, l2⟩ := fetch_ok f2
      obtain rfl := il (n := 1) l0 (by decide)
      obtain rfl := il (n := 1) l1 (by decide)
      obtain rfl := il (n := 1) l2 (by decide)
      rw [f0] at hb
      have hb : i.val < mxl mm := Nat.blt_eq.mp hb
      refine lv_astore_n X.1 X.2.1 d0 rfl has hb rfl fun ls' _ => ?_
      refine lv_iconst X.1 X.2.1 d1 hvn.symm ?_
      exact vx_ret (W.zret (v := v) X.1 X.2.1 (by rw [hret]; exact hrt) rfl (fun t ht _ => fin ht) iS.2.2 d2 hlocks)
    · obtain ⟨k0, d0, l0⟩ := fetch_ok f0
      obtain ⟨k1, d1, l1⟩ := fetch_ok f1
      obtain ⟨k2, d2, l2⟩ := fetch_ok f2
      obtain rfl := il (n := 2) l0 (by decide)
      obtain rfl := il (n := 1) l1 (by decide)
      obtain rfl := il (n := 1) l2 (by decide)
      rw [f0] at hb
      have hb : i < mxl mm := Nat.blt_eq.mp hb
      refine lv_astore X.1 X.2.1 d0 has hb rfl fun ls' _ => ?_
      refine lv_iconst X.1 X.2.1 d1 hvn.symm ?_
      exact vx_ret (W.zret (v := v) X.1 X.2.1 (by rw [hret]; exact hrt) rfl (fun t ht _ => fin ht) iS.2.2 d2 hlocks)
end MAIN
