/-! The ends of a method: what it returns, what it throws. -/
section ENDS
variable {p : Program} {l : Launch} {e : Env} {R : Room} {s : State} {m : MethodId} {args : Array Value} {below : List Frame} {meth : Method} {c : Code}
variable {K : KT} {ρ0 : Nat → Nat} {al0 : List VR} {n0 s0 mm mc ms : Nat} {pc : Nat} {lsv : LV} {st : List VV} {h : PH} {rr : Rs × PH}
theorem xw_at {A : Nat → Prop} (X : pm_X p s m args c K A mm) {L : List Cond} (h : (L.all fun w => xok w && vx_ot w) = true) : (∀ w ∈ L, w.before args s = true) ∧ ∀ w ∈ L, vx_ot w = true := by
  have h1 := List.all_eq_true.mp h
  refine ⟨fun w hw => ?_, fun w hw => ?_⟩
  · have h2 := h1 w hw
    rw [Bool.and_eq_true] at h2
    unfold xok at h2
    simp only [Bool.or_eq_true, Bool.and_eq_true, decide_eq_true_eq] at h2
    rcases h2.1 with q | q
    · exact X.2.2.2.2.1 w (mem_T (List.mem_append_right _ q.2) q.1)
    · exact nest_at X (List.mem_filter.mpr ⟨q.2, q.1⟩)
  · have h2 := h1 w hw
    rw [Bool.and_eq_true] at h2
    exact h2.2
theorem sim_end (X : pm_X p s m args c K (pm_A ρ0 al0 s.heap.size) mm) (hko : pm_ko K) (hl : l.stackTraces = false) (hlocks : meth.locks = false) (hret : meth.sig.returnType = mrt mm) (htab : 24 < mm → ∀ x ∈ c.exceptionTable.toList, False) (hmw : mow mm = 1 → 24 < mm)
    (hR : 10 ≤ R.frames ∧ 200 ≤ R.locals ∧ R.cells = mc ∧ R.slots = ms) (hs : step mm (pc, lsv, st, h) = some (.inr (.inr rr))) (hn : hN rr.2 = n0 + mc ∧ hS rr.2 = s0 + ms) :
    PW p l e R s m args below meth c (vx_MQ below (pm_Qc K ρ0 al0 s.heap.size rr) (pm_XC K ρ0 al0 s.heap.size rr) args s mc ms (pm_A ρ0 al0 s.heap.size)) K (pm_A ρ0 al0 s.heap.size) ρ0 al0 n0 s0 mm (pc, lsv, st, h) := by
  have hs0 := hs
  unfold step at hs
  dsimp only at hs
  cases hf : fetch mm pc with
  | none => rw [hf] at hs; cases hs
  | some i =>
  have hend := step_end hf hs0
  clear hs0
  obtain ⟨kk, hd, hlen⟩ := fetch_ok hf
  have hmm := fetch_lt hf
  have hmr := all_at mrk_all hmm
  rw [hf] at hs
  have fin : ∀ {ρ : Nat → Nat} {al : List VR} {H : Heap} {locs : List Loc} {v : Option VV} {t : State}, rr = (.inl v, h) → inH K (pm_A ρ0 al0 s.heap.size) ρ al h H → va_S (pm_A ρ0 al0 s.heap.size) s.heap H locs → okH K al h → pm_x ρ0 al0 ρ al → (∀ x, v = some x → okV K al (hN h) x) → t.heap = H → pm_Qc K ρ0 al0 s.heap.size rr args s (.returned (v.map (pm_v K ρ))) t := by
    intro ρ al H locs v t hrr iH iS oH ix hv ht
    subst hrr
    exact ⟨v, rfl, ρ, al, rfl, hv, by rw [ht]; exact iH, oH, ix, iS.F ht⟩
  have cnt : ∀ {cells slots : Nat}, rr.2 = h → hN h = n0 + cells → hS h = s0 + slots → cells = mc ∧ slots = ms := by
    intro cells slots h2 a1 a2
    rw [h2] at hn
    omega
  cases i
  case ireturn =>
    obtain rfl := il (n := 1) hlen (by decide)
    replace hs : sRetI mm st h = some (.inr (.inr rr)) := hs
    unfold sRetI at hs
    split at hs
    · rename_i x
      intro ρ al H locs cells slots ls iH iS oH ix iN iM iL iV
      have go : ∀ {ty : FieldType}, meth.sig.returnType = some ty → narrow ty (.int x) = .int x → rr = (.inl (some (.inl x)), h) → W p l e R s m args below meth c H locs cells slots (vx_MQ below (pm_Qc K ρ0 al0 s.heap.size rr) (pm_XC K ρ0 al0 s.heap.size rr) args s mc ms (pm_A ρ0 al0 s.heap.size)) (F0 m pc ls [.int x]) := by
        intro ty h1 h2 h3
        obtain ⟨rfl, rfl⟩ := cnt (by rw [h3]) iN iM
        exact vx_ret (W.zret (v := x) X.1 X.2.1 h1 h2 (fun t ht _ => fin (v := some (.inl x)) h3 iH iS oH ix (fun y hy => by cases hy; trivial) ht) iS.2.2 hd hlocks)
      cases h1 : Nat.beq (mrk mm) 1 with
      | true =>
        rw [h1] at hs; cases hs
        rw [Nat.eq_of_beq_eq_true h1] at hmr
        exact go (ty := .int) (by rw [hret]; exact of_decide_eq_true hmr) rfl rfl
      | false =>
        rw [h1] at hs
        cases h5 : Nat.beq (mrk mm) 5 with
        | true =>
          rw [h5] at hs
          rw [Nat.eq_of_beq_eq_true h5] at hmr
          dsimp only [cond_true, cond_false] at hs
          by_cases z : x = 0 ∨ x = 1
          · rw [if_pos z] at hs; cases hs
            exact go (ty := .boolean) (by rw [hret]; exact of_decide_eq_true hmr) (by rcases z with z | z <;> rw [z] <;> rfl) rfl
          · rw [if_neg z] at hs; cases hs
        | false =>
          rw [h5] at hs
          cases h6 : Nat.beq (mrk mm) 6 with
          | true =>
            rw [h6] at hs
            rw [Nat.eq_of_beq_eq_true h6] at hmr
            dsimp only [cond_true, cond_false] at hs
            by_cases z : (x.toUInt32 % 65536).toInt32 = x
            · rw [if_pos z] at hs; cases hs
              exact go (ty := .char) (by rw [hret]; exact of_decide_eq_true hmr) (by
                have e1 : narrow .char (.int x) = .int x.toUInt32.toUInt16.toUInt32.toInt32 := rfl
                rw [e1, ← lg_i2c_nf, z]) rfl
            · rw [if_neg z] at hs; cases hs
          | false =>
            rw [h6] at hs
            cases h7 : Nat.beq (mrk mm) 7 with
            | true =>
              rw [h7] at hs
              rw [Nat.eq_of_beq_eq_true h7] at hmr
              dsimp only [cond_true, cond_false] at hs
              by_cases z : x.toInt8.toInt32 = x
              · rw [if_pos z] at hs; cases hs
                exact go (ty := .byte) (by rw [hret]; exact of_decide_eq_true hmr) (by
                  have e1 : narrow .byte (.int x) = .int x.toInt8.toInt32 := rfl
                  rw [e1, z]) rfl
              · rw [if_neg z] at hs; cases hs
            | false => rw [h7] at hs; cases hs
    · cases hs
  case lreturn =>
    obtain rfl := il (n := 1) hlen (by decide)
    dsimp only at hs
    split at hs
    · rename_i x
      replace hs := bif_t hs
      obtain ⟨hb, hs⟩ := hs
      cases hs
      rw [Nat.eq_of_beq_eq_true hb] at hmr
      intro ρ al H locs cells slots ls iH iS oH ix iN iM iL iV
      obtain ⟨rfl, rfl⟩ := cnt rfl iN iM
      exact vx_ret (W.lret (v := x) X.1 X.2.1 (by rw [hret]; exact of_decide_eq_true hmr) (fun t ht _ => fin (v := some (.inr (.inl x))) rfl iH iS oH ix (fun y hy => by cases hy; trivial) ht) iS.2.2 hd hlocks)
    · cases hs
  case dreturn =>
    obtain rfl := il (n := 1) hlen (by decide)
    dsimp only at hs
    split at hs
    · rename_i x
      replace hs := bif_t hs
      obtain ⟨hb, hs⟩ := hs
      cases hs
      rw [Nat.eq_of_beq_eq_true hb] at hmr
      intro ρ al H locs cells slots ls iH iS oH ix iN iM iL iV
      obtain ⟨rfl, rfl⟩ := cnt rfl iN iM
      exact vx_ret (W.dret (v := x) X.1 X.2.1 (by rw [hret]; exact of_decide_eq_true hmr) (fun t ht _ => fin (v := some (.inr (.inr (.inl x)))) rfl iH iS oH ix (fun y hy => by cases hy; trivial) ht) iS.2.2 hd hlocks)
    · cases hs
  case areturn =>
    obtain rfl := il (n := 1) hlen (by decide)
    dsimp only at hs
    split at hs
    · rename_i x
      replace hs := bif_t hs
      obtain ⟨hb, hs⟩ := hs
      cases hs
      rw [Nat.eq_of_beq_eq_true hb] at hmr
      intro ρ al H locs cells slots ls iH iS oH ix iN iM iL iV
      obtain ⟨rfl, rfl⟩ := cnt rfl iN iM
      obtain ⟨iv, -⟩ := List.forall_mem_cons.mp iV
      have hrt : ∃ rt, meth.sig.returnType = some rt ∧ ((∃ n, rt = .object n) ∨ ∃ t, rt = .array t) := by
        rw [hret]
        replace hmr : (match mrt mm with | some (.object _) => true | some (.array _) => true | _ => false) = true := hmr
        split at hmr
        · rename_i q; exact ⟨_, q, Or.inl ⟨_, rfl⟩⟩
        · rename_i q; exact ⟨_, q, Or.inr ⟨_, rfl⟩⟩
        · cases hmr
      obtain ⟨rt, hrt1, hrt2⟩ := hrt
      exact vx_ret (W.aret (v := pm_r K ρ x) X.1 X.2.1 hrt1 hrt2 (pm_r_cases K ρ hko x) (fun t ht _ => fin (v := some (.inr (.inr (.inr x)))) rfl iH iS oH ix (fun y hy => by cases hy; exact iv) ht) iS.2.2 hd hlocks)
    · cases hs
  case return_ =>
    obtain rfl := il (n := 1) hlen (by decide)
    dsimp only at hs
    split at hs
    · replace hs := bif_t hs
      obtain ⟨hb, hs⟩ := hs
      cases hs
      rw [Nat.eq_of_beq_eq_true hb] at hmr
      intro ρ al H locs cells slots ls iH iS oH ix iN iM iL iV
      obtain ⟨rfl, rfl⟩ := cnt rfl iN iM
      exact vx_ret (W.vret X.1 X.2.1 (by rw [hret]; exact of_decide_eq_true hmr) (fun t ht _ => fin (v := none) rfl iH iS oH ix (fun y hy => by cases hy) ht) iS.2.2 hd hlocks)
    · cases hs
  case new idx =>
    obtain rfl := il (n := 3) hlen (by decide)
    replace hs : sNew mm idx pc lsv st h = some (.inr (.inr rr)) := hs
    unfold sNew at hs
    cases hNR : NR (ky mm idx) with
    | some q => obtain ⟨ty, n⟩ := q; rw [hNR] at hs; cases hs
    | none =>
      rw [hNR] at hs
      dsimp only at hs
      cases hXR : XR (ky mm idx) with
      | none => rw [hXR] at hs; cases hs
      | some x =>
        rw [hXR] at hs
        dsimp only at hs
        have hk0 : ky mm idx ≠ 0 := fun z => by rw [z, XR0] at hXR; cases hXR
        obtain ⟨hq1, hq2⟩ := ky_of hk0
        have hw := all_at xr_all (ky_lt (m := mm) (idx := idx) (mow_lt mm))
        rw [hXR] at hw
        simp only [Bool.and_eq_true, Bool.or_eq_true, Nat.beq_eq] at hw
        rw [hq1, hq2] at hw
        obtain ⟨hown1, hwhich⟩ := hw
        have hown : s.vm.findClass "CommaStream" = some m.cls := by
          have h9 := X.2.2.2.1
          rw [hown1] at h9
          exact h9
        have hfit := xfit
        simp only [Bool.and_eq_true] at hfit
        have hfn : ∀ n ∈ xnm, Bundle.fit n = true := List.all_eq_true.mp hfit.2
        obtain ⟨-, -, -, -, -, -, -, -, -, -, -, hU, hNn, -, hms, -⟩ := X.2.2.2.2.2.1
        have hout : ∀ (q : Nat), ∀ x ∈ c.exceptionTable.toList, covers x q = false := fun q x hx => (htab (hmw hown1) x hx).elim
        have key : ∃ L : List Cond, (L.all fun w => xok w && vx_ot w) = true ∧ L = Cond.classLink "CommaStream" idx (exn x) :: Cond.initialized (exn x) :: vx_atS "CommaStream" (xic x) (exn x) xnm ∧ Bundle.fit (exn x) = true := by
          rcases hwhich with (⟨a, b⟩ | ⟨a, b⟩) | ⟨a, b⟩ <;> subst a <;> subst b
          · exact ⟨_, xa_0, rfl, hfit.1.1.1⟩
          · exact ⟨_, xa_1, rfl, hfit.1.1.2⟩
          · exact ⟨_, xa_2, rfl, hfit.1.2⟩
        obtain ⟨L, hLall, rfl, hfe⟩ := key
        obtain ⟨hb4, hot⟩ := xw_at X hLall
        have hk := hb4 _ List.mem_cons_self
        have hini := hb4 _ (List.mem_cons_of_mem _ List.mem_cons_self)
        have hat : ∀ w ∈ vx_atS "CommaStream" (xic x) (exn x) xnm, w.before args s = true := fun w hw => hb4 w (List.mem_cons_of_mem _ (List.mem_cons_of_mem _ hw))
        have fx : ∀ {ρ : Nat → Nat} {al : List VR} {H : Heap} {locs : List Loc} {t : State}, rr = (.inr x, grow h 6) → inH K (pm_A ρ0 al0 s.heap.size) ρ al h H → va_S (pm_A ρ0 al0 s.heap.size) s.heap H locs → okH K al h → pm_x ρ0 al0 ρ al → H.size ≤ t.heap.size → (∀ q : Nat, q < H.size → t.heap[q]? = H[q]?) → pm_XC K ρ0 al0 s.heap.size rr (exn x) s t := by
          intro ρ al H locs t hrr iH iS oH ix hz hq
          subst hrr
          have es : pm_w K ρ (grow h 6) al = pm_w K ρ h al := by
            unfold pm_w
            exact List.map_congr_left fun r2 _ => by rw [pm_e_eq (h' := grow h 6) (h := h) rfl rfl rfl]
          refine ⟨x, rfl, rfl, ρ, al, ?_, ⟨?_, ?_⟩, ?_, ix, ?_⟩
          · show okA al (hN h + 1 - 1)
            rw [Nat.add_sub_cancel]
            exact oH.1
          · rw [es]
            exact iH.1.kept fun k q hk2 => hq _ ((iH.1 k q hk2).lt)
          · rw [es]
            exact iH.2
          · obtain ⟨⟨o1, o2, o5⟩, o3, o4, o6⟩ := oH
            have hn1 : hN (grow h 6) = hN h + 1 := rfl
            exact ⟨⟨fun r hr => ⟨(o1 r hr).1, (o1 r hr).2.1, by rw [hn1]; have := (o1 r hr).2.2; omega⟩, o2, by rw [hn1]; omega⟩, fun r hr k => ⟨okR_more (o3 r hr k).1 (by rw [hn1]; omega) (fun _ z => z), (o3 r hr k).2⟩, fun a ha k => o4 a (by rw [hn1] at ha; omega) k, o6⟩
          · exact ⟨Nat.le_trans iS.1 hz, fun q h1 h2 => by rw [hq q (Nat.lt_of_lt_of_le h1 iS.1)]; exact iS.2.1 q h1 h2⟩
        have hcat : ∀ (ρ : Nat → Nat), ((st.map (pm_v K ρ)).map (fun v => v.category)).sum = (st.map vcat).sum := fun ρ => by
          have e1 : (st.map (pm_v K ρ)).map (fun v => v.category) = st.map vcat := by
            rw [List.map_map]
            exact List.map_congr_left fun v _ => pm_cat K ρ (pm_ko_cat hko) v
          rw [e1]
        split at hs
        · rename_i g3 g4 g6 g9 j q f3 f4 f6 f9
          replace hs := bif_t hs
          obtain ⟨hb, hs⟩ := hs
          cases hs
          simp only [Bool.and_eq_true, Nat.beq_eq, Nat.ble_eq, List.any_eq_true] at hb
          obtain ⟨⟨⟨y, hy, hyj⟩, hq⟩, h8⟩ := hb
          obtain ⟨k3, d3, l3⟩ := fetch_ok f3
          obtain ⟨k4, d4, l4⟩ := fetch_ok f4
          obtain ⟨k6, d6, l6⟩ := fetch_ok f6
          obtain ⟨k9, d9, l9⟩ := fetch_ok f9
          obtain rfl := il (n := 1) l3 (by decide)
          obtain rfl := il (n := 2) l4 (by decide)
          obtain rfl := il (n := 3) l6 (by decide)
          obtain rfl := il (n := 1) l9 (by decide)
          subst hq
          obtain ⟨sa, hsa⟩ := hms y hy
          rw [hyj] at hsa
          intro ρ al H locs cells slots ls iH iS oH ix iN iM iL iV
          have iN : hN h = n0 + cells := iN
          have iM : hS h = s0 + slots := iM
          have hgn : hN h + 1 = n0 + mc ∧ hS h + 6 = s0 + ms := hn
          exact vx_throwS X.1 X.2.1 hl hown hfe hfn hk hini hsa hat hot hU hNn iS (by rw [iL.1, X.2.2.1]) hd d3 d4 d6 d9 (hout _) (by show 2 + 3 < _; omega) (by rw [hcat]; show _ + (13 * (2 + 1) + 43) ≤ _; omega) (by omega) (by omega) hlocks (fun t _ hz hq2 => fx rfl iH iS oH ix hz hq2) iS.2.2 (by omega) (by omega)
        · rename_i g3 g4 _ _ j f3 f4
          split at hs
          · rename_i g7 g10 q f7 f10
            replace hs := bif_t hs
            obtain ⟨hb, hs⟩ := hs
            cases hs
            simp only [Bool.and_eq_true, Nat.beq_eq, Nat.ble_eq, List.any_eq_true] at hb
            obtain ⟨⟨⟨y, hy, hyj⟩, hq⟩, h8⟩ := hb
            obtain ⟨k3, d3, l3⟩ := fetch_ok f3
            obtain ⟨k4, d4, l4⟩ := fetch_ok f4
            obtain ⟨k6, d7, l7⟩ := fetch_ok f7
            obtain ⟨k9, d10, l10⟩ := fetch_ok f10
            obtain rfl := il (n := 1) l3 (by decide)
            obtain rfl := il (n := 3) l4 (by decide)
            obtain rfl := il (n := 3) l7 (by decide)
            obtain rfl := il (n := 1) l10 (by decide)
            subst hq
            obtain ⟨sa, hsa⟩ := hms y hy
            rw [hyj] at hsa
            intro ρ al H locs cells slots ls iH iS oH ix iN iM iL iV
            have iN : hN h = n0 + cells := iN
            have iM : hS h = s0 + slots := iM
            have hgn : hN h + 1 = n0 + mc ∧ hS h + 6 = s0 + ms := hn
            exact vx_throwSW X.1 X.2.1 hl hown hfe hfn hk hini hsa hat hot hU hNn iS (by rw [iL.1, X.2.2.1]) hd d3 d4 d7 d10 (hout _) (by show 2 + 3 < _; omega) (by rw [hcat]; show _ + (13 * (2 + 1) + 43) ≤ _; omega) (by omega) (by omega) hlocks (fun t _ hz hq2 => fx rfl iH iS oH ix hz hq2) iS.2.2 (by omega) (by omega)
          · cases hs
        · cases hs
  all_goals (exact absurd hend (by simp [endI]))
end ENDS
