/-! Steps by the tables' links: fields, new cells, statics, constants, copies. -/
theorem FR0 : FR 0 = none := by decide +kernel
theorem NR0 : NR 0 = none := by decide +kernel
theorem AR0 : AR 0 = none := by decide +kernel
theorem SR0 : SR 0 = none := by decide +kernel
theorem LR0 : LR 0 = none := by decide +kernel
theorem L20 : L2 0 = none := by decide +kernel
theorem MR0 : MR 0 = none := by decide +kernel
theorem CR0 : CR 0 = none := by decide +kernel
theorem XR0 : XR 0 = none := by decide +kernel
theorem all_at {n : Nat} {f : Nat → Bool} (h : ((List.range n).all f) = true) {k : Nat} (hk : k < n) : f k = true := List.all_eq_true.mp h k (List.mem_range.mpr hk)
theorem ky_lt {m idx : Nat} (hm : mow m < 24) : ky m idx < 49152 := by
  unfold ky
  cases hb : Nat.blt idx 2048 with
  | true =>
    have := Nat.blt_eq.mp hb
    show mow m * 2048 + idx < 49152
    omega
  | false => show 0 < 49152; omega
theorem ky_of {m idx : Nat} (h0 : ky m idx ≠ 0) : ky m idx / 2048 = mow m ∧ ky m idx % 2048 = idx := by
  unfold ky at h0 ⊢
  cases hb : Nat.blt idx 2048 with
  | true =>
    have := Nat.blt_eq.mp hb
    show (mow m * 2048 + idx) / 2048 = mow m ∧ (mow m * 2048 + idx) % 2048 = idx
    omega
  | false => rw [hb] at h0; exact absurd rfl h0
theorem mow_lt (m : Nat) : mow m < 24 := by
  have h : ∀ (b : Bool) (x y : Nat), x < 24 → y < 24 → (bif b then x else y) < 24 := by
    intro b x y hx hy
    cases b
    · exact hy
    · exact hx
  unfold mow
  repeat' (first | (apply h) | decide)
theorem fr_at {k : Nat} (hk : k < 49152) {ty sl kd fg : Nat} (h : FR k = some (ty, sl, kd, fg)) : frc k ty sl kd fg = true := by
  have h0 := fr_all
  unfold frL at h0
  have h1 := all_at h0 hk
  rw [h] at h1
  exact h1
theorem ty_at {ty sl : Nat} (h1 : ty < 16) (h2 : sl < nF ty) : tyc ty sl = true ∧ parseFieldDescriptor (TT ty sl).2.2.1 = some (tyF ty sl) ∧ fk ty sl ≤ 2 := by
  have h := all_at (all_at tyc_all h1) h2
  simp only [Bool.and_eq_true, decide_eq_true_eq, Nat.ble_eq] at h
  exact ⟨h.1.1, h.1.2, h.2⟩
theorem nm_at {ty : Nat} (h1 : ty < 16) : ∀ a, a < nF ty → ∀ b, b < nF ty → a ≠ b → (TT ty a).2.1 ≠ (TT ty b).2.1 := by
  intro a ha b hb hne
  have h := all_at (all_at (all_at nm_all h1) ha) hb
  simp only [Bool.or_eq_true, decide_eq_true_eq] at h
  rcases h with h | h
  · exact absurd h hne
  · exact h
theorem cl_at {ty : Nat} (h1 : 1 ≤ ty) (h2 : ty < 16) : pm_cl[ty - 1]? = some (cnm ty, TT ty, nF ty) := by
  unfold pm_cl
  rw [List.getElem?_map, List.getElem?_range (by omega)]
  show some (cnm (ty - 1 + 1), TT (ty - 1 + 1), nF (ty - 1 + 1)) = _
  rw [show ty - 1 + 1 = ty by omega]
/-- a field of a constant, by a nest mate's link -/
theorem vk_getfN {p : Program} {l : Launch} {e : Env} {R : Room} {s : State} {m : MethodId} {args : Array Value} {below : List Frame} {meth : Method} {c : Code} {H : Heap} {locs : List Loc} {cells slots : Nat} {Q : State → Prop} {A : Nat → Prop} {cc : ByteArray} {pc : Nat} {ls : Array Slot} {rest : List Value} (hexec : p.tables.exec = Jvm.exec) (hb : c.code = cc) {o n d own ref host : String} {index q : Nat} {v : Value} (hE : va_OF o n d v q A s s.heap) (hS : va_S A s.heap H locs) (hown : s.vm.findClass own = some m.cls) (hlink : (Cond.fieldLinkNest own index ref n d host).before args s = true) (hsame : ∀ x, s.fieldFound? o n d = some x → s.fieldFound? ref n d = some x) (hdg : decode cc pc = .ok (.getfield index, 3))
    (k : W p l e R s m args below meth c H locs cells slots Q (F0 m (pc + 3) ls (v :: rest))) : W p l e R s m args below meth c H locs cells slots Q (F0 m pc ls (.ref q :: rest)) := by
  obtain ⟨cf, kf, i, f, cell, h1, h2, h3, h4, h5, h6⟩ := hE
  exact va_Wgetf hexec hb hown hlink (hsame _ h1) h2 (by rw [hS.2.1 q (Array.getElem?_eq_some_iff.mp h3).1 h6]; exact h3) h4 h5 rfl rfl hdg k
section SIMC
variable {p : Program} {l : Launch} {e : Env} {R : Room} {s : State} {m : MethodId} {args : Array Value} {below : List Frame} {meth : Method} {c : Code} {Q : State → Prop}
variable {K : KT} {A : Nat → Prop} {ρ0 : Nat → Nat} {al0 : List VR} {n0 s0 mm : Nat} {pc : Nat} {lsv : LV} {st : List VV} {h : PH} {c' : Cf}
theorem nest_at (X : pm_X p s m args c K A mm) {w : Cond} (hw : w ∈ NW) : w.before args s = true := by
  have h1 := X.2.2.2.2.2.1.2.2.2.2.2.2.2.2.2.2.2.2.2.2.2.2.1 w hw
  have h2 := (List.mem_filter.mp hw).2
  cases w <;> first | exact va_Nw.use rfl h1 | exact absurd h2 (by simp [pm_nest])
theorem frw_at (X : pm_X p s m args c K A mm) {k : Nat} {o n d : String} (hf : frw k o n d = true) : (FN k = true ∧ (Cond.fieldLinkNest (cnm (k / 2048)) (k % 2048) o n d (nh k)).before args s = true) ∨ (FN k = false ∧ (Cond.fieldLink (cnm (k / 2048)) (k % 2048) o n d).before args s = true) := by
  unfold frw at hf
  cases hb : FN k with
  | true => rw [hb] at hf; exact Or.inl ⟨rfl, nest_at X (wn_ok hf)⟩
  | false => rw [hb] at hf; exact Or.inr ⟨rfl, X.2.2.2.2.1 _ (wt_ok hf)⟩
theorem tid_lt : ∀ i, i < 38 → tid i < 70 := by
  intro i hi
  have := all_at (show ((List.range 38).all fun i => decide (tid i < 70)) = true by decide +kernel) hi
  exact of_decide_eq_true this
theorem sim_gf {idx : Nat} (X : pm_X p s m args c K A mm) (hd : decode (mb mm) pc = .ok (.getfield idx, 3)) (hs : sGf mm idx pc lsv st h = some (.inl c')) (k : PW p l e R s m args below meth c Q K A ρ0 al0 n0 s0 mm c') : PW p l e R s m args below meth c Q K A ρ0 al0 n0 s0 mm (pc, lsv, st, h) := by
  unfold sGf at hs
  split at hs
  · rename_i r t
    split at hs
    · rename_i ty sl kd fg hFR
      have hk0 : ky mm idx ≠ 0 := fun z => by rw [z, FR0] at hFR; cases hFR
      have hfr := fr_at (ky_lt (mow_lt mm)) hFR
      obtain ⟨hq1, hq2⟩ := ky_of hk0
      split at hs
      · rename_i v hg
        cases hs
        unfold gfv at hg
        intro ρ al H locs cells slots ls iH iS oH ix iN iM iL iV
        obtain ⟨iv, iV⟩ := List.forall_mem_cons.mp iV
        show W p l e R s m args below meth c H locs cells slots Q (F0 m pc ls (pm_r K ρ r :: t.map (pm_v K ρ)))
        unfold frc at hfr
        cases hty : Nat.beq r.1 ty with
        | true =>
          rw [hty] at hg
          rw [Nat.beq_eq] at hty
          replace hg : (bif Nat.beq ty 40 then _ else _) = some v := hg
          cases h40 : Nat.beq ty 40 with
          | true =>
            rw [h40] at hg hfr
            rw [Nat.beq_eq] at h40
            have hr40 : r.1 = 40 := by omega
            have h38 : r.2.2 < 38 := by
              rcases iv with q | q | q | q | q | q | q | q | q | q
              all_goals first | exact q.2 | (exfalso; omega) | skip
              have := (oH.1.1 r q).1
              omega
            rw [pm_r_some (by omega) (by omega), show pm_ad K ρ r = kE K r.2.2 by unfold pm_ad; rw [if_pos hr40]]
            cases hsl : Nat.beq sl 0 with
            | true =>
              rw [hsl] at hg hfr
              cases hg
              simp only [cond_true, Bool.and_eq_true] at hfr
              have ht := tid_lt _ h38
              have k9 := k ρ al H locs cells slots ls iH iS oH ix iN iM iL (List.forall_mem_cons.mpr ⟨Or.inr (Or.inr (Or.inr (Or.inr (Or.inl ⟨rfl, ht⟩)))), iV⟩)
              have hE := X.2.2.2.2.2.1.2.2.1 r.2.2 h38
              rcases frw_at X hfr.1 with ⟨-, z⟩ | ⟨-, z⟩ <;> rw [hq1, hq2] at z
              · exact vk_getfN X.1 X.2.1 hE iS X.2.2.2.1 z (fun _ q => q) hd k9
              · exact vk_getf X.1 X.2.1 hE iS X.2.2.2.1 z (fun _ q => q) hd k9
            | false =>
              rw [hsl] at hg hfr
              cases hg
              simp only [cond_true, cond_false, Bool.and_eq_true] at hfr
              have k9 := k ρ al H locs cells slots ls iH iS oH ix iN iM iL (List.forall_mem_cons.mpr ⟨trivial, iV⟩)
              have hE := (X.2.2.2.2.2.1.2.1.1 r.2.2 (by show r.2.2 < 38; exact h38)).2.2 ("java/lang/Enum", "ordinal", "I", (List.range 38).map Int32.ofNat) (by unfold ordF; exact List.mem_singleton.mpr rfl)
              have hv : ((List.range 38).map Int32.ofNat).getD r.2.2 0 = Int32.ofNat r.2.2 := by
                rw [List.getD_eq_getElem?_getD, List.getElem?_map, List.getElem?_range h38]
                rfl
              dsimp only at hE
              rw [hv] at hE
              rcases frw_at X hfr.1 with ⟨-, z⟩ | ⟨-, z⟩ <;> rw [hq1, hq2] at z
              · exact vk_getfN X.1 X.2.1 hE iS X.2.2.2.1 z (fun _ q => q) hd k9
              · exact vk_getf X.1 X.2.1 hE iS X.2.2.2.1 z (fun _ q => q) hd k9
          | false =>
            rw [h40] at hg hfr
            simp only [cond_false, Bool.and_eq_true, Nat.ble_eq, Nat.blt_eq, Nat.beq_eq, decide_eq_true_eq] at hfr
            obtain ⟨⟨⟨⟨⟨⟨⟨⟨f1, f2⟩, f3⟩, f4⟩, f5⟩, f6⟩, -⟩, -⟩, f8⟩ := hfr
            subst hty
            have hr : r ∈ al := okR_in iv f1 (by omega)
            obtain ⟨q0, hq, -⟩ := pm_w_get (K := K) (ρ := ρ) (h := h) hr
            rw [pm_e_o (by omega)] at hq
            rw [pm_r_of oH.1 hr]
            have hg2 : (bif Nat.beq kd 0 then some (Sum.inl (h.1 r.2.2 sl)) else bif Nat.beq kd 1 then some (Sum.inr (Sum.inl (h.2.1 r.2.2 sl))) else some (Sum.inr (Sum.inr (Sum.inr (h.2.2.1 r.2.2 sl)))) : Option VV) = some v := hg
            have hvo : v = (if fk r.1 sl = 0 then Sum.inl (h.1 r.2.2 sl) else if fk r.1 sl = 1 then Sum.inr (Sum.inl (h.2.1 r.2.2 sl)) else Sum.inr (Sum.inr (Sum.inr (h.2.2.1 r.2.2 sl))) : VV) := by
              rw [f4]
              cases hk0 : Nat.beq kd 0 with
              | true =>
                rw [hk0] at hg2
                rw [Nat.beq_eq] at hk0
                rw [if_pos hk0]
                exact (Option.some.inj hg2).symm
              | false =>
                rw [hk0] at hg2
                have n0' : kd ≠ 0 := fun z => by rw [z] at hk0; cases hk0
                rw [if_neg n0']
                cases hk1 : Nat.beq kd 1 with
                | true =>
                  rw [hk1] at hg2
                  rw [Nat.beq_eq] at hk1
                  rw [if_pos hk1]
                  exact (Option.some.inj hg2).symm
                | false =>
                  rw [hk1] at hg2
                  have n1' : kd ≠ 1 := fun z => by rw [z] at hk1; cases hk1
                  rw [if_neg n1']
                  exact (Option.some.inj hg2).symm
            have hval : ((List.range (nF r.1)).map (pm_f K ρ h r))[sl]? = some (pm_v K ρ v) := by
              rw [List.getElem?_map, List.getElem?_range f3, hvo]
              show some (pm_f K ρ h r sl) = _
              unfold pm_f
              split
              · rfl
              · split <;> rfl
            have hok : okV K al (hN h) v := by
              rw [hvo]
              split
              · trivial
              · split
                · trivial
                · exact (oH.2.1 r hr _).1
            have k9 := k ρ al H locs cells slots ls iH iS oH ix iN iM iL (List.forall_mem_cons.mpr ⟨hok, iV⟩)
            rcases frw_at X f8 with ⟨-, z⟩ | ⟨-, z⟩ <;> rw [hq1, hq2] at z
            · exact va_getN X.1 X.2.1 X.2.2.2.2.1 (uw_ok f1 f2) X.2.2.2.1 (GK X) iH.1 q0 hq (cl_at f1 f2) sl f3 z (fun _ q => q) hval hd k9
            · exact va_get X.1 X.2.1 X.2.2.2.2.1 (uw_ok f1 f2) X.2.2.2.1 (GK X) iH.1 q0 hq (cl_at f1 f2) sl f3 z (fun _ q => q) hval hd k9
        | false =>
          rw [hty] at hg
          replace hg := bif_t (show (bif Nat.beq ty 14 && Nat.beq r.1 43 then _ else none) = some v from hg)
          obtain ⟨hb2, hg⟩ := hg
          simp only [Bool.and_eq_true, Nat.beq_eq] at hb2
          obtain ⟨h14, hr43⟩ := hb2
          subst h14
          have hfr : (Nat.ble 1 14 && Nat.blt 14 16 && Nat.blt sl (nF 14) && Nat.beq (fk 14 sl) kd && decide ((TT 14 sl).2.2.2 = fin4 fg) && decide (Nat.beq fg 2 = decide (tyF 14 sl = .boolean)) && decide (byt4 fg = decide (tyF 14 sl = .byte)) && (!fin4 fg || !Nat.beq (ky mm idx / 2048) 14 || (!FN (ky mm idx) && decide ((TT 14 sl).1 = cnm (ky mm idx / 2048)))) && frw (ky mm idx) (TT 14 sl).1 (TT 14 sl).2.1 (TT 14 sl).2.2.1) = true := hfr
          rw [Bool.and_eq_true] at hfr
          have h38 : r.2.2 < 70 := by
            rcases iv with q | q | q | q | q | q | q | q | q | q
            all_goals first | exact q.2 | (exfalso; omega) | skip
            have := (oH.1.1 r q).1
            omega
          rw [pm_r_some (by omega) (by omega), show pm_ad K ρ r = kS K r.2.2 by unfold pm_ad; rw [if_neg (by omega), if_neg (by omega), if_neg (by omega), if_pos hr43]]
          obtain ⟨-, hEc, hEv, -⟩ := X.2.2.2.2.2.1.2.2.2.1 r.2.2 h38
          cases hsl : Nat.beq sl 0 with
          | true =>
            rw [hsl] at hg
            cases hg
            rw [Nat.beq_eq] at hsl
            subst hsl
            have k9 := k ρ al H locs cells slots ls iH iS oH ix iN iM iL (List.forall_mem_cons.mpr ⟨Or.inr (Or.inr (Or.inr (Or.inr (Or.inr (Or.inl ⟨rfl, h38, rfl⟩))))), iV⟩)
            have hfr2 : frw (ky mm idx) "java/lang/String" "value" "[B" = true := hfr.2
            rcases frw_at X hfr2 with ⟨-, z⟩ | ⟨-, z⟩ <;> rw [hq1, hq2] at z
            · exact vk_getfN X.1 X.2.1 hEv iS X.2.2.2.1 z (fun _ q => q) hd k9
            · exact vk_getf X.1 X.2.1 hEv iS X.2.2.2.1 z (fun _ q => q) hd k9
          | false =>
            rw [hsl] at hg
            replace hg := bif_t (show (bif Nat.beq sl 1 then _ else none) = some v from hg)
            obtain ⟨hs1, hg⟩ := hg
            cases hg
            rw [Nat.beq_eq] at hs1
            subst hs1
            have k9 := k ρ al H locs cells slots ls iH iS oH ix iN iM iL (List.forall_mem_cons.mpr ⟨trivial, iV⟩)
            have hfr2 : frw (ky mm idx) "java/lang/String" "coder" "B" = true := hfr.2
            rcases frw_at X hfr2 with ⟨-, z⟩ | ⟨-, z⟩ <;> rw [hq1, hq2] at z
            · exact vk_getfN X.1 X.2.1 hEc iS X.2.2.2.1 z (fun _ q => q) hd k9
            · exact vk_getf X.1 X.2.1 hEc iS X.2.2.2.1 z (fun _ q => q) hd k9
      · cases hs
    · cases hs
  · cases hs
theorem map_range_set {α : Type} {f f' : Nat → α} {N k : Nat} {v : α} (h1 : ∀ j, j < N → j ≠ k → f' j = f j) (h2 : f' k = v) : (List.range N).map f' = ((List.range N).map f).set k v := by
  apply List.ext_getElem?
  intro i
  rw [List.getElem?_set, List.getElem?_map, List.getElem?_map, List.length_map, List.length_range]
  rcases Nat.lt_or_ge i N with z | z
  · rw [List.getElem?_range z]
    by_cases e : k = i
    · subst e
      rw [if_pos rfl, if_pos z, ← h2]; rfl
    · rw [if_neg e]
      show some (f' i) = some (f i)
      rw [h1 i z (fun q => e q.symm)]
  · rw [List.getElem?_eq_none (by rw [List.length_range]; exact z)]
    by_cases e : k = i
    · rw [if_pos e, if_neg (by omega)]; rfl
    · rw [if_neg e]; rfl
/-- the row of a putfield, for any of the three links -/
theorem put_row {sl fg idx : Nat} {r : VR} {v : VV} {t : List VV} {ft : FieldType} {h2 : PH} {ρ : Nat → Nat} {al : List VR} {H : Heap} {locs : List Loc} {cells slots : Nat} {ls : Array Slot}
    (X : pm_X p s m args c K A mm) (hin : mini mm = true → meth.name = "<init>") (hd : decode (mb mm) pc = .ok (.putfield idx, 3)) (hq1 : ky mm idx / 2048 = mow mm) (hq2 : ky mm idx % 2048 = idx)
    (f1 : 1 ≤ r.1) (f2 : r.1 < 16) (f3 : sl < nF r.1) (f5 : (TT r.1 sl).2.2.2 = fin4 fg) (f7 : fin4 fg = true → mini mm = true ∧ FN (ky mm idx) = false ∧ (TT r.1 sl).1 = cnm (ky mm idx / 2048)) (f8 : frw (ky mm idx) (TT r.1 sl).1 (TT r.1 sl).2.1 (TT r.1 sl).2.2.1 = true)
    (hft : parseFieldDescriptor (TT r.1 sl).2.2.1 = some ft) (hn : narrow ft (pm_v K ρ v) = pm_v K ρ v) (hf : fits ft (pm_v K ρ v) = true)
    (iH : inH K A ρ al h H) (iS : va_S A s.heap H locs) (oH : okH K al h) (hr : r ∈ al)
    (he : ∀ j, j < nF r.1 → j ≠ sl → pm_f K ρ h2 r j = pm_f K ρ h r j) (hv : pm_f K ρ h2 r sl = pm_v K ρ v) (ho : ∀ r2 ∈ al, r2.2.2 ≠ r.2.2 → pm_e K ρ h2 r2 = pm_e K ρ h r2)
    (kk : ∀ (H1 : Heap) (locs1 : List Loc), inH K A ρ al h2 H1 → va_S A s.heap H1 locs1 → W p l e R s m args below meth c H1 locs1 cells slots Q (F0 m (pc + 3) ls (t.map (pm_v K ρ)))) : W p l e R s m args below meth c H locs cells slots Q (F0 m pc ls (pm_v K ρ v :: pm_r K ρ r :: t.map (pm_v K ρ))) := by
  obtain ⟨q0, hq, hqa⟩ := pm_w_get (K := K) (ρ := ρ) (h := h) hr
  rw [pm_e_o (by omega)] at hq
  rw [pm_r_of oH.1 hr]
  have es : (pm_w K ρ h al).set q0 (ρ r.2.2, .inr (r.1 - 1, ((List.range (nF r.1)).map (pm_f K ρ h r)).set sl (pm_v K ρ v))) = pm_w K ρ h2 al := by
    refine pm_w_set oH.1 hqa ?_ ho
    rw [pm_e_o (by omega), map_range_set he hv]
  have hlen : sl < ((List.range (nF r.1)).map (pm_f K ρ h r)).length := by rw [List.length_map, List.length_range]; exact f3
  have go : ∀ (H1 : Heap) (locs1 : List Loc), va_P (kD K) pm_cl ((pm_w K ρ h al).set q0 (ρ r.2.2, .inr (r.1 - 1, ((List.range (nF r.1)).map (pm_f K ρ h r)).set sl (pm_v K ρ v)))) H1 → va_D A ((pm_w K ρ h al).set q0 (ρ r.2.2, .inr (r.1 - 1, ((List.range (nF r.1)).map (pm_f K ρ h r)).set sl (pm_v K ρ v)))) → va_S A s.heap H1 locs1 → W p l e R s m args below meth c H1 locs1 cells slots Q (F0 m (pc + 3) ls (t.map (pm_v K ρ))) := by
    intro H1 locs1 hP hD hS1
    rw [es] at hP hD
    exact kk H1 locs1 ⟨hP, hD⟩ hS1
  by_cases hfg : fin4 fg = true
  · obtain ⟨g1, g2, g3⟩ := f7 hfg
    rcases frw_at X f8 with ⟨z0, z⟩ | ⟨-, z⟩
    · rw [g2] at z0; cases z0
    · rw [hq1, hq2] at z
      exact va_putF X.1 X.2.1 X.2.2.2.2.1 (uw_ok f1 f2) (tyF r.1) (fun j hj => (ty_at f2 hj).2.1) (nm_at f2) X.2.2.2.1 (GK X) iH.1 iH.2 iS q0 hq (cl_at f1 f2) sl f3 z (fun _ q => q) (by rw [f5, hfg]) (hin g1) (by rw [g3, hq1]) hft hn hf hlen hd go
  · have ff : (TT r.1 sl).2.2.2 = false := by
      rw [f5]
      cases hb : fin4 fg
      · rfl
      · exact absurd hb hfg
    rcases frw_at X f8 with ⟨-, z⟩ | ⟨-, z⟩ <;> rw [hq1, hq2] at z
    · exact va_putN X.1 X.2.1 X.2.2.2.2.1 (uw_ok f1 f2) (tyF r.1) (fun j hj => (ty_at f2 hj).2.1) (nm_at f2) X.2.2.2.1 (GK X) iH.1 iH.2 iS q0 hq (cl_at f1 f2) sl f3 z (fun _ q => q) ff hft hn hf hlen hd go
    · exact va_put X.1 X.2.1 X.2.2.2.2.1 (uw_ok f1 f2) (tyF r.1) (fun j hj => (ty_at f2 hj).2.1) (nm_at f2) X.2.2.2.1 (GK X) iH.1 iH.2 iS q0 hq (cl_at f1 f2) sl f3 z (fun _ q => q) ff hft hn hf hlen hd go
theorem pm_f_setI {ρ : Nat → Nat} {r : VR} {sl : Nat} {x : Int32} {j : Nat} (hj : j ≠ sl) : pm_f K ρ (setI h r.2.2 sl x) r j = pm_f K ρ h r j := by
  unfold pm_f
  show (if _ then Value.int (up2 h.1 r.2.2 sl x r.2.2 j) else _) = _
  rw [up2_eq]
  simp only [if_neg hj]
  rfl
theorem pm_f_setL {ρ : Nat → Nat} {r : VR} {sl : Nat} {x : Int64} {j : Nat} (hj : j ≠ sl) : pm_f K ρ (setL h r.2.2 sl x) r j = pm_f K ρ h r j := by
  unfold pm_f
  show (if _ then _ else if _ then Value.long (up2 h.2.1 r.2.2 sl x r.2.2 j) else _) = _
  rw [up2_eq]
  simp only [if_neg hj]
  rfl
theorem pm_f_setR {ρ : Nat → Nat} {r : VR} {sl : Nat} {x : VR} {j : Nat} (hj : j ≠ sl) : pm_f K ρ (setR h r.2.2 sl x) r j = pm_f K ρ h r j := by
  unfold pm_f
  show (if _ then _ else if _ then _ else pm_r K ρ (up2 h.2.2.1 r.2.2 sl x r.2.2 j)) = _
  rw [up2_eq]
  simp only [if_neg hj]
  rfl
theorem sim_pf {idx : Nat} (X : pm_X p s m args c K A mm) (hko : ko K = .null ∨ ∃ a, ko K = .ref a) (hin : mini mm = true → meth.name = "<init>") (hd : decode (mb mm) pc = .ok (.putfield idx, 3)) (hs : sPf mm idx pc lsv st h = some (.inl c')) (k : PW p l e R s m args below meth c Q K A ρ0 al0 n0 s0 mm c') : PW p l e R s m args below meth c Q K A ρ0 al0 n0 s0 mm (pc, lsv, st, h) := by
  unfold sPf at hs
  split at hs
  · rename_i v r t
    split at hs
    · rename_i ty sl kd fg hFR
      have hk0 : ky mm idx ≠ 0 := fun z => by rw [z, FR0] at hFR; cases hFR
      have hfr := fr_at (ky_lt (mow_lt mm)) hFR
      obtain ⟨hq1, hq2⟩ := ky_of hk0
      replace hs := bif_t hs
      obtain ⟨hb, hs⟩ := hs
      simp only [Bool.and_eq_true, Bool.or_eq_true, Nat.beq_eq, Nat.blt_eq, Bool.not_eq_true'] at hb
      obtain ⟨⟨hty, hlt⟩, hfin⟩ := hb
      unfold frc at hfr
      have e40 : Nat.beq ty 40 = false := by
        cases q : Nat.beq ty 40
        · rfl
        · have := Nat.eq_of_beq_eq_true q; omega
      rw [e40] at hfr
      simp only [cond_false, Bool.and_eq_true, Nat.ble_eq, Nat.blt_eq, Nat.beq_eq, decide_eq_true_eq] at hfr
      obtain ⟨⟨⟨⟨⟨⟨⟨⟨f1, f2⟩, f3⟩, f4⟩, f5⟩, f6⟩, f6b⟩, f7⟩, f8⟩ := hfr
      subst hty
      have f7' : fin4 fg = true → mini mm = true ∧ FN (ky mm idx) = false ∧ (TT r.1 sl).1 = cnm (ky mm idx / 2048) := by
        intro z
        rcases hfin with q | q
        · rw [z] at q; cases q
        · obtain ⟨q1, q2⟩ := q
          refine ⟨q1, ?_⟩
          simp only [Bool.or_eq_true, Bool.and_eq_true, Bool.not_eq_true', decide_eq_true_eq] at f7
          rcases f7 with (q9 | q9) | q9
          · rw [z] at q9; cases q9
          · rw [hq1, q2] at q9
            exact absurd q9 (by rw [Nat.beq_refl]; decide)
          · exact q9
      obtain ⟨g1, g2, -⟩ := ty_at f2 f3
      unfold tyc at g1
      intro ρ al H locs cells slots ls iH iS oH ix iN iM iL iV
      obtain ⟨iv0, iV⟩ := List.forall_mem_cons.mp iV
      obtain ⟨iv, iV⟩ := List.forall_mem_cons.mp iV
      have hr : r ∈ al := okR_in iv f1 (by omega)
      show W p l e R s m args below meth c H locs cells slots Q (F0 m pc ls (pm_v K ρ v :: pm_r K ρ r :: t.map (pm_v K ρ)))
      match v, hs, iv0 with
      | .inl x, hs, _ =>
        replace hs := bif_t hs
        obtain ⟨hk, hs⟩ := hs
        rw [Nat.beq_eq] at hk
        have hx : c' = (pc + 3, lsv, t, setI h r.2.2 sl x) ∧ narrow (tyF r.1 sl) (.int x) = .int x ∧ fits (tyF r.1 sl) (.int x) = true := by
          cases hz : Nat.beq fg 2 with
          | true =>
            rw [hz] at hs f6
            have ft := of_decide_eq_true f6.symm
            rw [ft]
            by_cases h01 : x = 0 ∨ x = 1
            · rw [if_pos h01] at hs
              cases hs
              refine ⟨rfl, ?_, ?_⟩ <;> rcases h01 with z | z <;> rw [z] <;> rfl
            · rw [if_neg h01] at hs; cases hs
          | false =>
            rw [hz] at hs f6
            have ft : tyF r.1 sl ≠ .boolean := of_decide_eq_false f6.symm
            cases hb4 : byt4 fg with
            | true =>
              rw [hb4] at hs f6b
              have fb := of_decide_eq_true f6b.symm
              rw [fb]
              by_cases h01 : x.toInt8.toInt32 = x
              · replace hs : (if x.toInt8.toInt32 = x then nx (pc + 3) lsv t (setI h r.2.2 sl x) else none) = some (.inl c') := hs
                rw [if_pos h01] at hs
                cases hs
                refine ⟨rfl, ?_, ?_⟩
                · show Value.int x.toInt8.toInt32 = _
                  rw [h01]
                · have := pk_fb x
                  rw [h01] at this
                  exact this
              · replace hs : (if x.toInt8.toInt32 = x then nx (pc + 3) lsv t (setI h r.2.2 sl x) else none) = some (.inl c') := hs
                rw [if_neg h01] at hs; cases hs
            | false =>
            rw [hb4] at hs f6b
            cases hs
            have fb : tyF r.1 sl ≠ .byte := of_decide_eq_false f6b.symm
            cases hty : tyF r.1 sl <;> rw [hty] at g1 ft fb <;> first | exact ⟨rfl, rfl, rfl⟩ | exact absurd rfl ft | exact absurd rfl fb | (dsimp only at g1; rw [f4, hk] at g1; exact absurd g1 (by decide)) | (dsimp only at g1; exact absurd g1 (by decide)) | exact Bool.noConfusion g1
        obtain ⟨rfl, hn, hf⟩ := hx
        refine put_row (v := .inl x) X hin hd hq1 hq2 f1 f2 f3 f5 f7' f8 g2 hn hf iH iS oH hr (fun j _ hj => pm_f_setI hj) ?_ (fun r2 _ hne => pm_e_eq (up2_ne hne) rfl rfl) (fun H1 locs1 i1 i2 => k ρ al H1 locs1 cells slots ls i1 i2 (okH_setI oH hr) ix iN iM iL iV)
        unfold pm_f
        rw [f4, if_pos hk]
        show Value.int (up2 h.1 r.2.2 sl x r.2.2 sl) = _
        rw [up2_eq]
        dsimp only
        rw [if_pos rfl]
        rfl
      | .inr (.inl x), hs, _ =>
        replace hs := bif_t hs
        obtain ⟨hk, hs⟩ := hs
        cases hs
        rw [Nat.beq_eq] at hk
        have ft : tyF r.1 sl = .long := by
          cases hty : tyF r.1 sl <;> rw [hty] at g1 <;> first | rfl | (dsimp only at g1; rw [f4, hk] at g1; exact absurd g1 (by decide)) | (dsimp only at g1; exact absurd g1 (by decide)) | exact Bool.noConfusion g1
        rw [ft] at g2
        refine put_row (v := .inr (.inl x)) X hin hd hq1 hq2 f1 f2 f3 f5 f7' f8 g2 rfl rfl iH iS oH hr (fun j _ hj => pm_f_setL hj) ?_ (fun r2 _ hne => pm_e_eq rfl (up2_ne hne) rfl) (fun H1 locs1 i1 i2 => k ρ al H1 locs1 cells slots ls i1 i2 (okH_setL oH hr) ix iN iM iL iV)
        unfold pm_f
        rw [f4, if_neg (by omega), if_pos hk]
        show Value.long (up2 h.2.1 r.2.2 sl x r.2.2 sl) = _
        rw [up2_eq]
        dsimp only
        rw [if_pos rfl]
        rfl
      | .inr (.inr (.inl x)), hs, _ => cases hs
      | .inr (.inr (.inr x)), hs, iv0 =>
        replace hs := bif_t hs
        obtain ⟨hk, hs⟩ := hs
        cases hs
        simp only [Bool.and_eq_true, Nat.beq_eq, Nat.blt_eq] at hk
        obtain ⟨hk, h46⟩ := hk
        have hnf : narrow (tyF r.1 sl) (pm_r K ρ x) = pm_r K ρ x ∧ fits (tyF r.1 sl) (pm_r K ρ x) = true := by
          cases hty : tyF r.1 sl <;> rw [hty] at g1 <;> first | (rcases pm_r_cases K ρ hko x with z | ⟨a, z⟩ <;> rw [z] <;> exact ⟨rfl, rfl⟩) | (dsimp only at g1; rw [f4, hk] at g1; exact absurd g1 (by decide)) | (dsimp only at g1; exact absurd g1 (by decide)) | exact Bool.noConfusion g1
        refine put_row (v := .inr (.inr (.inr x))) X hin hd hq1 hq2 f1 f2 f3 f5 f7' f8 g2 hnf.1 hnf.2 iH iS oH hr (fun j _ hj => pm_f_setR hj) ?_ (fun r2 _ hne => pm_e_eq rfl rfl (up2_ne hne)) (fun H1 locs1 i1 i2 => k ρ al H1 locs1 cells slots ls i1 i2 (okH_setR oH hr ⟨iv0, by omega⟩) ix iN iM iL iV)
        unfold pm_f
        rw [f4, if_neg (by omega), if_neg (by omega)]
        show pm_r K ρ (up2 h.2.2.1 r.2.2 sl x r.2.2 sl) = _
        rw [up2_eq]
        dsimp only
        rw [if_pos rfl]
        rfl
    · cases hs
  · cases hs
/-- behind a new cell -/
theorem alloc_go {pc' n : Nat} {r : VR} {t : List VV} (k : PW p l e R s m args below meth c Q K A ρ0 al0 n0 s0 mm (pc', lsv, .inr (.inr (.inr r)) :: t, grow h n)) (hr : r.2.2 = hN h) (hk : (1 ≤ r.1 ∧ r.1 ≤ 15) ∨ (20 ≤ r.1 ∧ r.1 ≤ 29))
    {ρ : Nat → Nat} {al : List VR} {H1 : Heap} {locs : List Loc} {cells slots q : Nat} {ls : Array Slot} {ent : va_E} (oH : okH K al h) (he : ent = pm_e K (fun x => if x = hN h then q else ρ x) (grow h n) r)
    (hP : va_P (kD K) pm_cl (pm_w K ρ h al ++ [(q, ent)]) H1) (hD : va_D A (pm_w K ρ h al ++ [(q, ent)])) (iS : va_S A s.heap H1 locs) (ix : pm_x ρ0 al0 ρ al) (iN : hN h = n0 + cells) (iM : hS h = s0 + slots) (iL : lrel K ρ al (hN h) ls (mxl mm) lsv) (iV : ∀ v ∈ t, okV K al (hN h) v) :
    W p l e R s m args below meth c H1 locs (cells + 1) (slots + n) Q (F0 m pc' ls (.ref q :: t.map (pm_v K ρ))) := by
  have hn : hN (grow h n) = hN h + 1 := rfl
  have hsz : hS (grow h n) = hS h + n := rfl
  have sub2 : ∀ r2 ∈ al, r2 ∈ al ++ [r] := fun r2 h2 => List.mem_append_left _ h2
  have oH2 := okH_new (k := n) oH hr hk
  have es := pm_w_new (ρ := ρ) (k := n) (q := q) oH hr
  rw [← he] at es
  rw [← es] at hP hD
  have k9 := k (fun x => if x = hN h then q else ρ x) (al ++ [r]) H1 locs (cells + 1) (slots + n) ls ⟨hP, hD⟩ iS oH2 (fun r2 h2 => by
    obtain ⟨a1, a2⟩ := ix r2 h2
    have := (oH.1.1 r2 a1).2.2
    refine ⟨sub2 r2 a1, ?_⟩
    dsimp only
    rw [if_neg (by omega)]
    exact a2) (by rw [hn]; omega) (by rw [hsz]; omega) ⟨iL.1, iL.2.1, iL.2.2.1, fun i v hv => by
    obtain ⟨a1, a2⟩ := iL.2.2.2 i v hv
    refine ⟨?_, okV_more a2 (by rw [hn]; omega) sub2⟩
    rw [pm_v_up oH.1 a2]
    exact a1⟩ (List.forall_mem_cons.mpr ⟨by
      show okR K (al ++ [r]) _ r
      exact Or.inr (Or.inr (Or.inr (Or.inr (Or.inr (Or.inr (Or.inr (Or.inr (Or.inr (List.mem_append_right _ (List.mem_singleton.mpr rfl)))))))))), fun v hv => okV_more (iV v hv) (by rw [hn]; omega) sub2⟩)
  have e1 : pm_r K (fun x => if x = hN h then q else ρ x) r = .ref q := by
    rw [pm_r_of oH2.1 (List.mem_append_right _ (List.mem_singleton.mpr rfl))]
    show Value.ref (if r.2.2 = hN h then q else ρ r.2.2) = _
    rw [if_pos hr]
  have e2 : t.map (pm_v K (fun x => if x = hN h then q else ρ x)) = t.map (pm_v K ρ) := List.map_congr_left fun v hv => pm_v_up oH.1 (iV v hv)
  have k8 : W p l e R s m args below meth c H1 locs (cells + 1) (slots + n) Q (F0 m pc' ls (pm_r K (fun x => if x = hN h then q else ρ x) r :: t.map (pm_v K (fun x => if x = hN h then q else ρ x)))) := k9
  rw [e1, e2] at k8
  exact k8
noncomputable def dfs (ty : Nat) : List Value := (List.range (nF ty)).map (fun k => if fk ty k = 0 then .int 0 else if fk ty k = 1 then .long 0 else .null)
theorem dfs_e {ρ : Nat → Nat} {al : List VR} {n q ty : Nat} (oH : okH K al h) (h1 : 1 ≤ ty) (h2 : ty < 16) : (.inr (ty - 1, dfs ty) : va_E) = pm_e K (fun x => if x = hN h then q else ρ x) (grow h n) (ty, 0, hN h) := by
  rw [pm_e_o (by show ty < 20; omega)]
  congr 2
  unfold dfs
  apply List.map_congr_left
  intro j _
  obtain ⟨z1, z2, z3⟩ := oH.2.2.1 (hN h) (Nat.le_refl _) j
  unfold pm_f
  show _ = if fk ty j = 0 then Value.int (h.1 (hN h) j) else if fk ty j = 1 then Value.long (h.2.1 (hN h) j) else pm_r K _ (h.2.2.1 (hN h) j)
  rw [z1, z2, z3]
  rfl
theorem fss_at {ty : Nat} (h2 : ty < 16) : ∀ j, j < nF ty → defaultValue (tyF ty j) = vp_V (dfs ty) j := by
  intro j hj
  obtain ⟨g1, -, -⟩ := ty_at h2 hj
  unfold vp_V dfs
  rw [List.getD_eq_getElem?_getD, List.getElem?_map, List.getElem?_range hj]
  show _ = if fk ty j = 0 then Value.int 0 else if fk ty j = 1 then Value.long 0 else Value.null
  unfold tyc at g1
  cases hty : tyF ty j <;> rw [hty] at g1 <;> first | (dsimp only at g1; rw [Nat.beq_eq] at g1; rw [g1]; rfl) | exact Bool.noConfusion g1 | (dsimp only at g1; exact absurd g1 (by decide))
theorem sim_newo {idx ty n : Nat} (X : pm_X p s m args c K A mm) (hd : decode (mb mm) pc = .ok (.new idx, 3)) (hNR : NR (ky mm idx) = some (ty, n)) (hrm : hN h + 1 ≤ n0 + R.cells ∧ hS h + n ≤ s0 + R.slots)
    (k : PW p l e R s m args below meth c Q K A ρ0 al0 n0 s0 mm (pc + 3, lsv, .inr (.inr (.inr (ty, 0, hN h))) :: st, grow h n)) : PW p l e R s m args below meth c Q K A ρ0 al0 n0 s0 mm (pc, lsv, st, h) := by
  have hk0 : ky mm idx ≠ 0 := fun z => by rw [z, NR0] at hNR; cases hNR
  obtain ⟨hq1, hq2⟩ := ky_of hk0
  have hw := all_at nr_all (ky_lt (m := mm) (idx := idx) (mow_lt mm))
  rw [hNR] at hw
  simp only [Bool.and_eq_true, Nat.ble_eq, Nat.blt_eq, Nat.beq_eq] at hw
  obtain ⟨⟨⟨h1, h2⟩, h3⟩, h4⟩ := hw
  have h4 := X.2.2.2.2.1 _ (wt_ok h4)
  rw [hq1, hq2] at h4
  have hni := all_at ni_all (show ty - 1 < 15 by omega)
  rw [show ty - 1 + 1 = ty by omega, Bool.and_eq_true] at hni
  have g1 := X.2.2.2.2.1 _ (wt_ok hni.1)
  have g2 := X.2.2.2.2.1 _ (wt_ok hni.2)
  subst h3
  intro ρ al H locs cells slots ls iH iS oH ix iN iM iL iV
  have iN : hN h = n0 + cells := iN
  have iM : hS h = s0 + slots := iM
  refine va_new X.1 X.2.1 X.2.2.2.2.1 (uw_ok h1 h2) (tyF ty) (fun j hj => (ty_at h2 hj).2.1) X.2.2.2.1 h4 g2 g1 (GK X) iH.1 iH.2 iS X.2.2.2.2.2.2 (cl_at h1 h2) (fss_at h2) (by omega) (by omega) hd (fun q H1 hP hD hS1 => ?_)
  exact alloc_go k rfl (Or.inl ⟨h1, by show ty ≤ 15; omega⟩) oH (dfs_e oH h1 h2) hP hD hS1 ix iN iM iL iV
theorem cA_eq {t : Nat} {ty : FieldType} {cA : ClassId} {j : Nat} (hK : va_K (kD K) pm_cl (pm_tys K ++ [(cA, ty)]) s) (hj : (pm_tys K)[j]? = some (kA K t, ty)) : cA = kA K t := by
  have h1 := (hK.2 10 (cA, ty) rfl).2
  have h2 := (hK.2 j (kA K t, ty) (by rw [List.getElem?_append_left ((List.getElem?_eq_some_iff.mp hj).1)]; exact hj)).2
  cases ty with
  | object C =>
    obtain ⟨_, _, _, _, _, a⟩ := h1
    obtain ⟨_, _, _, _, _, b⟩ := h2
    exact Option.some.inj (a.symm.trans b)
  | _ => exact Option.some.inj (h1.symm.trans h2)
theorem sim_newp {ty : Nat} {at_ : ArrayType} {x : Int32} {t : List VV} (X : pm_X p s m args c K A mm) (hd : decode (mb mm) pc = .ok (.newarray at_, 2)) (hty : (ty = 20 ∧ at_ = .int) ∨ (ty = 21 ∧ at_ = .long) ∨ (ty = 22 ∧ at_ = .byte) ∨ (ty = 26 ∧ at_ = .boolean))
    (hx : ¬ (x < 0 ∨ 100000 < x.toNatClampNeg)) (hrm : hN h + 1 ≤ n0 + R.cells ∧ hS h + x.toNatClampNeg ≤ s0 + R.slots)
    (k : PW p l e R s m args below meth c Q K A ρ0 al0 n0 s0 mm (pc + 2, lsv, .inr (.inr (.inr (ty, x.toNatClampNeg, hN h))) :: t, grow h x.toNatClampNeg)) : PW p l e R s m args below meth c Q K A ρ0 al0 n0 s0 mm (pc, lsv, .inl x :: t, h) := by
  have hw := aw_all
  simp only [Bool.and_eq_true] at hw
  obtain ⟨w1, w2, w3, w4⟩ := hw
  have hx0 : ¬ x < 0 := fun z => hx (Or.inl z)
  have hx1 : x.toNatClampNeg ≤ 100000 := Nat.not_lt.mp fun z => hx (Or.inr z)
  intro ρ al H locs cells slots ls iH iS oH ix iN iM iL iV
  have iN : hN h = n0 + cells := iN
  have iM : hS h = s0 + slots := iM
  obtain ⟨-, iV⟩ := List.forall_mem_cons.mp iV
  have z1 : h.1 (hN h) = fun _ => 0 := funext fun j => (oH.2.2.1 (hN h) (Nat.le_refl _) j).1
  have z2 : h.2.1 (hN h) = fun _ => 0 := funext fun j => (oH.2.2.1 (hN h) (Nat.le_refl _) j).2.1
  show W p l e R s m args below meth c H locs cells slots Q (F0 m pc ls (.int x :: t.map (pm_v K ρ)))
  rcases hty with ⟨rfl, rfl⟩ | ⟨rfl, rfl⟩ | ⟨rfl, rfl⟩ | ⟨rfl, rfl⟩
  · refine va_newa (atype := .int) X.1 X.2.1 (X.2.2.2.2.1 _ (wt_ok w1)) rfl (GK X) iH.1 iH.2 iS X.2.2.2.2.2.2 (a0 := (x.toNatClampNeg, .inl (fun _ => 0))) (fun cA => rfl) hx0 rfl (by show x.toNatClampNeg * 4 ≤ _; omega) (by omega) (by omega) hd (fun q cA H1 hK2 hP hD hS1 => ?_)
    rw [cA_eq (j := 0) (t := 20) hK2 rfl] at hP hD
    refine alloc_go k rfl (Or.inr ⟨Nat.le_of_ble_eq_true rfl, Nat.le_of_ble_eq_true rfl⟩) oH ?_ hP hD hS1 ix iN iM iL iV
    rw [pm_e_i (Or.inl rfl)]
    show _ = Sum.inl (kA K 20, x.toNatClampNeg, Sum.inl (h.1 (hN h)))
    rw [z1]
  · refine va_newa (atype := .long) X.1 X.2.1 (X.2.2.2.2.1 _ (wt_ok w2)) rfl (GK X) iH.1 iH.2 iS X.2.2.2.2.2.2 (a0 := (x.toNatClampNeg, .inr (.inl (fun _ => 0)))) (fun cA => rfl) hx0 rfl (by show x.toNatClampNeg * 8 ≤ _; omega) (by omega) (by omega) hd (fun q cA H1 hK2 hP hD hS1 => ?_)
    rw [cA_eq (j := 1) (t := 21) hK2 rfl] at hP hD
    refine alloc_go k rfl (Or.inr ⟨Nat.le_of_ble_eq_true rfl, Nat.le_of_ble_eq_true rfl⟩) oH ?_ hP hD hS1 ix iN iM iL iV
    rw [pm_e_l rfl]
    show _ = Sum.inl (kA K 21, x.toNatClampNeg, Sum.inr (Sum.inl (h.2.1 (hN h))))
    rw [z2]
  · refine va_newa (atype := .byte) X.1 X.2.1 (X.2.2.2.2.1 _ (wt_ok w3)) rfl (GK X) iH.1 iH.2 iS X.2.2.2.2.2.2 (a0 := (x.toNatClampNeg, .inl (fun _ => 0))) (fun cA => rfl) hx0 rfl (by show x.toNatClampNeg * 1 ≤ _; omega) (by omega) (by omega) hd (fun q cA H1 hK2 hP hD hS1 => ?_)
    rw [cA_eq (j := 2) (t := 22) hK2 rfl] at hP hD
    refine alloc_go k rfl (Or.inr ⟨Nat.le_of_ble_eq_true rfl, Nat.le_of_ble_eq_true rfl⟩) oH ?_ hP hD hS1 ix iN iM iL iV
    rw [pm_e_i (Or.inr (Or.inl rfl))]
    show _ = Sum.inl (kA K 22, x.toNatClampNeg, Sum.inl (h.1 (hN h)))
    rw [z1]
  · refine va_newa (atype := .boolean) X.1 X.2.1 (X.2.2.2.2.1 _ (wt_ok w4)) rfl (GK X) iH.1 iH.2 iS X.2.2.2.2.2.2 (a0 := (x.toNatClampNeg, .inl (fun _ => 0))) (fun cA => rfl) hx0 rfl (by show x.toNatClampNeg * 1 ≤ _; omega) (by omega) (by omega) hd (fun q cA H1 hK2 hP hD hS1 => ?_)
    rw [cA_eq (j := 6) (t := 26) hK2 rfl] at hP hD
    refine alloc_go k rfl (Or.inr ⟨Nat.le_of_ble_eq_true rfl, Nat.le_of_ble_eq_true rfl⟩) oH ?_ hP hD hS1 ix iN iM iL iV
    rw [pm_e_i (Or.inr (Or.inr rfl))]
    show _ = Sum.inl (kA K 26, x.toNatClampNeg, Sum.inl (h.1 (hN h)))
    rw [z1]
theorem va_newA {D : va_G} {cl : List vw_C} {tys : List (ClassId × FieldType)} {ws : va_W} {H0 H : Heap} {locs : List Loc} {cells slots : Nat} {ls : Array Slot} {rest : List Value} {cc : ByteArray} (hexec : p.tables.exec = Jvm.exec) (hb : c.code = cc) {own : String} {t : FieldType} {index : Nat} (hown : s.vm.findClass own = some m.cls) (hclink : (Cond.classLink own index (FieldType.array t).toString).before args s = true) (hover : pm_AA t s) (hK : va_K D cl tys s) (hP : va_P D cl ws H) (hD : va_D A ws) (hS : va_S A H0 H locs) (hA : ∀ q, H0.size ≤ q → A q)
    {n : Int32} {N' : Nat} (hn : ¬ n < 0) (hN : n.toNatClampNeg = N') (hbytes : N' * 4 ≤ 536870912) (hcells : cells + 1 ≤ R.cells) (hslots : slots + N' ≤ R.slots) (hdg : decode cc pc = .ok (.anewarray index, 3))
    (kk : ∀ (q : Nat) (cA : ClassId) (H1 : Heap), va_K D cl (tys ++ [(cA, .array t)]) s → va_P D cl (ws ++ [(q, .inl (cA, N', .inr (.inr (.inr (.inr (fun _ => none))))))]) H1 → va_D A (ws ++ [(q, .inl (cA, N', .inr (.inr (.inr (.inr (fun _ => none))))))]) → va_S A H0 H1 locs →
      W p l e R s m args below meth c H1 locs (cells + 1) (slots + N') Q (F0 m (pc + 3) ls (.ref q :: rest))) : W p l e R s m args below meth c H locs cells slots Q (F0 m pc ls (.int n :: rest)) := by
  subst hN
  refine W.anewA hexec hb hown hclink hover rfl hdg rfl hn hbytes hcells hslots fun cA kA comp f1 f2 f3 f4 => ?_
  generalize hH1 : H.push ({ cls := cA, slots := Array.replicate n.toNatClampNeg .null, vm := .none } : Cell) = H1
  have z1 : H1.size = H.size + 1 := by rw [← hH1, Array.size_push]
  have e1 : H1[H.size]? = some (arrV cA n.toNatClampNeg (fun _ => .null)) := by rw [← hH1, Array.getElem?_push_size, ← arrV_new]
  have o1 : ∀ q : Nat, q < H.size → H1[q]? = H[q]? := fun q hq => by rw [← hH1, Array.getElem?_push, if_neg (Nat.ne_of_lt hq)]
  have hAr : ArrOfT s cA (.array t) := fun N z => ⟨(fun k h => by cases h), kA, f2, comp, f3⟩
  have hk : ∀ (k : Nat) (x : Nat × va_E), ws[k]? = some x → H1[x.1]? = H[x.1]? := fun k x hx => o1 x.1 ((hP k x hx).lt)
  refine kk H.size cA H1 ⟨hK.1, fun k x hx => ?_⟩ ((hP.kept hk).app (fun k x hx => ?_)) (hD.push hP rfl (hA _ hS.1)) ⟨Nat.le_trans hS.1 (by omega), fun x h1 h2 => (o1 x (Nat.lt_of_lt_of_le h1 hS.1)).trans (hS.2.1 x h1 h2), hS.2.2⟩
  · by_cases hl : k < tys.length
    · rw [List.getElem?_append_left hl] at hx
      exact hK.2 k x hx
    · rw [List.getElem?_append_right (by omega)] at hx
      have hz : k - tys.length < 1 := (List.getElem?_eq_some_iff.mp hx).1
      rw [show k - tys.length = 0 by omega] at hx
      cases hx
      exact ⟨hAr, f1⟩
  · have hz : k < 1 := (List.getElem?_eq_some_iff.mp hx).1
    rw [show k = 0 by omega] at hx
    cases hx
    show H1[H.size]? = some (vp_cell _ _)
    rw [vp_cell_q]
    exact e1
theorem sim_newr {idx ty : Nat} {x : Int32} {t : List VV} (X : pm_X p s m args c K A mm) (hd : decode (mb mm) pc = .ok (.anewarray idx, 3)) (hAR : AR (ky mm idx) = some ty)
    (hx : ¬ (x < 0 ∨ 100000 < x.toNatClampNeg)) (hrm : hN h + 1 ≤ n0 + R.cells ∧ hS h + x.toNatClampNeg ≤ s0 + R.slots)
    (k : PW p l e R s m args below meth c Q K A ρ0 al0 n0 s0 mm (pc + 3, lsv, .inr (.inr (.inr (ty, x.toNatClampNeg, hN h))) :: t, grow h x.toNatClampNeg)) : PW p l e R s m args below meth c Q K A ρ0 al0 n0 s0 mm (pc, lsv, .inl x :: t, h) := by
  have hk0 : ky mm idx ≠ 0 := fun z => by rw [z, AR0] at hAR; cases hAR
  obtain ⟨hq1, hq2⟩ := ky_of hk0
  have hw := all_at ar_all (ky_lt (m := mm) (idx := idx) (mow_lt mm))
  rw [hAR] at hw
  simp only [Bool.and_eq_true, Nat.ble_eq, Bool.not_eq_true'] at hw
  obtain ⟨⟨⟨h1, h2⟩, h26⟩, h4⟩ := hw
  have h26 : ty ≠ 26 := fun z => by rw [z] at h26; cases h26
  have h4 := X.2.2.2.2.1 _ (wt_ok h4)
  rw [hq1, hq2] at h4
  have hx0 : ¬ x < 0 := fun z => hx (Or.inl z)
  have hx1 : x.toNatClampNeg ≤ 100000 := Nat.not_lt.mp fun z => hx (Or.inr z)
  intro ρ al H locs cells slots ls iH iS oH ix iN iM iL iV
  have iN : hN h = n0 + cells := iN
  have iM : hS h = s0 + slots := iM
  obtain ⟨-, iV⟩ := List.forall_mem_cons.mp iV
  have z3 : ∀ (ρ2 : Nat → Nat), (fun j => pm_o K ρ2 (h.2.2.1 (hN h) j)) = fun _ => none := fun ρ2 => funext fun j => by rw [(oH.2.2.1 (hN h) (Nat.le_refl _) j).2.2]; rfl
  obtain ⟨-, -, -, -, -, -, -, -, -, -, -, -, -, -, -, -, -, a1, a2, a3⟩ := X.2.2.2.2.2.1
  show W p l e R s m args below meth c H locs cells slots Q (F0 m pc ls (.int x :: t.map (pm_v K ρ)))
  rcases (show ty = 23 ∨ ty = 24 ∨ ty = 25 ∨ ty = 27 ∨ ty = 28 ∨ ty = 29 by omega) with rfl | rfl | rfl | rfl | rfl | rfl
  · refine va_newq X.1 X.2.1 X.2.2.2.1 h4 a1 (GK X) iH.1 iH.2 iS X.2.2.2.2.2.2 hx0 rfl (by omega) (by omega) (by omega) hd (fun q cA H1 hK2 hP hD hS1 => ?_)
    rw [cA_eq (j := 3) (t := 23) hK2 rfl] at hP hD
    refine alloc_go k rfl (Or.inr ⟨Nat.le_of_ble_eq_true rfl, Nat.le_of_ble_eq_true rfl⟩) oH ?_ hP hD hS1 ix iN iM iL iV
    rw [pm_e_r (Nat.le_of_ble_eq_true rfl) (by first | exact (by decide : (23 : Nat) ≠ 26) | exact (by decide : (24 : Nat) ≠ 26) | exact (by decide : (25 : Nat) ≠ 26) | exact (by decide : (27 : Nat) ≠ 26) | exact (by decide : (28 : Nat) ≠ 26) | exact (by decide : (29 : Nat) ≠ 26))]
    show _ = Sum.inl (kA K 23, x.toNatClampNeg, Sum.inr (Sum.inr (Sum.inr (Sum.inr (fun j => pm_o K _ (h.2.2.1 (hN h) j))))))
    rw [z3]
  · refine va_newq X.1 X.2.1 X.2.2.2.1 h4 a2 (GK X) iH.1 iH.2 iS X.2.2.2.2.2.2 hx0 rfl (by omega) (by omega) (by omega) hd (fun q cA H1 hK2 hP hD hS1 => ?_)
    rw [cA_eq (j := 4) (t := 24) hK2 rfl] at hP hD
    refine alloc_go k rfl (Or.inr ⟨Nat.le_of_ble_eq_true rfl, Nat.le_of_ble_eq_true rfl⟩) oH ?_ hP hD hS1 ix iN iM iL iV
    rw [pm_e_r (Nat.le_of_ble_eq_true rfl) (by first | exact (by decide : (23 : Nat) ≠ 26) | exact (by decide : (24 : Nat) ≠ 26) | exact (by decide : (25 : Nat) ≠ 26) | exact (by decide : (27 : Nat) ≠ 26) | exact (by decide : (28 : Nat) ≠ 26) | exact (by decide : (29 : Nat) ≠ 26))]
    show _ = Sum.inl (kA K 24, x.toNatClampNeg, Sum.inr (Sum.inr (Sum.inr (Sum.inr (fun j => pm_o K _ (h.2.2.1 (hN h) j))))))
    rw [z3]
  · refine va_newq X.1 X.2.1 X.2.2.2.1 h4 a3.1.1 (GK X) iH.1 iH.2 iS X.2.2.2.2.2.2 hx0 rfl (by omega) (by omega) (by omega) hd (fun q cA H1 hK2 hP hD hS1 => ?_)
    rw [cA_eq (j := 5) (t := 25) hK2 rfl] at hP hD
    refine alloc_go k rfl (Or.inr ⟨Nat.le_of_ble_eq_true rfl, Nat.le_of_ble_eq_true rfl⟩) oH ?_ hP hD hS1 ix iN iM iL iV
    rw [pm_e_r (Nat.le_of_ble_eq_true rfl) (by first | exact (by decide : (23 : Nat) ≠ 26) | exact (by decide : (24 : Nat) ≠ 26) | exact (by decide : (25 : Nat) ≠ 26) | exact (by decide : (27 : Nat) ≠ 26) | exact (by decide : (28 : Nat) ≠ 26) | exact (by decide : (29 : Nat) ≠ 26))]
    show _ = Sum.inl (kA K 25, x.toNatClampNeg, Sum.inr (Sum.inr (Sum.inr (Sum.inr (fun j => pm_o K _ (h.2.2.1 (hN h) j))))))
    rw [z3]
  · refine va_newq X.1 X.2.1 X.2.2.2.1 h4 a3.1.2.1 (GK X) iH.1 iH.2 iS X.2.2.2.2.2.2 hx0 rfl (by omega) (by omega) (by omega) hd (fun q cA H1 hK2 hP hD hS1 => ?_)
    rw [cA_eq (j := 7) (t := 27) hK2 rfl] at hP hD
    refine alloc_go k rfl (Or.inr ⟨Nat.le_of_ble_eq_true rfl, Nat.le_of_ble_eq_true rfl⟩) oH ?_ hP hD hS1 ix iN iM iL iV
    rw [pm_e_r (Nat.le_of_ble_eq_true rfl) (by first | exact (by decide : (23 : Nat) ≠ 26) | exact (by decide : (24 : Nat) ≠ 26) | exact (by decide : (25 : Nat) ≠ 26) | exact (by decide : (27 : Nat) ≠ 26) | exact (by decide : (28 : Nat) ≠ 26) | exact (by decide : (29 : Nat) ≠ 26))]
    show _ = Sum.inl (kA K 27, x.toNatClampNeg, Sum.inr (Sum.inr (Sum.inr (Sum.inr (fun j => pm_o K _ (h.2.2.1 (hN h) j))))))
    rw [z3]
  · refine va_newA (t := .int) X.1 X.2.1 X.2.2.2.1 h4 a3.1.2.2.1 (GK X) iH.1 iH.2 iS X.2.2.2.2.2.2 hx0 rfl (by omega) (by omega) (by omega) hd (fun q cA H1 hK2 hP hD hS1 => ?_)
    rw [cA_eq (j := 8) (t := 28) hK2 rfl] at hP hD
    refine alloc_go k rfl (Or.inr ⟨Nat.le_of_ble_eq_true rfl, Nat.le_of_ble_eq_true rfl⟩) oH ?_ hP hD hS1 ix iN iM iL iV
    rw [pm_e_r (Nat.le_of_ble_eq_true rfl) (by first | exact (by decide : (23 : Nat) ≠ 26) | exact (by decide : (24 : Nat) ≠ 26) | exact (by decide : (25 : Nat) ≠ 26) | exact (by decide : (27 : Nat) ≠ 26) | exact (by decide : (28 : Nat) ≠ 26) | exact (by decide : (29 : Nat) ≠ 26))]
    show _ = Sum.inl (kA K 28, x.toNatClampNeg, Sum.inr (Sum.inr (Sum.inr (Sum.inr (fun j => pm_o K _ (h.2.2.1 (hN h) j))))))
    rw [z3]
  · refine va_newA (t := .boolean) X.1 X.2.1 X.2.2.2.1 h4 a3.1.2.2.2 (GK X) iH.1 iH.2 iS X.2.2.2.2.2.2 hx0 rfl (by omega) (by omega) (by omega) hd (fun q cA H1 hK2 hP hD hS1 => ?_)
    rw [cA_eq (j := 9) (t := 29) hK2 rfl] at hP hD
    refine alloc_go k rfl (Or.inr ⟨Nat.le_of_ble_eq_true rfl, Nat.le_of_ble_eq_true rfl⟩) oH ?_ hP hD hS1 ix iN iM iL iV
    rw [pm_e_r (Nat.le_of_ble_eq_true rfl) (by first | exact (by decide : (23 : Nat) ≠ 26) | exact (by decide : (24 : Nat) ≠ 26) | exact (by decide : (25 : Nat) ≠ 26) | exact (by decide : (27 : Nat) ≠ 26) | exact (by decide : (28 : Nat) ≠ 26) | exact (by decide : (29 : Nat) ≠ 26))]
    show _ = Sum.inl (kA K 29, x.toNatClampNeg, Sum.inr (Sum.inr (Sum.inr (Sum.inr (fun j => pm_o K _ (h.2.2.1 (hN h) j))))))
    rw [z3]
theorem sim_gs {idx : Nat} (X : pm_X p s m args c K A mm) (hd : decode (mb mm) pc = .ok (.getstatic idx, 3)) {v : VV} (hSR : SR (ky mm idx) = some v) (k : PW p l e R s m args below meth c Q K A ρ0 al0 n0 s0 mm (pc + 3, lsv, v :: st, h)) : PW p l e R s m args below meth c Q K A ρ0 al0 n0 s0 mm (pc, lsv, st, h) := by
  have hk0 : ky mm idx ≠ 0 := fun z => by rw [z, SR0] at hSR; cases hSR
  obtain ⟨hq1, hq2⟩ := ky_of hk0
  have hw := all_at sr_all (ky_lt (m := mm) (idx := idx) (mow_lt mm))
  rw [hSR] at hw
  simp only [Bool.and_eq_true, decide_eq_true_eq, Nat.blt_eq, Bool.or_eq_true, Bool.not_eq_true'] at hw
  obtain ⟨⟨⟨⟨⟨hv, h6⟩, h3⟩, h38⟩, hkl⟩, hlk⟩ := hw
  generalize SK (ky mm idx) = tk at hv h6 h3 h38 hkl hlk
  obtain ⟨t1, t2⟩ := tk
  intro ρ al H locs cells slots ls iH iS oH ix iN iM iL iV
  obtain ⟨-, c2, -, -, c5, -, c7, -, c9, c10, c11, -⟩ := X.2.2.2.2.2.1
  have hZ : va_Z (srn (t1, t2)).1 (srn (t1, t2)).2.1 (srn (t1, t2)).2.2 (pm_v K ρ v) A s s.heap ∧ okV K al (hN h) v := by
    subst hv
    dsimp only at h6 h3 h38 hkl
    match t1, h6, h3, h38, hkl with
    | 0, _, _, h38, _ =>
      have h38 : t2 < 38 := by
        rcases h38 with z | z
        · exact absurd z (by decide)
        · exact z
      refine ⟨?_, Or.inr (Or.inl ⟨rfl, h38⟩)⟩
      have := (c2.1 t2 (by show t2 < 38; exact h38)).1
      show va_Z "CommaStream$Kind" (enL.getD t2 "") "LCommaStream$Kind;" (pm_r K ρ (40, 0, t2)) A s s.heap
      rw [pm_r_some (Nat.le_of_ble_eq_true rfl) (Nat.le_of_ble_eq_true rfl)]
      exact this
    | 1, _, _, _, _ =>
      refine ⟨?_, Or.inr (Or.inr (Or.inl ⟨rfl, rfl⟩))⟩
      show va_Z "CommaStream" "KINDS" "[LCommaStream$Kind;" (pm_r K ρ (41, 38, 0)) A s s.heap
      rw [pm_r_some (Nat.le_of_ble_eq_true rfl) (Nat.le_of_ble_eq_true rfl)]
      exact c5
    | 2, _, _, _, _ =>
      refine ⟨?_, Or.inr (Or.inr (Or.inr (Or.inl ⟨rfl, rfl⟩)))⟩
      show va_Z "CommaStream$1" "$SwitchMap$CommaStream$Kind" "[I" (pm_r K ρ (42, 38, 0)) A s s.heap
      rw [pm_r_some (Nat.le_of_ble_eq_true rfl) (Nat.le_of_ble_eq_true rfl)]
      exact c7
    | 3, _, h3, _, _ => exact absurd h3 (by decide)
    | 4, _, _, _, _ => exact ⟨c10, trivial⟩
    | 5, _, _, _, _ => exact ⟨c11, Or.inr (Or.inr (Or.inr (Or.inr (Or.inr (Or.inr (Or.inr (Or.inl (Or.inl rfl))))))))⟩
    | 6, _, _, _, hkl =>
      have h2 : t2 < 2 := by
        rcases hkl with z | z
        · exact absurd z (by decide)
        · exact z
      refine ⟨?_, Or.inr (Or.inr (Or.inr (Or.inr (Or.inr (Or.inr (Or.inr (Or.inl (Or.inr (Or.inl ⟨rfl, rfl, h2⟩)))))))))⟩
      have ez : pm_v K ρ (srv (6, t2)) = .ref (kf K t2) := rfl
      rw [ez]
      have := (c9 t2 h2).1.1
      rcases (show t2 = 0 ∨ t2 = 1 by omega) with rfl | rfl <;> exact this
    | 7, _, _, _, hkl =>
      have h2 : t2 < 2 := by
        rcases hkl with z | z
        · exact absurd z (by decide)
        · exact z
      refine ⟨?_, Or.inr (Or.inr (Or.inr (Or.inr (Or.inr (Or.inr (Or.inr (Or.inl (Or.inr (Or.inr ⟨rfl, rfl, h2⟩)))))))))⟩
      have ez : pm_v K ρ (srv (7, t2)) = .ref (kf K (2 + t2)) := rfl
      rw [ez]
      have := (c9 t2 h2).2.1
      rcases (show t2 = 0 ∨ t2 = 1 by omega) with rfl | rfl <;> exact this
    | n + 8, h6, _, _, _ => exact absurd h6 (by omega)
  have k9 := k ρ al H locs cells slots ls iH iS oH ix iN iM iL (List.forall_mem_cons.mpr ⟨hZ.2, iV⟩)
  cases hb : FN (ky mm idx) with
  | true =>
    rw [hb] at hlk
    have z := nest_at X (wn_ok hlk)
    rw [hq1, hq2] at z
    exact va_getsN X.1 X.2.1 hZ.1 iS X.2.2.2.1 z (fun _ q => q) hd k9
  | false =>
    rw [hb] at hlk
    have z := X.2.2.2.2.1 _ (wt_ok hlk)
    rw [hq1, hq2] at z
    exact va_gets X.1 X.2.1 hZ.1 iS X.2.2.2.1 z (fun _ q => q) hd k9
theorem sim_lc {idx n : Nat} (X : pm_X p s m args c K A mm) (hd : (decode (mb mm) pc = .ok (.ldc idx, 2) ∧ n = 2) ∨ (decode (mb mm) pc = .ok (.ldc_w idx, 3) ∧ n = 3)) {v : VV} (hLR : LR (ky mm idx) = some v) (hw3 : n = 3 → vkd v = 0) (k : PW p l e R s m args below meth c Q K A ρ0 al0 n0 s0 mm (pc + n, lsv, v :: st, h)) : PW p l e R s m args below meth c Q K A ρ0 al0 n0 s0 mm (pc, lsv, st, h) := by
  have hk0 : ky mm idx ≠ 0 := fun z => by rw [z, LR0] at hLR; cases hLR
  obtain ⟨hq1, hq2⟩ := ky_of hk0
  have hw := all_at lr_all (ky_lt (m := mm) (idx := idx) (mow_lt mm))
  rw [hLR] at hw
  intro ρ al H locs cells slots ls iH iS oH ix iN iM iL iV
  match v, hw, k, hw3 with
  | .inl x, hw, k, _ =>
    have z := X.2.2.2.2.1 _ (wt_ok hw)
    rw [hq1, hq2] at z
    have k9 := k ρ al H locs cells slots ls iH iS oH ix iN iM iL (List.forall_mem_cons.mpr ⟨trivial, iV⟩)
    rcases hd with ⟨hd, rfl⟩ | ⟨hd, rfl⟩
    · exact lv_ldc X.1 X.2.1 X.2.2.2.1 z hd k9
    · exact lv_ldcw X.1 X.2.1 X.2.2.2.1 z hd k9
  | .inr (.inl x), hw, _, _ => cases hw
  | .inr (.inr (.inl x)), hw, _, _ => cases hw
  | .inr (.inr (.inr r)), hw, k, hw3 =>
    simp only [Bool.and_eq_true, Nat.beq_eq, Nat.blt_eq, List.any_eq_true] at hw
    obtain ⟨⟨⟨h43, h40⟩, hown⟩, q, hq, ha, hb⟩ := hw
    rcases hd with ⟨hd, rfl⟩ | ⟨hd, rfl⟩
    · have hz := X.2.2.2.2.2.1.2.2.2.2.2.2.2.2.2.2.2.2.2.2.2.1 q hq
      rw [ha, hb, hq2] at hz
      have k9 := k ρ al H locs cells slots ls iH iS oH ix iN iM iL (List.forall_mem_cons.mpr ⟨Or.inr (Or.inr (Or.inr (Or.inr (Or.inl ⟨h43, h40⟩)))), iV⟩)
      have e1 : pm_v K ρ (.inr (.inr (.inr r))) = .ref (kS K r.2.2) := by
        show pm_r K ρ r = _
        rw [pm_r_some (by omega) (by omega)]
        unfold pm_ad
        rw [if_neg (by omega), if_neg (by omega), if_neg (by omega), if_pos h43]
      have k8 : W p l e R s m args below meth c H locs cells slots Q (F0 m (pc + 2) ls (.ref (kS K r.2.2) :: st.map (pm_v K ρ))) := by
        rw [← e1]
        exact k9
      have ho : s.vm.findClass "CommaStreamLaw$Book" = some m.cls := by
        have h9 := X.2.2.2.1
        rw [hq1] at hown
        rw [hown] at h9
        exact h9
      exact va_ldcS X.1 X.2.1 ho hz hd k8
    · have h9 : (3 : Nat) = 0 := hw3 rfl
      exact absurd h9 (by decide)
theorem sim_l2 {idx : Nat} (X : pm_X p s m args c K A mm) (hd : decode (mb mm) pc = .ok (.ldc2_w idx, 3)) {v : Int64} (hL : L2 (ky mm idx) = some v) (k : PW p l e R s m args below meth c Q K A ρ0 al0 n0 s0 mm (pc + 3, lsv, .inr (.inl v) :: st, h)) : PW p l e R s m args below meth c Q K A ρ0 al0 n0 s0 mm (pc, lsv, st, h) := by
  have hk0 : ky mm idx ≠ 0 := fun z => by rw [z, L20] at hL; cases hL
  obtain ⟨hq1, hq2⟩ := ky_of hk0
  have hw := all_at l2_all (ky_lt (m := mm) (idx := idx) (mow_lt mm))
  rw [hL] at hw
  have z := X.2.2.2.2.1 _ (wt_ok hw)
  rw [hq1, hq2] at z
  intro ρ al H locs cells slots ls iH iS oH ix iN iM iL iV
  exact lv_ldc2 X.1 X.2.1 X.2.2.2.1 z hd (k ρ al H locs cells slots ls iH iS oH ix iN iM iL (List.forall_mem_cons.mpr ⟨trivial, iV⟩))
theorem pm_o_of {ρ : Nat → Nat} {al : List VR} {n : Nat} (hA : okA al n) {r : VR} (hr : r ∈ al) : pm_o K ρ r = some (ρ r.2.2) := by
  have := (hA.1 r hr).1
  unfold pm_o
  rw [if_neg (by omega), pm_ad_of hA hr]
theorem va_astA {D : va_G} {cl : List vw_C} {tys : List (ClassId × FieldType)} {ws : va_W} {H0 H : Heap} {locs : List Loc} {cells slots a : Nat} {ls : Array Slot} {rest : List Value} {cc : ByteArray} {ty : FieldType} (hexec : p.tables.exec = Jvm.exec) (hb : c.code = cc) (hK : va_K D cl tys s) (hover : pm_AA ty s) (hP : va_P D cl ws H) (hD : va_D A ws) (hS : va_S A H0 H locs) (q0 t0 qk t1 : Nat) {cA cV : ClassId} {n v n1 : Nat} {g : Nat → Int32} {f : Nat → Option Nat} (ha : ws[q0]? = some (a, .inl (cA, n, .inr (.inr (.inr (.inr f)))))) (ht : tys[t0]? = some (cA, .array ty)) (hv : ws[qk]? = some (v, .inl (cV, n1, .inl g))) (ht1 : tys[t1]? = some (cV, ty)) (hty : ∀ U : State, va_RA U cV ty = (U.vm.findClass ("[" ++ ty.toString) = some cV)) {i : Int32} (hin : vp_in i n) (hdg : decode cc pc = .ok (.aastore, 1))
    (kk : ∀ (H1 : Heap) (locs1 : List Loc), va_P D cl (ws.set q0 (a, .inl (cA, n, .inr (.inr (.inr (.inr (va_up f i.toNatClampNeg (some v)))))))) H1 → va_D A (ws.set q0 (a, .inl (cA, n, .inr (.inr (.inr (.inr (va_up f i.toNatClampNeg (some v)))))))) → va_S A H0 H1 locs1 → W p l e R s m args below meth c H1 locs1 cells slots Q (F0 m (pc + 1) ls rest)) : W p l e R s m args below meth c H locs cells slots Q (F0 m pc ls (.ref v :: .int i :: .ref a :: rest)) := by
  have hlt : i.toNatClampNeg < n := Nat.not_le.mp fun q => hin (Or.inr q)
  have h0 : ¬ i < 0 := fun q => hin (Or.inl q)
  have g1 := hP qk _ hv
  obtain ⟨hA1, hA2⟩ := hK.2 t0 _ ht
  obtain ⟨hV1, hV2⟩ := hK.2 t1 _ ht1
  obtain ⟨comp, c0, k0, f1, f2, f3, f4, f5⟩ := arrayOverA_spec hover
  have hA2 : s.vm.findClass ("[" ++ (FieldType.array ty).toString) = some cA := hA2
  have e0 : c0 = cA := Option.some.inj (f5.symm.trans hA2)
  subst e0
  rw [hty] at hV2
  have e1 : comp = cV := Option.some.inj (f1.symm.trans hV2)
  subst e1
  obtain ⟨-, kV, hkV, -⟩ := hV1 0 (fun _ => .null)
  refine W.aast hexec hb (hP q0 _ ha) (fun q h => by cases h) (fun h => by cases h) f3 f4 rfl hkV ⟨h0, by show _ < (arrV _ _ _).slots.size; rw [arrV_size]; exact hlt⟩ g1 (fun q h => by cases h) hkV (va_asg _ _) rfl rfl hdg fun H1 e z oq => ?_
  refine kk H1 _ (hP.set hD ha ?_ oq) (hD.set ha) (hS.put z oq (hD.2 q0 _ ha))
  show H1[a]? = some (vp_cell _ _)
  rw [e]
  rw [vp_cell_q, vp_cell_q, arrV_store]
  congr 2
  funext q
  by_cases hq : q = i.toNatClampNeg
  · subst hq
    simp [updV, va_up, va_rf]
  · simp [updV, va_up, hq]
theorem sim_aast (X : pm_X p s m args c K A mm) (hd : decode (mb mm) pc = .ok (.aastore, 1)) (hs : sAast pc lsv st h = some (.inl c')) (k : PW p l e R s m args below meth c Q K A ρ0 al0 n0 s0 mm c') : PW p l e R s m args below meth c Q K A ρ0 al0 n0 s0 mm (pc, lsv, st, h) := by
  unfold sAast at hs
  split at hs
  · rename_i v j r t
    obtain ⟨hin, hs⟩ := not_or_in hs
    replace hs := bif_t hs
    obtain ⟨hb, hs⟩ := hs
    cases hs
    simp only [Bool.and_eq_true, Nat.ble_eq, Nat.beq_eq, Bool.not_eq_true'] at hb
    obtain ⟨⟨⟨b1, b2⟩, b26⟩, b3⟩ := hb
    have b26 : r.1 ≠ 26 := fun z => by rw [z] at b26; cases b26
    intro ρ al H locs cells slots ls iH iS oH ix iN iM iL iV
    obtain ⟨iv0, iV⟩ := List.forall_mem_cons.mp iV
    obtain ⟨-, iV⟩ := List.forall_mem_cons.mp iV
    obtain ⟨iv, iV⟩ := List.forall_mem_cons.mp iV
    obtain ⟨-, -, -, -, -, -, -, -, -, -, -, -, -, -, -, -, -, -, -, aw3⟩ := X.2.2.2.2.2.1
    show W p l e R s m args below meth c H locs cells slots Q (F0 m pc ls (pm_r K ρ v :: .int j :: pm_r K ρ r :: t.map (pm_v K ρ)))
    have hr : r ∈ al := okR_in iv (by omega) (by omega)
    obtain ⟨q0, hq, hqa⟩ := pm_w_get (K := K) (ρ := ρ) (h := h) hr
    rw [pm_e_r b1 b26] at hq
    rw [pm_r_of oH.1 hr]
    have h46 : v.1 ≠ 46 := by
      rw [b3]
      unfold elk
      cases Nat.beq r.1 23 <;> cases Nat.beq r.1 24 <;> cases Nat.beq r.1 25 <;> cases Nat.beq r.1 27 <;> cases Nat.beq r.1 28 <;> decide
    have es : ∀ (a : Nat), pm_o K ρ v = some a → (pm_w K ρ h al).set q0 (ρ r.2.2, .inl (kA K r.1, (r.2.1, .inr (.inr (.inr (.inr (va_up (fun j => pm_o K ρ (h.2.2.1 r.2.2 j)) j.toNatClampNeg (some a)))))))) = pm_w K ρ (setR h r.2.2 j.toNatClampNeg v) al := by
      intro a ha
      refine pm_w_set oH.1 hqa ?_ (fun r2 _ hne => pm_e_eq rfl rfl (up2_ne hne))
      rw [pm_e_r b1 b26]
      show _ = Sum.inl (kA K r.1, r.2.1, Sum.inr (Sum.inr (Sum.inr (Sum.inr (fun i => pm_o K ρ (up2 h.2.2.1 r.2.2 j.toNatClampNeg v r.2.2 i))))))
      congr 7
      funext i
      rw [up2_eq]
      unfold va_up
      by_cases z : i = j.toNatClampNeg
      · rw [if_pos z]; dsimp only; rw [if_pos z, ha]
      · rw [if_neg z]; dsimp only; rw [if_neg z]
    have go : ∀ (a : Nat), pm_o K ρ v = some a → ∀ (H1 : Heap) (locs1 : List Loc), va_P (kD K) pm_cl ((pm_w K ρ h al).set q0 (ρ r.2.2, .inl (kA K r.1, (r.2.1, .inr (.inr (.inr (.inr (va_up (fun j => pm_o K ρ (h.2.2.1 r.2.2 j)) j.toNatClampNeg (some a))))))))) H1 → va_D A ((pm_w K ρ h al).set q0 (ρ r.2.2, .inl (kA K r.1, (r.2.1, .inr (.inr (.inr (.inr (va_up (fun j => pm_o K ρ (h.2.2.1 r.2.2 j)) j.toNatClampNeg (some a))))))))) → va_S A s.heap H1 locs1 → W p l e R s m args below meth c H1 locs1 cells slots Q (F0 m (pc + 1) ls (t.map (pm_v K ρ))) := by
      intro a ha H1 locs1 hP hD hS1
      rw [es a ha] at hP hD
      exact k ρ al H1 locs1 cells slots ls ⟨hP, hD⟩ hS1 (okH_setR oH hr ⟨iv0, h46⟩) ix iN iM iL iV
    rcases (show r.1 = 23 ∨ r.1 = 24 ∨ r.1 = 25 ∨ r.1 = 27 ∨ r.1 = 28 ∨ r.1 = 29 by omega) with z | z | z | z | z | z
    · have hv : v.1 = 40 := by rw [b3, z]; rfl
      have h38 : v.2.2 < 38 := by
        rcases iv0 with q | q | q | q | q | q | q | q | q | q
        all_goals first | exact q.2 | (exfalso; omega) | skip
        have := (oH.1.1 v q).1
        omega
      have e1 : pm_ad K ρ v = kE K v.2.2 := by unfold pm_ad; rw [if_pos hv]
      have e2 : pm_o K ρ v = some (kE K v.2.2) := by unfold pm_o; rw [if_neg (by omega), e1]
      rw [pm_r_some (by omega) (by omega), e1]
      rw [z] at hq go
      have hO := (X.2.2.2.2.2.1.2.1.1 v.2.2 (by show v.2.2 < 38; exact h38)).2.1
      obtain ⟨cv, y1, y2, y3, y4⟩ := hO
      exact vb_astq (C := "CommaStream$Kind") X.1 X.2.1 (GK X) iH.1 iH.2 iS q0 3 hq rfl ⟨cv, by rw [iS.2.1 _ (Array.getElem?_eq_some_iff.mp y1).1 y4]; exact y1, y2, y3⟩ (fun comp c0 q1 q2 => vb_asgS comp c0 q1 q2) hin hd (go _ e2)
    · have hv : v.1 = 4 := by rw [b3, z]; rfl
      have hvm : v ∈ al := okR_in iv0 (by omega) (by omega)
      obtain ⟨qk, hqk, -⟩ := pm_w_get (K := K) (ρ := ρ) (h := h) hvm
      rw [pm_e_o (by omega), hv] at hqk
      rw [pm_r_of oH.1 hvm]
      rw [z] at hq go
      exact va_astq X.1 X.2.1 (GK X) iH.1 iH.2 iS q0 4 qk (4 - 1) hq rfl hqk (cl_at (by decide) (by decide)) hin hd (go _ (pm_o_of oH.1 hvm))
    · have hv : v.1 = 10 := by rw [b3, z]; rfl
      have hvm : v ∈ al := okR_in iv0 (by omega) (by omega)
      obtain ⟨qk, hqk, -⟩ := pm_w_get (K := K) (ρ := ρ) (h := h) hvm
      rw [pm_e_o (by omega), hv] at hqk
      rw [pm_r_of oH.1 hvm]
      rw [z] at hq go
      exact va_astq X.1 X.2.1 (GK X) iH.1 iH.2 iS q0 5 qk (10 - 1) hq rfl hqk (cl_at (by decide) (by decide)) hin hd (go _ (pm_o_of oH.1 hvm))
    · have hv : v.1 = 13 := by rw [b3, z]; rfl
      have hvm : v ∈ al := okR_in iv0 (by omega) (by omega)
      obtain ⟨qk, hqk, -⟩ := pm_w_get (K := K) (ρ := ρ) (h := h) hvm
      rw [pm_e_o (by omega), hv] at hqk
      rw [pm_r_of oH.1 hvm]
      rw [z] at hq go
      exact va_astq X.1 X.2.1 (GK X) iH.1 iH.2 iS q0 7 qk (13 - 1) hq rfl hqk (cl_at (by decide) (by decide)) hin hd (go _ (pm_o_of oH.1 hvm))
    · have hv : v.1 = 20 := by rw [b3, z]; rfl
      have hvm : v ∈ al := okR_in iv0 (by omega) (by omega)
      obtain ⟨qk, hqk, -⟩ := pm_w_get (K := K) (ρ := ρ) (h := h) hvm
      rw [pm_e_i (by omega), hv] at hqk
      rw [pm_r_of oH.1 hvm]
      rw [z] at hq go
      exact va_astA (ty := .int) X.1 X.2.1 (GK X) aw3.1.2.2.1 iH.1 iH.2 iS q0 8 qk 0 hq rfl hqk rfl (fun _ => rfl) hin hd (go _ (pm_o_of oH.1 hvm))
    · have hv : v.1 = 26 := by rw [b3, z]; rfl
      have hvm : v ∈ al := okR_in iv0 (by omega) (by omega)
      obtain ⟨qk, hqk, -⟩ := pm_w_get (K := K) (ρ := ρ) (h := h) hvm
      rw [pm_e_i (by omega), hv] at hqk
      rw [pm_r_of oH.1 hvm]
      rw [z] at hq go
      exact va_astA (ty := .boolean) X.1 X.2.1 (GK X) aw3.1.2.2.2 iH.1 iH.2 iS q0 9 qk 6 hq rfl hqk rfl (fun _ => rfl) hin hd (go _ (pm_o_of oH.1 hvm))
  · cases hs
end SIMC
