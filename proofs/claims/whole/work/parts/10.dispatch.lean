/-! Every plain step of the pure machine. -/
theorem il {k n : Nat} (h : k = n ∨ n = 0) (h0 : n ≠ 0) : k = n := by
  rcases h with h | h
  · exact h
  · exact absurd h h0
section SIMS
variable {p : Program} {l : Launch} {e : Env} {R : Room} {s : State} {m : MethodId} {args : Array Value} {below : List Frame} {meth : Method} {c : Code} {Q : State → Prop}
variable {K : KT} {A : Nat → Prop} {ρ0 : Nat → Nat} {al0 : List VR} {n0 s0 mm : Nat} {pc : Nat} {lsv : LV} {st : List VV} {h : PH} {c' : Cf}
abbrev PWc (p : Program) (l : Launch) (e : Env) (R : Room) (s : State) (m : MethodId) (args : Array Value) (below : List Frame) (meth : Method) (c : Code) (Q : State → Prop) (K : KT) (A : Nat → Prop) (ρ0 : Nat → Nat) (al0 : List VR) (n0 s0 mm : Nat) (cf : Cf) : Prop := PW p l e R s m args below meth c Q K A ρ0 al0 n0 s0 mm cf
theorem sim_I2 {f : Int32 → Int32 → Int32} (hs : sI2 f pc lsv st h = some (.inl c')) (row : ∀ {x y : Int32} {H : Heap} {locs : List Loc} {cells slots : Nat} {ls : Array Slot} {rest : List Value}, WW p l e R s m args below meth c Q H locs cells slots (pc + 1) ls (.int (f x y) :: rest) → WW p l e R s m args below meth c Q H locs cells slots pc ls (.int y :: .int x :: rest)) (k : PW p l e R s m args below meth c Q K A ρ0 al0 n0 s0 mm c') : PW p l e R s m args below meth c Q K A ρ0 al0 n0 s0 mm (pc, lsv, st, h) := by
  unfold sI2 at hs
  split at hs
  · cases hs
    exact sim_g (fun w => row w) (fun al n hv => by simp only [List.forall_mem_cons] at hv ⊢; exact ⟨trivial, hv.2.2⟩) k
  · cases hs
theorem sim_L2 {f : Int64 → Int64 → Int64} (hs : sL2 f pc lsv st h = some (.inl c')) (row : ∀ {x y : Int64} {H : Heap} {locs : List Loc} {cells slots : Nat} {ls : Array Slot} {rest : List Value}, WW p l e R s m args below meth c Q H locs cells slots (pc + 1) ls (.long (f x y) :: rest) → WW p l e R s m args below meth c Q H locs cells slots pc ls (.long y :: .long x :: rest)) (k : PW p l e R s m args below meth c Q K A ρ0 al0 n0 s0 mm c') : PW p l e R s m args below meth c Q K A ρ0 al0 n0 s0 mm (pc, lsv, st, h) := by
  unfold sL2 at hs
  split at hs
  · cases hs
    exact sim_g (fun w => row w) (fun al n hv => by simp only [List.forall_mem_cons] at hv ⊢; exact ⟨trivial, hv.2.2⟩) k
  · cases hs
theorem sim_push {v : VV} {pc' : Nat} (row : ∀ {ρ : Nat → Nat} {H : Heap} {locs : List Loc} {cells slots : Nat} {ls : Array Slot} {rest : List Value}, WW p l e R s m args below meth c Q H locs cells slots pc' ls (pm_v K ρ v :: rest) → WW p l e R s m args below meth c Q H locs cells slots pc ls rest) (hv : ∀ al n, okV K al n v) (k : PW p l e R s m args below meth c Q K A ρ0 al0 n0 s0 mm (pc', lsv, v :: st, h)) : PW p l e R s m args below meth c Q K A ρ0 al0 n0 s0 mm (pc, lsv, st, h) :=
  sim_g (fun w => row w) (fun al n z => List.forall_mem_cons.mpr ⟨hv al n, z⟩) k
theorem sim_sIf0 {cd : ClassFile.Cond} {off : Int} (X : pm_X p s m args c K A mm) (hd : decode (mb mm) pc = .ok (.ifCond cd off, 3)) (hs : sIf0 cd off pc lsv st h = some (.inl c')) (k : PW p l e R s m args below meth c Q K A ρ0 al0 n0 s0 mm c') : PW p l e R s m args below meth c Q K A ρ0 al0 n0 s0 mm (pc, lsv, st, h) := by
  unfold sIf0 at hs
  split at hs
  · replace hs := bif_t hs
    obtain ⟨ht, hs⟩ := hs
    have ht := of_decide_eq_true ht
    cases cd
    · cases hs
      exact sim_br (fun kt kf => lv_if_eq X.1 X.2.1 hd ht kt kf) (fun al n hv => by simp only [List.forall_mem_cons] at hv; exact hv.2) k
    · cases hs
      exact sim_br (fun kt kf => lv_if_ne X.1 X.2.1 hd ht kt (fun z => kf (fun q => q z))) (fun al n hv => by simp only [List.forall_mem_cons] at hv; exact hv.2) k
    · cases hs
      exact sim_br (fun kt kf => lv_if_lt X.1 X.2.1 hd ht kt kf) (fun al n hv => by simp only [List.forall_mem_cons] at hv; exact hv.2) k
    · cases hs
      exact sim_br (fun kt kf => lv_if_ge X.1 X.2.1 hd ht kt kf) (fun al n hv => by simp only [List.forall_mem_cons] at hv; exact hv.2) k
    · cases hs
      exact sim_br (fun kt kf => lv_if_gt X.1 X.2.1 hd ht kt kf) (fun al n hv => by simp only [List.forall_mem_cons] at hv; exact hv.2) k
    · cases hs
      exact sim_br (fun kt kf => lv_if_le X.1 X.2.1 hd ht kt kf) (fun al n hv => by simp only [List.forall_mem_cons] at hv; exact hv.2) k
  · cases hs
theorem sim_sIf2 {cd : ClassFile.Cond} {off : Int} (X : pm_X p s m args c K A mm) (hd : decode (mb mm) pc = .ok (.if_icmp cd off, 3)) (hs : sIf2 cd off pc lsv st h = some (.inl c')) (k : PW p l e R s m args below meth c Q K A ρ0 al0 n0 s0 mm c') : PW p l e R s m args below meth c Q K A ρ0 al0 n0 s0 mm (pc, lsv, st, h) := by
  unfold sIf2 at hs
  split at hs
  · replace hs := bif_t hs
    obtain ⟨ht, hs⟩ := hs
    have ht := of_decide_eq_true ht
    cases cd
    · cases hs
      exact sim_br (fun kt kf => lv_icmp_eq X.1 X.2.1 hd ht kt kf) (fun al n hv => by simp only [List.forall_mem_cons] at hv; exact hv.2.2) k
    · cases hs
      exact sim_br (fun kt kf => lv_icmp_ne X.1 X.2.1 hd ht kt (fun z => kf (fun q => q z))) (fun al n hv => by simp only [List.forall_mem_cons] at hv; exact hv.2.2) k
    · cases hs
      exact sim_br (fun kt kf => lv_icmp_lt X.1 X.2.1 hd ht kt kf) (fun al n hv => by simp only [List.forall_mem_cons] at hv; exact hv.2.2) k
    · cases hs
      exact sim_br (fun kt kf => lv_icmp_ge X.1 X.2.1 hd ht kt kf) (fun al n hv => by simp only [List.forall_mem_cons] at hv; exact hv.2.2) k
    · cases hs
      exact sim_br (fun kt kf => lv_icmp_gt X.1 X.2.1 hd ht kt kf) (fun al n hv => by simp only [List.forall_mem_cons] at hv; exact hv.2.2) k
    · cases hs
      exact sim_br (fun kt kf => lv_icmp_le X.1 X.2.1 hd ht kt kf) (fun al n hv => by simp only [List.forall_mem_cons] at hv; exact hv.2.2) k
  · cases hs
theorem sim_Ac {cd : ClassFile.ACond} {off : Int} (X : pm_X p s m args c K A mm) (hd : decode (mb mm) pc = .ok (.if_acmp cd off, 3)) (hs : sAc cd off pc lsv st h = some (.inl c')) (k : PW p l e R s m args below meth c Q K A ρ0 al0 n0 s0 mm c') : PW p l e R s m args below meth c Q K A ρ0 al0 n0 s0 mm (pc, lsv, st, h) := by
  unfold sAc at hs
  split at hs
  · rename_i y x r
    replace hs := bif_t hs
    obtain ⟨ht, hs⟩ := hs
    simp only [Bool.and_eq_true, Nat.beq_eq] at ht
    obtain ⟨⟨ht, hy⟩, hx⟩ := ht
    have ht := of_decide_eq_true ht
    have inj := X.2.2.2.2.2.1.2.1.2
    have key : ∀ (ρ : Nat → Nat) (al : List VR), okH K al h → (∀ v ∈ (.inr (.inr (.inr y)) :: .inr (.inr (.inr x)) :: r : List VV), okV K al (hN h) v) → ((some (kE K x.2.2) = some (kE K y.2.2)) ↔ x.2.2 = y.2.2) := by
      intro ρ al oH iV
      obtain ⟨iy, iV⟩ := List.forall_mem_cons.mp iV
      obtain ⟨ix, iV⟩ := List.forall_mem_cons.mp iV
      have g : ∀ z : VR, z.1 = 40 → okR K al (hN h) z → z.2.2 < 38 := by
        intro z hz q
        rcases q with q | q | q | q | q | q | q | q | q | q
        all_goals first | exact q.2 | (exfalso; omega) | skip
        have := (oH.1.1 z q).1
        omega
      exact ⟨fun q => inj _ _ (g x hx ix) (g y hy iy) (Option.some.inj q), fun q => by rw [q]⟩
    have ex : ∀ ρ : Nat → Nat, pm_r K ρ x = va_rf (some (kE K x.2.2)) := fun ρ => by
      rw [pm_r_some (by omega) (by omega)]
      unfold pm_ad
      rw [if_pos hx]; rfl
    have ey : ∀ ρ : Nat → Nat, pm_r K ρ y = va_rf (some (kE K y.2.2)) := fun ρ => by
      rw [pm_r_some (by omega) (by omega)]
      unfold pm_ad
      rw [if_pos hy]; rfl
    cases cd
    · cases hs
      intro ρ al H locs cells slots ls iH iS oH ix iN iM iL iV
      have kq := key ρ al oH iV
      obtain ⟨-, iV⟩ := List.forall_mem_cons.mp iV
      obtain ⟨-, iV⟩ := List.forall_mem_cons.mp iV
      show W p l e R s m args below meth c H locs cells slots Q (F0 m pc ls (pm_r K ρ y :: pm_r K ρ x :: r.map (pm_v K ρ)))
      rw [ex, ey]
      refine lv_acmp_eq X.1 X.2.1 hd ht (fun z => ?_) (fun z => ?_)
      · rw [if_pos (kq.mp z)] at k
        exact k ρ al H locs cells slots ls iH iS oH ix iN iM iL iV
      · rw [if_neg (fun q => z (kq.mpr q))] at k
        exact k ρ al H locs cells slots ls iH iS oH ix iN iM iL iV
    · cases hs
      intro ρ al H locs cells slots ls iH iS oH ix iN iM iL iV
      have kq := key ρ al oH iV
      obtain ⟨-, iV⟩ := List.forall_mem_cons.mp iV
      obtain ⟨-, iV⟩ := List.forall_mem_cons.mp iV
      show W p l e R s m args below meth c H locs cells slots Q (F0 m pc ls (pm_r K ρ y :: pm_r K ρ x :: r.map (pm_v K ρ)))
      rw [ex, ey]
      refine lv_acmp_ne X.1 X.2.1 hd ht (fun z => ?_) (fun z => ?_)
      · rw [if_pos (fun q => z (kq.mpr q))] at k
        exact k ρ al H locs cells slots ls iH iS oH ix iN iM iL iV
      · rw [if_neg (fun q => q (kq.mp z))] at k
        exact k ρ al H locs cells slots ls iH iS oH ix iN iM iL iV
  · cases hs
theorem sim_Nul {off : Int} (X : pm_X p s m args c K A mm) (hd : decode (mb mm) pc = .ok (.ifnull off, 3)) (hs : sNul off pc lsv st h = some (.inl c')) (hko : ko K = .null ∨ ∃ a, ko K = .ref a) (k : PW p l e R s m args below meth c Q K A ρ0 al0 n0 s0 mm c') : PW p l e R s m args below meth c Q K A ρ0 al0 n0 s0 mm (pc, lsv, st, h) := by
  unfold sNul at hs
  split at hs
  · rename_i x r
    replace hs := bif_t hs
    obtain ⟨ht, hs⟩ := hs
    rw [Bool.and_eq_true, Nat.blt_eq] at ht
    obtain ⟨ht, h46⟩ := ht
    have ht := of_decide_eq_true ht
    cases hs
    intro ρ al H locs cells slots ls iH iS oH ix iN iM iL iV
    obtain ⟨-, iV⟩ := List.forall_mem_cons.mp iV
    show W p l e R s m args below meth c H locs cells slots Q (F0 m pc ls (pm_r K ρ x :: r.map (pm_v K ρ)))
    by_cases h0 : x.1 = 0
    · rw [if_pos h0] at k
      have e1 : pm_r K ρ x = .null := by unfold pm_r; rw [if_pos h0]
      rw [e1]
      exact lv_ifnullN X.1 X.2.1 hd ht (k ρ al H locs cells slots ls iH iS oH ix iN iM iL iV)
    · rw [if_neg h0] at k
      rw [pm_r_some (by omega) h46]
      exact lv_ifnull X.1 X.2.1 hd (k ρ al H locs cells slots ls iH iS oH ix iN iM iL iV)
  · cases hs
theorem sim_cpy (X : pm_X p s m args c K A mm) {idx : Nat} (hd : decode (mb mm) pc = .ok (.invokestatic idx, 3)) (hlk : (Cond.methodLink (cnm (mow mm)) idx arraycopyName).before args s = true) (hR : 1 ≤ R.frames ∧ 100 ≤ R.locals) (hcat : (st.map vcat).sum ≤ 13) (hko : ko K = .null ∨ ∃ a, ko K = .ref a) (hs : sCopy pc lsv st h = some (.inl c')) (k : PW p l e R s m args below meth c Q K A ρ0 al0 n0 s0 mm c') : PW p l e R s m args below meth c Q K A ρ0 al0 n0 s0 mm (pc, lsv, st, h) := by
  unfold sCopy at hs
  split at hs
  · rename_i n dp b sp a t
    by_cases q : sp < 0 ∨ dp < 0 ∨ n < 0 ∨ a.2.1 < sp.toNatClampNeg + n.toNatClampNeg ∨ b.2.1 < dp.toNatClampNeg + n.toNatClampNeg
    · rw [if_pos q] at hs; cases hs
    rw [if_neg q] at hs
    replace hs := bif_t hs
    obtain ⟨hb, hs⟩ := hs
    cases hs
    simp only [Bool.and_eq_true, Nat.beq_eq] at hb
    obtain ⟨ha20, hb20⟩ := hb
    have hw := ac_all
    simp only [Bool.and_eq_true] at hw
    obtain ⟨w1, w2, w3⟩ := hw
    intro ρ al H locs cells slots ls iH iS oH ix iN iM iL iV
    obtain ⟨-, iV⟩ := List.forall_mem_cons.mp iV
    obtain ⟨-, iV⟩ := List.forall_mem_cons.mp iV
    obtain ⟨ivb, iV⟩ := List.forall_mem_cons.mp iV
    obtain ⟨-, iV⟩ := List.forall_mem_cons.mp iV
    obtain ⟨iva, iV⟩ := List.forall_mem_cons.mp iV
    have hra : a ∈ al := okR_in iva (by omega) (by omega)
    have hrb : b ∈ al := okR_in ivb (by omega) (by omega)
    obtain ⟨q0, hq0, -⟩ := pm_w_get (K := K) (ρ := ρ) (h := h) hra
    obtain ⟨q1, hq1, hqb⟩ := pm_w_get (K := K) (ρ := ρ) (h := h) hrb
    rw [pm_e_i (Or.inl ha20), ha20] at hq0
    rw [pm_e_i (Or.inl hb20), hb20] at hq1
    show W p l e R s m args below meth c H locs cells slots Q (F0 m pc ls (.int n :: .int dp :: pm_r K ρ b :: .int sp :: pm_r K ρ a :: t.map (pm_v K ρ)))
    rw [pm_r_of oH.1 hra, pm_r_of oH.1 hrb]
    refine va_copyi X.1 X.2.1 (by rw [X.2.2.1, iL.1]) X.2.2.2.1 hlk (X.2.2.2.2.1 _ (wt_ok w1)) (X.2.2.2.2.1 _ (wt_ok w2)) (X.2.2.2.2.1 _ (wt_ok w3)) (GK X) iH.1 iH.2 iS q0 q1 0 0 hq0 hq1 rfl rfl rfl (fun z => q (Or.inl z)) (fun z => q (Or.inr (Or.inl z))) (fun z => q (Or.inr (Or.inr (Or.inl z)))) (by omega) (by omega) (fun i _ => rfl) hR.1 ?_ hd (fun H1 locs1 hP hD hS1 => ?_)
    · have e1 : (t.map (pm_v K ρ)).map (fun v => v.category) = t.map vcat := by
        rw [List.map_map]
        exact List.map_congr_left fun v _ => pm_cat K ρ (pm_ko_cat hko) v
      rw [e1]
      have e2 : nativeFrameWords "java/lang/System" "arraycopy" 5 = 7 := by decide
      rw [e2]
      simp only [List.map_cons, List.sum_cons] at hcat
      omega
    · have es : (pm_w K ρ h al).set q1 (ρ b.2.2, .inl (kA K 20, (b.2.1, .inl (va_cpy (h.1 a.2.2) (h.1 b.2.2) sp.toNatClampNeg dp.toNatClampNeg n.toNatClampNeg)))) = pm_w K ρ (cpyI h a.2.2 sp.toNatClampNeg b.2.2 dp.toNatClampNeg n.toNatClampNeg) al := by
        refine pm_w_set oH.1 hqb ?_ (fun r2 _ hne => pm_e_eq (by
          funext j
          show (if r2.2.2 = b.2.2 ∧ _ then _ else h.1 r2.2.2 j) = _
          rw [if_neg (fun z => hne z.1)]) rfl rfl)
        rw [pm_e_i (Or.inl hb20), hb20]
        congr 4
        funext j
        show va_cpy _ _ _ _ _ j = if b.2.2 = b.2.2 ∧ dp.toNatClampNeg ≤ j ∧ j < dp.toNatClampNeg + n.toNatClampNeg then h.1 a.2.2 (sp.toNatClampNeg + (j - dp.toNatClampNeg)) else h.1 b.2.2 j
        by_cases z : dp.toNatClampNeg ≤ j ∧ j < dp.toNatClampNeg + n.toNatClampNeg
        · rw [if_pos ⟨rfl, z.1, z.2⟩, pk_cpy_in z.1 z.2]
        · rw [if_neg (fun w => z w.2), pk_cpy_out (by omega)]
      rw [es] at hP hD
      exact k ρ al H1 locs1 cells slots ls ⟨hP, hD⟩ hS1 (okH_cpy oH hrb) ix iN iM iL iV
  · cases hs
theorem mr_at {k : Nat} (hk : k < 38912) {na y t : Nat} (h : MR k = some (na, y, t)) : mrc k na y t = true := by
  have go : ∀ a, ((List.range 2048).all fun j => match MR (a + j) with | none => true | some (na, y, t) => mrc (a + j) na y t) = true → a ≤ k → k < a + 2048 → mrc k na y t = true := by
    intro a ha h1 h2
    have h3 := all_at ha (show k - a < 2048 by omega)
    rw [show a + (k - a) = k by omega, h] at h3
    exact h3
  by_cases q0 : k < 2048
  · exact go 0 mr_0 (by omega) (by omega)
  by_cases q1 : k < 4096
  · exact go 2048 mr_1 (by omega) (by omega)
  by_cases q2 : k < 6144
  · exact go 4096 mr_2 (by omega) (by omega)
  by_cases q3 : k < 8192
  · exact go 6144 mr_3 (by omega) (by omega)
  by_cases q4 : k < 10240
  · exact go 8192 mr_4 (by omega) (by omega)
  by_cases q5 : k < 12288
  · exact go 10240 mr_5 (by omega) (by omega)
  by_cases q6 : k < 14336
  · exact go 12288 mr_6 (by omega) (by omega)
  by_cases q7 : k < 16384
  · exact go 14336 mr_7 (by omega) (by omega)
  by_cases q8 : k < 18432
  · exact go 16384 mr_8 (by omega) (by omega)
  by_cases q9 : k < 20480
  · exact go 18432 mr_9 (by omega) (by omega)
  by_cases q10 : k < 22528
  · exact go 20480 mr_10 (by omega) (by omega)
  by_cases q11 : k < 24576
  · exact go 22528 mr_11 (by omega) (by omega)
  by_cases q12 : k < 26624
  · exact go 24576 mr_12 (by omega) (by omega)
  by_cases q13 : k < 28672
  · exact go 26624 mr_13 (by omega) (by omega)
  by_cases q14 : k < 30720
  · exact go 28672 mr_14 (by omega) (by omega)
  by_cases q15 : k < 32768
  · exact go 30720 mr_15 (by omega) (by omega)
  by_cases q16 : k < 34816
  · exact go 32768 mr_16 (by omega) (by omega)
  by_cases q17 : k < 36864
  · exact go 34816 mr_17 (by omega) (by omega)
  exact go 36864 mr_18 (by omega) (by omega)
theorem sim_mx {b : Bool} {idx : Nat} (X : pm_X p s m args c K A mm) (hlk : (b = true ∧ (Cond.methodLink (cnm (mow mm)) idx Lib.Math.max.name).before args s = true) ∨ (b = false ∧ (Cond.methodLink (cnm (mow mm)) idx Lib.Math.min.name).before args s = true)) (hd : decode (mb mm) pc = .ok (.invokestatic idx, 3)) (hR : 2 ≤ R.frames ∧ 100 ≤ R.locals) (hko : ko K = .null ∨ ∃ a, ko K = .ref a) (hs : sMax b pc lsv st h = some (.inl c')) (hrm : hN c'.2.2.2 ≤ n0 + R.cells ∧ hS c'.2.2.2 ≤ s0 + R.slots) (k : PW p l e R s m args below meth c Q K A ρ0 al0 n0 s0 mm c') : PW p l e R s m args below meth c Q K A ρ0 al0 n0 s0 mm (pc, lsv, st, h) := by
  unfold sMax at hs
  split at hs
  · rename_i y x r
    replace hs := bif_t hs
    obtain ⟨hb, hs⟩ := hs
    cases hs
    rw [Nat.ble_eq] at hb
    have w1 := mm_max
    have w2 := mm_min
    simp only [Bool.and_eq_true] at w1 w2
    intro ρ al H locs cells slots ls iH iS oH ix iN iM iL iV
    obtain ⟨-, iV⟩ := List.forall_mem_cons.mp iV
    obtain ⟨-, iV⟩ := List.forall_mem_cons.mp iV
    have iN : hN h = n0 + cells := iN
    have iM : hS h = s0 + slots := iM
    have k9 := k ρ al H locs cells slots ls iH iS oH ix iN iM iL (List.forall_mem_cons.mpr ⟨trivial, iV⟩)
    have e1 : (r.map (pm_v K ρ)).map (fun v => v.category) = r.map vcat := by
      rw [List.map_map]
      exact List.map_congr_left fun v _ => pm_cat K ρ (pm_ko_cat hko) v
    have hn : hN h ≤ n0 + R.cells ∧ hS h ≤ s0 + R.slots := hrm
    rcases hlk with ⟨rfl, hl⟩ | ⟨rfl, hl⟩
    · exact va_mmax X.1 X.2.1 (by rw [X.2.2.1, iL.1]) X.2.2.2.1 hl (X.2.2.2.2.1 _ (wt_ok w1.1)) (X.2.2.2.2.1 _ (wt_ok w1.2)) (X.2.2.2.2.1 _ (mem_T (sub_lw _ _ (List.mem_of_getElem? mk_max)) rfl)) (by omega) (by rw [e1]; omega) (by omega) (by omega) hd k9
    · exact va_mmin X.1 X.2.1 (by rw [X.2.2.1, iL.1]) X.2.2.2.1 hl (X.2.2.2.2.1 _ (wt_ok w2.1)) (X.2.2.2.2.1 _ (wt_ok w2.2)) (X.2.2.2.2.1 _ (mem_T (sub_lw _ _ (List.mem_of_getElem? mk_min)) rfl)) (by omega) (by rw [e1]; omega) (by omega) (by omega) hd k9
  · cases hs
theorem sim_cl {o idx : Nat} (X : pm_X p s m args c K A mm) (hko : ko K = .null ∨ ∃ a, ko K = .ref a) (hR : 2 ≤ R.frames ∧ 100 ≤ R.locals) (hd1 : o = 1 → decode (mb mm) pc = .ok (.invokespecial idx, 3)) (hd2 : o = 2 → decode (mb mm) pc = .ok (.invokestatic idx, 3)) (hrm : hN c'.2.2.2 ≤ n0 + R.cells ∧ hS c'.2.2.2 ≤ s0 + R.slots) (hs : sCall o mm idx pc lsv st h = some (.inl c')) (k : PW p l e R s m args below meth c Q K A ρ0 al0 n0 s0 mm c') : PW p l e R s m args below meth c Q K A ρ0 al0 n0 s0 mm (pc, lsv, st, h) := by
  unfold sCall at hs
  split at hs
  · rename_i na y t hMR
    have hk0 : ky mm idx ≠ 0 := fun z => by rw [z, MR0] at hMR; cases hMR
    obtain ⟨hq1, hq2⟩ := ky_of hk0
    have hw := mr_at (ky_lt (m := mm) (idx := idx) (mow_lt mm)) hMR
    unfold mrc at hw
    cases h1 : Nat.beq y 1000 with
    | true =>
      rw [h1] at hs hw
      have hl := X.2.2.2.2.1 _ (wt_ok hw)
      rw [hq1, hq2] at hl
      dsimp only [cond_true] at hs
      split at hs
      · rename_i r q
        replace hs := bif_t hs
        obtain ⟨hb, hs⟩ := hs
        cases hs
        simp only [Bool.and_eq_true, Nat.beq_eq, Nat.blt_eq, Nat.ble_eq] at hb
        obtain ⟨⟨⟨b1, b2⟩, b3⟩, b4⟩ := hb
        have hoi := X.2.2.2.2.1 _ (wt_ok oi_all)
        have hoc : (Cond.code objectInit ⟨#[0xb1]⟩ 1 none).before args s = true := X.2.2.2.2.1 _ (mem_T (sub_lw _ _ (List.mem_of_getElem? oc_all)) rfl)
        intro ρ al H locs cells slots ls iH iS oH ix iN iM iL iV
        obtain ⟨-, iV⟩ := List.forall_mem_cons.mp iV
        have k9 := k ρ al H locs cells slots ls iH iS oH ix iN iM iL iV
        show W p l e R s m args below meth c H locs cells slots Q (F0 m pc ls (pm_r K ρ r :: q.map (pm_v K ρ)))
        rw [pm_r_some b2 (by omega)]
        refine W.objInit X.1 X.2.1 X.2.2.2.1 hl hoi hoc rfl (by rw [X.2.2.1]; exact iL.1) rfl (hd1 b1) (by omega) ?_ k9
        have e1 : (q.map (pm_v K ρ)).map (fun v => v.category) = q.map vcat := by
          rw [List.map_map]
          exact List.map_congr_left fun v _ => pm_cat K ρ (pm_ko_cat hko) v
        rw [e1]
        show 2 * 0 + _ + 12 ≤ _
        omega
      · cases hs
    | false =>
      rw [h1] at hs hw
      dsimp only [cond_false] at hs hw
      cases h2 : Nat.beq y 1001 with
      | true =>
        rw [h2] at hs hw
        replace hs := bif_t hs
        obtain ⟨hb, hs⟩ := hs
        simp only [Bool.and_eq_true, Nat.beq_eq, Nat.ble_eq] at hb
        have hl := X.2.2.2.2.1 _ (wt_ok hw)
        rw [hq1, hq2] at hl
        exact sim_cpy X (hd2 hb.1) hl ⟨by omega, hR.2⟩ hb.2 hko hs k
      | false =>
        rw [h2] at hs hw
        dsimp only [cond_false] at hs hw
        cases h3 : Nat.beq y 1002 with
        | true =>
          rw [h3] at hs hw
          replace hs := bif_t hs
          obtain ⟨hb, hs⟩ := hs
          rw [Nat.beq_eq] at hb
          have hl := X.2.2.2.2.1 _ (wt_ok hw)
          rw [hq1, hq2] at hl
          exact sim_mx X (Or.inl ⟨rfl, hl⟩) (hd2 hb) hR hko hs hrm k
        | false =>
          rw [h3] at hs hw
          dsimp only [cond_false] at hs hw
          cases h4 : Nat.beq y 1003 with
          | true =>
            rw [h4] at hs hw
            replace hs := bif_t hs
            obtain ⟨hb, hs⟩ := hs
            rw [Nat.beq_eq] at hb
            have hl := X.2.2.2.2.1 _ (wt_ok hw)
            rw [hq1, hq2] at hl
            exact sim_mx X (Or.inr ⟨rfl, hl⟩) (hd2 hb) hR hko hs hrm k
          | false =>
            rw [h4] at hs
            obtain ⟨hb, hs⟩ := bif_t (show (bif _ then _ else none) = some _ from hs)
            cases hs
  · cases hs
end SIMS
