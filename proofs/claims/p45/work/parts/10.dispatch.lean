/-! Every plain step of the pure machine. -/
theorem il {k n : Nat} (h : k = n ∨ n = 0) (h0 : n ≠ 0) : k = n := by
  rcases h with h | h
  · exact h
  · exact absurd h h0
section SIMS
variable {p : Program} {l : Launch} {e : Env} {R : Room} {s : State} {m : MethodId} {args : Array Value} {below : List Frame} {meth : Method} {c : Code} {Q : State → Prop}
variable {K : KT} {A : Nat → Prop} {ρ0 : Nat → Nat} {al0 : List VR} {n0 s0 mm : Nat} {pc : Nat} {lsv : LV} {st : List VV} {h : PH} {c' : Cf}
abbrev PWc (p : Program) (l : Launch) (e : Env) (R : Room) (s : State) (m : MethodId) (args : Array Value) (below : List Frame) (meth : Method) (c : Code) (Q : State → Prop) (K : KT) (A : Nat → Prop) (ρ0 : Nat → Nat) (al0 : List VR) (n0 s0 mm : Nat) (cf : Cf) : Prop := PW p l e R s m args below meth c Q K A ρ0 al0 n0 s0 mm cf
theorem sim_I2 {f : Int32 → Int32 → Int32} (hs : sI2 f pc lsv st h = some (.inl c')) (row : ∀ {x y : Int32} {H : Heap} {locs : List Loc} {cells slots : Nat} {ls : Array Slot} {rest : List Value}, WW p l e R s m args below meth c Q H locs cells slots (pc + 1) ls (.int (f x y) :: rest) → WW p l e R s m args below meth c Q H locs cells slots pc ls (.int y :: .int x :: rest)) (k : PW p l e R s m args below meth c Q K A ρ0 al0 n0 s0 mm c') : PW p l e R s m args below meth c Q K A ρ0 al0 n0 s0 mm (pc, lsv, st, h) := by
  unfold sI2 at hs
  split at hs
  · cases hs
    exact sim_g (fun w => row w) (fun al n hv => by simp only [List.forall_mem_cons] at hv ⊢; exact ⟨trivial, hv.2.2⟩) k
  · cases hs
theorem sim_L2 {f : Int64 → Int64 → Int64} (hs : sL2 f pc lsv st h = some (.inl c')) (row : ∀ {x y : Int64} {H : Heap} {locs : List Loc} {cells slots : Nat} {ls : Array Slot} {rest : List Value}, WW p l e R s m args below meth c Q H locs cells slots (pc + 1) ls (.long (f x y) :: rest) → WW p l e R s m args below meth c Q H locs cells slots pc ls (.long y :: .long x :: rest)) (k : PW p l e R s m args below meth c Q K A ρ0 al0 n0 s0 mm c') : PW p l e R s m args below meth c Q K A ρ0 al0 n0 s0 mm (pc, lsv, st, h) := by
  unfold sL2 at hs
  split at hs
  · cases hs
    exact sim_g (fun w => row w) (fun al n hv => by simp only [List.forall_mem_cons] at hv ⊢; exact ⟨trivial, hv.2.2⟩) k
  · cases hs
theorem sim_push {v : VV} {pc' : Nat} (row : ∀ {ρ : Nat → Nat} {H : Heap} {locs : List Loc} {cells slots : Nat} {ls : Array Slot} {rest : List Value}, WW p l e R s m args below meth c Q H locs cells slots pc' ls (pm_v K ρ v :: rest) → WW p l e R s m args below meth c Q H locs cells slots pc ls rest) (hv : ∀ al n, okV K al n v) (k : PW p l e R s m args below meth c Q K A ρ0 al0 n0 s0 mm (pc', lsv, v :: st, h)) : PW p l e R s m args below meth c Q K A ρ0 al0 n0 s0 mm (pc, lsv, st, h) :=
  sim_g (fun w => row w) (fun al n z => List.forall_mem_cons.mpr ⟨hv al n, z⟩) k
theorem sim_sIf0 {cd : ClassFile.Cond} {off : Int} (X : pm_X p s m args c K A mm) (hd : decode (mb mm) pc = .ok (.ifCond cd off, 3)) (hs : sIf0 cd off pc lsv st h = some (.inl c')) (k : PW p l e R s m args below meth c Q K A ρ0 al0 n0 s0 mm c') : PW p l e R s m args below meth c Q K A ρ0 al0 n0 s0 mm (pc, lsv, st, h) := by
  unfold sIf0 at hs
  split at hs
  · obtain ⟨ht, hs⟩ := bif_t hs
    have ht := of_decide_eq_true ht
    cases cd
    · cases hs
      exact sim_br (fun kt kf => lv_if_eq X.1 X.2.1 hd ht kt kf) (fun al n hv => by simp only [List.forall_mem_cons] at hv; exact hv.2) k
    · cases hs
      exact sim_br (fun kt kf => lv_if_ne X.1 X.2.1 hd ht kt (fun z => kf (fun q => q z))) (fun al n hv => by simp only [List.forall_mem_cons] at hv; exact hv.2) k
    · cases hs
      exact sim_br (fun kt kf => lv_if_lt X.1 X.2.1 hd ht kt kf) (fun al n hv => by simp only [List.forall_mem_cons] at hv; exact hv.2) k
    · cases hs
      exact sim_br (fun kt kf => lv_if_ge X.1 X.2.1 hd ht kt kf) (fun al n hv => by simp only [List.forall_mem_cons] at hv; exact hv.2) k
    · cases hs
      exact sim_br (fun kt kf => lv_if_gt X.1 X.2.1 hd ht kt kf) (fun al n hv => by simp only [List.forall_mem_cons] at hv; exact hv.2) k
    · cases hs
      exact sim_br (fun kt kf => lv_if_le X.1 X.2.1 hd ht kt kf) (fun al n hv => by simp only [List.forall_mem_cons] at hv; exact hv.2) k
  · cases hs
theorem sim_sIf2 {cd : ClassFile.Cond} {off : Int} (X : pm_X p s m args c K A mm) (hd : decode (mb mm) pc = .ok (.if_icmp cd off, 3)) (hs : sIf2 cd off pc lsv st h = some (.inl c')) (k : PW p l e R s m args below meth c Q K A ρ0 al0 n0 s0 mm c') : PW p l e R s m args below meth c Q K A ρ0 al0 n0 s0 mm (pc, lsv, st, h) := by
  unfold sIf2 at hs
  split at hs
  · obtain ⟨ht, hs⟩ := bif_t hs
    have ht := of_decide_eq_true ht
    cases cd
    · cases hs
      exact sim_br (fun kt kf => lv_icmp_eq X.1 X.2.1 hd ht kt kf) (fun al n hv => by simp only [List.forall_mem_cons] at hv; exact hv.2.2) k
    · cases hs
      exact sim_br (fun kt kf => lv_icmp_ne X.1 X.2.1 hd ht kt (fun z => kf (fun q => q z))) (fun al n hv => by simp only [List.forall_mem_cons] at hv; exact hv.2.2) k
    · cases hs
      exact sim_br (fun kt kf => lv_icmp_lt X.1 X.2.1 hd ht kt kf) (fun al n hv => by simp only [List.forall_mem_cons] at hv; exact hv.2.2) k
    · cases hs
      exact sim_br (fun kt kf => lv_icmp_ge X.1 X.2.1 hd ht kt kf) (fun al n hv => by simp only [List.forall_mem_cons] at hv; exact hv.2.2) k
    · cases hs
      exact sim_br (fun kt kf => lv_icmp_gt X.1 X.2.1 hd ht kt kf) (fun al n hv => by simp only [List.forall_mem_cons] at hv; exact hv.2.2) k
    · cases hs
      exact sim_br (fun kt kf => lv_icmp_le X.1 X.2.1 hd ht kt kf) (fun al n hv => by simp only [List.forall_mem_cons] at hv; exact hv.2.2) k
  · cases hs
theorem sim_Ac {cd : ClassFile.ACond} {off : Int} (X : pm_X p s m args c K A mm) (hd : decode (mb mm) pc = .ok (.if_acmp cd off, 3)) (hs : sAc cd off pc lsv st h = some (.inl c')) (k : PW p l e R s m args below meth c Q K A ρ0 al0 n0 s0 mm c') : PW p l e R s m args below meth c Q K A ρ0 al0 n0 s0 mm (pc, lsv, st, h) := by
  unfold sAc at hs
  split at hs
  · rename_i y x r
    obtain ⟨ht, hs⟩ := bif_t hs
    simp only [Bool.and_eq_true, Nat.beq_eq] at ht
    obtain ⟨⟨ht, hy⟩, hx⟩ := ht
    have ht := of_decide_eq_true ht
    have inj := X.2.2.2.2.2.1.2.1.2
    have key : ∀ (ρ : Nat → Nat) (al : List VR), okH K al h → (∀ v ∈ (.inr (.inr (.inr y)) :: .inr (.inr (.inr x)) :: r : List VV), okV K al (hN h) v) → ((some (kE K x.2.2) = some (kE K y.2.2)) ↔ x.2.2 = y.2.2) := by
      intro ρ al oH iV
      obtain ⟨iy, iV⟩ := List.forall_mem_cons.mp iV
      obtain ⟨ix, iV⟩ := List.forall_mem_cons.mp iV
      have g : ∀ z : VR, z.1 = 40 → okR K al (hN h) z → z.2.2 < 38 := by
        intro z hz q
        rcases q with q | q | q | q | q | q | q | q | q | q
        all_goals first | exact q.2 | (exfalso; omega) | skip
        have := (oH.1.1 z q).1
        omega
      exact ⟨fun q => inj _ _ (g x hx ix) (g y hy iy) (Option.some.inj q), fun q => by rw [q]⟩
    have ex : ∀ ρ : Nat → Nat, pm_r K ρ x = va_rf (some (kE K x.2.2)) := fun ρ => by
      rw [pm_r_some (by omega) (by omega)]
      unfold pm_ad
      rw [if_pos hx]; rfl
    have ey : ∀ ρ : Nat → Nat, pm_r K ρ y = va_rf (some (kE K y.2.2)) := fun ρ => by
      rw [pm_r_some (by omega) (by omega)]
      unfold pm_ad
      rw [if_pos hy]; rfl
    cases cd
    · cases hs
      intro ρ al H locs cells slots ls iH iS oH ix iN iM iL iV
      have kq := key ρ al oH iV
      obtain ⟨-, iV⟩ := List.forall_mem_cons.mp iV
      obtain ⟨-, iV⟩ := List.forall_mem_cons.mp iV
      show W p l e R s m args below meth c H locs cells slots Q (F0 m pc ls (pm_r K ρ y :: pm_r K ρ x :: r.map (pm_v K ρ)))
      rw [ex, ey]
      refine lv_acmp_eq X.1 X.2.1 hd ht (fun z => ?_) (fun z => ?_)
      · rw [if_pos (kq.mp z)] at k
        exact k ρ al H locs cells slots ls iH iS oH ix iN iM iL iV
      · rw [if_neg (fun q => z (kq.mpr q))] at k
        exact k ρ al H locs cells slots ls iH iS oH ix iN iM iL iV
    · cases hs
      intro ρ al H locs cells slots ls iH iS oH ix iN iM iL iV
      have kq := key ρ al oH iV
      obtain ⟨-, iV⟩ := List.forall_mem_cons.mp iV
      obtain ⟨-, iV⟩ := List.forall_mem_cons.mp iV
      show W p l e R s m args below meth c H locs cells slots Q (F0 m pc ls (pm_r K ρ y :: pm_r K ρ x :: r.map (pm_v K ρ)))
      rw [ex, ey]
      refine lv_acmp_ne X.1 X.2.1 hd ht (fun z => ?_) (fun z => ?_)
      · rw [if_pos (fun q => z (kq.mpr q))] at k
        exact k ρ al H locs cells slots ls iH iS oH ix iN iM iL iV
      · rw [if_neg (fun q => q (kq.mp z))] at k
        exact k ρ al H locs cells slots ls iH iS oH ix iN iM iL iV
  · cases hs
theorem sim_Nul {off : Int} (X : pm_X p s m args c K A mm) (hd : decode (mb mm) pc = .ok (.ifnull off, 3)) (hs : sNul off pc lsv st h = some (.inl c')) (hko : ko K = .null ∨ ∃ a, ko K = .ref a) (k : PW p l e R s m args below meth c Q K A ρ0 al0 n0 s0 mm c') : PW p l e R s m args below meth c Q K A ρ0 al0 n0 s0 mm (pc, lsv, st, h) := by
  unfold sNul at hs
  split at hs
  · rename_i x r
    replace hs := bif_t hs
    obtain ⟨ht, hs⟩ := hs
    rw [Bool.and_eq_true, Nat.blt_eq] at ht
    obtain ⟨ht, h46⟩ := ht
    have ht := of_decide_eq_true ht
    cases hs
    intro ρ al H locs cells slots ls iH iS oH ix iN iM iL iV
    obtain ⟨-, iV⟩ := List.forall_mem_cons.mp iV
    show W p l e R s m args below meth c H locs cells slots Q (F0 m pc ls (pm_r K ρ x :: r.map (pm_v K ρ)))
    by_cases h0 : x.1 = 0
    · rw [if_pos h0] at k
      have e1 : pm_r K ρ x = .null := by unfold pm_r; rw [if_pos h0]
      rw [e1]
      exact lv_ifnullN X.1 X.2.1 hd ht (k ρ al H locs cells slots ls iH iS oH ix iN iM iL iV)
    · rw [if_neg h0] at k
      rw [pm_r_some (by omega) h46]
      exact lv_ifnull X.1 X.2.1 hd (k ρ al H locs cells slots ls iH iS oH ix iN iM iL iV)
  · cases hs
theorem sim_Nnl {off : Int} (X : pm_X p s m args c K A mm) (hd : decode (mb mm) pc = .ok (.ifnonnull off, 3)) (hs : sNnl off pc lsv st h = some (.inl c')) (hko : ko K = .null ∨ ∃ a, ko K = .ref a) (k : PW p l e R s m args below meth c Q K A ρ0 al0 n0 s0 mm c') : PW p l e R s m args below meth c Q K A ρ0 al0 n0 s0 mm (pc, lsv, st, h) := by
  unfold sNnl at hs
  split at hs
  · rename_i x r
    replace hs := bif_t hs
    obtain ⟨ht, hs⟩ := hs
    rw [Bool.and_eq_true, Nat.blt_eq] at ht
    obtain ⟨ht, h46⟩ := ht
    have ht := of_decide_eq_true ht
    cases hs
    intro ρ al H locs cells slots ls iH iS oH ix iN iM iL iV
    obtain ⟨-, iV⟩ := List.forall_mem_cons.mp iV
    show W p l e R s m args below meth c H locs cells slots Q (F0 m pc ls (pm_r K ρ x :: r.map (pm_v K ρ)))
    by_cases h0 : x.1 = 0
    · rw [if_neg (fun z => z h0)] at k
      have e1 : pm_r K ρ x = .null := by unfold pm_r; rw [if_pos h0]
      rw [e1]
      exact lv_ifnonnullN X.1 X.2.1 hd (k ρ al H locs cells slots ls iH iS oH ix iN iM iL iV)
    · rw [if_pos h0] at k
      rw [pm_r_some (by omega) h46]
      exact lv_ifnonnull X.1 X.2.1 hd ht (k ρ al H locs cells slots ls iH iS oH ix iN iM iL iV)
  · cases hs
theorem fitb_ok {f : Nat → Int32} {sp n : Nat} (h : fitb f sp n = true) (i : Nat) (hi : i < n) : fits .byte (.int (f (sp + i))) = true := by
  have h1 := of_decide_eq_true (List.all_eq_true.mp h i (List.mem_range.mpr hi))
  have := pk_fb (f (sp + i))
  rw [h1] at this
  exact this
/-- a copy between two rows of one kind -/
theorem sim_cpy2 (X : pm_X p s m args c K A mm) {idx kd ti : Nat} {ty : FieldType} {n dp sp : Int32} {a b : VR} {t : List VV} (hkd : kd = 20 ∨ kd = 22 ∨ kd = 26) (hti : (pm_tys K)[ti]? = some (kA K kd, ty)) (hprim : refKind ty = false) (hd : decode (mb mm) pc = .ok (.invokestatic idx, 3)) (hlk : (Cond.methodLink (cnm (mow mm)) idx arraycopyName).before args s = true) (hR : 1 ≤ R.frames ∧ 100 ≤ R.locals) (hcat : ((.inl n :: .inl dp :: .inr (.inr (.inr b)) :: .inl sp :: .inr (.inr (.inr a)) :: t : List VV).map vcat).sum ≤ 13) (hko : ko K = .null ∨ ∃ a, ko K = .ref a)
    (q : ¬ (sp < 0 ∨ dp < 0 ∨ n < 0 ∨ a.2.1 < sp.toNatClampNeg + n.toNatClampNeg ∨ b.2.1 < dp.toNatClampNeg + n.toNatClampNeg)) (ha20 : a.1 = kd) (hb20 : b.1 = kd) (hfit : ∀ i, i < n.toNatClampNeg → fits ty (.int (h.1 a.2.2 (sp.toNatClampNeg + i))) = true)
    (k : PW p l e R s m args below meth c Q K A ρ0 al0 n0 s0 mm (pc + 3, lsv, t, cpyI h a.2.2 sp.toNatClampNeg b.2.2 dp.toNatClampNeg n.toNatClampNeg)) : PW p l e R s m args below meth c Q K A ρ0 al0 n0 s0 mm (pc, lsv, .inl n :: .inl dp :: .inr (.inr (.inr b)) :: .inl sp :: .inr (.inr (.inr a)) :: t, h) := by
  have hw := ac_all
  simp only [Bool.and_eq_true] at hw
  obtain ⟨w1, w2, w3⟩ := hw
  intro ρ al H locs cells slots ls iH iS oH ix iN iM iL iV
  obtain ⟨-, iV⟩ := List.forall_mem_cons.mp iV
  obtain ⟨-, iV⟩ := List.forall_mem_cons.mp iV
  obtain ⟨ivb, iV⟩ := List.forall_mem_cons.mp iV
  obtain ⟨-, iV⟩ := List.forall_mem_cons.mp iV
  obtain ⟨iva, iV⟩ := List.forall_mem_cons.mp iV
  have hra : a ∈ al := okR_in iva (by omega) (by omega)
  have hrb : b ∈ al := okR_in ivb (by omega) (by omega)
  obtain ⟨q0, hq0, -⟩ := pm_w_get (K := K) (ρ := ρ) (h := h) hra
  obtain ⟨q1, hq1, hqb⟩ := pm_w_get (K := K) (ρ := ρ) (h := h) hrb
  rw [pm_e_i (by rw [ha20]; exact hkd), ha20] at hq0
  rw [pm_e_i (by rw [hb20]; exact hkd), hb20] at hq1
  show W p l e R s m args below meth c H locs cells slots Q (F0 m pc ls (.int n :: .int dp :: pm_r K ρ b :: .int sp :: pm_r K ρ a :: t.map (pm_v K ρ)))
  rw [pm_r_of oH.1 hra, pm_r_of oH.1 hrb]
  refine va_copyi X.1 X.2.1 (by rw [X.2.2.1, iL.1]) X.2.2.2.1 hlk (X.2.2.2.2.1 _ (wt_ok w1)) (X.2.2.2.2.1 _ (wt_ok w2)) (X.2.2.2.2.1 _ (wt_ok w3)) (GK X) iH.1 iH.2 iS q0 q1 ti ti hq0 hq1 hti hti hprim (fun z => q (Or.inl z)) (fun z => q (Or.inr (Or.inl z))) (fun z => q (Or.inr (Or.inr (Or.inl z)))) (by omega) (by omega) hfit hR.1 ?_ hd (fun H1 locs1 hP hD hS1 => ?_)
  · have e1 : (t.map (pm_v K ρ)).map (fun v => v.category) = t.map vcat := by
      rw [List.map_map]
      exact List.map_congr_left fun v _ => pm_cat K ρ (pm_ko_cat hko) v
    rw [e1]
    have e2 : nativeFrameWords "java/lang/System" "arraycopy" 5 = 7 := by decide
    rw [e2]
    simp only [List.map_cons, List.sum_cons] at hcat
    omega
  · have es : (pm_w K ρ h al).set q1 (ρ b.2.2, .inl (kA K kd, (b.2.1, .inl (va_cpy (h.1 a.2.2) (h.1 b.2.2) sp.toNatClampNeg dp.toNatClampNeg n.toNatClampNeg)))) = pm_w K ρ (cpyI h a.2.2 sp.toNatClampNeg b.2.2 dp.toNatClampNeg n.toNatClampNeg) al := by
      refine pm_w_set oH.1 hqb ?_ (fun r2 _ hne => pm_e_eq (by
        funext j
        show (if r2.2.2 = b.2.2 ∧ _ then _ else h.1 r2.2.2 j) = _
        rw [if_neg (fun z => hne z.1)]) rfl rfl)
      rw [pm_e_i (by rw [hb20]; exact hkd), hb20]
      congr 4
      funext j
      show va_cpy _ _ _ _ _ j = if b.2.2 = b.2.2 ∧ dp.toNatClampNeg ≤ j ∧ j < dp.toNatClampNeg + n.toNatClampNeg then h.1 a.2.2 (sp.toNatClampNeg + (j - dp.toNatClampNeg)) else h.1 b.2.2 j
      by_cases z : dp.toNatClampNeg ≤ j ∧ j < dp.toNatClampNeg + n.toNatClampNeg
      · rw [if_pos ⟨rfl, z.1, z.2⟩, pk_cpy_in z.1 z.2]
      · rw [if_neg (fun w => z w.2), pk_cpy_out (by omega)]
    rw [es] at hP hD
    exact k ρ al H1 locs1 cells slots ls ⟨hP, hD⟩ hS1 (okH_cpy oH hrb) ix iN iM iL iV
theorem okH_cpyS {al : List VR} {r : VR} {kq sp dp n : Nat} (o : okH K al h) (hr : r ∈ al) : okH K al (cpyS h kq sp r.2.2 dp n) := by
  obtain ⟨o1, o2, o3, o4⟩ := o
  have hb := o1.1 r hr
  refine ⟨o1, o2, fun x hx j => ?_, fun j => ?_⟩
  · have hne : x ≠ r.2.2 := by
      have : hN h ≤ x := hx
      omega
    refine ⟨?_, (o3 x hx j).2⟩
    show (if x = r.2.2 ∧ dp ≤ j ∧ j < dp + n then _ else h.1 x j) = 0
    rw [if_neg (fun z => hne z.1)]
    exact (o3 x hx j).1
  · show (if 0 = r.2.2 ∧ dp ≤ j ∧ j < dp + n then _ else h.1 0 j) = _
    rw [if_neg (fun z => by omega)]
    exact o4 j
theorem sim_cpy (X : pm_X p s m args c K A mm) {idx : Nat} (hd : decode (mb mm) pc = .ok (.invokestatic idx, 3)) (hlk : (Cond.methodLink (cnm (mow mm)) idx arraycopyName).before args s = true) (hR : 1 ≤ R.frames ∧ 100 ≤ R.locals) (hcat : (st.map vcat).sum ≤ 13) (hko : ko K = .null ∨ ∃ a, ko K = .ref a) (hs : sCopy pc lsv st h = some (.inl c')) (k : PW p l e R s m args below meth c Q K A ρ0 al0 n0 s0 mm c') : PW p l e R s m args below meth c Q K A ρ0 al0 n0 s0 mm (pc, lsv, st, h) := by
  unfold sCopy at hs
  split at hs
  · rename_i n dp b sp a t
    by_cases q : sp < 0 ∨ dp < 0 ∨ n < 0 ∨ a.2.1 < sp.toNatClampNeg + n.toNatClampNeg ∨ b.2.1 < dp.toNatClampNeg + n.toNatClampNeg
    · rw [if_pos q] at hs; cases hs
    rw [if_neg q] at hs
    cases hb1 : (Nat.beq a.1 20 && Nat.beq b.1 20) with
    | true =>
      rw [hb1] at hs
      cases hs
      simp only [Bool.and_eq_true, Nat.beq_eq] at hb1
      exact sim_cpy2 X (kd := 20) (ti := 0) (Or.inl rfl) rfl rfl hd hlk hR hcat hko q hb1.1 hb1.2 (fun i _ => rfl) k
    | false =>
    rw [hb1] at hs
    cases hb2 : (Nat.beq a.1 22 && Nat.beq b.1 22 && fitb (h.1 a.2.2) sp.toNatClampNeg n.toNatClampNeg) with
    | true =>
      replace hs : (bif (Nat.beq a.1 22 && Nat.beq b.1 22 && fitb (h.1 a.2.2) sp.toNatClampNeg n.toNatClampNeg) then _ else _) = some (Sum.inl c') := hs
      rw [hb2] at hs
      cases hs
      simp only [Bool.and_eq_true, Nat.beq_eq] at hb2
      exact sim_cpy2 X (kd := 22) (ti := 2) (Or.inr (Or.inl rfl)) rfl rfl hd hlk hR hcat hko q hb2.1.1 hb2.1.2 (fun i hi => fitb_ok hb2.2 i hi) k
    | false =>
    replace hs : (bif (Nat.beq a.1 22 && Nat.beq b.1 22 && fitb (h.1 a.2.2) sp.toNatClampNeg n.toNatClampNeg) then _ else _) = some (Sum.inl c') := hs
    rw [hb2] at hs
    obtain ⟨hb, hs⟩ := bif_t (show (bif (Nat.beq a.1 44 && Nat.beq b.1 22 && fitb (sbyt a.2.2) sp.toNatClampNeg n.toNatClampNeg) then _ else none) = some _ from hs)
    cases hs
    simp only [Bool.and_eq_true, Nat.beq_eq] at hb
    obtain ⟨⟨ha44, hb22⟩, hfit⟩ := hb
    have hw := ac_all
    simp only [Bool.and_eq_true] at hw
    obtain ⟨w1, w2, w3⟩ := hw
    intro ρ al H locs cells slots ls iH iS oH ix iN iM iL iV
    obtain ⟨-, iV⟩ := List.forall_mem_cons.mp iV
    obtain ⟨-, iV⟩ := List.forall_mem_cons.mp iV
    obtain ⟨ivb, iV⟩ := List.forall_mem_cons.mp iV
    obtain ⟨-, iV⟩ := List.forall_mem_cons.mp iV
    obtain ⟨iva, iV⟩ := List.forall_mem_cons.mp iV
    have hrb : b ∈ al := okR_in ivb (by omega) (by omega)
    obtain ⟨q1, hq1, hqb⟩ := pm_w_get (K := K) (ρ := ρ) (h := h) hrb
    rw [pm_e_i (Or.inr (Or.inl hb22)), hb22] at hq1
    have h44 : a.2.2 < 70 ∧ a.2.1 = slen a.2.2 := by
      rcases iva with z | z | z | z | z | z | z | z | z | z
      all_goals first | exact z.2 | (exfalso; omega) | skip
      have := (oH.1.1 a z).1
      omega
    have hT := (X.2.2.2.2.2.1.2.2.2.1 _ h44.1).2.2.2
    show W p l e R s m args below meth c H locs cells slots Q (F0 m pc ls (.int n :: .int dp :: pm_r K ρ b :: .int sp :: pm_r K ρ a :: t.map (pm_v K ρ)))
    have hra : pm_r K ρ a = .ref (kB K a.2.2) := by
      rw [pm_r_some (by omega) (by omega)]
      unfold pm_ad
      rw [if_neg (by omega), if_neg (by omega), if_neg (by omega), if_neg (by omega), if_pos ha44]
    rw [hra, pm_r_of oH.1 hrb]
    refine vk_copyt X.1 X.2.1 (by rw [X.2.2.1, iL.1]) X.2.2.2.1 hlk (X.2.2.2.2.1 _ (wt_ok w1)) (X.2.2.2.2.1 _ (wt_ok w2)) (X.2.2.2.2.1 _ (wt_ok w3)) (GK X) iH.1 iH.2 iS hT q1 2 hq1 rfl (fun z => q (Or.inl z)) (fun z => q (Or.inr (Or.inl z))) (fun z => q (Or.inr (Or.inr (Or.inl z)))) (by omega) (by omega) (fun i hi => fitb_ok hfit i hi) hR.1 ?_ hd (fun H1 locs1 hP hD hS1 => ?_)
    · have e1 : (t.map (pm_v K ρ)).map (fun v => v.category) = t.map vcat := by
        rw [List.map_map]
        exact List.map_congr_left fun v _ => pm_cat K ρ (pm_ko_cat hko) v
      rw [e1]
      have e2 : nativeFrameWords "java/lang/System" "arraycopy" 5 = 7 := by decide
      rw [e2]
      simp only [List.map_cons, List.sum_cons] at hcat
      omega
    · have es : (pm_w K ρ h al).set q1 (ρ b.2.2, .inl (kA K 22, (b.2.1, .inl (va_cpy (sbyt a.2.2) (h.1 b.2.2) sp.toNatClampNeg dp.toNatClampNeg n.toNatClampNeg)))) = pm_w K ρ (cpyS h a.2.2 sp.toNatClampNeg b.2.2 dp.toNatClampNeg n.toNatClampNeg) al := by
        refine pm_w_set oH.1 hqb ?_ (fun r2 _ hne => pm_e_eq (by
          funext j
          show (if r2.2.2 = b.2.2 ∧ _ then _ else h.1 r2.2.2 j) = _
          rw [if_neg (fun z => hne z.1)]) rfl rfl)
        rw [pm_e_i (Or.inr (Or.inl hb22)), hb22]
        congr 4
        funext j
        show va_cpy _ _ _ _ _ j = if b.2.2 = b.2.2 ∧ dp.toNatClampNeg ≤ j ∧ j < dp.toNatClampNeg + n.toNatClampNeg then sbyt a.2.2 (sp.toNatClampNeg + (j - dp.toNatClampNeg)) else h.1 b.2.2 j
        by_cases z : dp.toNatClampNeg ≤ j ∧ j < dp.toNatClampNeg + n.toNatClampNeg
        · rw [if_pos ⟨rfl, z.1, z.2⟩, pk_cpy_in z.1 z.2]
        · rw [if_neg (fun w => z w.2), pk_cpy_out (by omega)]
      rw [es] at hP hD
      exact k ρ al H1 locs1 cells slots ls ⟨hP, hD⟩ hS1 (okH_cpyS oH hrb) ix iN iM iL iV
  · cases hs
theorem okH_cpyR {al : List VR} {r : VR} {a : Nat} (o : okH K al h) (hr : r ∈ al) : okH K al (cpyR h a r.2.2) := by
  obtain ⟨o1, o2, o3, o4⟩ := o
  have hb := o1.1 r hr
  refine ⟨o1, o2, fun x hx j => ?_, fun j => ?_⟩
  · have hne : x ≠ r.2.2 := by
      have : hN h ≤ x := hx
      omega
    refine ⟨?_, (o3 x hx j).2⟩
    show (if x = r.2.2 then _ else h.1 x j) = 0
    rw [if_neg hne]
    exact (o3 x hx j).1
  · show (if 0 = r.2.2 then _ else h.1 0 j) = _
    rw [if_neg (fun z => by omega)]
    exact o4 j
theorem sim_clone {idx : Nat} (X : pm_X p s m args c K A mm) (hd : decode (mb mm) pc = .ok (.invokevirtual idx, 3)) (hlk : (Cond.methodLink (cnm (mow mm)) idx ⟨"[B", "clone", "()Ljava/lang/Object;"⟩).before args s = true) (hR : 1 ≤ R.frames ∧ 100 ≤ R.locals) (hko : ko K = .null ∨ ∃ a, ko K = .ref a) (hs : sClone pc lsv st h = some (.inl c')) (hrm : hN c'.2.2.2 ≤ n0 + R.cells ∧ hS c'.2.2.2 ≤ s0 + R.slots) (k : PW p l e R s m args below meth c Q K A ρ0 al0 n0 s0 mm c') : PW p l e R s m args below meth c Q K A ρ0 al0 n0 s0 mm (pc, lsv, st, h) := by
  unfold sClone at hs
  split at hs
  · rename_i r t
    obtain ⟨hb, hs⟩ := bif_t hs
    cases hs
    simp only [Bool.and_eq_true, Nat.beq_eq, Nat.ble_eq] at hb
    obtain ⟨⟨⟨h22, hlen⟩, hfit⟩, hsum⟩ := hb
    have hw := cn_all
    simp only [Bool.and_eq_true] at hw
    obtain ⟨w1, w2, w3, w4⟩ := hw
    intro ρ al H locs cells slots ls iH iS oH ix iN iM iL iV
    have iN : hN h = n0 + cells := iN
    have iM : hS h = s0 + slots := iM
    have hrm1 : hN h + 1 ≤ n0 + R.cells := hrm.1
    have hrm2 : hS h + r.2.1 ≤ s0 + R.slots := hrm.2
    obtain ⟨iv, iV⟩ := List.forall_mem_cons.mp iV
    have hr : r ∈ al := okR_in iv (by omega) (by omega)
    obtain ⟨q0, hq, -⟩ := pm_w_get (K := K) (ρ := ρ) (h := h) hr
    rw [pm_e_i (Or.inr (Or.inl h22)), h22] at hq
    show W p l e R s m args below meth c H locs cells slots Q (F0 m pc ls (pm_r K ρ r :: t.map (pm_v K ρ)))
    rw [pm_r_of oH.1 hr]
    have hnm : s.vm.findClass "[B" = some (kA K 22) := va_nm_byte ((GK X).2 2 (kA K 22, .byte) rfl).2
    have e1 : (t.map (pm_v K ρ)).map (fun v => v.category) = t.map vcat := by
      rw [List.map_map]
      exact List.map_congr_left fun v _ => pm_cat K ρ (pm_ko_cat hko) v
    refine va_clone X.1 X.2.1 (by rw [X.2.2.1, iL.1]) X.2.2.2.1 hlk (X.2.2.2.2.1 _ (wt_ok w1)) (X.2.2.2.2.1 _ (wt_ok w2)) (X.2.2.2.2.1 _ (wt_ok w3)) (X.2.2.2.2.1 _ (wt_ok w4)) (X.2.2.2.2.2.1.2.2.2.2.2.2.2.2.2.2.2.2.2.2.2.2.1 _ (wn_ok cn_cast)) (GK X) iH.1 iH.2 iS X.2.2.2.2.2.2 q0 2 hq rfl hnm ?_ hR.1 (by rw [e1]; omega) (by omega) (by show slots + r.2.1 ≤ _; omega) hd (fun q H1 hK2 hP hD hS1 => ?_)
    · exact va_fit (F := fun j => .int (h.1 r.2.2 j)) (fun i hi => by have := fitb_ok hfit i hi; rw [Nat.zero_add] at this; exact this)
    · have hn : hN (cpyR (grow h r.2.1) r.2.2 (hN h)) = hN h + 1 := rfl
      have hsz : hS (cpyR (grow h r.2.1) r.2.2 (hN h)) = hS h + r.2.1 := rfl
      have sub2 : ∀ r2 ∈ al, r2 ∈ al ++ [(22, r.2.1, hN h)] := fun r2 h2 => List.mem_append_left _ h2
      have hmem : ((22, r.2.1, hN h) : VR) ∈ al ++ [(22, r.2.1, hN h)] := List.mem_append_right _ (List.mem_singleton.mpr rfl)
      have oH2 := okH_cpyR (a := r.2.2) (r := (22, r.2.1, hN h)) (okH_new (r := (22, r.2.1, hN h)) (k := r.2.1) oH rfl (Or.inr ⟨Nat.le_of_ble_eq_true rfl, Nat.le_of_ble_eq_true rfl⟩)) hmem
      have es := pm_w_new (ρ := ρ) (k := r.2.1) (q := q) (r := (22, r.2.1, hN h)) oH rfl
      have es2 : pm_w K (fun x => if x = hN h then q else ρ x) (cpyR (grow h r.2.1) r.2.2 (hN h)) (al ++ [(22, r.2.1, hN h)]) = pm_w K ρ h al ++ [(q, .inl (kA K 22, (r.2.1, .inl (h.1 r.2.2))))] := by
        have old : pm_w K (fun x => if x = hN h then q else ρ x) (cpyR (grow h r.2.1) r.2.2 (hN h)) al = pm_w K ρ h al := by
          unfold pm_w
          apply List.map_congr_left
          intro r2 h2
          have hb2 := (oH.1.1 r2 h2).2.2
          have e3 : pm_e K (fun x => if x = hN h then q else ρ x) (cpyR (grow h r.2.1) r.2.2 (hN h)) r2 = pm_e K (fun x => if x = hN h then q else ρ x) (grow h r.2.1) r2 := pm_e_eq (by
            funext j
            show (if r2.2.2 = hN h then _ else h.1 r2.2.2 j) = h.1 r2.2.2 j
            rw [if_neg (by omega)]) rfl rfl
          rw [e3, pm_e_up oH h2]
          dsimp only
          rw [if_neg (by omega)]
        have e4 : pm_w K (fun x => if x = hN h then q else ρ x) (cpyR (grow h r.2.1) r.2.2 (hN h)) (al ++ [(22, r.2.1, hN h)]) = pm_w K (fun x => if x = hN h then q else ρ x) (cpyR (grow h r.2.1) r.2.2 (hN h)) al ++ [((if hN h = hN h then q else ρ (hN h)), pm_e K (fun x => if x = hN h then q else ρ x) (cpyR (grow h r.2.1) r.2.2 (hN h)) (22, r.2.1, hN h))] := by
          unfold pm_w
          rw [List.map_append]
          rfl
        rw [e4, old, if_pos rfl, pm_e_i (Or.inr (Or.inl rfl))]
        congr 4
        show (kA K 22, r.2.1, (Sum.inl (fun j => if hN h = hN h then h.1 r.2.2 j else h.1 (hN h) j) : _)) = _
        simp only [if_pos]
      rw [← es2] at hP hD
      have k9 := k (fun x => if x = hN h then q else ρ x) (al ++ [(22, r.2.1, hN h)]) H1 locs (cells + 1) (slots + r.2.1) ls ⟨hP, hD⟩ hS1 oH2 (fun r2 h2 => by
        obtain ⟨a1, a2⟩ := ix r2 h2
        have := (oH.1.1 r2 a1).2.2
        refine ⟨sub2 r2 a1, ?_⟩
        dsimp only
        rw [if_neg (by omega)]
        exact a2) (by show hN h + 1 = _; omega) (by show hS h + r.2.1 = _; omega) ⟨iL.1, iL.2.1, iL.2.2.1, fun i v hv => by
        obtain ⟨a1, a2⟩ := iL.2.2.2 i v hv
        refine ⟨?_, okV_more a2 (by show hN h ≤ hN h + 1; omega) sub2⟩
        rw [pm_v_up oH.1 a2]
        exact a1⟩ (List.forall_mem_cons.mpr ⟨by
          show okR K (al ++ [(22, r.2.1, hN h)]) _ (22, r.2.1, hN h)
          exact Or.inr (Or.inr (Or.inr (Or.inr (Or.inr (Or.inr (Or.inr (Or.inr (Or.inr hmem)))))))), fun v hv => okV_more (iV v hv) (by show hN h ≤ hN h + 1; omega) sub2⟩)
      have e1 : pm_r K (fun x => if x = hN h then q else ρ x) (22, r.2.1, hN h) = .ref q := by
        rw [pm_r_of oH2.1 hmem]
        show Value.ref (if hN h = hN h then q else ρ (hN h)) = _
        rw [if_pos rfl]
      have e2 : t.map (pm_v K (fun x => if x = hN h then q else ρ x)) = t.map (pm_v K ρ) := List.map_congr_left fun v hv => pm_v_up oH.1 (iV v hv)
      have k8 : W p l e R s m args below meth c H1 locs (cells + 1) (slots + r.2.1) Q (F0 m (pc + 3) ls (pm_r K (fun x => if x = hN h then q else ρ x) (22, r.2.1, hN h) :: t.map (pm_v K (fun x => if x = hN h then q else ρ x)))) := k9
      rw [e1, e2] at k8
      exact k8
  · cases hs
theorem ck_at {k : Nat} (hk : k < 49152) {t : Nat} (h : CR k = some t) : t = 22 ∧ Cond.classLink (cnm (k / 2048)) (k % 2048) "[B" ∈ TBL := by
  have h1 := all_at ck_all hk
  rw [h, Bool.and_eq_true, Nat.beq_eq] at h1
  exact ⟨h1.1, wt_ok h1.2⟩
theorem sim_cast {idx : Nat} (X : pm_X p s m args c K A mm) (hd : decode (mb mm) pc = .ok (.checkcast idx, 3)) (hs : sCast mm idx pc lsv st h = some (.inl c')) (k : PW p l e R s m args below meth c Q K A ρ0 al0 n0 s0 mm c') : PW p l e R s m args below meth c Q K A ρ0 al0 n0 s0 mm (pc, lsv, st, h) := by
  unfold sCast at hs
  split at hs
  · rename_i r t
    split at hs
    · rename_i kq hCR
      have hk0 : ky mm idx ≠ 0 := fun z => by rw [z, CR0] at hCR; cases hCR
      obtain ⟨hq1, hq2⟩ := ky_of hk0
      obtain ⟨e22, hl⟩ := ck_at (ky_lt (mow_lt mm)) hCR
      obtain ⟨hb, hs⟩ := bif_t hs
      cases hs
      rw [Nat.beq_eq] at hb
      intro ρ al H locs cells slots ls iH iS oH ix iN iM iL iV
      have k9 := k ρ al H locs cells slots ls iH iS oH ix iN iM iL iV
      obtain ⟨iv, -⟩ := List.forall_mem_cons.mp iV
      have h22 : r.1 = 22 := by omega
      have hr : r ∈ al := okR_in iv (by omega) (by omega)
      obtain ⟨q0, hq, -⟩ := pm_w_get (K := K) (ρ := ρ) (h := h) hr
      rw [pm_e_i (Or.inr (Or.inl h22)), h22] at hq
      have hl := X.2.2.2.2.1 _ hl
      rw [hq1, hq2] at hl
      have hnm : s.vm.findClass "[B" = some (kA K 22) := va_nm_byte ((GK X).2 2 (kA K 22, .byte) rfl).2
      show W p l e R s m args below meth c H locs cells slots Q (F0 m pc ls (pm_r K ρ r :: t.map (pm_v K ρ)))
      have k8 : W p l e R s m args below meth c H locs cells slots Q (F0 m (pc + 3) ls (pm_r K ρ r :: t.map (pm_v K ρ))) := k9
      rw [pm_r_of oH.1 hr] at k8 ⊢
      exact va_castA X.1 X.2.1 X.2.2.2.1 hl iH.1 q0 hq hnm hd k8
    · cases hs
  · cases hs
theorem mr_at {k : Nat} (hk : k < 49152) {na y t : Nat} (h : MR k = some (na, y, t)) : mrc k na y t = true := by
  have go : ∀ a, ((List.range 2048).all fun j => match MR (a + j) with | none => true | some (na, y, t) => mrc (a + j) na y t) = true → a ≤ k → k < a + 2048 → mrc k na y t = true := by
    intro a ha h1 h2
    have h3 := all_at ha (show k - a < 2048 by omega)
    rw [show a + (k - a) = k by omega, h] at h3
    exact h3
  by_cases q0 : k < 2048
  · exact go 0 mr_0 (by omega) (by omega)
  by_cases q1 : k < 4096
  · exact go 2048 mr_1 (by omega) (by omega)
  by_cases q2 : k < 6144
  · exact go 4096 mr_2 (by omega) (by omega)
  by_cases q3 : k < 8192
  · exact go 6144 mr_3 (by omega) (by omega)
  by_cases q4 : k < 10240
  · exact go 8192 mr_4 (by omega) (by omega)
  by_cases q5 : k < 12288
  · exact go 10240 mr_5 (by omega) (by omega)
  by_cases q6 : k < 14336
  · exact go 12288 mr_6 (by omega) (by omega)
  by_cases q7 : k < 16384
  · exact go 14336 mr_7 (by omega) (by omega)
  by_cases q8 : k < 18432
  · exact go 16384 mr_8 (by omega) (by omega)
  by_cases q9 : k < 20480
  · exact go 18432 mr_9 (by omega) (by omega)
  by_cases q10 : k < 22528
  · exact go 20480 mr_10 (by omega) (by omega)
  by_cases q11 : k < 24576
  · exact go 22528 mr_11 (by omega) (by omega)
  by_cases q12 : k < 26624
  · exact go 24576 mr_12 (by omega) (by omega)
  by_cases q13 : k < 28672
  · exact go 26624 mr_13 (by omega) (by omega)
  by_cases q14 : k < 30720
  · exact go 28672 mr_14 (by omega) (by omega)
  by_cases q15 : k < 32768
  · exact go 30720 mr_15 (by omega) (by omega)
  by_cases q16 : k < 34816
  · exact go 32768 mr_16 (by omega) (by omega)
  by_cases q17 : k < 36864
  · exact go 34816 mr_17 (by omega) (by omega)
  by_cases q18 : k < 38912
  · exact go 36864 mr_18 (by omega) (by omega)
  by_cases q19 : k < 40960
  · exact go 38912 mr_19 (by omega) (by omega)
  by_cases q20 : k < 43008
  · exact go 40960 mr_20 (by omega) (by omega)
  by_cases q21 : k < 45056
  · exact go 43008 mr_21 (by omega) (by omega)
  by_cases q22 : k < 47104
  · exact go 45056 mr_22 (by omega) (by omega)
  exact go 47104 mr_23 (by omega) (by omega)
theorem sim_mx {b : Bool} {idx : Nat} (X : pm_X p s m args c K A mm) (hlk : (b = true ∧ (Cond.methodLink (cnm (mow mm)) idx Lib.Math.max.name).before args s = true) ∨ (b = false ∧ (Cond.methodLink (cnm (mow mm)) idx Lib.Math.min.name).before args s = true)) (hd : decode (mb mm) pc = .ok (.invokestatic idx, 3)) (hR : 2 ≤ R.frames ∧ 100 ≤ R.locals) (hko : ko K = .null ∨ ∃ a, ko K = .ref a) (hs : sMax b pc lsv st h = some (.inl c')) (hrm : hN c'.2.2.2 ≤ n0 + R.cells ∧ hS c'.2.2.2 ≤ s0 + R.slots) (k : PW p l e R s m args below meth c Q K A ρ0 al0 n0 s0 mm c') : PW p l e R s m args below meth c Q K A ρ0 al0 n0 s0 mm (pc, lsv, st, h) := by
  unfold sMax at hs
  split at hs
  · rename_i y x r
    obtain ⟨hb, hs⟩ := bif_t hs
    cases hs
    rw [Nat.ble_eq] at hb
    have w1 := mm_max
    have w2 := mm_min
    simp only [Bool.and_eq_true] at w1 w2
    intro ρ al H locs cells slots ls iH iS oH ix iN iM iL iV
    obtain ⟨-, iV⟩ := List.forall_mem_cons.mp iV
    obtain ⟨-, iV⟩ := List.forall_mem_cons.mp iV
    have iN : hN h = n0 + cells := iN
    have iM : hS h = s0 + slots := iM
    have k9 := k ρ al H locs cells slots ls iH iS oH ix iN iM iL (List.forall_mem_cons.mpr ⟨trivial, iV⟩)
    have e1 : (r.map (pm_v K ρ)).map (fun v => v.category) = r.map vcat := by
      rw [List.map_map]
      exact List.map_congr_left fun v _ => pm_cat K ρ (pm_ko_cat hko) v
    have hn : hN h ≤ n0 + R.cells ∧ hS h ≤ s0 + R.slots := hrm
    rcases hlk with ⟨rfl, hl⟩ | ⟨rfl, hl⟩
    · exact va_mmax X.1 X.2.1 (by rw [X.2.2.1, iL.1]) X.2.2.2.1 hl (X.2.2.2.2.1 _ (wt_ok w1.1)) (X.2.2.2.2.1 _ (wt_ok w1.2)) (X.2.2.2.2.1 _ (mem_T (sub_lw _ _ (List.mem_of_getElem? mk_max)) rfl)) (by omega) (by rw [e1]; omega) (by omega) (by omega) hd k9
    · exact va_mmin X.1 X.2.1 (by rw [X.2.2.1, iL.1]) X.2.2.2.1 hl (X.2.2.2.2.1 _ (wt_ok w2.1)) (X.2.2.2.2.1 _ (wt_ok w2.2)) (X.2.2.2.2.1 _ (mem_T (sub_lw _ _ (List.mem_of_getElem? mk_min)) rfl)) (by omega) (by rw [e1]; omega) (by omega) (by omega) hd k9
  · cases hs
theorem sim_cl {o idx : Nat} (X : pm_X p s m args c K A mm) (hko : ko K = .null ∨ ∃ a, ko K = .ref a) (hR : 2 ≤ R.frames ∧ 100 ≤ R.locals) (hd0 : o = 0 → decode (mb mm) pc = .ok (.invokevirtual idx, 3)) (hd1 : o = 1 → decode (mb mm) pc = .ok (.invokespecial idx, 3)) (hd2 : o = 2 → decode (mb mm) pc = .ok (.invokestatic idx, 3)) (hrm : hN c'.2.2.2 ≤ n0 + R.cells ∧ hS c'.2.2.2 ≤ s0 + R.slots) (hs : sCall o mm idx pc lsv st h = some (.inl c')) (k : PW p l e R s m args below meth c Q K A ρ0 al0 n0 s0 mm c') : PW p l e R s m args below meth c Q K A ρ0 al0 n0 s0 mm (pc, lsv, st, h) := by
  unfold sCall at hs
  split at hs
  · rename_i na y t hMR
    have hk0 : ky mm idx ≠ 0 := fun z => by rw [z, MR0] at hMR; cases hMR
    obtain ⟨hq1, hq2⟩ := ky_of hk0
    have hw := mr_at (ky_lt (m := mm) (idx := idx) (mow_lt mm)) hMR
    unfold mrc at hw
    cases h1 : Nat.beq y 1000 with
    | true =>
      rw [h1] at hs hw
      have hl := X.2.2.2.2.1 _ (wt_ok hw)
      rw [hq1, hq2] at hl
      dsimp only [cond_true] at hs
      split at hs
      · rename_i r q
        obtain ⟨hb, hs⟩ := bif_t hs
        cases hs
        simp only [Bool.and_eq_true, Nat.beq_eq, Nat.blt_eq, Nat.ble_eq] at hb
        obtain ⟨⟨⟨b1, b2⟩, b3⟩, b4⟩ := hb
        have hoi := X.2.2.2.2.1 _ (wt_ok oi_all)
        have hoc : (Cond.code objectInit ⟨#[0xb1]⟩ 1 none).before args s = true := X.2.2.2.2.1 _ (mem_T (sub_lw _ _ (List.mem_of_getElem? oc_all)) rfl)
        intro ρ al H locs cells slots ls iH iS oH ix iN iM iL iV
        obtain ⟨-, iV⟩ := List.forall_mem_cons.mp iV
        have k9 := k ρ al H locs cells slots ls iH iS oH ix iN iM iL iV
        show W p l e R s m args below meth c H locs cells slots Q (F0 m pc ls (pm_r K ρ r :: q.map (pm_v K ρ)))
        rw [pm_r_some b2 (by omega)]
        refine W.objInit X.1 X.2.1 X.2.2.2.1 hl hoi hoc rfl (by rw [X.2.2.1]; exact iL.1) rfl (hd1 b1) (by omega) ?_ k9
        have e1 : (q.map (pm_v K ρ)).map (fun v => v.category) = q.map vcat := by
          rw [List.map_map]
          exact List.map_congr_left fun v _ => pm_cat K ρ (pm_ko_cat hko) v
        rw [e1]
        show 2 * 0 + _ + 12 ≤ _
        omega
      · cases hs
    | false =>
      rw [h1] at hs hw
      dsimp only [cond_false] at hs hw
      cases h2 : Nat.beq y 1001 with
      | true =>
        rw [h2] at hs hw
        obtain ⟨hb, hs⟩ := bif_t hs
        simp only [Bool.and_eq_true, Nat.beq_eq, Nat.ble_eq] at hb
        have hl := X.2.2.2.2.1 _ (wt_ok hw)
        rw [hq1, hq2] at hl
        exact sim_cpy X (hd2 hb.1) hl ⟨by omega, hR.2⟩ hb.2 hko hs k
      | false =>
        rw [h2] at hs hw
        dsimp only [cond_false] at hs hw
        cases h3 : Nat.beq y 1002 with
        | true =>
          rw [h3] at hs hw
          obtain ⟨hb, hs⟩ := bif_t hs
          rw [Nat.beq_eq] at hb
          have hl := X.2.2.2.2.1 _ (wt_ok hw)
          rw [hq1, hq2] at hl
          exact sim_mx X (Or.inl ⟨rfl, hl⟩) (hd2 hb) hR hko hs hrm k
        | false =>
          rw [h3] at hs hw
          dsimp only [cond_false] at hs hw
          cases h4 : Nat.beq y 1003 with
          | true =>
            rw [h4] at hs hw
            obtain ⟨hb, hs⟩ := bif_t hs
            rw [Nat.beq_eq] at hb
            have hl := X.2.2.2.2.1 _ (wt_ok hw)
            rw [hq1, hq2] at hl
            exact sim_mx X (Or.inr ⟨rfl, hl⟩) (hd2 hb) hR hko hs hrm k
          | false =>
            rw [h4] at hs hw
            dsimp only [cond_false] at hs hw
            cases h5 : Nat.beq y 1004 with
            | true =>
              rw [h5] at hs hw
              obtain ⟨hb, hs⟩ := bif_t hs
              rw [Nat.beq_eq] at hb
              have hl := X.2.2.2.2.1 _ (wt_ok hw)
              rw [hq1, hq2] at hl
              exact sim_clone X (hd0 hb) hl ⟨by omega, hR.2⟩ hko hs hrm k
            | false =>
              rw [h5] at hs
              obtain ⟨hb, hs⟩ := bif_t (show (bif _ then _ else none) = some _ from hs)
              cases hs
  · cases hs
end SIMS
