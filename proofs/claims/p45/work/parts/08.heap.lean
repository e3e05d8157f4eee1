/-! Steps that read and write cells. -/
theorem okR_in {K : KT} {al : List VR} {n : Nat} {r : VR} (h : okR K al n r) (h1 : 1 ≤ r.1) (h2 : r.1 < 30) : r ∈ al := by
  rcases h with h | h | h | h | h | h | h | h | h | h <;> first | exact h | (exfalso; omega)
theorem pm_e_eq {K : KT} {ρ : Nat → Nat} {h h' : PH} {r : VR} (e1 : h'.1 r.2.2 = h.1 r.2.2) (e2 : h'.2.1 r.2.2 = h.2.1 r.2.2) (e3 : h'.2.2.1 r.2.2 = h.2.2.1 r.2.2) : pm_e K ρ h' r = pm_e K ρ h r := by
  have ef : pm_f K ρ h' r = pm_f K ρ h r := by
    funext k
    unfold pm_f
    rw [e1, e2, e3]
  unfold pm_e
  rw [ef, e1, e2, e3]
theorem up2_ne {α : Type} {f : Nat → Nat → α} {a b k : Nat} {v : α} (h : b ≠ a) : up2 f a k v b = f b := by
  funext j
  unfold up2
  rw [if_neg (fun z => h z.1)]
theorem up2_eq {α : Type} {f : Nat → Nat → α} {a k : Nat} {v : α} : up2 f a k v a = fun j => if j = k then v else f a j := by
  funext j
  unfold up2
  by_cases h : j = k
  · rw [if_pos ⟨rfl, h⟩, if_pos h]
  · rw [if_neg (fun z => h z.2), if_neg h]
theorem okH_setI {K : KT} {al : List VR} {h : PH} {r : VR} {k : Nat} {v : Int32} (o : okH K al h) (hr : r ∈ al) : okH K al (setI h r.2.2 k v) := by
  obtain ⟨o1, o2, o3, o4⟩ := o
  have hb := o1.1 r hr
  refine ⟨o1, o2, fun a ha j => ?_, fun j => ?_⟩
  · have hne : a ≠ r.2.2 := by
      have : hN h ≤ a := ha
      omega
    refine ⟨?_, (o3 a ha j).2⟩
    show up2 h.1 r.2.2 k v a j = 0
    rw [up2_ne hne]
    exact (o3 a ha j).1
  · show up2 h.1 r.2.2 k v 0 j = _
    rw [up2_ne (by omega)]
    exact o4 j
theorem okH_setL {K : KT} {al : List VR} {h : PH} {r : VR} {k : Nat} {v : Int64} (o : okH K al h) (hr : r ∈ al) : okH K al (setL h r.2.2 k v) := by
  obtain ⟨o1, o2, o3, o4⟩ := o
  have hb := o1.1 r hr
  refine ⟨o1, o2, fun a ha j => ?_, o4⟩
  have hne : a ≠ r.2.2 := by
    have : hN h ≤ a := ha
    omega
  refine ⟨(o3 a ha j).1, ?_, (o3 a ha j).2.2⟩
  show up2 h.2.1 r.2.2 k v a j = 0
  rw [up2_ne hne]
  exact (o3 a ha j).2.1
theorem okH_setR {K : KT} {al : List VR} {h : PH} {r v : VR} {k : Nat} (o : okH K al h) (hr : r ∈ al) (hv : okR K al (hN h) v ∧ v.1 ≠ 46) : okH K al (setR h r.2.2 k v) := by
  obtain ⟨o1, o2, o3, o4⟩ := o
  have hb := o1.1 r hr
  refine ⟨o1, fun r2 h2 j => ?_, fun a ha j => ?_, o4⟩
  · show okR K al (hN h) (up2 h.2.2.1 r.2.2 k v r2.2.2 j) ∧ (up2 h.2.2.1 r.2.2 k v r2.2.2 j).1 ≠ 46
    unfold up2
    split
    · exact hv
    · exact o2 r2 h2 j
  · have hne : a ≠ r.2.2 := by
      have : hN h ≤ a := ha
      omega
    refine ⟨(o3 a ha j).1, (o3 a ha j).2.1, ?_⟩
    show up2 h.2.2.1 r.2.2 k v a j = (0, 0, 0)
    rw [up2_ne hne]
    exact (o3 a ha j).2.2
theorem okH_cpy {K : KT} {al : List VR} {h : PH} {r : VR} {a sp dp n : Nat} (o : okH K al h) (hr : r ∈ al) : okH K al (cpyI h a sp r.2.2 dp n) := by
  obtain ⟨o1, o2, o3, o4⟩ := o
  have hb := o1.1 r hr
  refine ⟨o1, o2, fun x hx j => ?_, fun j => ?_⟩
  · have hne : x ≠ r.2.2 := by
      have : hN h ≤ x := hx
      omega
    refine ⟨?_, (o3 x hx j).2⟩
    show (if x = r.2.2 ∧ dp ≤ j ∧ j < dp + n then _ else h.1 x j) = 0
    rw [if_neg (fun z => hne z.1)]
    exact (o3 x hx j).1
  · show (if 0 = r.2.2 ∧ dp ≤ j ∧ j < dp + n then _ else h.1 0 j) = _
    rw [if_neg (fun z => by omega)]
    exact o4 j
section SIMH
variable {p : Program} {l : Launch} {e : Env} {R : Room} {s : State} {m : MethodId} {args : Array Value} {below : List Frame} {meth : Method} {c : Code} {Q : State → Prop}
variable {K : KT} {A : Nat → Prop} {ρ0 : Nat → Nat} {al0 : List VR} {n0 s0 mm : Nat} {pc : Nat} {lsv : LV} {st : List VV} {h : PH} {c' : Cf}
abbrev GK (X : pm_X p s m args c K A mm) : va_K (kD K) pm_cl (pm_tys K) s := X.2.2.2.2.2.1.1
theorem not_or_in {j : Int32} {n : Nat} {α : Type} {y : α} {z : Option α} (h : (if j < 0 ∨ n ≤ j.toNatClampNeg then none else z) = some y) : vp_in j n ∧ z = some y := by
  by_cases q : j < 0 ∨ n ≤ j.toNatClampNeg
  · rw [if_pos q] at h; cases h
  · rw [if_neg q] at h; exact ⟨q, h⟩
theorem bif_t {α : Type} {b : Bool} {x : Option α} {y : α} (h : (bif b then x else none) = some y) : b = true ∧ x = some y := by
  cases b
  · cases h
  · exact ⟨rfl, h⟩
theorem pm_e_i {K : KT} {ρ : Nat → Nat} {h : PH} {r : VR} (hk : r.1 = 20 ∨ r.1 = 22 ∨ r.1 = 26) : pm_e K ρ h r = .inl (kA K r.1, (r.2.1, .inl (h.1 r.2.2))) := by
  unfold pm_e
  rw [if_neg (by omega), if_pos (by omega), if_neg (by omega)]
theorem pm_e_l {K : KT} {ρ : Nat → Nat} {h : PH} {r : VR} (hk : r.1 = 21) : pm_e K ρ h r = .inl (kA K 21, (r.2.1, .inr (.inl (h.2.1 r.2.2)))) := by
  unfold pm_e
  rw [if_neg (by omega), if_pos (by omega), if_pos hk]
theorem pm_e_r {K : KT} {ρ : Nat → Nat} {h : PH} {r : VR} (hk : 23 ≤ r.1) (h26 : r.1 ≠ 26) : pm_e K ρ h r = .inl (kA K r.1, (r.2.1, .inr (.inr (.inr (.inr (fun j => pm_o K ρ (h.2.2.1 r.2.2 j))))))) := by
  unfold pm_e
  rw [if_neg (by omega), if_neg (by omega)]
theorem pm_e_o {K : KT} {ρ : Nat → Nat} {h : PH} {r : VR} (hk : r.1 < 20) : pm_e K ρ h r = .inr (r.1 - 1, (List.range (nF r.1)).map (pm_f K ρ h r)) := by
  unfold pm_e
  rw [if_pos hk]
theorem pm_ty {K : KT} {t : Nat} (h1 : 20 ≤ t) (h2 : t ≤ 29) : ∃ ty, (pm_tys K)[t - 20]? = some (kA K t, ty) := by
  rcases (show t = 20 ∨ t = 21 ∨ t = 22 ∨ t = 23 ∨ t = 24 ∨ t = 25 ∨ t = 26 ∨ t = 27 ∨ t = 28 ∨ t = 29 by omega) with rfl | rfl | rfl | rfl | rfl | rfl | rfl | rfl | rfl | rfl <;> exact ⟨_, rfl⟩
theorem rf_o {K : KT} {ρ : Nat → Nat} {r : VR} (h46 : r.1 ≠ 46) : va_rf (pm_o K ρ r) = pm_r K ρ r := by
  unfold pm_o pm_r
  by_cases h : r.1 = 0
  · rw [if_pos h, if_pos h]; rfl
  · rw [if_neg h, if_neg h, if_neg h46]; rfl
theorem sim_len (X : pm_X p s m args c K A mm) (hd : decode (mb mm) pc = .ok (.arraylength, 1)) (hs : sLen pc lsv st h = some (.inl c')) (k : PW p l e R s m args below meth c Q K A ρ0 al0 n0 s0 mm c') : PW p l e R s m args below meth c Q K A ρ0 al0 n0 s0 mm (pc, lsv, st, h) := by
  unfold sLen at hs
  split at hs
  · rename_i r t
    obtain ⟨hb, hs⟩ := bif_t hs
    cases hs
    intro ρ al H locs cells slots ls iH iS oH ix iN iM iL iV
    obtain ⟨iv, iV⟩ := List.forall_mem_cons.mp iV
    have k9 := k ρ al H locs cells slots ls iH iS oH ix iN iM iL (List.forall_mem_cons.mpr ⟨trivial, iV⟩)
    simp only [Bool.and_eq_true, Bool.or_eq_true, Nat.beq_eq, Nat.ble_eq] at hb
    show W p l e R s m args below meth c H locs cells slots Q (F0 m pc ls (pm_r K ρ r :: t.map (pm_v K ρ)))
    obtain ⟨-, -, -, h4, -, h6, -, h8, -, -, -, -, -, ⟨h14, h15, h16⟩, -⟩ := X.2.2.2.2.2.1
    have nin : r ∈ al → 20 ≤ r.1 ∧ r.1 ≤ 29 := fun q => by have := (oH.1.1 r q).1; omega
    by_cases h25 : r.1 ≤ 29
    · have hr : r ∈ al := okR_in iv (by omega) (by omega)
      obtain ⟨q0, hq, -⟩ := pm_w_get (K := K) (ρ := ρ) (h := h) hr
      rw [pm_r_of oH.1 hr]
      obtain ⟨ty, hty⟩ := pm_ty (K := K) hb.1 h25
      rcases (show (r.1 = 20 ∨ r.1 = 22 ∨ r.1 = 26) ∨ r.1 = 21 ∨ (23 ≤ r.1 ∧ r.1 ≠ 26) by omega) with z | z | z
      · rw [pm_e_i z] at hq
        exact va_alen X.1 X.2.1 (GK X) iH.1 q0 (r.1 - 20) hq hty rfl hd k9
      · rw [pm_e_l z] at hq
        rw [z] at hty
        exact va_alen X.1 X.2.1 (GK X) iH.1 q0 (21 - 20) hq hty rfl hd k9
      · rw [pm_e_r z.1 z.2] at hq
        exact va_alen X.1 X.2.1 (GK X) iH.1 q0 (r.1 - 20) hq hty rfl hd k9
    rw [pm_r_some (by omega) (by omega)]
    rcases iv with q | q | q | q | q | q | q | q | q | q
    · omega
    · omega
    · have ha : pm_ad K ρ r = (kk K) := by
        unfold pm_ad
        rw [if_neg (by omega), if_pos q.1]
      rw [ha]
      refine va_tlen X.1 X.2.1 h6 iS rfl hd ?_
      rw [← q.2]
      exact k9
    · have ha : pm_ad K ρ r = kw K := by
        unfold pm_ad
        rw [if_neg (by omega), if_neg (by omega), if_pos q.1]
      rw [ha]
      refine va_tlen X.1 X.2.1 h8 iS rfl hd ?_
      rw [← q.2]
      exact k9
    · omega
    · have ha : pm_ad K ρ r = kB K r.2.2 := by
        unfold pm_ad
        rw [if_neg (by omega), if_neg (by omega), if_neg (by omega), if_neg (by omega), if_pos q.1]
      rw [ha]
      refine va_tlen X.1 X.2.1 (h4 _ q.2.1).2.2.2 iS rfl hd ?_
      rw [← q.2.2]
      exact k9
    · have ha : pm_ad K ρ r = kx K := by
        unfold pm_ad
        rw [if_neg (by omega), if_neg (by omega), if_neg (by omega), if_neg (by omega), if_neg (by omega), if_pos q.1]
      rw [ha]
      refine va_slen X.1 X.2.1 h14 h15 h16 iS hd ?_
      rw [← q.2.1]
      exact k9
    · omega
    · omega
    · exact absurd (nin q).2 h25
  · cases hs
theorem sim_iald (X : pm_X p s m args c K A mm) (hd : decode (mb mm) pc = .ok (.iaload, 1)) (hs : sIald pc lsv st h = some (.inl c')) (k : PW p l e R s m args below meth c Q K A ρ0 al0 n0 s0 mm c') : PW p l e R s m args below meth c Q K A ρ0 al0 n0 s0 mm (pc, lsv, st, h) := by
  unfold sIald at hs
  split at hs
  · rename_i j r t
    obtain ⟨hin, hs⟩ := not_or_in hs
    intro ρ al H locs cells slots ls iH iS oH ix iN iM iL iV
    obtain ⟨-, iV⟩ := List.forall_mem_cons.mp iV
    obtain ⟨iv, iV⟩ := List.forall_mem_cons.mp iV
    cases hb : (Nat.beq r.1 20 || Nat.beq r.1 45) with
    | true =>
      rw [hb] at hs
      cases hs
      have k9 := k ρ al H locs cells slots ls iH iS oH ix iN iM iL (List.forall_mem_cons.mpr ⟨trivial, iV⟩)
      simp only [Bool.or_eq_true, Nat.beq_eq] at hb
      rcases hb with hb | hb
      · have hr : r ∈ al := okR_in iv (by omega) (by omega)
        obtain ⟨q0, hq, -⟩ := pm_w_get (K := K) (ρ := ρ) (h := h) hr
        have he : pm_e K ρ h r = .inl (kA K 20, (r.2.1, .inl (h.1 r.2.2))) := by
          unfold pm_e
          rw [if_neg (by omega), if_pos (by omega), if_neg (by omega), hb]
        rw [he] at hq
        show W p l e R s m args below meth c H locs cells slots Q (F0 m pc ls (.int j :: pm_r K ρ r :: t.map (pm_v K ρ)))
        rw [pm_r_of oH.1 hr]
        exact va_iald X.1 X.2.1 (GK X) iH.1 q0 0 hq rfl hin hd k9
      · obtain ⟨hX, hxl, hxA⟩ := X.2.2.2.2.2.1.2.2.2.2.2.2.2.2.2.2.2.2.2.1
        have h45 : r.2.1 = kl K ∧ r.2.2 = 0 := by
          rcases iv with q | q | q | q | q | q | q | q | q | q
          all_goals first | exact ⟨q.2.1, q.2.2⟩ | (exfalso; omega) | skip
          have := (oH.1.1 r q).1
          omega
        show W p l e R s m args below meth c H locs cells slots Q (F0 m pc ls (.int j :: pm_r K ρ r :: t.map (pm_v K ρ)))
        rw [pm_r_some (by omega) (by omega)]
        have ha : pm_ad K ρ r = kx K := by
          unfold pm_ad
          rw [if_neg (by omega), if_neg (by omega), if_neg (by omega), if_neg (by omega), if_neg (by omega), if_pos hb]
        rw [ha]
        rw [h45.1] at hin
        refine va_sld X.1 X.2.1 hX hxl hxA iS hin hd ?_
        have e1 : h.1 r.2.2 j.toNatClampNeg = ks K j.toNatClampNeg := by rw [h45.2]; exact oH.2.2.2 _
        rw [← e1]
        exact k9
    | false =>
      rw [hb] at hs
      obtain ⟨hb2, hs⟩ := bif_t (show (bif Nat.beq r.1 42 then _ else none) = some _ from hs)
      cases hs
      have k9 := k ρ al H locs cells slots ls iH iS oH ix iN iM iL (List.forall_mem_cons.mpr ⟨trivial, iV⟩)
      have hb3 : r.1 = 42 := Nat.eq_of_beq_eq_true hb2
      have h42 : r.2.1 = 38 := by
        rcases iv with q | q | q | q | q | q | q | q | q | q
        all_goals first | exact q.2 | (exfalso; omega) | skip
        have := (oH.1.1 r q).1
        omega
      have hT := X.2.2.2.2.2.1.2.2.2.2.2.2.2.1
      show W p l e R s m args below meth c H locs cells slots Q (F0 m pc ls (.int j :: pm_r K ρ r :: t.map (pm_v K ρ)))
      rw [pm_r_some (by omega) (by omega)]
      have ha : pm_ad K ρ r = kw K := by
        unfold pm_ad
        rw [if_neg (by omega), if_neg (by omega), if_pos hb3]
      rw [ha]
      rw [h42] at hin
      exact va_ti X.1 X.2.1 hT iS hin rfl hd k9
  · cases hs
theorem sim_bald (X : pm_X p s m args c K A mm) (hd : decode (mb mm) pc = .ok (.baload, 1)) (hs : sBald pc lsv st h = some (.inl c')) (k : PW p l e R s m args below meth c Q K A ρ0 al0 n0 s0 mm c') : PW p l e R s m args below meth c Q K A ρ0 al0 n0 s0 mm (pc, lsv, st, h) := by
  unfold sBald at hs
  split at hs
  · rename_i j r t
    obtain ⟨hin, hs⟩ := not_or_in hs
    intro ρ al H locs cells slots ls iH iS oH ix iN iM iL iV
    obtain ⟨-, iV⟩ := List.forall_mem_cons.mp iV
    obtain ⟨iv, iV⟩ := List.forall_mem_cons.mp iV
    show W p l e R s m args below meth c H locs cells slots Q (F0 m pc ls (.int j :: pm_r K ρ r :: t.map (pm_v K ρ)))
    cases hb : (Nat.beq r.1 22 || Nat.beq r.1 26) with
    | true =>
      rw [hb] at hs
      cases hs
      have k9 := k ρ al H locs cells slots ls iH iS oH ix iN iM iL (List.forall_mem_cons.mpr ⟨trivial, iV⟩)
      simp only [Bool.or_eq_true, Nat.beq_eq] at hb
      have hr : r ∈ al := okR_in iv (by omega) (by omega)
      obtain ⟨q0, hq, -⟩ := pm_w_get (K := K) (ρ := ρ) (h := h) hr
      rw [pm_e_i (Or.inr hb)] at hq
      rw [pm_r_of oH.1 hr]
      rcases hb with hb | hb <;> rw [hb] at hq
      · exact va_bald X.1 X.2.1 (GK X) iH.1 q0 2 hq rfl hin hd k9
      · exact va_zald X.1 X.2.1 (GK X) iH.1 q0 6 hq rfl hin hd k9
    | false =>
      rw [hb] at hs
      cases hb2 : Nat.beq r.1 44 with
      | true =>
        replace hs : (bif Nat.beq r.1 44 then _ else _) = some _ := hs
        rw [hb2] at hs
        cases hs
        have k9 := k ρ al H locs cells slots ls iH iS oH ix iN iM iL (List.forall_mem_cons.mpr ⟨trivial, iV⟩)
        have hb3 : r.1 = 44 := Nat.eq_of_beq_eq_true hb2
        have h44 : r.2.2 < 70 ∧ r.2.1 = slen r.2.2 := by
          rcases iv with q | q | q | q | q | q | q | q | q | q
          all_goals first | exact q.2 | (exfalso; omega) | skip
          have := (oH.1.1 r q).1
          omega
        have hT := (X.2.2.2.2.2.1.2.2.2.1 _ h44.1).2.2.2
        rw [pm_r_some (by omega) (by omega)]
        have ha : pm_ad K ρ r = kB K r.2.2 := by
          unfold pm_ad
          rw [if_neg (by omega), if_neg (by omega), if_neg (by omega), if_neg (by omega), if_pos hb3]
        rw [ha]
        rw [h44.2] at hin
        exact va_tb X.1 X.2.1 hT iS hin rfl hd k9
      | false =>
        replace hs : (bif Nat.beq r.1 44 then _ else _) = some _ := hs
        rw [hb2] at hs
        obtain ⟨hb4, hs⟩ := bif_t (show (bif Nat.beq r.1 48 then _ else none) = some _ from hs)
        cases hs
        have k9 := k ρ al H locs cells slots ls iH iS oH ix iN iM iL (List.forall_mem_cons.mpr ⟨trivial, iV⟩)
        have hb3 : r.1 = 48 := Nat.eq_of_beq_eq_true hb4
        have h48 : r.2.1 = 100 ∧ r.2.2 < 2 := by
          rcases iv with q | q | q | q | q | q | q | q | q | q
          all_goals first | (exfalso; omega) | skip
          · rcases q with q | q | q
            · omega
            · omega
            · exact q.2
          · have := (oH.1.1 r q).1
            omega
        have hT := (X.2.2.2.2.2.1.2.2.2.2.2.2.2.2.1 _ h48.2).2.2
        have ha : pm_r K ρ r = .ref (kf K (2 + r.2.2)) := by
          unfold pm_r pm_ad
          rw [if_neg (by omega), if_neg (by omega), if_neg (by omega), if_neg (by omega), if_neg (by omega), if_neg (by omega), if_neg (by omega), if_neg (by omega), if_neg (by omega), if_pos hb3]
        rw [ha]
        rw [h48.1] at hin
        exact va_tb X.1 X.2.1 hT iS hin rfl hd k9
  · cases hs
theorem sim_lald (X : pm_X p s m args c K A mm) (hd : decode (mb mm) pc = .ok (.laload, 1)) (hs : sLald pc lsv st h = some (.inl c')) (k : PW p l e R s m args below meth c Q K A ρ0 al0 n0 s0 mm c') : PW p l e R s m args below meth c Q K A ρ0 al0 n0 s0 mm (pc, lsv, st, h) := by
  unfold sLald at hs
  split at hs
  · rename_i j r t
    obtain ⟨hin, hs⟩ := not_or_in hs
    obtain ⟨hb, hs⟩ := bif_t hs
    cases hs
    rw [Nat.beq_eq] at hb
    intro ρ al H locs cells slots ls iH iS oH ix iN iM iL iV
    obtain ⟨-, iV⟩ := List.forall_mem_cons.mp iV
    obtain ⟨iv, iV⟩ := List.forall_mem_cons.mp iV
    have k9 := k ρ al H locs cells slots ls iH iS oH ix iN iM iL (List.forall_mem_cons.mpr ⟨trivial, iV⟩)
    show W p l e R s m args below meth c H locs cells slots Q (F0 m pc ls (.int j :: pm_r K ρ r :: t.map (pm_v K ρ)))
    have hr : r ∈ al := okR_in iv (by omega) (by omega)
    obtain ⟨q0, hq, -⟩ := pm_w_get (K := K) (ρ := ρ) (h := h) hr
    rw [pm_e_l hb] at hq
    rw [pm_r_of oH.1 hr]
    exact va_lald X.1 X.2.1 (GK X) iH.1 q0 1 hq rfl hin hd k9
  · cases hs
theorem sim_iast (X : pm_X p s m args c K A mm) (hd : decode (mb mm) pc = .ok (.iastore, 1)) (hs : sIast pc lsv st h = some (.inl c')) (k : PW p l e R s m args below meth c Q K A ρ0 al0 n0 s0 mm c') : PW p l e R s m args below meth c Q K A ρ0 al0 n0 s0 mm (pc, lsv, st, h) := by
  unfold sIast at hs
  split at hs
  · rename_i x j r t
    obtain ⟨hin, hs⟩ := not_or_in hs
    obtain ⟨hb, hs⟩ := bif_t hs
    cases hs
    rw [Nat.beq_eq] at hb
    intro ρ al H locs cells slots ls iH iS oH ix iN iM iL iV
    obtain ⟨-, iV⟩ := List.forall_mem_cons.mp iV
    obtain ⟨-, iV⟩ := List.forall_mem_cons.mp iV
    obtain ⟨iv, iV⟩ := List.forall_mem_cons.mp iV
    show W p l e R s m args below meth c H locs cells slots Q (F0 m pc ls (.int x :: .int j :: pm_r K ρ r :: t.map (pm_v K ρ)))
    have hr : r ∈ al := okR_in iv (by omega) (by omega)
    obtain ⟨q0, hq, hqa⟩ := pm_w_get (K := K) (ρ := ρ) (h := h) hr
    rw [pm_e_i (Or.inl hb), hb] at hq
    rw [pm_r_of oH.1 hr]
    refine va_iast X.1 X.2.1 (GK X) iH.1 iH.2 iS q0 0 hq rfl hin hd (fun H1 locs1 hP hD hS1 => ?_)
    have es : (pm_w K ρ h al).set q0 (ρ r.2.2, .inl (kA K 20, (r.2.1, .inl (upd (h.1 r.2.2) j.toNatClampNeg x)))) = pm_w K ρ (setI h r.2.2 j.toNatClampNeg x) al := by
      refine pm_w_set oH.1 hqa ?_ (fun r2 _ hne => pm_e_eq (up2_ne hne) rfl rfl)
      rw [pm_e_i (Or.inl hb), hb]
      show _ = Sum.inl (kA K 20, r.2.1, Sum.inl (up2 h.1 r.2.2 j.toNatClampNeg x r.2.2))
      rw [up2_eq]
      rfl
    rw [es] at hP hD
    exact k ρ al H1 locs1 cells slots ls ⟨hP, hD⟩ hS1 (okH_setI oH hr) ix iN iM iL iV
  · cases hs
theorem nar_z (x : Int32) : vp_nar .boolean x = x &&& 1 := by
  first | rfl | (unfold vp_nar; rfl) | (simp [vp_nar, narrow])
theorem sim_bast (X : pm_X p s m args c K A mm) (hd : decode (mb mm) pc = .ok (.bastore, 1)) (hs : sBast pc lsv st h = some (.inl c')) (k : PW p l e R s m args below meth c Q K A ρ0 al0 n0 s0 mm c') : PW p l e R s m args below meth c Q K A ρ0 al0 n0 s0 mm (pc, lsv, st, h) := by
  unfold sBast at hs
  split at hs
  · rename_i x j r t
    obtain ⟨hin, hs⟩ := not_or_in hs
    intro ρ al H locs cells slots ls iH iS oH ix iN iM iL iV
    obtain ⟨-, iV⟩ := List.forall_mem_cons.mp iV
    obtain ⟨-, iV⟩ := List.forall_mem_cons.mp iV
    obtain ⟨iv, iV⟩ := List.forall_mem_cons.mp iV
    show W p l e R s m args below meth c H locs cells slots Q (F0 m pc ls (.int x :: .int j :: pm_r K ρ r :: t.map (pm_v K ρ)))
    have put : ∀ (ty : Nat) (v : Int32), (ty = 22 ∨ ty = 26) → r.1 = ty → ∀ r2 ∈ al, r2 = r → ∀ q0 : Nat, al[q0]? = some r → (pm_w K ρ h al).set q0 (ρ r.2.2, .inl (kA K ty, (r.2.1, .inl (upd (h.1 r.2.2) j.toNatClampNeg v)))) = pm_w K ρ (setI h r.2.2 j.toNatClampNeg v) al := by
      intro ty v hty hb r2 hr2 he q0 hqa
      subst hb
      refine pm_w_set oH.1 hqa ?_ (fun r2 _ hne => pm_e_eq (up2_ne hne) rfl rfl)
      rw [pm_e_i (Or.inr hty)]
      show _ = Sum.inl (kA K r.1, r.2.1, Sum.inl (up2 h.1 r.2.2 j.toNatClampNeg v r.2.2))
      rw [up2_eq]
      rfl
    cases hb : Nat.beq r.1 22 with
    | true =>
      rw [hb] at hs
      cases hs
      rw [Nat.beq_eq] at hb
      have hr : r ∈ al := okR_in iv (by omega) (by omega)
      obtain ⟨q0, hq, hqa⟩ := pm_w_get (K := K) (ρ := ρ) (h := h) hr
      rw [pm_e_i (Or.inr (Or.inl hb)), hb] at hq
      rw [pm_r_of oH.1 hr]
      refine va_bast X.1 X.2.1 (GK X) iH.1 iH.2 iS q0 2 hq rfl hin hd (fun H1 locs1 hP hD hS1 => ?_)
      rw [vp_nar_byte, put 22 _ (Or.inl rfl) hb r hr rfl q0 hqa] at hP hD
      exact k ρ al H1 locs1 cells slots ls ⟨hP, hD⟩ hS1 (okH_setI oH hr) ix iN iM iL iV
    | false =>
      rw [hb] at hs
      obtain ⟨hb, hs⟩ := bif_t (show (bif Nat.beq r.1 26 then _ else none) = some _ from hs)
      cases hs
      rw [Nat.beq_eq] at hb
      have hr : r ∈ al := okR_in iv (by omega) (by omega)
      obtain ⟨q0, hq, hqa⟩ := pm_w_get (K := K) (ρ := ρ) (h := h) hr
      rw [pm_e_i (Or.inr (Or.inr hb)), hb] at hq
      rw [pm_r_of oH.1 hr]
      refine va_zast X.1 X.2.1 (GK X) iH.1 iH.2 iS q0 6 hq rfl hin hd (fun H1 locs1 hP hD hS1 => ?_)
      rw [nar_z, put 26 _ (Or.inr rfl) hb r hr rfl q0 hqa] at hP hD
      exact k ρ al H1 locs1 cells slots ls ⟨hP, hD⟩ hS1 (okH_setI oH hr) ix iN iM iL iV
  · cases hs
theorem sim_last (X : pm_X p s m args c K A mm) (hd : decode (mb mm) pc = .ok (.lastore, 1)) (hs : sLast pc lsv st h = some (.inl c')) (k : PW p l e R s m args below meth c Q K A ρ0 al0 n0 s0 mm c') : PW p l e R s m args below meth c Q K A ρ0 al0 n0 s0 mm (pc, lsv, st, h) := by
  unfold sLast at hs
  split at hs
  · rename_i x j r t
    obtain ⟨hin, hs⟩ := not_or_in hs
    obtain ⟨hb, hs⟩ := bif_t hs
    cases hs
    rw [Nat.beq_eq] at hb
    intro ρ al H locs cells slots ls iH iS oH ix iN iM iL iV
    obtain ⟨-, iV⟩ := List.forall_mem_cons.mp iV
    obtain ⟨-, iV⟩ := List.forall_mem_cons.mp iV
    obtain ⟨iv, iV⟩ := List.forall_mem_cons.mp iV
    show W p l e R s m args below meth c H locs cells slots Q (F0 m pc ls (.long x :: .int j :: pm_r K ρ r :: t.map (pm_v K ρ)))
    have hr : r ∈ al := okR_in iv (by omega) (by omega)
    obtain ⟨q0, hq, hqa⟩ := pm_w_get (K := K) (ρ := ρ) (h := h) hr
    rw [pm_e_l hb] at hq
    rw [pm_r_of oH.1 hr]
    refine va_last X.1 X.2.1 (GK X) iH.1 iH.2 iS q0 1 hq rfl hin hd (fun H1 locs1 hP hD hS1 => ?_)
    have es : (pm_w K ρ h al).set q0 (ρ r.2.2, .inl (kA K 21, (r.2.1, .inr (.inl (vp_updL (h.2.1 r.2.2) j.toNatClampNeg x))))) = pm_w K ρ (setL h r.2.2 j.toNatClampNeg x) al := by
      refine pm_w_set oH.1 hqa ?_ (fun r2 _ hne => pm_e_eq rfl (up2_ne hne) rfl)
      rw [pm_e_l hb]
      show _ = Sum.inl (kA K 21, r.2.1, Sum.inr (Sum.inl (up2 h.2.1 r.2.2 j.toNatClampNeg x r.2.2)))
      rw [up2_eq]
      rfl
    rw [es] at hP hD
    exact k ρ al H1 locs1 cells slots ls ⟨hP, hD⟩ hS1 (okH_setL oH hr) ix iN iM iL iV
  · cases hs
theorem va_aldr {D : va_G} {cl : List vw_C} {tys : List (ClassId × FieldType)} {ws : va_W} {H : Heap} {locs : List Loc} {cells slots a : Nat} {ls : Array Slot} {rest : List Value} {cc : ByteArray} (hexec : p.tables.exec = Jvm.exec) (hb : c.code = cc) (hK : va_K D cl tys s) (hP : va_P D cl ws H) (q0 t0 : Nat) {cA : ClassId} {ty : FieldType} (href : ty.isReference = true) {n : Nat} {f : Nat → Option Nat} (ha : ws[q0]? = some (a, .inl (cA, n, .inr (.inr (.inr (.inr f)))))) (ht : tys[t0]? = some (cA, ty)) {i : Int32} (hin : vp_in i n) (hdg : decode cc pc = .ok (.aaload, 1))
    (kk : W p l e R s m args below meth c H locs cells slots Q (F0 m (pc + 1) ls (va_rf (f i.toNatClampNeg) :: rest))) : W p l e R s m args below meth c H locs cells slots Q (F0 m pc ls (.int i :: .ref a :: rest)) := by
  have hlt : i.toNatClampNeg < n := Nat.not_le.mp fun q => hin (Or.inr q)
  exact W.aald (v := va_rf (f i.toNatClampNeg)) (ty := ty) hexec hb (hP q0 _ ha) ((hK.2 t0 _ ht).1 n (fun j => va_rf (f j))) href (fun q => by cases q) (by show ¬ (i < 0 ∨ (arrV _ _ _).slots.size ≤ _); rw [arrV_size]; exact hin) (by show (arrV _ _ _).slots[_]? = _; rw [arrV_read _ _ hlt]) rfl rfl hdg kk
theorem fid_lt : ∀ i j, i < 2 → j < 4 → fid i j < 70 := by
  intro i j hi hj
  have := List.all_eq_true.mp (List.all_eq_true.mp (show ((List.range 2).all fun i => (List.range 4).all fun j => decide (fid i j < 70)) = true by decide +kernel) i (List.mem_range.mpr hi)) j (List.mem_range.mpr hj)
  exact of_decide_eq_true this
theorem sim_aald (X : pm_X p s m args c K A mm) (hd : decode (mb mm) pc = .ok (.aaload, 1)) (hs : sAald pc lsv st h = some (.inl c')) (k : PW p l e R s m args below meth c Q K A ρ0 al0 n0 s0 mm c') : PW p l e R s m args below meth c Q K A ρ0 al0 n0 s0 mm (pc, lsv, st, h) := by
  unfold sAald at hs
  split at hs
  · rename_i j r t
    obtain ⟨hin, hs⟩ := not_or_in hs
    intro ρ al H locs cells slots ls iH iS oH ix iN iM iL iV
    obtain ⟨-, iV⟩ := List.forall_mem_cons.mp iV
    obtain ⟨iv, iV⟩ := List.forall_mem_cons.mp iV
    show W p l e R s m args below meth c H locs cells slots Q (F0 m pc ls (.int j :: pm_r K ρ r :: t.map (pm_v K ρ)))
    cases hb : (Nat.ble 23 r.1 && Nat.ble r.1 29 && !Nat.beq r.1 26) with
    | true =>
      rw [hb] at hs
      cases hs
      simp only [Bool.and_eq_true, Nat.ble_eq, Bool.not_eq_true'] at hb
      obtain ⟨⟨hb1, hb2⟩, hb3⟩ := hb
      have h26 : r.1 ≠ 26 := fun z => by rw [z] at hb3; cases hb3
      have hr : r ∈ al := okR_in iv (by omega) (by omega)
      have k9 := k ρ al H locs cells slots ls iH iS oH ix iN iM iL (List.forall_mem_cons.mpr ⟨(oH.2.1 r hr _).1, iV⟩)
      obtain ⟨q0, hq, -⟩ := pm_w_get (K := K) (ρ := ρ) (h := h) hr
      rw [pm_e_r hb1 h26] at hq
      rw [pm_r_of oH.1 hr]
      have k8 : W p l e R s m args below meth c H locs cells slots Q (F0 m (pc + 1) ls (va_rf (pm_o K ρ (h.2.2.1 r.2.2 j.toNatClampNeg)) :: t.map (pm_v K ρ))) := by
        rw [rf_o (oH.2.1 r hr _).2]
        exact k9
      rcases (show r.1 = 23 ∨ r.1 = 24 ∨ r.1 = 25 ∨ r.1 = 27 ∨ r.1 = 28 ∨ r.1 = 29 by omega) with z | z | z | z | z | z <;> rw [z] at hq
      · exact va_aldr X.1 X.2.1 (GK X) iH.1 q0 3 rfl hq rfl hin hd k8
      · exact va_aldr X.1 X.2.1 (GK X) iH.1 q0 4 rfl hq rfl hin hd k8
      · exact va_aldr X.1 X.2.1 (GK X) iH.1 q0 5 rfl hq rfl hin hd k8
      · exact va_aldr X.1 X.2.1 (GK X) iH.1 q0 7 rfl hq rfl hin hd k8
      · exact va_aldr X.1 X.2.1 (GK X) iH.1 q0 8 rfl hq rfl hin hd k8
      · exact va_aldr X.1 X.2.1 (GK X) iH.1 q0 9 rfl hq rfl hin hd k8
    | false =>
      rw [hb] at hs
      cases hb2 : Nat.beq r.1 41 with
      | true =>
        replace hs : (bif Nat.beq r.1 41 then _ else _) = some _ := hs
        rw [hb2] at hs
        cases hs
        have hb3 : r.1 = 41 := Nat.eq_of_beq_eq_true hb2
        have h41 : r.2.1 = 38 := by
          rcases iv with q | q | q | q | q | q | q | q | q | q
          all_goals first | exact q.2 | (exfalso; omega) | skip
          have := (oH.1.1 r q).1
          omega
        rw [h41] at hin
        have hj : j.toNatClampNeg < 38 := Nat.not_le.mp fun q => hin (Or.inr q)
        have k9 := k ρ al H locs cells slots ls iH iS oH ix iN iM iL (List.forall_mem_cons.mpr ⟨Or.inr (Or.inl ⟨rfl, hj⟩), iV⟩)
        have hT := X.2.2.2.2.2.1.2.2.2.2.2.1
        rw [pm_r_some (by omega) (by omega)]
        have ha : pm_ad K ρ r = kk K := by
          unfold pm_ad
          rw [if_neg (by omega), if_pos hb3]
        rw [ha]
        exact vb_tq X.1 X.2.1 hT iS hin rfl hd k9
      | false =>
        replace hs : (bif Nat.beq r.1 41 then _ else _) = some _ := hs
        rw [hb2] at hs
        obtain ⟨hb4, hs⟩ := bif_t (show (bif Nat.beq r.1 47 then _ else none) = some _ from hs)
        cases hs
        have hb3 : r.1 = 47 := Nat.eq_of_beq_eq_true hb4
        have h47 : r.2.1 = 4 ∧ r.2.2 < 2 := by
          rcases iv with q | q | q | q | q | q | q | q | q | q
          all_goals first | (exfalso; omega) | skip
          · rcases q with q | q | q
            · omega
            · exact q.2
            · omega
          · have := (oH.1.1 r q).1
            omega
        have hT := (X.2.2.2.2.2.1.2.2.2.2.2.2.2.2.1 _ h47.2).1.2
        rw [h47.1] at hin
        have hj : j.toNatClampNeg < 4 := Nat.not_le.mp fun q => hin (Or.inr q)
        have k9 := k ρ al H locs cells slots ls iH iS oH ix iN iM iL (List.forall_mem_cons.mpr ⟨Or.inr (Or.inr (Or.inr (Or.inr (Or.inl ⟨rfl, fid_lt _ _ h47.2 hj⟩)))), iV⟩)
        have ha : pm_r K ρ r = .ref (kf K r.2.2) := by
          unfold pm_r pm_ad
          rw [if_neg (by omega), if_neg (by omega), if_neg (by omega), if_neg (by omega), if_neg (by omega), if_neg (by omega), if_neg (by omega), if_neg (by omega), if_pos hb3]
        rw [ha]
        exact vb_tq X.1 X.2.1 hT iS hin rfl hd k9
  · cases hs
end SIMH
