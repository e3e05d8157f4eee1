/-! Any plain step. -/
section SIMT
variable {p : Program} {l : Launch} {e : Env} {R : Room} {s : State} {m : MethodId} {args : Array Value} {below : List Frame} {meth : Method} {c : Code} {Q : State → Prop}
variable {K : KT} {A : Nat → Prop} {ρ0 : Nat → Nat} {al0 : List VR} {n0 s0 mm : Nat} {pc : Nat} {lsv : LV} {st : List VV} {h : PH} {c' : Cf}
theorem sim_step (X : pm_X p s m args c K A mm) (hko : ko K = .null ∨ ∃ a, ko K = .ref a) (hin : mini mm = true → meth.name = "<init>") (hR : 2 ≤ R.frames ∧ 100 ≤ R.locals) (hs : step mm (pc, lsv, st, h) = some (.inl c')) (hrm : hN c'.2.2.2 ≤ n0 + R.cells ∧ hS c'.2.2.2 ≤ s0 + R.slots) (k : PW p l e R s m args below meth c Q K A ρ0 al0 n0 s0 mm c') : PW p l e R s m args below meth c Q K A ρ0 al0 n0 s0 mm (pc, lsv, st, h) := by
  unfold step at hs
  dsimp only at hs
  cases hf : fetch mm pc with
  | none => rw [hf] at hs; cases hs
  | some i =>
  obtain ⟨kk, hd, hl⟩ := fetch_ok hf
  rw [hf] at hs
  have hoc := pm_ko_cat hko
  cases i
  case iload_n kq =>
    obtain rfl := il (n := 1) hl (by decide)
    refine sim_ld hs (fun {ρ H locs cells slots ls v} hv hl2 w => ?_) k
    match v, hv, hl2, w with
    | .inl x, hv, hl2, w => exact lv_iload_n X.1 X.2.1 hd rfl hl2 w
    | .inr (.inl x), hv, hl2, w => simp [vkd] at hv
    | .inr (.inr (.inl x)), hv, hl2, w => simp [vkd] at hv
    | .inr (.inr (.inr x)), hv, hl2, w => simp [vkd] at hv
  case iload kq =>
    obtain rfl := il (n := 2) hl (by decide)
    refine sim_ld hs (fun {ρ H locs cells slots ls v} hv hl2 w => ?_) k
    match v, hv, hl2, w with
    | .inl x, hv, hl2, w => exact lv_iload X.1 X.2.1 hd  hl2 w
    | .inr (.inl x), hv, hl2, w => simp [vkd] at hv
    | .inr (.inr (.inl x)), hv, hl2, w => simp [vkd] at hv
    | .inr (.inr (.inr x)), hv, hl2, w => simp [vkd] at hv
  case lload_n kq =>
    obtain rfl := il (n := 1) hl (by decide)
    refine sim_ld hs (fun {ρ H locs cells slots ls v} hv hl2 w => ?_) k
    match v, hv, hl2, w with
    | .inl x, hv, hl2, w => simp [vkd] at hv
    | .inr (.inl x), hv, hl2, w => exact lv_lload_n X.1 X.2.1 hd rfl hl2 w
    | .inr (.inr (.inl x)), hv, hl2, w => simp [vkd] at hv
    | .inr (.inr (.inr x)), hv, hl2, w => simp [vkd] at hv
  case lload kq =>
    obtain rfl := il (n := 2) hl (by decide)
    refine sim_ld hs (fun {ρ H locs cells slots ls v} hv hl2 w => ?_) k
    match v, hv, hl2, w with
    | .inl x, hv, hl2, w => simp [vkd] at hv
    | .inr (.inl x), hv, hl2, w => exact lv_lload X.1 X.2.1 hd  hl2 w
    | .inr (.inr (.inl x)), hv, hl2, w => simp [vkd] at hv
    | .inr (.inr (.inr x)), hv, hl2, w => simp [vkd] at hv
  case dload kq =>
    obtain rfl := il (n := 2) hl (by decide)
    refine sim_ld hs (fun {ρ H locs cells slots ls v} hv hl2 w => ?_) k
    match v, hv, hl2, w with
    | .inl x, hv, hl2, w => simp [vkd] at hv
    | .inr (.inl x), hv, hl2, w => simp [vkd] at hv
    | .inr (.inr (.inl x)), hv, hl2, w => exact lv_dload X.1 X.2.1 hd  hl2 w
    | .inr (.inr (.inr x)), hv, hl2, w => simp [vkd] at hv
  case aload_n kq =>
    obtain rfl := il (n := 1) hl (by decide)
    refine sim_ld hs (fun {ρ H locs cells slots ls v} hv hl2 w => ?_) k
    match v, hv, hl2, w with
    | .inl x, hv, hl2, w => simp [vkd] at hv
    | .inr (.inl x), hv, hl2, w => simp [vkd] at hv
    | .inr (.inr (.inl x)), hv, hl2, w => simp [vkd] at hv
    | .inr (.inr (.inr x)), hv, hl2, w =>
      have e0 : pm_v K ρ (.inr (.inr (.inr x))) = pm_r K ρ x := rfl
      rw [e0] at hl2 w
      rcases pm_r_cases K ρ hko x with z | ⟨a, z⟩ <;> rw [z] at hl2 w
      · exact lv_aload_nN X.1 X.2.1 hd rfl hl2 w
      · exact lv_aload_n X.1 X.2.1 hd rfl hl2 w
  case aload kq =>
    obtain rfl := il (n := 2) hl (by decide)
    refine sim_ld hs (fun {ρ H locs cells slots ls v} hv hl2 w => ?_) k
    match v, hv, hl2, w with
    | .inl x, hv, hl2, w => simp [vkd] at hv
    | .inr (.inl x), hv, hl2, w => simp [vkd] at hv
    | .inr (.inr (.inl x)), hv, hl2, w => simp [vkd] at hv
    | .inr (.inr (.inr x)), hv, hl2, w =>
      have e0 : pm_v K ρ (.inr (.inr (.inr x))) = pm_r K ρ x := rfl
      rw [e0] at hl2 w
      rcases pm_r_cases K ρ hko x with z | ⟨a, z⟩ <;> rw [z] at hl2 w
      · exact lv_aloadN X.1 X.2.1 hd  hl2 w
      · exact lv_aload X.1 X.2.1 hd  hl2 w
  case istore_n kq =>
    obtain rfl := il (n := 1) hl (by decide)
    refine sim_sto hoc hs (fun {ρ H locs cells slots ls v r lv} hv hn hl2 w => ?_) k
    match v, hv, hn, w with
    | .inl x, hv, hn, w => exact lv_istore_n X.1 X.2.1 hd rfl hl2 (by simp only [vcat] at hn; omega) rfl w
    | .inr (.inl x), hv, hn, w => simp [vkd] at hv
    | .inr (.inr (.inl x)), hv, hn, w => simp [vkd] at hv
    | .inr (.inr (.inr x)), hv, hn, w => simp [vkd] at hv
  case istore kq =>
    obtain rfl := il (n := 2) hl (by decide)
    refine sim_sto hoc hs (fun {ρ H locs cells slots ls v r lv} hv hn hl2 w => ?_) k
    match v, hv, hn, w with
    | .inl x, hv, hn, w => exact lv_istore X.1 X.2.1 hd  hl2 (by simp only [vcat] at hn; omega) rfl w
    | .inr (.inl x), hv, hn, w => simp [vkd] at hv
    | .inr (.inr (.inl x)), hv, hn, w => simp [vkd] at hv
    | .inr (.inr (.inr x)), hv, hn, w => simp [vkd] at hv
  case lstore_n kq =>
    obtain rfl := il (n := 1) hl (by decide)
    refine sim_sto hoc hs (fun {ρ H locs cells slots ls v r lv} hv hn hl2 w => ?_) k
    match v, hv, hn, w with
    | .inl x, hv, hn, w => simp [vkd] at hv
    | .inr (.inl x), hv, hn, w => exact lv_lstore_n X.1 X.2.1 hd rfl hl2 (by simp only [vcat] at hn; omega) rfl w
    | .inr (.inr (.inl x)), hv, hn, w => simp [vkd] at hv
    | .inr (.inr (.inr x)), hv, hn, w => simp [vkd] at hv
  case lstore kq =>
    obtain rfl := il (n := 2) hl (by decide)
    refine sim_sto hoc hs (fun {ρ H locs cells slots ls v r lv} hv hn hl2 w => ?_) k
    match v, hv, hn, w with
    | .inl x, hv, hn, w => simp [vkd] at hv
    | .inr (.inl x), hv, hn, w => exact lv_lstore X.1 X.2.1 hd  hl2 (by simp only [vcat] at hn; omega) rfl w
    | .inr (.inr (.inl x)), hv, hn, w => simp [vkd] at hv
    | .inr (.inr (.inr x)), hv, hn, w => simp [vkd] at hv
  case dstore kq =>
    obtain rfl := il (n := 2) hl (by decide)
    refine sim_sto hoc hs (fun {ρ H locs cells slots ls v r lv} hv hn hl2 w => ?_) k
    match v, hv, hn, w with
    | .inl x, hv, hn, w => simp [vkd] at hv
    | .inr (.inl x), hv, hn, w => simp [vkd] at hv
    | .inr (.inr (.inl x)), hv, hn, w => exact lv_dstore X.1 X.2.1 hd  hl2 (by simp only [vcat] at hn; omega) rfl w
    | .inr (.inr (.inr x)), hv, hn, w => simp [vkd] at hv
  case astore_n kq =>
    obtain rfl := il (n := 1) hl (by decide)
    refine sim_sto hoc hs (fun {ρ H locs cells slots ls v r lv} hv hn hl2 w => ?_) k
    match v, hv, hn, w with
    | .inl x, hv, hn, w => simp [vkd] at hv
    | .inr (.inl x), hv, hn, w => simp [vkd] at hv
    | .inr (.inr (.inl x)), hv, hn, w => simp [vkd] at hv
    | .inr (.inr (.inr x)), hv, hn, w =>
      have e0 : pm_v K ρ (.inr (.inr (.inr x))) = pm_r K ρ x := rfl
      rw [e0] at w ⊢
      rcases pm_r_cases K ρ hko x with z | ⟨a, z⟩ <;> rw [z] at w ⊢
      · exact lv_astore_nN X.1 X.2.1 hd rfl hl2 (by simp only [vcat] at hn; omega) rfl w
      · exact lv_astore_n X.1 X.2.1 hd rfl hl2 (by simp only [vcat] at hn; omega) rfl w
  case astore kq =>
    obtain rfl := il (n := 2) hl (by decide)
    refine sim_sto hoc hs (fun {ρ H locs cells slots ls v r lv} hv hn hl2 w => ?_) k
    match v, hv, hn, w with
    | .inl x, hv, hn, w => simp [vkd] at hv
    | .inr (.inl x), hv, hn, w => simp [vkd] at hv
    | .inr (.inr (.inl x)), hv, hn, w => simp [vkd] at hv
    | .inr (.inr (.inr x)), hv, hn, w =>
      have e0 : pm_v K ρ (.inr (.inr (.inr x))) = pm_r K ρ x := rfl
      rw [e0] at w ⊢
      rcases pm_r_cases K ρ hko x with z | ⟨a, z⟩ <;> rw [z] at w ⊢
      · exact lv_astoreN X.1 X.2.1 hd  hl2 (by simp only [vcat] at hn; omega) rfl w
      · exact lv_astore X.1 X.2.1 hd  hl2 (by simp only [vcat] at hn; omega) rfl w
  case iconst nq =>
    obtain rfl := il (n := 1) hl (by decide)
    cases hs
    exact sim_push (fun w => lv_iconst X.1 X.2.1 hd rfl w) (by intro _ _; trivial) k
  case bipush nq =>
    obtain rfl := il (n := 2) hl (by decide)
    cases hs
    exact sim_push (fun w => lv_bipush X.1 X.2.1 hd rfl w) (by intro _ _; trivial) k
  case sipush nq =>
    obtain rfl := il (n := 3) hl (by decide)
    cases hs
    exact sim_push (fun w => lv_sipush X.1 X.2.1 hd rfl w) (by intro _ _; trivial) k
  case lconst nq =>
    obtain rfl := il (n := 1) hl (by decide)
    cases hs
    exact sim_push (fun w => lv_lconst X.1 X.2.1 hd rfl w) (by intro _ _; trivial) k
  case dconst nq =>
    obtain rfl := il (n := 1) hl (by decide)
    obtain ⟨hb, hs⟩ := bif_t hs
    cases hs
    rw [Nat.beq_eq] at hb
    have e0 : nq = 0 := Fin.ext hb
    subst e0
    exact sim_push (fun w => lv_dconst0 X.1 X.2.1 hd w) (by intro _ _; trivial) k
  case iadd =>
    obtain rfl := il (n := 1) hl (by decide)
    exact sim_I2 hs (fun w => lv_iadd X.1 X.2.1 hd w) k
  case isub =>
    obtain rfl := il (n := 1) hl (by decide)
    exact sim_I2 hs (fun w => lv_isub X.1 X.2.1 hd w) k
  case imul =>
    obtain rfl := il (n := 1) hl (by decide)
    exact sim_I2 hs (fun w => lv_imul X.1 X.2.1 hd w) k
  case iand =>
    obtain rfl := il (n := 1) hl (by decide)
    exact sim_I2 hs (fun w => lv_iand X.1 X.2.1 hd w) k
  case ior =>
    obtain rfl := il (n := 1) hl (by decide)
    exact sim_I2 hs (fun w => lv_ior X.1 X.2.1 hd w) k
  case ishl =>
    obtain rfl := il (n := 1) hl (by decide)
    exact sim_I2 hs (fun w => lv_ishl X.1 X.2.1 hd w) k
  case ishr =>
    obtain rfl := il (n := 1) hl (by decide)
    exact sim_I2 hs (fun w => lv_ishr X.1 X.2.1 hd w) k
  case iushr =>
    obtain rfl := il (n := 1) hl (by decide)
    exact sim_I2 hs (fun w => lv_iushr X.1 X.2.1 hd rfl w) k
  case ladd =>
    obtain rfl := il (n := 1) hl (by decide)
    exact sim_L2 hs (fun w => lv_ladd X.1 X.2.1 hd w) k
  case lsub =>
    obtain rfl := il (n := 1) hl (by decide)
    exact sim_L2 hs (fun w => lv_lsub X.1 X.2.1 hd w) k
  case lmul =>
    obtain rfl := il (n := 1) hl (by decide)
    exact sim_L2 hs (fun w => lv_lmul X.1 X.2.1 hd w) k
  case lor =>
    obtain rfl := il (n := 1) hl (by decide)
    exact sim_L2 hs (fun w => lv_lor X.1 X.2.1 hd w) k
  case idiv =>
    obtain rfl := il (n := 1) hl (by decide)
    dsimp only at hs
    split at hs
    · rename_i y x r
      by_cases hy : y = 0
      · rw [if_pos hy] at hs; cases hs
      · rw [if_neg hy] at hs; cases hs
        exact sim_g (fun w => lv_idiv X.1 X.2.1 hd hy w) (fun al n hv => by simp only [List.forall_mem_cons] at hv ⊢; exact ⟨trivial, hv.2.2⟩) k
    · cases hs
  case irem =>
    obtain rfl := il (n := 1) hl (by decide)
    dsimp only at hs
    split at hs
    · rename_i y x r
      by_cases hy : y = 0
      · rw [if_pos hy] at hs; cases hs
      · rw [if_neg hy] at hs; cases hs
        exact sim_g (fun w => lv_irem X.1 X.2.1 hd hy w) (fun al n hv => by simp only [List.forall_mem_cons] at hv ⊢; exact ⟨trivial, hv.2.2⟩) k
    · cases hs
  case ineg =>
    obtain rfl := il (n := 1) hl (by decide)
    dsimp only at hs
    split at hs
    · cases hs
      exact sim_g (fun w => lv_ineg X.1 X.2.1 hd w) (fun al n hv => by simp only [List.forall_mem_cons] at hv ⊢; exact ⟨trivial, hv.2⟩) k
    · cases hs
  case lshl =>
    obtain rfl := il (n := 1) hl (by decide)
    dsimp only at hs
    split at hs
    · cases hs
      exact sim_g (fun w => lv_lshl X.1 X.2.1 hd rfl w) (fun al n hv => by simp only [List.forall_mem_cons] at hv ⊢; exact ⟨trivial, hv.2.2⟩) k
    · cases hs
  case lcmp =>
    obtain rfl := il (n := 1) hl (by decide)
    dsimp only at hs
    split at hs
    · cases hs
      exact sim_g (fun w => W.lcmp X.1 X.2.1 hd w) (fun al n hv => by simp only [List.forall_mem_cons] at hv ⊢; exact ⟨trivial, hv.2.2⟩) k
    · cases hs
  case i2l =>
    obtain rfl := il (n := 1) hl (by decide)
    dsimp only at hs
    split at hs
    · cases hs
      exact sim_g (fun w => lv_i2l X.1 X.2.1 hd rfl w) (fun al n hv => by simp only [List.forall_mem_cons] at hv ⊢; exact ⟨trivial, hv.2⟩) k
    · cases hs
  case l2i =>
    obtain rfl := il (n := 1) hl (by decide)
    dsimp only at hs
    split at hs
    · cases hs
      exact sim_g (fun w => lv_l2i X.1 X.2.1 hd rfl w) (fun al n hv => by simp only [List.forall_mem_cons] at hv ⊢; exact ⟨trivial, hv.2⟩) k
    · cases hs
  case i2b =>
    obtain rfl := il (n := 1) hl (by decide)
    dsimp only at hs
    split at hs
    · cases hs
      exact sim_g (fun w => lv_i2b X.1 X.2.1 hd rfl w) (fun al n hv => by simp only [List.forall_mem_cons] at hv ⊢; exact ⟨trivial, hv.2⟩) k
    · cases hs
  case i2c =>
    obtain rfl := il (n := 1) hl (by decide)
    dsimp only at hs
    split at hs
    · cases hs
      exact sim_g (fun w => lv_i2c X.1 X.2.1 hd rfl w) (fun al n hv => by simp only [List.forall_mem_cons] at hv ⊢; exact ⟨trivial, hv.2⟩) k
    · cases hs
  case i2d =>
    obtain rfl := il (n := 1) hl (by decide)
    dsimp only at hs
    split at hs
    · cases hs
      exact sim_g (fun w => lv_i2d X.1 X.2.1 hd w) (fun al n hv => by simp only [List.forall_mem_cons] at hv ⊢; exact ⟨trivial, hv.2⟩) k
    · cases hs
  case ddiv =>
    obtain rfl := il (n := 1) hl (by decide)
    dsimp only at hs
    split at hs
    · rename_i y x r
      by_cases hy : FP.ddiv x y &&& 0x7fffffffffffffff ≤ 0x7ff0000000000000
      · rw [if_pos hy] at hs; cases hs
        exact sim_g (fun w => lv_ddiv X.1 X.2.1 hd hy w) (fun al n hv => by simp only [List.forall_mem_cons] at hv ⊢; exact ⟨trivial, hv.2.2⟩) k
      · rw [if_neg hy] at hs; cases hs
    · cases hs
  case dcmp op =>
    obtain rfl := il (n := 1) hl (by decide)
    dsimp only at hs
    split at hs
    · cases hs
      exact sim_g (fun w => lv_dcmp X.1 X.2.1 hd w) (fun al n hv => by simp only [List.forall_mem_cons] at hv ⊢; exact ⟨trivial, hv.2.2⟩) k
    · cases hs
  case dup =>
    obtain rfl := il (n := 1) hl (by decide)
    dsimp only at hs
    split at hs
    · obtain ⟨hb, hs⟩ := bif_t hs
      cases hs
      rw [Nat.beq_eq] at hb
      exact sim_g (fun {ρ H locs cells slots ls} w => lv_dup X.1 X.2.1 hd (by rw [pm_cat K ρ hoc]; exact hb) w) (fun al n hv => by simp only [List.forall_mem_cons] at hv ⊢; exact ⟨hv.1, hv.1, hv.2⟩) k
    · cases hs
  case dup2 =>
    obtain rfl := il (n := 1) hl (by decide)
    dsimp only at hs
    split at hs
    · obtain ⟨hb, hs⟩ := bif_t hs
      cases hs
      rw [Bool.and_eq_true, Nat.beq_eq, Nat.beq_eq] at hb
      exact sim_g (fun {ρ H locs cells slots ls} w => lv_dup2_11 X.1 X.2.1 hd (by rw [pm_cat K ρ hoc]; exact hb.1) (by rw [pm_cat K ρ hoc]; exact hb.2) w) (fun al n hv => by simp only [List.forall_mem_cons] at hv ⊢; exact ⟨hv.1, hv.2.1, hv.1, hv.2.1, hv.2.2⟩) k
    · cases hs
  case dup_x1 =>
    obtain rfl := il (n := 1) hl (by decide)
    dsimp only at hs
    split at hs
    · obtain ⟨hb, hs⟩ := bif_t hs
      cases hs
      rw [Bool.and_eq_true, Nat.beq_eq, Nat.beq_eq] at hb
      exact sim_g (fun {ρ H locs cells slots ls} w => lv_dup_x1 X.1 X.2.1 hd (by rw [pm_cat K ρ hoc]; exact hb.1) (by rw [pm_cat K ρ hoc]; exact hb.2) w) (fun al n hv => by simp only [List.forall_mem_cons] at hv ⊢; exact ⟨hv.1, hv.2.1, hv.1, hv.2.2⟩) k
    · cases hs
  case pop =>
    obtain rfl := il (n := 1) hl (by decide)
    dsimp only at hs
    split at hs
    · obtain ⟨hb, hs⟩ := bif_t hs
      cases hs
      rw [Nat.beq_eq] at hb
      exact sim_g (fun {ρ H locs cells slots ls} w => lv_pop X.1 X.2.1 hd (by rw [pm_cat K ρ hoc]; exact hb) w) (fun al n hv => by simp only [List.forall_mem_cons] at hv ⊢; exact hv.2) k
    · cases hs
  case iinc kq nq =>
    obtain rfl := il (n := 3) hl (by decide)
    dsimp only at hs
    split at hs
    · rename_i x hg
      cases hs
      intro ρ al H locs cells slots ls iH iS oH ix iN iM iL iV
      have hm := lvl_mem (K := K) (ρ := ρ) hg
      obtain ⟨jj, hj⟩ := List.getElem?_of_mem hm
      have hlt : kq < mxl mm := by
        rcases Nat.lt_or_ge kq lsv.length with z | z
        · rw [iL.2.2.1] at z; exact z
        · rw [List.getD_eq_getElem?_getD, List.getElem?_eq_none z] at hg; cases hg
      refine lv_iinc (k := jj) X.1 X.2.1 hd (lvl_has iL) hj rfl hlt rfl (fun ls' hl' => ?_)
      exact k ρ al H locs cells slots ls' iH iS oH ix iN iM (lput_rel (v := .inl (x + Int32.ofInt nq)) hoc iL trivial hl') iV
    · cases hs
  case ifCond cd off =>
    obtain rfl := il (n := 3) hl (by decide)
    exact sim_sIf0 X hd hs k
  case if_icmp cd off =>
    obtain rfl := il (n := 3) hl (by decide)
    exact sim_sIf2 X hd hs k
  case if_acmp cd off =>
    obtain rfl := il (n := 3) hl (by decide)
    exact sim_Ac X hd hs k
  case ifnull off =>
    obtain rfl := il (n := 3) hl (by decide)
    exact sim_Nul X hd hs hko k
  case ifnonnull off =>
    obtain rfl := il (n := 3) hl (by decide)
    exact sim_Nnl X hd hs hko k
  case checkcast kq =>
    obtain rfl := il (n := 3) hl (by decide)
    exact sim_cast X hd hs k
  case aconst_null =>
    obtain rfl := il (n := 1) hl (by decide)
    dsimp only at hs
    cases hs
    exact sim_push (v := .inr (.inr (.inr (0, 0, 0)))) (fun w => lv_null X.1 X.2.1 hd w) (fun _ _ => Or.inl rfl) k
  case goto off =>
    obtain rfl := il (n := 3) hl (by decide)
    obtain ⟨hb, hs⟩ := bif_t hs
    cases hs
    exact sim_g (fun w => lv_goto X.1 X.2.1 hd (of_decide_eq_true hb) w) (fun _ _ hv => hv) k
  case tableswitch df lo hi offs =>
    dsimp only at hs
    split at hs
    · rename_i x r
      by_cases hx : x.toInt < lo ∨ hi < x.toInt
      · rw [if_pos hx] at hs
        obtain ⟨hb, hs⟩ := bif_t hs
        cases hs
        exact sim_g (fun w => lv_tableOut X.1 X.2.1 hd hx (of_decide_eq_true hb) w) (fun al n hv => by simp only [List.forall_mem_cons] at hv; exact hv.2) k
      · rw [if_neg hx] at hs
        split at hs
        · rename_i off ho
          obtain ⟨hb, hs⟩ := bif_t hs
          cases hs
          exact sim_g (fun w => lv_tableIn X.1 X.2.1 hd (fun z => hx (Or.inl z)) (fun z => hx (Or.inr z)) ho (of_decide_eq_true hb) w) (fun al n hv => by simp only [List.forall_mem_cons] at hv; exact hv.2) k
        · cases hs
    · cases hs
  case ldc kq =>
    obtain rfl := il (n := 2) hl (by decide)
    dsimp only at hs
    split at hs
    · rename_i v hv
      cases hs
      exact sim_lc X (Or.inl ⟨hd, rfl⟩) hv (fun z => absurd z (by decide)) k
    · cases hs
  case ldc_w kq =>
    obtain rfl := il (n := 3) hl (by decide)
    dsimp only at hs
    split at hs
    · rename_i x hv
      cases hs
      exact sim_lc (v := .inl x) X (Or.inr ⟨hd, rfl⟩) hv (fun _ => rfl) k
    · cases hs
  case ldc2_w kq =>
    obtain rfl := il (n := 3) hl (by decide)
    dsimp only at hs
    split at hs
    · rename_i v hv
      cases hs
      exact sim_l2 X hd hv k
    · cases hs
  case getstatic kq =>
    obtain rfl := il (n := 3) hl (by decide)
    dsimp only at hs
    split at hs
    · rename_i v hv
      cases hs
      exact sim_gs X hd hv k
    · cases hs
  case getfield kq =>
    obtain rfl := il (n := 3) hl (by decide)
    exact sim_gf X hd hs k
  case putfield kq =>
    obtain rfl := il (n := 3) hl (by decide)
    exact sim_pf X hko hin hd hs k
  case arraylength =>
    obtain rfl := il (n := 1) hl (by decide)
    exact sim_len X hd hs k
  case iaload =>
    obtain rfl := il (n := 1) hl (by decide)
    exact sim_iald X hd hs k
  case baload =>
    obtain rfl := il (n := 1) hl (by decide)
    exact sim_bald X hd hs k
  case laload =>
    obtain rfl := il (n := 1) hl (by decide)
    exact sim_lald X hd hs k
  case aaload =>
    obtain rfl := il (n := 1) hl (by decide)
    exact sim_aald X hd hs k
  case iastore =>
    obtain rfl := il (n := 1) hl (by decide)
    exact sim_iast X hd hs k
  case bastore =>
    obtain rfl := il (n := 1) hl (by decide)
    exact sim_bast X hd hs k
  case lastore =>
    obtain rfl := il (n := 1) hl (by decide)
    exact sim_last X hd hs k
  case aastore =>
    obtain rfl := il (n := 1) hl (by decide)
    exact sim_aast X hd hs k
  case newarray aq =>
    obtain rfl := il (n := 2) hl (by decide)
    dsimp only at hs
    split at hs
    · unfold sNewa at hs
      split at hs
      · rename_i x t
        by_cases hx : x < 0 ∨ 100000 < x.toNatClampNeg
        · rw [if_pos hx] at hs; cases hs
        · rw [if_neg hx] at hs; cases hs
          exact sim_newp X hd (Or.inl ⟨rfl, rfl⟩) hx hrm k
      · cases hs
    · unfold sNewa at hs
      split at hs
      · rename_i x t
        by_cases hx : x < 0 ∨ 100000 < x.toNatClampNeg
        · rw [if_pos hx] at hs; cases hs
        · rw [if_neg hx] at hs; cases hs
          exact sim_newp X hd (Or.inr (Or.inl ⟨rfl, rfl⟩)) hx hrm k
      · cases hs
    · unfold sNewa at hs
      split at hs
      · rename_i x t
        by_cases hx : x < 0 ∨ 100000 < x.toNatClampNeg
        · rw [if_pos hx] at hs; cases hs
        · rw [if_neg hx] at hs; cases hs
          exact sim_newp X hd (Or.inr (Or.inr (Or.inl ⟨rfl, rfl⟩))) hx hrm k
      · cases hs
    · unfold sNewa at hs
      split at hs
      · rename_i x t
        by_cases hx : x < 0 ∨ 100000 < x.toNatClampNeg
        · rw [if_pos hx] at hs; cases hs
        · rw [if_neg hx] at hs; cases hs
          exact sim_newp X hd (Or.inr (Or.inr (Or.inr ⟨rfl, rfl⟩))) hx hrm k
      · cases hs
    · cases hs
  case anewarray kq =>
    obtain rfl := il (n := 3) hl (by decide)
    dsimp only at hs
    split at hs
    · rename_i t ht
      unfold sNewa at hs
      split at hs
      · rename_i x t
        by_cases hx : x < 0 ∨ 100000 < x.toNatClampNeg
        · rw [if_pos hx] at hs; cases hs
        · rw [if_neg hx] at hs; cases hs
          exact sim_newr X hd ht hx hrm k
      · cases hs
    · cases hs
  case new kq =>
    obtain rfl := il (n := 3) hl (by decide)
    replace hs : sNew mm kq pc lsv st h = some (.inl c') := hs
    unfold sNew at hs
    cases hNR : NR (ky mm kq) with
    | some q =>
      obtain ⟨ty, n⟩ := q
      rw [hNR] at hs
      cases hs
      exact sim_newo X hd hNR hrm k
    | none =>
      rw [hNR] at hs
      dsimp only at hs
      simp only [Bool.cond_eq_ite] at hs
      repeat' (split at hs)
      all_goals (cases hs)
  case invokevirtual kq =>
    have hd0 : decode (mb mm) pc = .ok (.invokevirtual kq, 3) := by
      obtain rfl := il (n := 3) hl (by decide)
      exact hd
    exact sim_cl (o := 0) X hko hR (fun _ => hd0) (fun z => absurd z (by decide)) (fun z => absurd z (by decide)) hrm hs k
  case invokespecial kq =>
    obtain rfl := il (n := 3) hl (by decide)
    exact sim_cl (o := 1) X hko hR (fun z => absurd z (by decide)) (fun _ => hd) (fun z => absurd z (by decide)) hrm hs k
  case invokestatic kq =>
    obtain rfl := il (n := 3) hl (by decide)
    exact sim_cl (o := 2) X hko hR (fun z => absurd z (by decide)) (fun z => absurd z (by decide)) (fun _ => hd) hrm hs k
  case ireturn =>
    replace hs : sRetI mm st h = some (.inl c') := hs
    unfold sRetI at hs
    split at hs
    · simp only [Bool.cond_eq_ite] at hs
      repeat' (split at hs)
      all_goals (cases hs)
    · cases hs
  case lreturn => dsimp only at hs; split at hs; (· cases hb : Nat.beq (mrk mm) 2 <;> rw [hb] at hs <;> cases hs); (· cases hs)
  case dreturn => dsimp only at hs; split at hs; (· cases hb : Nat.beq (mrk mm) 3 <;> rw [hb] at hs <;> cases hs); (· cases hs)
  case areturn => dsimp only at hs; split at hs; (· cases hb : Nat.beq (mrk mm) 4 <;> rw [hb] at hs <;> cases hs); (· cases hs)
  case return_ => dsimp only at hs; split at hs; (· cases hb : Nat.beq (mrk mm) 0 <;> rw [hb] at hs <;> cases hs); (· cases hs)
  all_goals (cases hs)
end SIMT
