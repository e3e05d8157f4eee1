/-! The law makes its book and its stream. -/
/-- the class when it was taught T -/
def tauT (T : List Int) : Sta := mkS [] (rdE (lex T)).2 (bkO (rdS (lex T))) [] 0 (-1) 0 (fun _ => []) (fun _ => 0) []
theorem tau_T {S : Sta} {T : List Int} (e : tpS S = T) : tauS S = tauT T := by rw [← e]; rfl
theorem Kp_fW {h h1 : PH} {N : Nat} (h83 : ∀ a, hN h1 ≤ a → ¬ pCl a) (f : fW h h1) : Kp N (fun a => 1 ≤ a ∧ a ≤ 82) h h1 := ⟨rfl, fun a _ c => ⟨(f.2 a c).1, (f.2 a c).2.2⟩, fun a ha => (f.2 a (fun c => h83 a ha c)).1, Nat.le_of_eq (by unfold hN; rw [f.1])⟩
theorem say_go {d N : Nat} {r : VR} {T : List Int} {h : PH} {Q : Rs → PH → Prop} (as : asT T) (hn2 : T.length ≤ 1560) (I : CI h S00 68 64 u00) (hE : (rdE (lex T)).1 = 0) (t : txR h 87 N r T) (hN0 : N ≤ hN h) (z : Zr h) (q : ∀ h1, CI h1 (tauT T) 13 64 u00 → WSr (tauT T) 0 (wmS (tauT T)) → Zr h1 → Kp N (fun a => 1 ≤ a ∧ a ≤ 82) h h1 → hN h1 ≤ hN h + 78 → hS h1 ≤ hS h + 390 → Q (.inl (some (.inl (iZ 0)))) h1) : Rn (d + 48) 30 [.inr (.inr (.inr (1, 0, 1))), .inr (.inr (.inr (r)))] h Q := by
  have h83 := ci_hN I
  have go : ∀ k7 : Ev (d + 48) 30 (7, [some (.inr (.inr (.inr (1, 0, 1)))), some (.inr (.inr (.inr (r)))), some (.inl (iZ ((T.length : Int)))), some (.inl (iZ (((0 : Nat) : Int)))), none, none], [], h) Q, Rn (d + 48) 30 [.inr (.inr (.inr (1, 0, 1))), .inr (.inr (.inr (r)))] h Q := fun k7 => by
    have st := t
    rcases t with ⟨k, rfl, eT⟩ | ⟨a, v, rfl, -⟩
    · refine Ev.sts 1 (c' := (1, [some (.inr (.inr (.inr (1, 0, 1)))), some (.inr (.inr (.inr (43, 0, k)))), none, none, none, none], [.inr (.inr (.inr (43, 0, k)))], h)) rfl ?_
      refine Ev.callv (a := [.inr (.inr (.inr (43, 0, k)))]) rfl (tx_length (d := d + 46) st) ?_
      exact Ev.sts 3 rfl k7
    · refine Ev.sts 1 (c' := (1, [some (.inr (.inr (.inr (1, 0, 1)))), some (.inr (.inr (.inr (14, 0, a)))), none, none, none, none], [.inr (.inr (.inr (14, 0, a)))], h)) rfl ?_
      refine Ev.callv (a := [.inr (.inr (.inr (14, 0, a)))]) rfl (tx_length (d := d + 46) st) ?_
      exact Ev.sts 3 rfl k7
  refine go ?_
  by_cases c0 : T.length = 0
  · have e0 : T = [] := List.eq_nil_of_length_eq_zero c0
    subst e0
    refine sy_7 (d := d + 48) (n := 0) (f := 0) (by omega) (by omega) (fun _ => ?_) (fun c => absurd c (by omega))
    refine Ev.sts 1 (c' := (104, [some (.inr (.inr (.inr (1, 0, 1)))), some (.inr (.inr (.inr (r)))), some (.inl (iZ (((0 : Nat) : Int)))), some (.inl (iZ (((0 : Nat) : Int)))), none, none], [.inl (iZ (((0 : Nat) : Int)))], h)) rfl ?_
    refine Ev.brT (p := (iZ (((0 : Nat) : Int))) ≤ (iZ (0))) (c1 := (113, [some (.inr (.inr (.inr (1, 0, 1)))), some (.inr (.inr (.inr (r)))), some (.inl (iZ (((0 : Nat) : Int)))), some (.inl (iZ (((0 : Nat) : Int)))), none, none], [], h)) (c2 := (107, [some (.inr (.inr (.inr (1, 0, 1)))), some (.inr (.inr (.inr (r)))), some (.inl (iZ (((0 : Nat) : Int)))), some (.inl (iZ (((0 : Nat) : Int)))), none, none], [], h)) (by decide) rfl ?_
    refine Ev.sts 1 (c' := (114, [some (.inr (.inr (.inr (1, 0, 1)))), some (.inr (.inr (.inr (r)))), some (.inl (iZ (((0 : Nat) : Int)))), some (.inl (iZ (((0 : Nat) : Int)))), none, none], [.inr (.inr (.inr (1, 0, 1)))], h)) rfl ?_
    refine Ev.callw (a := [.inr (.inr (.inr (1, 0, 1)))]) rfl (cs_teach (d := d) I (WS_N WS_0 (by decide)) byT_nil (fun e h2 I2 F2 => ?_) (fun e h2 I2 F2 => absurd hE e))
    have n2 : hN h2 = hN h := by unfold hN; rw [F2.1]
    have m2 : hS h2 = hS h := by unfold hS; rw [F2.1]
    have kf : Kp (hN h) (fun a => 1 ≤ a ∧ a ≤ 82) h h2 := Kp_fW (fun a ha c => by unfold pCl at c; omega) F2
    have w := WS_tau WS_0 (show (rdE (lex (tpS S00))).1 = 0 from hE)
    rw [tau_T (S := S00) (T := []) rfl] at I2 w
    exact Ev.ret rfl (q h2 I2 w (Kp_Z kf z) (Kp_m kf hN0 (fun _ _ y => y)) (by omega) (by omega))
  · refine sy_out (d := d + 44) as rfl hn2 78 0 h S00 none none (by omega) (by omega) ⟨I, WS_0, rfl⟩ t hN0 z (fun h1 S1 f1 x4 x5 s1 hf1 t1 z1 k1 n1 m1 => ?_)
    obtain ⟨I1, w1, e1⟩ := s1
    have et : tpS (trmS S1 T.length) = T := by
      show (tpS S1).take T.length = T
      rw [e1]
      exact pdT_take hf1
    have wt := WS_trm (k := T.length) w1
    refine sy_103 (d := d) I1 (WS_N w1 (by decide)) (by rw [e1, pdT_l]; exact hf1) ⟨by omega, by omega⟩ (WS_N wt (by decide)) wt.2.2.2.2.2.2.2.2 (by rw [et]; exact hE) (fun h2 h3 I3 F2 F3 => ?_)
    have w := WS_tau wt (by rw [et]; exact hE)
    rw [tau_T et] at I3 w
    have h831 := ci_hN I1
    have n3 : hN h3 = hN h2 := by unfold hN; rw [F3.1]
    have m3 : hS h3 = hS h2 := by unfold hS; rw [F3.1]
    have f6 := F2.2.2.2.2.2.1
    have f7 := F2.2.2.2.2.2.2.1
    have f4 := F2.2.2.2.1
    have k2 : Kp (hN h1) (fun a => 1 ≤ a ∧ a ≤ 82) h1 h2 := Kp_m (Kp_FX h831 F2) (Nat.le_refl _) (fun x _ y => y.elim (fun y => y) u00_q)
    have k3 : Kp (hN h1) (fun a => 1 ≤ a ∧ a ≤ 82) h2 h3 := Kp_fW (fun a ha c => by unfold pCl at c; omega) F3
    have k23 := Kp_t k2 k3
    have h1n := k1.2.2.2
    exact q h3 I3 w (Kp_Z k23 z1) (Kp_t k1 (Kp_m k23 (by omega) (fun _ _ y => y))) (by omega) (by omega)
def smH (h : PH) (sm : Nat) : PH := (setR (setR (grow (setI (setR (grow (setR (grow (setR (grow (setR (grow h 0) sm 1 (28, 0, (hN h))) 0) sm 2 (29, 0, (hN h + 1))) 0) sm 3 (28, 0, (hN h + 2))) 0) sm 4 (28, 0, (hN h + 3))) sm 6 ((iZ (-1)))) 6) sm 8 (20, 6, (hN h + 4))) sm 0 (11, 0, 83))
theorem li_go {d sm : Nat} {h : PH} {Q : Rs → PH → Prop} (q : Q (.inl none) (smH h sm)) : Rn d 182 [.inr (.inr (.inr (12, 0, sm))), .inr (.inr (.inr (11, 0, 83)))] h Q := by
  refine Ev.sts 4 (c' := (6, [some (.inr (.inr (.inr (12, 0, sm)))), some (.inr (.inr (.inr (11, 0, 83))))], [.inl (iZ (0)), .inr (.inr (.inr (12, 0, sm)))], h)) rfl ?_
  refine Ev.sts 1 (c' := (9, [some (.inr (.inr (.inr (12, 0, sm)))), some (.inr (.inr (.inr (11, 0, 83))))], [.inr (.inr (.inr (28, 0, (hN h)))), .inr (.inr (.inr (12, 0, sm)))], (grow h 0))) rfl ?_
  refine Ev.sts 3 (c' := (14, [some (.inr (.inr (.inr (12, 0, sm)))), some (.inr (.inr (.inr (11, 0, 83))))], [.inl (iZ (0)), .inr (.inr (.inr (12, 0, sm)))], (setR (grow h 0) sm 1 (28, 0, (hN h))))) rfl ?_
  refine Ev.sts 1 (c' := (17, [some (.inr (.inr (.inr (12, 0, sm)))), some (.inr (.inr (.inr (11, 0, 83))))], [.inr (.inr (.inr (29, 0, (hN h + 1)))), .inr (.inr (.inr (12, 0, sm)))], (grow (setR (grow h 0) sm 1 (28, 0, (hN h))) 0))) rfl ?_
  refine Ev.sts 3 (c' := (22, [some (.inr (.inr (.inr (12, 0, sm)))), some (.inr (.inr (.inr (11, 0, 83))))], [.inl (iZ (0)), .inr (.inr (.inr (12, 0, sm)))], (setR (grow (setR (grow h 0) sm 1 (28, 0, (hN h))) 0) sm 2 (29, 0, (hN h + 1))))) rfl ?_
  refine Ev.sts 1 (c' := (25, [some (.inr (.inr (.inr (12, 0, sm)))), some (.inr (.inr (.inr (11, 0, 83))))], [.inr (.inr (.inr (28, 0, (hN h + 2)))), .inr (.inr (.inr (12, 0, sm)))], (grow (setR (grow (setR (grow h 0) sm 1 (28, 0, (hN h))) 0) sm 2 (29, 0, (hN h + 1))) 0))) rfl ?_
  refine Ev.sts 3 (c' := (30, [some (.inr (.inr (.inr (12, 0, sm)))), some (.inr (.inr (.inr (11, 0, 83))))], [.inl (iZ (0)), .inr (.inr (.inr (12, 0, sm)))], (setR (grow (setR (grow (setR (grow h 0) sm 1 (28, 0, (hN h))) 0) sm 2 (29, 0, (hN h + 1))) 0) sm 3 (28, 0, (hN h + 2))))) rfl ?_
  refine Ev.sts 1 (c' := (33, [some (.inr (.inr (.inr (12, 0, sm)))), some (.inr (.inr (.inr (11, 0, 83))))], [.inr (.inr (.inr (28, 0, (hN h + 3)))), .inr (.inr (.inr (12, 0, sm)))], (grow (setR (grow (setR (grow (setR (grow h 0) sm 1 (28, 0, (hN h))) 0) sm 2 (29, 0, (hN h + 1))) 0) sm 3 (28, 0, (hN h + 2))) 0))) rfl ?_
  refine Ev.sts 6 (c' := (44, [some (.inr (.inr (.inr (12, 0, sm)))), some (.inr (.inr (.inr (11, 0, 83))))], [.inl (iZ (6)), .inr (.inr (.inr (12, 0, sm)))], (setI (setR (grow (setR (grow (setR (grow (setR (grow h 0) sm 1 (28, 0, (hN h))) 0) sm 2 (29, 0, (hN h + 1))) 0) sm 3 (28, 0, (hN h + 2))) 0) sm 4 (28, 0, (hN h + 3))) sm 6 ((iZ (-1)))))) rfl ?_
  refine Ev.sts 1 (c' := (46, [some (.inr (.inr (.inr (12, 0, sm)))), some (.inr (.inr (.inr (11, 0, 83))))], [.inr (.inr (.inr (20, 6, (hN h + 4)))), .inr (.inr (.inr (12, 0, sm)))], (grow (setI (setR (grow (setR (grow (setR (grow (setR (grow h 0) sm 1 (28, 0, (hN h))) 0) sm 2 (29, 0, (hN h + 1))) 0) sm 3 (28, 0, (hN h + 2))) 0) sm 4 (28, 0, (hN h + 3))) sm 6 ((iZ (-1)))) 6))) rfl ?_
  refine Ev.sts 4 (c' := (54, [some (.inr (.inr (.inr (12, 0, sm)))), some (.inr (.inr (.inr (11, 0, 83))))], [], (setR (setR (grow (setI (setR (grow (setR (grow (setR (grow (setR (grow h 0) sm 1 (28, 0, (hN h))) 0) sm 2 (29, 0, (hN h + 1))) 0) sm 3 (28, 0, (hN h + 2))) 0) sm 4 (28, 0, (hN h + 3))) sm 6 ((iZ (-1)))) 6) sm 8 (20, 6, (hN h + 4))) sm 0 (11, 0, 83)))) rfl ?_
  exact Ev.ret rfl (q)

def m00 : Ms := mkM [] [] [] 0 (-1) 0 (fun _ => 0)
theorem JS_0 {hb : PH} {sm mn al : Nat} {B : Bk} {T : List Int} {fv gv : Nat → Ctx → Int32 → Int32} (eb : bkO (rdS (lex T)) = B) (HBb : HB hb B mn al) (hsm : hN hb = sm) (h88 : 88 ≤ sm) (I : CI hb (tauT T) 13 64 u00) (w : WSr (tauT T) 0 (wmS (tauT T))) (z : Zr hb) : JS hb (smH (grow hb 9) sm) sm mn al B fv gv (hS (smH (grow hb 9) sm)) (hN (smH (grow hb 9) sm)) 0 u00 (tauT T) m00 ∧ hN (smH (grow hb 9) sm) = sm + 6 ∧ hS (smH (grow hb 9) sm) = hS hb + 15 := by
  have e1 : hN (smH (grow hb 9) sm) = sm + 6 := by show hN hb + 6 = _; omega
  have e2 : hS (smH (grow hb 9) sm) = hS hb + 15 := by show hS hb + 9 + 0 + 0 + 0 + 0 + 6 = _; omega
  have n1 : hN (grow hb 9) = sm + 1 := by show hN hb + 1 = _; omega
  have fi : ∀ a k, a ≠ sm → (smH (grow hb 9) sm).1 a k = hb.1 a k := fun a k ha => setI_ne (fun y => ha y.1)
  have fi6 : ∀ k, k ≠ 6 → (smH (grow hb 9) sm).1 sm k = hb.1 sm k := fun k ha => setI_ne (fun y => ha y.2)
  have fr : ∀ a, a ≠ sm → (smH (grow hb 9) sm).2.2.1 a = hb.2.2.1 a := fun a ha => (setR_oth ha).trans ((setR_oth ha).trans ((setR_oth ha).trans ((setR_oth ha).trans ((setR_oth ha).trans (setR_oth ha)))))
  have k0 : Kp sm nA hb (smH (grow hb 9) sm) := ⟨rfl, fun a ha _ => ⟨funext fun k => fi a k (by omega), fr a (by omega)⟩, fun a ha => funext fun k => fi a k (by omega), by omega⟩
  have zs : Zr (smH (grow hb 9) sm) := Kp_Z k0 z
  have w5 := w.1.2.2.2.2.1
  refine ⟨⟨64, sm + 1, sm + 2, sm + 3, sm + 4, CI_K I w5 (by rw [hsm]; exact k0), w, ?_, ⟨HBb, hsm, h88, Kp_m k0 (Nat.le_refl _) (fun _ _ y => absurd y (fun y => y))⟩, ⟨eb, rfl, rfl, rfl, rfl, rfl, rfl, rfl⟩, ?_, ?_, ?_, Nat.zero_le _, zs, ?_, ?_⟩, e1, e2⟩
  · have r0 : (smH (grow hb 9) sm).2.2.1 sm 0 = (11, 0, 83) := setR_self _ _ _ _
    have r8 : (smH (grow hb 9) sm).2.2.1 sm 8 = (20, 6, sm + 5) := (setR_ne (by omega)).trans ((setR_self _ _ _ _).trans (by rw [n1]))
    have r4 : (smH (grow hb 9) sm).2.2.1 sm 4 = (28, 0, sm + 4) := (setR_ne (by omega)).trans ((setR_ne (by omega)).trans ((setR_self _ _ _ _).trans (by rw [n1])))
    have r3 : (smH (grow hb 9) sm).2.2.1 sm 3 = (28, 0, sm + 3) := (setR_ne (by omega)).trans ((setR_ne (by omega)).trans ((setR_ne (by omega)).trans ((setR_self _ _ _ _).trans (by rw [n1]))))
    have r2 : (smH (grow hb 9) sm).2.2.1 sm 2 = (29, 0, sm + 2) := (setR_ne (by omega)).trans ((setR_ne (by omega)).trans ((setR_ne (by omega)).trans ((setR_ne (by omega)).trans ((setR_self _ _ _ _).trans (by rw [n1])))))
    have r1 : (smH (grow hb 9) sm).2.2.1 sm 1 = (28, 0, sm + 1) := (setR_ne (by omega)).trans ((setR_ne (by omega)).trans ((setR_ne (by omega)).trans ((setR_ne (by omega)).trans ((setR_ne (by omega)).trans ((setR_self _ _ _ _).trans (by rw [n1]))))))
    have i6 : (smH (grow hb 9) sm).1 sm 6 = iZ (-1) := setI_self _ _ _ _
    refine ⟨r0, ⟨r1, ⟨by omega, by omega⟩, fun _ => 0, fun j hj => absurd hj (Nat.not_lt_zero _)⟩, ⟨r2, ⟨by omega, by omega⟩, fun _ => 0, fun j hj => absurd hj (Nat.not_lt_zero _)⟩, ⟨r3, ⟨by omega, by omega⟩, fun _ => 0, fun _ => 0, fun j hj => absurd hj (Nat.not_lt_zero _)⟩, ⟨r4, ⟨by omega, by omega⟩, fun _ => 0, fun _ => 0, fun j hj => absurd hj (Nat.not_lt_zero _)⟩, ⟨(fi6 5 (by decide)).trans (z sm (by omega) 5), i6, (fi6 7 (by decide)).trans (z sm (by omega) 7)⟩, ⟨r8, fun g hg => (fi (sm + 5) g (by omega)).trans (z (sm + 5) (by omega) g)⟩, ⟨by omega, by omega, by omega⟩, ⟨h88, by omega⟩⟩
  · exact ⟨List.Pairwise.nil, fun v hv => absurd hv List.not_mem_nil, fun v hv => absurd hv List.not_mem_nil, Nat.zero_le _, fun g _ => rfl⟩
  · exact ⟨fun v hv => absurd hv List.not_mem_nil, fun v hv => absurd hv List.not_mem_nil, fun g _ x hx => absurd hx List.not_mem_nil, fun g _ => Nat.zero_le _⟩
  · exact ⟨.inl (by decide), .inl (by decide), .inl (by decide), .inl (by decide), .inl (by decide)⟩
  · have e : pw (K1B B) (yO m00).length = 0 := rfl
    omega
  · have e : (yO m00).length = 0 := rfl
    omega
theorem msk_act {sm mn al s0 n0 t : Nat} {u : Q5} {S : Sta} {M M1 : Ms} {B : Bk} {fv gv : Nat → Ctx → Int32 → Int32} {hb h : PH} (vf : VF hb B fv gv) (ht : t ≤ 64) (j : JS hb h sm mn al B fv gv s0 n0 t u S M) (st : stY B (fun x => mkF fv x mn 0 (iZ 0)) M M1) (m : mskM mn M) : mskM mn M1 := by
  obtain ⟨nn, ca, ka, oa, ta, I, wr, y, bh, ms, mi, li, ub, hc, z, rs, rn⟩ := j
  have al6 := bf_al bh
  obtain ⟨e1, e2, e3, e4, e5, e6, e7, e8⟩ := id ms
  have hal := fun v : Int => alB_b (B := B) (by rw [← e1]; exact wr.1) v
  have wg := wr.2.2.2.2.1
  refine msk_st hal (by omega) ⟨by omega, by omega⟩ (fun x => ?_) st m
  obtain ⟨k, k1, k2⟩ := mkF_b (fv := fv) (x := x) mn 0 0 (by omega) (fun g _ h2 => (vf.1 g (by omega)).2.1) (by decide)
  rw [Nat.zero_add] at k1
  exact ⟨k, k1, k2⟩

theorem bu_58 {d sm L i n : Nat} {P : PH → Prop} {h : PH} {Q : Rs → PH → Prop} (hi : i ≤ n) (hn : n < 24) (hL : L ≤ 100000) (hp : i < n → ∀ (xx : Int32) (Q1 : Rs → PH → Prop), (∀ h1, P h1 → Q1 (.inl (some (.inl (iZ 1)))) h1) → Rn (d + 22) 27 [.inr (.inr (.inr (1, 0, 1))), .inr (.inr (.inr (12, 0, sm))), .inl xx] h Q1) (q : i = n → Q (.inl (some (.inr (.inr (.inr (12, 0, sm)))))) h) (k1 : i < n → ∀ h1, P h1 → Ev (d + 23) 29 (58, [some (.inr (.inr (.inr (1, 0, 1)))), some (.inr (.inr (.inr (45, L, 0)))), some (.inr (.inr (.inr (11, 0, 83)))), some (.inr (.inr (.inr (12, 0, sm)))), some (.inl (iZ ((n : Int)))), some (.inl (iZ ((i : Int) + 1)))], [], h1) Q) : Ev (d + 23) 29 (58, [some (.inr (.inr (.inr (1, 0, 1)))), some (.inr (.inr (.inr (45, L, 0)))), some (.inr (.inr (.inr (11, 0, 83)))), some (.inr (.inr (.inr (12, 0, sm)))), some (.inl (iZ ((n : Int)))), some (.inl (iZ ((i : Int))))], [], h) Q := by
  refine Ev.sts 2 (c' := (62, [some (.inr (.inr (.inr (1, 0, 1)))), some (.inr (.inr (.inr (45, L, 0)))), some (.inr (.inr (.inr (11, 0, 83)))), some (.inr (.inr (.inr (12, 0, sm)))), some (.inl (iZ ((n : Int)))), some (.inl (iZ ((i : Int))))], [.inl (iZ ((n : Int))), .inl (iZ ((i : Int)))], h)) rfl ?_
  refine Ev.brc (p := (iZ ((n : Int))) ≤ (iZ ((i : Int)))) (q := (((n : Int) : Int)) ≤ (i : Int)) (c1 := (105, [some (.inr (.inr (.inr (1, 0, 1)))), some (.inr (.inr (.inr (45, L, 0)))), some (.inr (.inr (.inr (11, 0, 83)))), some (.inr (.inr (.inr (12, 0, sm)))), some (.inl (iZ ((n : Int)))), some (.inl (iZ ((i : Int))))], [], h)) (c2 := (65, [some (.inr (.inr (.inr (1, 0, 1)))), some (.inr (.inr (.inr (45, L, 0)))), some (.inr (.inr (.inr (11, 0, 83)))), some (.inr (.inr (.inr (12, 0, sm)))), some (.inl (iZ ((n : Int)))), some (.inl (iZ ((i : Int))))], [], h)) rfl (iZ_le ⟨by omega, by omega⟩ ⟨by omega, by omega⟩) (fun c0 => ?_) (fun c0 => ?_)
  · refine Ev.sts 1 (c' := (106, [some (.inr (.inr (.inr (1, 0, 1)))), some (.inr (.inr (.inr (45, L, 0)))), some (.inr (.inr (.inr (11, 0, 83)))), some (.inr (.inr (.inr (12, 0, sm)))), some (.inl (iZ ((n : Int)))), some (.inl (iZ ((i : Int))))], [.inr (.inr (.inr (12, 0, sm)))], h)) rfl ?_
    exact Ev.ret rfl (q (by omega))
  · refine Ev.sts 5 (c' := (72, [some (.inr (.inr (.inr (1, 0, 1)))), some (.inr (.inr (.inr (45, L, 0)))), some (.inr (.inr (.inr (11, 0, 83)))), some (.inr (.inr (.inr (12, 0, sm)))), some (.inl (iZ ((n : Int)))), some (.inl (iZ ((i : Int))))], [.inl (iZ (16)), .inl (iZ ((i : Int))), .inr (.inr (.inr (45, L, 0))), .inr (.inr (.inr (12, 0, sm))), .inr (.inr (.inr (1, 0, 1)))], h)) rfl ?_
    refine Ev.pv (p := (iZ (16)) = 0) (v := .inl ((iZ ((i : Int))) - (iZ ((i : Int))) / (iZ (16)) * (iZ (16)))) (w := .inl (iZ (((i : Int)) % 16))) (iZ_n0 (by omega) (by omega)) rfl (congrArg vI (iZ_rem (by omega) (by omega) (by omega) (by omega))) ?_
    refine Ev.callw (a := [.inr (.inr (.inr (45, L, 0))), .inl (iZ (((i : Int)) % 16))]) rfl (w_cell (k := i % 16) (by omega) (by omega) hL (fun cv => ?_))
    refine Ev.sts 2 (c' := (80, [some (.inr (.inr (.inr (1, 0, 1)))), some (.inr (.inr (.inr (45, L, 0)))), some (.inr (.inr (.inr (11, 0, 83)))), some (.inr (.inr (.inr (12, 0, sm)))), some (.inl (iZ ((n : Int)))), some (.inl (iZ ((i : Int))))], [.inl (iZ (16)), .inl (iZ ((i : Int))), .inl (cv), .inr (.inr (.inr (12, 0, sm))), .inr (.inr (.inr (1, 0, 1)))], h)) rfl ?_
    refine Ev.pv (p := (iZ (16)) = 0) (v := .inl ((iZ ((i : Int))) / (iZ (16)))) (w := .inl (iZ (((i : Int)) / 16))) (iZ_n0 (by omega) (by omega)) rfl (congrArg vI (iZ_div (by omega) (by omega) (by omega) (by omega))) ?_
    refine Ev.sts 1 (c' := (82, [some (.inr (.inr (.inr (1, 0, 1)))), some (.inr (.inr (.inr (45, L, 0)))), some (.inr (.inr (.inr (11, 0, 83)))), some (.inr (.inr (.inr (12, 0, sm)))), some (.inl (iZ ((n : Int)))), some (.inl (iZ ((i : Int))))], [.inl (iZ (3)), .inl (iZ (((i : Int)) / 16)), .inl (cv), .inr (.inr (.inr (12, 0, sm))), .inr (.inr (.inr (1, 0, 1)))], h)) rfl ?_
    refine Ev.gv (w := (iZ ((((i : Int)) / 16) * 3))) rfl (iZ_mul _ _) ?_
    refine Ev.sts 3 (c' := (89, [some (.inr (.inr (.inr (1, 0, 1)))), some (.inr (.inr (.inr (45, L, 0)))), some (.inr (.inr (.inr (11, 0, 83)))), some (.inr (.inr (.inr (12, 0, sm)))), some (.inl (iZ ((n : Int)))), some (.inl (iZ ((i : Int))))], [.inl (iZ ((i : Int))), .inl (iZ (719)), .inl ((cv >>> ((iZ ((((i : Int)) / 16) * 3)) &&& 31))), .inr (.inr (.inr (12, 0, sm))), .inr (.inr (.inr (1, 0, 1)))], h)) rfl ?_
    refine Ev.gv (w := (iZ (719 * ((i : Int))))) rfl (iZ_mul _ _) ?_
    refine Ev.sts 1 (c' := (91, [some (.inr (.inr (.inr (1, 0, 1)))), some (.inr (.inr (.inr (45, L, 0)))), some (.inr (.inr (.inr (11, 0, 83)))), some (.inr (.inr (.inr (12, 0, sm)))), some (.inl (iZ ((n : Int)))), some (.inl (iZ ((i : Int))))], [.inl (((cv >>> ((iZ ((((i : Int)) / 16) * 3)) &&& 31)) + (iZ (719 * ((i : Int)))))), .inr (.inr (.inr (12, 0, sm))), .inr (.inr (.inr (1, 0, 1)))], h)) rfl ?_
    refine Ev.callw (a := [.inr (.inr (.inr (1, 0, 1))), .inr (.inr (.inr (12, 0, sm))), .inl (((cv >>> ((iZ ((((i : Int)) / 16) * 3)) &&& 31)) + (iZ (719 * ((i : Int))))))]) rfl (hp (by omega) _ _ (fun h1 p1 => ?_))
    refine Ev.brT (p := ¬ (iZ (1)) = (iZ (0))) (c1 := (99, [some (.inr (.inr (.inr (1, 0, 1)))), some (.inr (.inr (.inr (45, L, 0)))), some (.inr (.inr (.inr (11, 0, 83)))), some (.inr (.inr (.inr (12, 0, sm)))), some (.inl (iZ ((n : Int)))), some (.inl (iZ ((i : Int))))], [], h1)) (c2 := (97, [some (.inr (.inr (.inr (1, 0, 1)))), some (.inr (.inr (.inr (45, L, 0)))), some (.inr (.inr (.inr (11, 0, 83)))), some (.inr (.inr (.inr (12, 0, sm)))), some (.inl (iZ ((n : Int)))), some (.inl (iZ ((i : Int))))], [], h1)) (by decide) rfl ?_
    refine Ev.stc (c1 := (102, [some (.inr (.inr (.inr (1, 0, 1)))), some (.inr (.inr (.inr (45, L, 0)))), some (.inr (.inr (.inr (11, 0, 83)))), some (.inr (.inr (.inr (12, 0, sm)))), some (.inl (iZ ((n : Int)))), some (.inl ((iZ ((i : Int))) + (iZ (1))))], [], h1)) (c2 := (102, [some (.inr (.inr (.inr (1, 0, 1)))), some (.inr (.inr (.inr (45, L, 0)))), some (.inr (.inr (.inr (11, 0, 83)))), some (.inr (.inr (.inr (12, 0, sm)))), some (.inl (iZ ((n : Int)))), some (.inl (iZ (((i : Int)) + 1)))], [], h1)) rfl (by rw [iZ_add]) ?_
    refine Ev.sts 1 (c' := (58, [some (.inr (.inr (.inr (1, 0, 1)))), some (.inr (.inr (.inr (45, L, 0)))), some (.inr (.inr (.inr (11, 0, 83)))), some (.inr (.inr (.inr (12, 0, sm)))), some (.inl (iZ ((n : Int)))), some (.inl (iZ (((i : Int)) + 1)))], [], h1)) rfl ?_
    exact k1 (by omega) h1 p1

theorem bu_lp {d sm L n mn al s0 n0 : Nat} {B : Bk} {fv gv : Nat → Ctx → Int32 → Int32} {hb : PH} {Q : Rs → PH → Prop} (vf : VF hb B fv gv) (hn : n < 24) (hL : L ≤ 100000) (q : ∀ h1 u1 S1 M1, JS hb h1 sm mn al B fv gv s0 n0 n u1 S1 M1 → mskM mn M1 → Q (.inl (some (.inr (.inr (.inr (12, 0, sm)))))) h1) (m : Nat) : ∀ (i : Nat) (h : PH) (u : Q5) (S : Sta) (M : Ms), i + m = n → JS hb h sm mn al B fv gv s0 n0 i u S M → mskM mn M → Ev (d + 23) 29 (58, [some (.inr (.inr (.inr (1, 0, 1)))), some (.inr (.inr (.inr (45, L, 0)))), some (.inr (.inr (.inr (11, 0, 83)))), some (.inr (.inr (.inr (12, 0, sm)))), some (.inl (iZ ((n : Int)))), some (.inl (iZ ((i : Int))))], [], h) Q := by
  induction m with
  | zero =>
    intro i h u S M hi j hm
    obtain rfl : i = n := by omega
    exact bu_58 (d := d) (P := fun _ => False) (Nat.le_refl _) hn hL (fun c => by omega) (fun _ => q h u S M j hm) (fun c => by omega)
  | succ m ih =>
    intro i h u S M hi j hm
    refine bu_58 (d := d) (P := fun h1 => ∃ u1 S1 M1, JS hb h1 sm mn al B fv gv s0 n0 (i + 1) u1 S1 M1 ∧ stY B (fun x => mkF fv x mn 0 (iZ 0)) M M1) (by omega) hn hL (fun _ xx Q1 q1 => ls_act (d := d) vf (by omega) j (fun h1 u1 S1 M1 J1 st o1 => q1 h1 ⟨u1, S1, M1, J1, st⟩)) (fun c => by omega) (fun _ h1 P1 => ?_)
    obtain ⟨u1, S1, M1, J1, st⟩ := P1
    exact ih (i + 1) h1 u1 S1 M1 (by omega) J1 (msk_act vf (by omega) j st hm)
