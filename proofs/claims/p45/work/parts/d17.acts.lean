/-! One act of the law, whole. -/
theorem WSr_up {S : Sta} {N M : Nat} {wm : Int} (w : WSr S N wm) (h : N ≤ M) : WSr S M wm := ⟨w.1, w.2.1, w.2.2.1, Nat.le_trans w.2.2.2.1 h, w.2.2.2.2⟩
/-- what windows may take, by the book -/
def ObB (B : Bk) : Nat := oyB B B.2.2.length 0 + cyB B B.2.2.length 0
def K1B (B : Bk) : Nat := ObB B + 80
def K2B (B : Bk) : Nat := K1B B + ObB B + 80
theorem ObB_le {B : Bk} (h : B.2.2.length ≤ 6) : ObB B ≤ 2394 ∧ cyB B B.2.2.length 0 ≤ 42 := by
  have a := cy_oy (B := B) B.2.2.length 0
  have b := cyB_7 (B := B) B.2.2.length 0
  unfold ObB
  omega
/-- both sides after t acts -/
def JS (hb h : PH) (sm mn al : Nat) (B : Bk) (fv gv : Nat → Ctx → Int32 → Int32) (s0 n0 t : Nat) (u : Q5) (S : Sta) (M : Ms) : Prop := ∃ nn ca ka oa ta, CI h S 13 nn u ∧ WSr S (30 * t) (wmS S) ∧ SMh h sm u ca ka oa ta M ∧ BH hb h sm B mn al ∧ MSy S M B gv ∧ MIy M B ∧ LIy M B ∧ uB u sm ∧ (yC M).length ≤ t ∧ Zr h ∧ hS h + pw (K1B B) (yO M).length ≤ s0 + 30 * nn + tri (yT M).length + pw (K2B B) (pw (cyB B B.2.2.length 0) (yC M).length) + 300 * t ∧ hN h + 2 * (yO M).length ≤ n0 + nn + 4 * pw (cyB B B.2.2.length 0) (yC M).length + 20 * t
/-- how an act changes the stream -/
def stY (B : Bk) (tkf : Ctx → Int32) (M M1 : Ms) : Prop := (∃ p, 1 ≤ p ∧ M1 = nigM B M p) ∨ ∃ x : Ctx, 0 ≤ x.1 ∧ x.1 ≤ 999 ∧ M1 = tlM (cwY B (tkf x) M x)
/-- rows of others stand -/
def oth (sm : Nat) (u u1 : Q5) (h h1 : PH) : Prop := ∀ a, pI sm u (hN h) a → h1.1 a = h.1 a ∧ pI sm u1 (hN h1) a
theorem oth_FX {h h1 : PH} {u u1 : Q5} {n n1 sm : Nat} (f : FX pCl h h1 u u1 n n1) (hs : 88 ≤ sm) : oth sm u u1 h h1 := fun a p => ⟨(pI_FX f p hs).2, (pI_FX f p hs).1⟩
theorem oth_SI {h h1 : PH} {u : Q5} {sm oa : Nat} (s : SI sm oa h h1) : oth sm u u h h1 := fun a p => ⟨s.1 a p.2.1 (by have := p.1; omega) (by have := p.1; omega), ⟨p.1, Nat.lt_of_lt_of_le p.2.1 s.2.2.2, p.2.2⟩⟩
theorem oth_t {h h1 h2 : PH} {u u1 u2 : Q5} {sm : Nat} (a : oth sm u u1 h h1) (b : oth sm u1 u2 h1 h2) : oth sm u u2 h h2 := fun x p => ⟨(b x (a x p).2).1.trans (a x p).1, (b x (a x p).2).2⟩
theorem bh_G {hb h : PH} {sm mn al : Nat} {B : Bk} (bh : BH hb h sm B mn al) : bkG B := by
  have al6 := bf_al bh
  exact ⟨by omega, fun g hg => by
    obtain ⟨ga, _, _, _, gb, _⟩ := bf_go bh (show g < al by omega)
    exact gb⟩
theorem alB_all {B : Bk} (w : bkN B) (x : Int) : 0 ≤ alB B x ∧ alB B x ≤ 99 := alB_b w x
/-- counts that the hand's rows keep -/
theorem hC_ok {S : Sta} {M : Ms} {B : Bk} {gv : Nat → Ctx → Int32 → Int32} {N : Nat} (ms : MSy S M B gv) (w : WSr S N (wmS S)) (hn : (yC M).length ≤ 69) (g : Nat) (hg : g < B.2.2.length) : ((B.2.2.getD g g0).2.2.1 = 0 → cntW (rwL (tlY B) (fY B gv (yC M)) (yO M) g) ≤ 69) ∧ ((B.2.2.getD g g0).2.2.1 ≠ 0 → ∀ v ∈ rwL (tlY B) (fY B gv (yC M)) (yO M) g, v.2.2.1 ≤ 70) := by
  obtain ⟨e1, e2, e3, e4, e5, e6, e7, e8⟩ := ms
  have len : (csS S).length = (yC M).length := by rw [e2]; exact List.length_map _
  have r := (w.2.2.2.2.2.1 g).1 (by rw [e1]; exact hg)
  rw [e1, e6] at r
  refine ⟨fun c => ?_, fun c v hv => ?_⟩
  · have := (r.1 c).2.2
    omega
  · obtain ⟨_, _, _, _, _, _, a7⟩ := (r.2 c).2 v hv
    omega
theorem act_night {d sm mn al s0 n0 t p : Nat} {B : Bk} {hb h : PH} {fv gv : Nat → Ctx → Int32 → Int32} {u : Q5} {S : Sta} {M : Ms} {w : Int} {xx : Int32} {Q : Rs → PH → Prop} (hp : 1 ≤ p ∧ p ≤ 30) (ht : t ≤ 63) (j : JS hb h sm mn al B fv gv s0 n0 t u S M) (q : ∀ h1 u1 S1, JS hb h1 sm mn al B fv gv s0 n0 (t + 1) u1 S1 (nigM B M p) → oth sm u u1 h h1 → Q (.inl (some (.inl (iZ 1)))) h1) : Ev (d + 6) 27 (38, [some (.inr (.inr (.inr (1, 0, 1)))), some (.inr (.inr (.inr (12, 0, sm)))), some (.inl (xx)), some (.inl (iZ (w))), some (.inl (iZ ((p : Int)))), none], [], h) Q := by
  obtain ⟨nn, ca, ka, oa, ta, I, wr, x, bh, ms, mi, li, ub, hc, z, rs, rn⟩ := j
  have wn := WS_N wr (by omega)
  have bn := wr.1
  obtain ⟨e1, e2, e3, e4, e5, e6, e7, e8⟩ := id ms
  have hal := fun y : Int => alB_b (B := B) (by rw [← e1]; exact bn) y
  have hs := x.2.2.2.2.2.2.2.2
  have ob := ObB_le (B := B) (bh_G bh).1
  have op := oy_ok ms mi wr (bh_G bh) (by omega)
  have wg := wr.2.2.2.2.1
  have tl : (tlS S).length = (yT M).length := by rw [e8]; exact List.length_map _
  have nt0 := wr.2.2.2.1
  have lo := x.2.2.2.1.2.1
  have tot : (yO M).length + (yT M).length ≤ 2646 := by
    have a := mi.2.2.2.1
    rw [pw_mul] at a
    have b : cyB B B.2.2.length 0 * (yC M).length ≤ 42 * 63 := Nat.mul_le_mul ob.2 (by omega)
    omega
  have oOb : (yO M).length ≤ ObB B := by unfold ObB; omega
  have hal2 : ∀ k : Nat, WSr (nigN S k) (30 * t + k) (wmS (nigN S k)) := WS_nigN wr
  refine ac_38 (d := d + 5) (P1 := fun h1 tt => ∃ u1 n1, CI h1 (nigN S p) 13 n1 u1 ∧ FX pCl h h1 u u1 nn n1 ∧ tt = iZ (((yT (nigM B M p)).length : Int) - (yT M).length)) (P2 := fun h2 => ∃ u1 S1, JS hb h2 sm mn al B fv gv s0 n0 (t + 1) u1 S1 (nigM B M p) ∧ oth sm u u1 h h2) (fun Q1 q1 => ?_) (fun h1 tt P1 Q1 q1 => ?_) (fun h2 P2 => ?_)
  · refine cs_passNights (d := d) (p := (p : Int)) I ⟨by omega, by omega⟩ (fun k hk => ?_) (fun h1 n1 u1 I1 F1 => ?_)
    · have wk := hal2 k
      have nk := wk.2.2.2.1
      exact ⟨WS_N wk (by omega), by omega, WSr_cap wk⟩
    · have ep : (p : Int).toNat = p := by omega
      rw [ep] at I1 ⊢
      have m8 := (MS_nigN ms mi p).1.2.2.2.2.2.2.2
      have tl1 : (tlS (nigN S p)).length = (yT (nigM B M p)).length := by rw [m8]; exact List.length_map _
      rw [tl1, tl]
      exact q1 h1 _ ⟨u1, n1, I1, F1, rfl⟩
  · obtain ⟨u1, n1, I1, F1, rfl⟩ := P1
    have x1 := SM_FX x F1 ub
    have bh1 := BH_FX bh F1 ub hs.2
    have ub1 := uB_U ub F1.2.2.2.2.2.2.2 hs.2
    have mN := MS_nigN ms mi p
    have lN := LI_nigN li p
    have hk := nig_f (M := M) hal (by omega) ⟨by omega, by omega⟩ p
    refine ls_pass (d := d + 3) (K1 := K1B B) (M := M) (B := B) hp.2 hal ⟨by omega, by omega⟩ ⟨by omega, by omega⟩ (by omega) (by unfold K1B; omega) (by unfold K1B; omega) (by omega) (fun v hv => by have := (wn_BC (mi.2.1 v hv).1).2.2.2; omega) x1 bh1 (fun h2 oa2 ta2 X2 S2 r1 r2 => ?_)
    refine q1 h2 ⟨u1, nigN S p, ⟨n1, ca, ka, oa2, ta2, CI_SI I1 (by rw [mN.1.1]; exact (bh_G bh).1) S2 ub1 hs.1 (Nat.le_refl _), WSr_up (hal2 p) (by omega), X2, BH_k bh1 (SI_K S2 x1.2.2.2.2.2.2.2.2.2 (Nat.le_refl _)), mN.1, mN.2, lN.1, ub1, by rw [hk.2.2.1]; omega, Kp_Z (SI_K S2 x1.2.2.2.2.2.2.2.2.2 (Nat.le_refl _)) (Kp_Z (Kp_FX (ci_hN I) F1) z), ?_, ?_⟩, oth_t (oth_FX F1 hs.1) (oth_SI S2)⟩
    · rw [hk.2.2.1]
      have f1 := F1.2.2.2.2.2.2.1
      omega
    · rw [hk.2.2.1]
      have f1 := F1.2.2.2.2.2.1
      omega
  · obtain ⟨u1, S1, J1, O1⟩ := P2
    exact q h2 u1 S1 J1 O1
theorem vs_R {B : Bk} {hb : PH} {fv gv : Nat → Ctx → Int32 → Int32} (vf : VF hb B fv gv) (C : List (Ctx × Int32)) (x : Ctx) (tk : Int32) : vsR B x tk (vsY B gv C x tk) := by
  intro g hg
  unfold vsY fY
  rw [getD_app1]
  by_cases c : (B.2.2.getD g g0).2.2.2.1 = 0
  · exact .inl ⟨c, if_pos c⟩
  · refine .inr ⟨c, ?_⟩
    rw [if_neg c]
    exact (vf.2 g hg c).2 x tk [] (by decide)
theorem act_comma {d sm mn al s0 n0 t rw : Nat} {B : Bk} {hb h h4 : PH} {fv gv : Nat → Ctx → Int32 → Int32} {u : Q5} {S : Sta} {M : Ms} {w f : Int} {x : Ctx} {xx : Int32} {Q : Rs → PH → Prop} (vf : VF hb B fv gv) (ok : okX x) (ht : t ≤ 62) (j : JS hb h sm mn al B fv gv s0 n0 t u S M) (y4 : nwI h h4 4) (erw : rw = hN h) (co : coR h4 rw x) (q : ∀ h1 u1 S1, JS hb h1 sm mn al B fv gv s0 n0 (t + 1) u1 S1 (tlM (cwY B (mkF fv x mn 0 (iZ 0)) M x)) → oth sm u u1 h h1 → Q (.inl (some (.inl (iZ 1)))) h1) : Ev (d + 22) 27 (164, [some (.inr (.inr (.inr (1, 0, 1)))), some (.inr (.inr (.inr (12, 0, sm)))), some (.inl (xx)), some (.inl (iZ (w))), some (.inl (iZ (f))), some (.inr (.inr (.inr (20, 4, rw))))], [], h4) Q := by
  obtain ⟨nn, ca, ka, oa, ta, I, wr, y, bh, ms, mi, li, ub, hc, z, rs, rn⟩ := j
  have wn := WS_N wr (by omega)
  have bn := wr.1
  obtain ⟨e1, e2, e3, e4, e5, e6, e7, e8⟩ := id ms
  have hal := fun y : Int => alB_b (B := B) (by rw [← e1]; exact bn) y
  have hs := y.2.2.2.2.2.2.2.2
  have ob := ObB_le (B := B) (bh_G bh).1
  have op := oy_ok ms mi wr (bh_G bh) (by omega)
  have wg := wr.2.2.2.2.1
  have al6 := bf_al bh
  have nt0 := wr.2.2.2.1
  have len : (csS S).length = (yC M).length := by rw [e2]; exact List.length_map _
  have tot : (yO M).length + (yT M).length ≤ 2646 := by
    have a := mi.2.2.2.1
    rw [pw_mul] at a
    have b : cyB B B.2.2.length 0 * (yC M).length ≤ 42 * 63 := Nat.mul_le_mul ob.2 (by omega)
    omega
  have oOb : (yO M).length + cyB B B.2.2.length 0 ≤ ObB B := by unfold ObB; omega
  obtain ⟨k, k1, k2⟩ := mkF_b (fv := fv) (x := x) mn 0 0 (by omega) (fun g _ hg => (vf.1 g (by omega)).2.1) (by decide)
  have k256 : k < 256 := by
    have : 2 ^ (0 + mn) ≤ 2 ^ 8 := Nat.pow_le_pow_right (by decide) (by omega)
    omega
  have k2 : mkF fv x mn 0 (iZ 0) = iZ (k : Int) := k2
  have htk : 0 ≤ (mkF fv x mn 0 (iZ 0)).toInt ∧ (mkF fv x mn 0 (iZ 0)).toInt < 256 := by
    rw [k2, iZ_toInt (by omega) (by omega)]; omega
  have jr : jR (bkS S).2.1 x 0 (iZ 0) (mkF fv x mn 0 (iZ 0)) := by
    have := mkF_jR (fv := fv) (x := x) B.2.1 0 (iZ 0) (fun f hf => by rw [Nat.zero_add]; exact (vf.1 f hf).2.2)
    rw [al6.1] at this
    rw [e1]; exact this
  have bc : bcv (mkF fv x mn 0 (iZ 0)) = iZ (pcN (mkF fv x mn 0 (iZ 0)) 8) := by
    have := bcv_pc ⟨k, k256⟩
    rw [k2]; exact this
  generalize etk : mkF fv x mn 0 (iZ 0) = tk at q htk jr bc
  obtain ⟨mC1, mC2, mC3, mC4⟩ := MS_com (x := x) (tk := tk) ms mi (bh_G bh) ok.1 ok.2.1
  have lC := LI_com (x := x) (tk := tk) li mi (bh_G bh) ok.1 ok.2.1
  have s4 := nwI_SI (sm := sm) y4
  have y5 := SM_nwI y y4
  have w5 : (bkS S).2.2.length ≤ 6 := by rw [e1]; exact (bh_G bh).1
  have I4 := CI_SI I w5 s4 ub hs.1 (Nat.le_refl _)
  have kk4 := SI_K s4 hs.2 (Nat.le_refl _)
  have bh4 := BH_k bh kk4
  have n4 := y4.2.2.1
  have m4 := y4.2.2.2
  have pr : pI sm u (hN h4) rw := by
    have d := (ci_tl I).2.2.2.2.1
    obtain ⟨⟨_, d1⟩, ⟨_, d2⟩, ⟨_, d3⟩, ⟨_, d4⟩, ⟨_, d5⟩, _⟩ := d
    exact ⟨by omega, by omega, ⟨by omega, by omega, by omega, by omega, by omega⟩⟩
  have okx := ok
  obtain ⟨o1, o2, o3, o4, o5, o6, o7, o8⟩ := ok
  refine ac_164 (d := d + 21) (x := x) (P1 := fun h1 tt => ∃ u1 n1, CI h1 (comS S x tk (vsY B gv (yC M) x tk)) 13 n1 u1 ∧ FX pCl h4 h1 u u1 nn n1 ∧ tt = iZ (pcN tk 8)) (P2 := fun h2 => ∃ u1 S1, JS hb h2 sm mn al B fv gv s0 n0 (t + 1) u1 S1 (tlM (cwY B tk M x)) ∧ oth sm u u1 h h2) co (fun Q1 q1 => ?_) (fun h1 tt P1 Q1 q1 => ?_) (fun h2 P2 => ?_)
  · refine cs_comma (d := d + 15) I4 wn ⟨⟨by omega, by omega⟩, ⟨by omega, by omega⟩, ⟨by omega, by omega⟩, ⟨by omega, by omega⟩⟩ okx (by omega) jr (by rw [e1]; exact vs_R vf (yC M) x tk) (fun g => ⟨(WS_wl wr (by omega) g).1, (WS_wl wr (by omega) g).2.1⟩) (fun g => (WS_wl2 wr okx (by omega) htk g).1) (WSr_cap (WS_cwm wr okx (by omega) htk)) (fun h1 n1 u1 I1 F1 => ?_)
    rw [bc]
    exact q1 h1 _ ⟨u1, n1, I1, F1, rfl⟩
  · obtain ⟨u1, n1, I1, F1, rfl⟩ := P1
    have x1 := SM_FX y5 F1 ub
    have bh1 := BH_FX bh4 F1 ub (by omega)
    have ub1 := uB_U ub F1.2.2.2.2.2.2.2 (by omega)
    have p1 := pI_FX F1 pr hs.1
    have z1 := Kp_Z (Kp_FX (ci_hN I4) F1) (Kp_Z kk4 z)
    refine ls_comma (d := d) (K1 := K1B B) (K2 := K2B B) (Ob := ObB B) (tl := tlY B) (f := fY B gv (yC M)) vf bh1 z1 x1 (ci_tl I1).2.2.2.2.1 (by unfold coR; rw [p1.2]; exact co) p1.1 etk ⟨o1, o2⟩ ⟨by omega, by omega⟩ ⟨by omega, by omega⟩ (by omega) (by omega) (by unfold K1B; omega) (by unfold K2B; omega) mi.1 (fun v hv => (mi.2.1 v hv).1) oOb (by omega) (fun g2 hg2 => hC_ok ms wr (by omega) g2 (by omega)) (hal _) mC3 (by omega) (fun h2 ca2 ka2 oa2 ta2 X2 S2 r1 r2 => ?_)
    have lo := x1.2.2.2.1.2.1
    have k2_ := SI_K S2 x1.2.2.2.2.2.2.2.2.2 (by omega)
    have lC1 : (yC (tlM (cwY B tk M x))).length = (yC M).length + 1 := by show (yC M ++ [(x, tk)]).length = _; rw [List.length_append]; rfl
    refine q1 h2 ⟨u1, _, ⟨n1, ca2, ka2, oa2, ta2, CI_SI I1 (by show (bkS S).2.2.length ≤ 6; exact w5) S2 ub1 hs.1 (by omega), WSr_up (WS_com wr okx (by omega) htk) (by omega), X2, BH_k bh1 k2_, mC1, mC2, lC.1, ub1, by omega, Kp_Z k2_ z1, ?_, ?_⟩, oth_t (oth_SI s4) (oth_t (oth_FX F1 hs.1) (oth_SI S2))⟩
    · rw [lC1]
      have f1 := F1.2.2.2.2.2.2.1
      have e1 : pw (cyB B B.2.2.length 0) ((yC M).length + 1) = pw (cyB B B.2.2.length 0) (yC M).length + cyB B B.2.2.length 0 := rfl
      rw [e1, pw_add]
      omega
    · rw [lC1]
      have f1 := F1.2.2.2.2.2.1
      have e1 : pw (cyB B B.2.2.length 0) ((yC M).length + 1) = pw (cyB B B.2.2.length 0) (yC M).length + cyB B B.2.2.length 0 := rfl
      rw [e1]
      omega
  · obtain ⟨u1, S1, J1, O1⟩ := P2
    exact q h2 u1 S1 J1 O1
/-- one act -/
theorem ls_act {d sm mn al s0 n0 t : Nat} {B : Bk} {hb h : PH} {fv gv : Nat → Ctx → Int32 → Int32} {u : Q5} {S : Sta} {M : Ms} {xx : Int32} {Q : Rs → PH → Prop} (vf : VF hb B fv gv) (ht : t ≤ 62) (j : JS hb h sm mn al B fv gv s0 n0 t u S M) (q : ∀ h1 u1 S1 M1, JS hb h1 sm mn al B fv gv s0 n0 (t + 1) u1 S1 M1 → stY B (fun x => mkF fv x mn 0 (iZ 0)) M M1 → oth sm u u1 h h1 → Q (.inl (some (.inl (iZ 1)))) h1) : Rn (d + 22) 27 [.inr (.inr (.inr (1, 0, 1))), .inr (.inr (.inr (12, 0, sm))), .inl xx] h Q := by
  refine ac_0 (d := d + 21) (fun w p p1 p2 => ?_) (fun w => ?_)
  · obtain ⟨pn, rfl⟩ : ∃ n : Nat, p = (n : Int) := ⟨p.toNat, by omega⟩
    exact act_night (d := d + 16) ⟨by omega, by omega⟩ (by omega) j (fun h1 u1 S1 J1 O1 => q h1 u1 S1 _ J1 (.inl ⟨pn, by omega, rfl⟩) O1)
  · obtain ⟨nn, ca, ka, oa, ta, I, wr, y, bh, ms, mi, li, ub, hc, z, rs, rn⟩ := id j
    obtain ⟨e1, e2, e3, e4, e5, e6, e7, e8⟩ := id ms
    have wg := wr.2.2.2.2.1
    refine ac_59 (d := d + 21) (n := (yC M).length) (ca := ca) (gr := yG M) (by omega) ⟨by omega, by omega⟩ y.2.1.1 y.2.2.2.2.2.1.2.1 (fun w f a0 a1 a2 a3 b0 b1 b2 b3 => ?_)
    refine act_comma (d := d) (x := (a0, a1, a2, a3)) (t := t) vf ⟨b0.1, b0.2, b1.1, b1.2, b2.1, b2.2, b3.1, b3.2⟩ ht j (nwI_s (nwI_s (nwI_s (nwI_s (nwI_g h 4))))) rfl ⟨?_, ?_, ?_, ?_⟩ (fun h1 u1 S1 J1 O1 => q h1 u1 S1 _ J1 (.inr ⟨(a0, a1, a2, a3), b0.1, b0.2, rfl⟩) O1)
    · exact (setI_ne (by omega)).trans ((setI_ne (by omega)).trans ((setI_ne (by omega)).trans (setI_self _ _ _ _)))
    · exact (setI_ne (by omega)).trans ((setI_ne (by omega)).trans (setI_self _ _ _ _))
    · exact (setI_ne (by omega)).trans (setI_self _ _ _ _)
    · exact setI_self _ _ _ _
