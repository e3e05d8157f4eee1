/-! The stream by hand: nights go by. -/
theorem pa_4 {d sm p k nt ma : Nat} {c gr mk : Int} {B : Bk} {P : PH → Nat → Prop} {h : PH} {Q : Rs → PH → Prop} (hk : k ≤ p) (hp3 : p ≤ 30) (hgr : -1 ≤ gr ∧ gr ≤ 999) (hmk : 0 ≤ mk ∧ mk ≤ 2000) (hM : 1 ≤ B.1.length ∧ B.1.length ≤ 8) (hal : 0 ≤ B.1.getD (((nt + 1 : Nat) : Int) % (B.1.length : Int)).toNat 0 ∧ B.1.getD (((nt + 1 : Nat) : Int) % (B.1.length : Int)).toNat 0 ≤ 99) (hnt : nt < 99999) (e0 : h.2.2.1 sm 0 = (11, 0, 83)) (e5 : h.2.2.1 83 5 = (20, B.1.length, ma)) (e6 : h.1 sm 6 = iZ gr) (e7 : h.1 sm 7 = iZ mk) (em0 : ∀ j, j < B.1.length → h.1 ma j = iZ (B.1.getD j 0)) (en0 : h.1 sm 5 = iZ (nt : Int)) (hma : ma ≠ sm) (hp : k < p → ∀ Q1 : Rs → PH → Prop, (∀ h1 c, P h1 c → Q1 (.inl (some (.inl (iZ (c : Int))))) h1) → Rn (d + 1) 176 [.inr (.inr (.inr (12, 0, sm)))] (setI (setI h sm 5 (iZ ((nt : Int) + 1))) sm 7 (iZ (max mk (gr - (B.1.getD (((nt + 1 : Nat) : Int) % (B.1.length : Int)).toNat 0))))) Q1) (k0 : k = p → Q (.inl (some (.inl (iZ c)))) h) (k1 : k < p → ∀ h1 j, P h1 j → Ev (d + 2) 175 (4, [some (.inr (.inr (.inr (12, 0, sm)))), some (.inl (iZ ((p : Int)))), some (.inl (iZ (c + (j : Int)))), some (.inl (iZ ((k : Int) + 1)))], [], h1) Q) : Ev (d + 2) 175 (4, [some (.inr (.inr (.inr (12, 0, sm)))), some (.inl (iZ ((p : Int)))), some (.inl (iZ (c))), some (.inl (iZ ((k : Int))))], [], h) Q := by
  have e7b : (setI h sm 5 ((iZ ((nt : Int) + 1)))).1 sm 7 = iZ mk := (setI_ne (by omega)).trans e7
  have e6b : (setI h sm 5 ((iZ ((nt : Int) + 1)))).1 sm 6 = iZ gr := (setI_ne (by omega)).trans e6
  have em : ∀ j, j < B.1.length → (setI h sm 5 ((iZ ((nt : Int) + 1)))).1 ma j = iZ (B.1.getD j 0) := fun j hj => (setI_ne (fun z => hma z.1)).trans (em0 j hj)
  have en : (setI h sm 5 ((iZ ((nt : Int) + 1)))).1 sm 5 = iZ ((nt + 1 : Nat) : Int) := setI_self _ _ _ _
  refine Ev.sts 2 (c' := (6, [some (.inr (.inr (.inr (12, 0, sm)))), some (.inl (iZ ((p : Int)))), some (.inl (iZ (c))), some (.inl (iZ ((k : Int))))], [.inl (iZ ((p : Int))), .inl (iZ ((k : Int)))], h)) rfl ?_
  refine Ev.brc (p := (iZ ((p : Int))) ≤ (iZ ((k : Int)))) (q := (((p : Int) : Int)) ≤ (k : Int)) (c1 := (52, [some (.inr (.inr (.inr (12, 0, sm)))), some (.inl (iZ ((p : Int)))), some (.inl (iZ (c))), some (.inl (iZ ((k : Int))))], [], h)) (c2 := (9, [some (.inr (.inr (.inr (12, 0, sm)))), some (.inl (iZ ((p : Int)))), some (.inl (iZ (c))), some (.inl (iZ ((k : Int))))], [], h)) rfl (iZ_le ⟨by omega, by omega⟩ ⟨by omega, by omega⟩) (fun c0 => ?_) (fun c0 => ?_)
  · refine Ev.sts 1 (c' := (53, [some (.inr (.inr (.inr (12, 0, sm)))), some (.inl (iZ ((p : Int)))), some (.inl (iZ (c))), some (.inl (iZ ((k : Int))))], [.inl (iZ (c))], h)) rfl ?_
    exact Ev.ret rfl (k0 (by omega))
  · refine Ev.sts 2 (c' := (11, [some (.inr (.inr (.inr (12, 0, sm)))), some (.inl (iZ ((p : Int)))), some (.inl (iZ (c))), some (.inl (iZ ((k : Int))))], [.inr (.inr (.inr (12, 0, sm))), .inr (.inr (.inr (12, 0, sm)))], h)) rfl ?_
    refine Ev.gv (w := (iZ ((nt : Int)))) rfl en0 ?_
    refine Ev.sts 1 (c' := (15, [some (.inr (.inr (.inr (12, 0, sm)))), some (.inl (iZ ((p : Int)))), some (.inl (iZ (c))), some (.inl (iZ ((k : Int))))], [.inl (iZ (1)), .inl (iZ ((nt : Int))), .inr (.inr (.inr (12, 0, sm)))], h)) rfl ?_
    refine Ev.gv (w := (iZ (((nt : Int)) + 1))) rfl (iZ_add _ _) ?_
    refine Ev.sts 3 (c' := (21, [some (.inr (.inr (.inr (12, 0, sm)))), some (.inl (iZ ((p : Int)))), some (.inl (iZ (c))), some (.inl (iZ ((k : Int))))], [.inr (.inr (.inr (12, 0, sm))), .inr (.inr (.inr (12, 0, sm)))], (setI h sm 5 ((iZ (((nt : Int)) + 1)))))) rfl ?_
    refine Ev.gv (w := (iZ (mk))) rfl e7b ?_
    refine Ev.sts 1 (c' := (25, [some (.inr (.inr (.inr (12, 0, sm)))), some (.inl (iZ ((p : Int)))), some (.inl (iZ (c))), some (.inl (iZ ((k : Int))))], [.inr (.inr (.inr (12, 0, sm))), .inl (iZ (mk)), .inr (.inr (.inr (12, 0, sm)))], (setI h sm 5 ((iZ (((nt : Int)) + 1)))))) rfl ?_
    refine Ev.gv (w := (iZ (gr))) rfl e6b ?_
    refine Ev.sts 1 (c' := (29, [some (.inr (.inr (.inr (12, 0, sm)))), some (.inl (iZ ((p : Int)))), some (.inl (iZ (c))), some (.inl (iZ ((k : Int))))], [.inr (.inr (.inr (12, 0, sm))), .inl (iZ (gr)), .inl (iZ (mk)), .inr (.inr (.inr (12, 0, sm)))], (setI h sm 5 ((iZ (((nt : Int)) + 1)))))) rfl ?_
    refine Ev.callv (a := [.inr (.inr (.inr (12, 0, sm)))]) rfl (ls_allow (M := B.1) (nt := nt + 1) (ma := ma) e0 e5 hM em en (by omega)) ?_
    refine Ev.gv (w := (iZ (gr - (B.1.getD (((nt + 1 : Nat) : Int) % (B.1.length : Int)).toNat 0)))) rfl (iZ_sub _ _) ?_
    refine Ev.gv (w := (iZ (max mk (gr - (B.1.getD (((nt + 1 : Nat) : Int) % (B.1.length : Int)).toNat 0))))) rfl (iZ_max ⟨by omega, by omega⟩ ⟨by omega, by omega⟩) ?_
    refine Ev.sts 3 (c' := (41, [some (.inr (.inr (.inr (12, 0, sm)))), some (.inl (iZ ((p : Int)))), some (.inl (iZ (c))), some (.inl (iZ ((k : Int))))], [.inr (.inr (.inr (12, 0, sm))), .inl (iZ (c))], (setI (setI h sm 5 ((iZ (((nt : Int)) + 1)))) sm 7 ((iZ (max mk (gr - (B.1.getD (((nt + 1 : Nat) : Int) % (B.1.length : Int)).toNat 0)))))))) rfl ?_
    refine Ev.callw (a := [.inr (.inr (.inr (12, 0, sm)))]) rfl (hp (by omega) _ (fun h1 j p1 => ?_))
    refine Ev.gv (w := (iZ (c + ((j : Int))))) rfl (iZ_add _ _) ?_
    refine Ev.sts 1 (c' := (46, [some (.inr (.inr (.inr (12, 0, sm)))), some (.inl (iZ ((p : Int)))), some (.inl (iZ (c + ((j : Int))))), some (.inl (iZ ((k : Int))))], [], h1)) rfl ?_
    refine Ev.stc (c1 := (49, [some (.inr (.inr (.inr (12, 0, sm)))), some (.inl (iZ ((p : Int)))), some (.inl (iZ (c + ((j : Int))))), some (.inl ((iZ ((k : Int))) + (iZ (1))))], [], h1)) (c2 := (49, [some (.inr (.inr (.inr (12, 0, sm)))), some (.inl (iZ ((p : Int)))), some (.inl (iZ (c + ((j : Int))))), some (.inl (iZ (((k : Int)) + 1)))], [], h1)) rfl (by rw [iZ_add]) ?_
    refine Ev.sts 1 (c' := (4, [some (.inr (.inr (.inr (12, 0, sm)))), some (.inl (iZ ((p : Int)))), some (.inl (iZ (c + ((j : Int))))), some (.inl (iZ (((k : Int)) + 1)))], [], h1)) rfl ?_
    exact k1 (by omega) h1 j p1

/-- a night goes by: the mark; what is over is told -/
def nmY (B : Bk) (M : Ms) : Ms := mkM (yC M) (yO M) (yT M) (yN M + 1) (yG M) (max (yK M) (yG M - alB B ((yN M : Int) + 1))) (yL M)
def nigY (B : Bk) (M : Ms) : Ms := tlM (nmY B M)
def nigM (B : Bk) (M : Ms) : Nat → Ms
  | 0 => M
  | k + 1 => nigY B (nigM B M k)
theorem bf_mo2 {h0 h : PH} {sm mn al : Nat} {B : Bk} (b : BH h0 h sm B mn al) : ∃ ma, h.2.2.1 83 5 = (20, B.1.length, ma) ∧ (1 ≤ B.1.length ∧ B.1.length ≤ 4) ∧ (∀ j, j < B.1.length → h.1 ma j = iZ (B.1.getD j 0) ∧ 0 ≤ B.1.getD j 0 ∧ B.1.getD j 0 ≤ 99) ∧ ma ≠ sm := by
  obtain ⟨ma, m1, m2, m3, m4, m5⟩ := b.1.2.2
  have hs := b.2.1
  have h8 := b.2.2.1
  refine ⟨ma, by rw [(bf_r b 83 (by decide) (by omega)).2]; exact m1, m4, fun j hj => ?_, by omega⟩
  rw [(bf_r b ma (by omega) (by omega)).1]
  exact m5 j hj
theorem kp_gn (m : Int) : ∀ L : List Wn, (kpL L m).length + (gnW L m).length = L.length := by
  intro L
  induction L with
  | nil => rfl
  | cons x L ih =>
    by_cases c : m < x.2.2.1
    · rw [kpL_y c, gnW_n (by omega), List.length_cons, List.length_cons]; omega
    · rw [kpL_n c, gnW_y (by omega), List.length_cons, List.length_cons]; omega
theorem nig_f {B : Bk} {M : Ms} (hal : ∀ x : Int, 0 ≤ alB B x ∧ alB B x ≤ 99) (hgr : yG M ≤ 999) (hmk : 0 ≤ yK M ∧ yK M ≤ 2000) : ∀ k : Nat, yN (nigM B M k) = yN M + k ∧ yG (nigM B M k) = yG M ∧ yC (nigM B M k) = yC M ∧ yL (nigM B M k) = yL M ∧ (0 ≤ yK (nigM B M k) ∧ yK (nigM B M k) ≤ 2000 ∧ yK M ≤ yK (nigM B M k)) ∧ (yO (nigM B M k)).length + (yT (nigM B M k)).length = (yO M).length + (yT M).length ∧ (∀ w ∈ yO (nigM B M k), w ∈ yO M) ∧ (∀ w ∈ yT (nigM B M k), w ∈ yT M ∨ w ∈ yO M) ∧ (yT M).length ≤ (yT (nigM B M k)).length := by
  intro k
  induction k with
  | zero => exact ⟨rfl, rfl, rfl, rfl, ⟨hmk.1, hmk.2, Int.le_refl _⟩, rfl, fun w hw => hw, fun w hw => .inl hw, Nat.le_refl _⟩
  | succ k ih =>
    obtain ⟨i1, i2, i3, i4, i5, i6, i7, i8, i9⟩ := ih
    have a := hal ((yN (nigM B M k) : Int) + 1)
    have kk : yK (nigM B M (k + 1)) = max (yK (nigM B M k)) (yG (nigM B M k) - alB B ((yN (nigM B M k) : Int) + 1)) := rfl
    refine ⟨by show yN (nigM B M k) + 1 = _; omega, i2, i3, i4, by rw [kk]; omega, ?_, fun w hw => i7 w (List.mem_filter.mp hw).1, fun w hw => ?_, ?_⟩
    · show (kpL (yO (nigM B M k)) (yK (nigM B M (k + 1)))).length + (yT (nigM B M k) ++ gnW (yO (nigM B M k)) (yK (nigM B M (k + 1)))).length = _
      have := kp_gn (yK (nigM B M (k + 1))) (yO (nigM B M k))
      rw [List.length_append]
      omega
    · rcases List.mem_append.mp hw with e | e
      · exact i8 w e
      · exact .inr (i7 w (List.mem_filter.mp e).1)
    · show _ ≤ (yT (nigM B M k) ++ gnW (yO (nigM B M k)) (yK (nigM B M (k + 1)))).length
      rw [List.length_append]
      omega
theorem pa_lp {d sm p mn al K1 : Nat} {u : Q5} {M : Ms} {B : Bk} {hb : PH} {Q : Rs → PH → Prop} (hp : p ≤ 30) (hal : ∀ x : Int, 0 ≤ alB B x ∧ alB B x ≤ 99) (hgr : -1 ≤ yG M ∧ yG M ≤ 999) (hmk : 0 ≤ yK M ∧ yK M ≤ 2000) (hnt : yN M + 30 < 99999) (hK1 : K1 ≤ 5000) (hl : (yO M).length ≤ K1) (hT : (yT M).length + (yO M).length ≤ 5000) (hB : ∀ x ∈ yO M, 0 ≤ x.2.2.1 ∧ x.2.2.1 ≤ 1300) (m : Nat) : ∀ (k : Nat) (c : Int) (ca ka oa ta : Nat) (h : PH), k + m = p → SMh h sm u ca ka oa ta (nigM B M k) → BH hb h sm B mn al → c = ((yT (nigM B M k)).length : Int) - (yT M).length → (∀ h1 oa1 ta1, SMh h1 sm u ca ka oa1 ta1 (nigM B M p) → SI sm sm h h1 → hS h1 + pw K1 (yO (nigM B M p)).length + tri (yT (nigM B M k)).length ≤ hS h + pw K1 (yO (nigM B M k)).length + tri (yT (nigM B M p)).length → hN h1 + 2 * (yO (nigM B M p)).length ≤ hN h + 2 * (yO (nigM B M k)).length → Q (.inl (some (.inl (iZ (((yT (nigM B M p)).length : Int) - (yT M).length))))) h1) → Ev (d + 2) 175 (4, [some (.inr (.inr (.inr (12, 0, sm)))), some (.inl (iZ ((p : Int)))), some (.inl (iZ (c))), some (.inl (iZ ((k : Int))))], [], h) Q := by
  induction m with
  | zero =>
    intro k c ca ka oa ta h hk x bh ec q
    obtain rfl : k = p := by omega
    obtain ⟨ma, f5, f4, f6, fm⟩ := bf_mo2 bh
    obtain ⟨i1, i2, i3, i4, i5, i6, i7, i8, i9⟩ := nig_f (M := M) hal hgr.2 hmk k
    refine pa_4 (d := d) (B := B) (nt := yN (nigM B M k)) (ma := ma) (gr := yG (nigM B M k)) (mk := yK (nigM B M k)) (P := fun _ _ => False) (Nat.le_refl _) hp (by omega) ⟨i5.1, i5.2.1⟩ ⟨f4.1, by omega⟩ (hal _) (by omega) x.1 f5 x.2.2.2.2.2.1.2.1 x.2.2.2.2.2.1.2.2 (fun j hj => (f6 j hj).1) x.2.2.2.2.2.1.1 fm (fun z => by omega) (fun _ => ?_) (fun z => by omega)
    rw [ec]
    exact q h oa ta x (SI_r _ _ _) (Nat.le_refl _) (Nat.le_refl _)
  | succ m ih =>
    intro k c ca ka oa ta h hk x bh ec q
    obtain ⟨ma, f5, f4, f6, fm⟩ := bf_mo2 bh
    obtain ⟨i1, i2, i3, i4, i5, i6, i7, i8, i9⟩ := nig_f (M := M) hal hgr.2 hmk k
    obtain ⟨j1, j2, j3, j4, j5, j6, j7, j8, j9⟩ := nig_f (M := M) hal hgr.2 hmk (k + 1)
    have x5 := x.2.2.2.2.2.1
    have hs5 := x.2.2.2.2.2.2.2.2.2
    have lo := x.2.2.2.1.2.1
    have y5 : sNm (setI (setI h sm 5 (iZ ((yN (nigM B M k) : Int) + 1))) sm 7 (iZ (max (yK (nigM B M k)) (yG (nigM B M k) - (B.1.getD (((yN (nigM B M k) + 1 : Nat) : Int) % (B.1.length : Int)).toNat 0))))) sm (yN (nigM B M k) + 1) (yG (nigM B M k)) (max (yK (nigM B M k)) (yG (nigM B M k) - alB B ((yN (nigM B M k) : Int) + 1))) := ⟨(setI_ne (by omega)).trans (setI_self _ _ _ _), (setI_ne (by omega)).trans ((setI_ne (by omega)).trans x5.2.1), setI_self _ _ _ _⟩
    obtain ⟨Z, S⟩ := SM_num (h1 := setI (setI h sm 5 (iZ ((yN (nigM B M k) : Int) + 1))) sm 7 (iZ (max (yK (nigM B M k)) (yG (nigM B M k) - (B.1.getD (((yN (nigM B M k) + 1 : Nat) : Int) % (B.1.length : Int)).toNat 0))))) x rfl (fun a ha => (setI_oth ha).trans (setI_oth ha)) y5
    have Z : SMh (setI (setI h sm 5 (iZ ((yN (nigM B M k) : Int) + 1))) sm 7 (iZ (max (yK (nigM B M k)) (yG (nigM B M k) - (B.1.getD (((yN (nigM B M k) + 1 : Nat) : Int) % (B.1.length : Int)).toNat 0))))) sm u ca ka oa ta (nmY B (nigM B M k)) := Z
    have kk : 0 ≤ yK (nmY B (nigM B M k)) ∧ yK (nmY B (nigM B M k)) ≤ 2000 := ⟨j5.1, j5.2.1⟩
    refine pa_4 (d := d) (B := B) (nt := yN (nigM B M k)) (ma := ma) (gr := yG (nigM B M k)) (mk := yK (nigM B M k)) (P := fun h8 c => c = (gnW (yO (nigM B M k)) (yK (nmY B (nigM B M k)))).length ∧ ∃ oa8 ta8, SMh h8 sm u ca ka oa8 ta8 (nigM B M (k + 1)) ∧ SI sm sm h h8 ∧ hS h8 + pw K1 (yO (nigM B M (k + 1))).length + tri (yT (nigM B M k)).length ≤ hS h + pw K1 (yO (nigM B M k)).length + tri (yT (nigM B M (k + 1))).length ∧ hN h8 + 2 * (yO (nigM B M (k + 1))).length ≤ hN h + 2 * (yO (nigM B M k)).length) (by omega) hp (by omega) ⟨i5.1, i5.2.1⟩ ⟨f4.1, by omega⟩ (hal _) (by omega) x.1 f5 x5.2.1 x5.2.2 (fun j hj => (f6 j hj).1) x5.1 fm (fun _ Q1 q1 => ?_) (fun z => by omega) (fun _ h8 c8 P8 => ?_)
    · refine ls_tell (d := d) (K1 := K1) Z kk hK1 (by show (yO (nigM B M k)).length ≤ K1; omega) (by show (yT (nigM B M k)).length + (yO (nigM B M k)).length ≤ 5000; omega) (fun w hw => hB w (i7 w hw)) (fun h8 oa8 ta8 W S8 r1 r2 => q1 h8 _ ⟨rfl, oa8, ta8, W, SI_t S S8 (.inl rfl), r1, r2⟩)
    · obtain ⟨e8, oa8, ta8, W, S8, r1, r2⟩ := P8
      have lT : (yT (nigM B M (k + 1))).length = (yT (nigM B M k)).length + (gnW (yO (nigM B M k)) (yK (nmY B (nigM B M k)))).length := List.length_append
      have := ih (k + 1) (c + (c8 : Int)) ca ka oa8 ta8 h8 (by omega) W (BH_k bh (SI_K S8 hs5 (Nat.le_refl _))) (by omega) (fun h9 oa9 ta9 V S9 t1 t2 => q h9 oa9 ta9 V (SI_t S8 S9 (.inl rfl)) (by omega) (by omega))
      exact this
theorem ls_pass {d sm p mn al K1 ca ka oa ta : Nat} {u : Q5} {M : Ms} {B : Bk} {hb h : PH} {Q : Rs → PH → Prop} (hp : p ≤ 30) (hal : ∀ x : Int, 0 ≤ alB B x ∧ alB B x ≤ 99) (hgr : -1 ≤ yG M ∧ yG M ≤ 999) (hmk : 0 ≤ yK M ∧ yK M ≤ 2000) (hnt : yN M + 30 < 99999) (hK1 : K1 ≤ 5000) (hl : (yO M).length ≤ K1) (hT : (yT M).length + (yO M).length ≤ 5000) (hB : ∀ x ∈ yO M, 0 ≤ x.2.2.1 ∧ x.2.2.1 ≤ 1300) (x : SMh h sm u ca ka oa ta M) (bh : BH hb h sm B mn al) (q : ∀ h1 oa1 ta1, SMh h1 sm u ca ka oa1 ta1 (nigM B M p) → SI sm sm h h1 → hS h1 + pw K1 (yO (nigM B M p)).length + tri (yT M).length ≤ hS h + pw K1 (yO M).length + tri (yT (nigM B M p)).length → hN h1 + 2 * (yO (nigM B M p)).length ≤ hN h + 2 * (yO M).length → Q (.inl (some (.inl (iZ (((yT (nigM B M p)).length : Int) - (yT M).length))))) h1) : Rn (d + 2) 175 [.inr (.inr (.inr (12, 0, sm))), .inl (iZ (p : Int))] h Q := by
  refine Ev.sts 4 (c' := (4, [some (.inr (.inr (.inr (12, 0, sm)))), some (.inl (iZ ((p : Int)))), some (.inl (iZ (0))), some (.inl (iZ (0)))], [], h)) rfl ?_
  exact pa_lp (d := d) (M := M) hp hal hgr hmk hnt hK1 hl hT hB p 0 0 ca ka oa ta h (by omega) x bh (by show (0 : Int) = ((yT M).length : Int) - (yT M).length; omega) q
