/-! The stream by hand: takers, allowance, a window's value. -/
/-- one new row of ints -/
def nwI (h h1 : PH) (n : Nat) : Prop := h1.2.2.1 = h.2.2.1 ∧ (∀ a, a ≠ hN h → h1.1 a = h.1 a) ∧ hN h1 = hN h + 1 ∧ hS h1 = hS h + n
theorem nwI_g (h : PH) (n : Nat) : nwI h (grow h n) n := ⟨rfl, fun _ _ => rfl, rfl, rfl⟩
theorem nwI_s {h h1 : PH} {n k : Nat} {v : Int32} (x : nwI h h1 n) : nwI h (setI h1 (hN h) k v) n := ⟨x.1, fun a ha => (setI_oth ha).trans (x.2.1 a ha), x.2.2.1, x.2.2.2⟩
theorem nwI_SI {h h1 : PH} {n sm : Nat} (x : nwI h h1 n) : SI sm sm h h1 := ⟨fun a a1 _ _ => x.2.1 a (by omega), fun _ _ _ _ => by rw [x.1], fun a ha => x.2.1 a (by have := x.2.2.1; omega), by have := x.2.2.1; omega⟩
theorem tk_or : ∀ (k : Fin 8) (n : Fin 256) (i : Fin 8), n.val < 2 ^ k.val → bitv (iZ (n.val : Int) ||| (iZ 1 <<< (iZ (k.val : Int) &&& 31))) (iZ (i.val : Int)) = if i = k then iZ 1 else bitv (iZ (n.val : Int)) (iZ (i.val : Int)) := by decide +kernel
theorem tk_0 : ∀ (k : Fin 8) (n : Fin 256), n.val < 2 ^ k.val → bitv (iZ (n.val : Int)) (iZ (k.val : Int)) = iZ 0 := by decide +kernel
/-- the mask that the flocks make -/
def mkF (fv : Nat → Ctx → Int32 → Int32) (x : Ctx) : Nat → Nat → Int32 → Int32
  | 0, _, tk => tk
  | m + 1, f, tk => mkF fv x m (f + 1) (tk ||| (fv f x tk <<< (iZ f &&& 31)))
theorem mkF_b {fv : Nat → Ctx → Int32 → Int32} {x : Ctx} : ∀ (m f n : Nat), f + m ≤ 8 → (∀ g, f ≤ g → g < f + m → b01 (fv g)) → n < 2 ^ f → ∃ k : Nat, k < 2 ^ (f + m) ∧ mkF fv x m f (iZ (n : Int)) = iZ (k : Int) := by
  intro m
  induction m with
  | zero => intro f n _ _ hn; exact ⟨n, hn, rfl⟩
  | succ m ih =>
    intro f n hf hb hn
    have p8 : 2 ^ f ≤ 128 := Nat.pow_le_pow_right (by decide) (show f ≤ 7 by omega)
    have e2 : 2 ^ (f + 1) = 2 ^ f * 2 := Nat.pow_succ 2 f
    have hb2 : ∀ g, f + 1 ≤ g → g < f + 1 + m → b01 (fv g) := fun g h1 h2 => hb g (by omega) (by omega)
    show ∃ k : Nat, k < 2 ^ (f + (m + 1)) ∧ mkF fv x m (f + 1) (iZ (n : Int) ||| (fv f x (iZ (n : Int)) <<< (iZ f &&& 31))) = iZ (k : Int)
    rw [show f + (m + 1) = f + 1 + m by omega]
    rcases hb f (Nat.le_refl _) (by omega) x (iZ (n : Int)) with e | e
    · rw [e, or_no ⟨f, by omega⟩ ⟨n, by omega⟩]
      exact ih (f + 1) n (by omega) hb2 (by omega)
    · have := or_bit ⟨f, by omega⟩ ⟨n, by omega⟩ hn
      rw [e, this]
      exact ih (f + 1) (n + 2 ^ f) (by omega) hb2 (by omega)
theorem mkF_jR {fv : Nat → Ctx → Int32 → Int32} {x : Ctx} : ∀ (F : List (List Cmd)) (f : Nat) (tk : Int32), (∀ j, j < F.length → EVk (F.getD j []) (fv (f + j)) 12) → jR F x f tk (mkF fv x F.length f tk) := by
  intro F
  induction F with
  | nil => intro f tk _; rfl
  | cons l F ih =>
    intro f tk h
    refine ⟨fv f x tk, ?_, ih (f + 1) _ (fun j hj => ?_)⟩
    · exact h 0 (Nat.zero_lt_succ _) x tk [] (by decide)
    · have := h (j + 1) (Nat.succ_lt_succ hj)
      rw [show f + (j + 1) = f + 1 + j by omega] at this
      exact this
theorem tkR_s {h : PH} {b k n : Nat} {v : Int32} (t : tkR h b (iZ (n : Int))) (hk : k < 8) (hn : n < 2 ^ k) (hv : v = iZ 0 ∨ v = iZ 1) : tkR (setI h b k v) b (iZ (n : Int) ||| (v <<< (iZ (k : Int) &&& 31))) := by
  have p8 : 2 ^ k ≤ 128 := Nat.pow_le_pow_right (by decide) (show k ≤ 7 by omega)
  intro i hi
  rcases hv with e | e
  · rw [e, or_no ⟨k, hk⟩ ⟨n, by omega⟩]
    by_cases c : i = k
    · rw [c, setI_self, tk_0 ⟨k, hk⟩ ⟨n, by omega⟩ hn]
    · rw [setI_ne (fun z => c z.2)]; exact t i hi
  · have q := tk_or ⟨k, hk⟩ ⟨n, by omega⟩ ⟨i, hi⟩ hn
    rw [e]
    refine Eq.trans ?_ q.symm
    by_cases c : i = k
    · subst c
      rw [setI_self, if_pos rfl]
    · rw [setI_ne (fun z => c z.2), if_neg (fun z => c (congrArg Fin.val z))]; exact t i hi
theorem tk_7 {d sm c b mn k ra : Nat} {v : Int32} {h : PH} {Q : Rs → PH → Prop} (hk : k ≤ mn) (hm : mn ≤ 8) (e0 : h.2.2.1 sm 0 = (11, 0, 83)) (e6 : h.2.2.1 83 6 = (27, 8, 85)) (e7 : h.1 83 7 = iZ (mn : Int)) (er : k < mn → h.2.2.1 85 k = (13, 0, ra)) (hv : k < mn → Rv d 183 [.inr (.inr (.inr (13, 0, ra))), .inr (.inr (.inr (20, 4, c))), .inr (.inr (.inr (26, 8, b)))] h (some (.inl v)) h) (k0 : mn ≤ k → Q (.inl (some (.inr (.inr (.inr (26, 8, b)))))) h) (k1 : k < mn → ¬ ¬ v = iZ (1) → Ev (d + 1) 180 (7, [some (.inr (.inr (.inr (12, 0, sm)))), some (.inr (.inr (.inr (20, 4, c)))), some (.inr (.inr (.inr (26, 8, b)))), some (.inl (iZ ((k : Int) + 1)))], [], (setI h b k (iZ (1)))) Q) (k2 : k < mn → ¬ v = iZ (1) → Ev (d + 1) 180 (7, [some (.inr (.inr (.inr (12, 0, sm)))), some (.inr (.inr (.inr (20, 4, c)))), some (.inr (.inr (.inr (26, 8, b)))), some (.inl (iZ ((k : Int) + 1)))], [], (setI h b k (iZ (0)))) Q) : Ev (d + 1) 180 (7, [some (.inr (.inr (.inr (12, 0, sm)))), some (.inr (.inr (.inr (20, 4, c)))), some (.inr (.inr (.inr (26, 8, b)))), some (.inl (iZ ((k : Int))))], [], h) Q := by
  refine Ev.sts 2 (c' := (9, [some (.inr (.inr (.inr (12, 0, sm)))), some (.inr (.inr (.inr (20, 4, c)))), some (.inr (.inr (.inr (26, 8, b)))), some (.inl (iZ ((k : Int))))], [.inr (.inr (.inr (12, 0, sm))), .inl (iZ ((k : Int)))], h)) rfl ?_
  refine Ev.gfr (r := (11, 0, 83)) rfl e0 ?_
  refine Ev.gv (w := (iZ ((mn : Int)))) rfl e7 ?_
  refine Ev.brc (p := (iZ ((mn : Int))) ≤ (iZ ((k : Int)))) (q := (((mn : Int) : Int)) ≤ (k : Int)) (c1 := (50, [some (.inr (.inr (.inr (12, 0, sm)))), some (.inr (.inr (.inr (20, 4, c)))), some (.inr (.inr (.inr (26, 8, b)))), some (.inl (iZ ((k : Int))))], [], h)) (c2 := (18, [some (.inr (.inr (.inr (12, 0, sm)))), some (.inr (.inr (.inr (20, 4, c)))), some (.inr (.inr (.inr (26, 8, b)))), some (.inl (iZ ((k : Int))))], [], h)) rfl (iZ_le ⟨by omega, by omega⟩ ⟨by omega, by omega⟩) (fun c0 => ?_) (fun c0 => ?_)
  · refine Ev.sts 1 (c' := (51, [some (.inr (.inr (.inr (12, 0, sm)))), some (.inr (.inr (.inr (20, 4, c)))), some (.inr (.inr (.inr (26, 8, b)))), some (.inl (iZ ((k : Int))))], [.inr (.inr (.inr (26, 8, b)))], h)) rfl ?_
    exact Ev.ret rfl (k0 (by omega))
  · refine Ev.sts 3 (c' := (21, [some (.inr (.inr (.inr (12, 0, sm)))), some (.inr (.inr (.inr (20, 4, c)))), some (.inr (.inr (.inr (26, 8, b)))), some (.inl (iZ ((k : Int))))], [.inr (.inr (.inr (12, 0, sm))), .inl (iZ ((k : Int))), .inr (.inr (.inr (26, 8, b)))], h)) rfl ?_
    refine Ev.gfr (r := (11, 0, 83)) rfl e0 ?_
    refine Ev.gfr (r := (27, 8, 85)) rfl e6 ?_
    refine Ev.sts 1 (c' := (28, [some (.inr (.inr (.inr (12, 0, sm)))), some (.inr (.inr (.inr (20, 4, c)))), some (.inr (.inr (.inr (26, 8, b)))), some (.inl (iZ ((k : Int))))], [.inl (iZ ((k : Int))), .inr (.inr (.inr (27, 8, 85))), .inl (iZ ((k : Int))), .inr (.inr (.inr (26, 8, b)))], h)) rfl ?_
    refine Ev.ldv (j := (iZ ((k : Int)))) (n := 8) (w := .inr (.inr (.inr (13, 0, ra)))) (iZ_in (by omega) (by omega) (by omega)) rfl (by rw [iZ_ix (n := k) (by omega) (by omega)]; exact congrArg vR (er (by omega))) ?_
    refine Ev.sts 2 (c' := (31, [some (.inr (.inr (.inr (12, 0, sm)))), some (.inr (.inr (.inr (20, 4, c)))), some (.inr (.inr (.inr (26, 8, b)))), some (.inl (iZ ((k : Int))))], [.inr (.inr (.inr (26, 8, b))), .inr (.inr (.inr (20, 4, c))), .inr (.inr (.inr (13, 0, ra))), .inl (iZ ((k : Int))), .inr (.inr (.inr (26, 8, b)))], h)) rfl ?_
    refine Ev.callv (a := [.inr (.inr (.inr (13, 0, ra))), .inr (.inr (.inr (20, 4, c))), .inr (.inr (.inr (26, 8, b)))]) rfl (hv (by omega)) ?_
    refine Ev.sts 1 (c' := (35, [some (.inr (.inr (.inr (12, 0, sm)))), some (.inr (.inr (.inr (20, 4, c)))), some (.inr (.inr (.inr (26, 8, b)))), some (.inl (iZ ((k : Int))))], [.inl (iZ (1)), .inl (v), .inl (iZ ((k : Int))), .inr (.inr (.inr (26, 8, b)))], h)) rfl ?_
    refine Ev.br (p := ¬ v = (iZ (1))) (c1 := (42, [some (.inr (.inr (.inr (12, 0, sm)))), some (.inr (.inr (.inr (20, 4, c)))), some (.inr (.inr (.inr (26, 8, b)))), some (.inl (iZ ((k : Int))))], [.inl (iZ ((k : Int))), .inr (.inr (.inr (26, 8, b)))], h)) (c2 := (38, [some (.inr (.inr (.inr (12, 0, sm)))), some (.inr (.inr (.inr (20, 4, c)))), some (.inr (.inr (.inr (26, 8, b)))), some (.inl (iZ ((k : Int))))], [.inl (iZ ((k : Int))), .inr (.inr (.inr (26, 8, b)))], h)) rfl (fun c1 => ?_) (fun c1 => ?_)
    · refine Ev.sts 1 (c' := (43, [some (.inr (.inr (.inr (12, 0, sm)))), some (.inr (.inr (.inr (20, 4, c)))), some (.inr (.inr (.inr (26, 8, b)))), some (.inl (iZ ((k : Int))))], [.inl (iZ (0)), .inl (iZ ((k : Int))), .inr (.inr (.inr (26, 8, b)))], h)) rfl ?_
      refine Ev.sto (j := (iZ ((k : Int)))) (n := 8) (h2 := (setI h b k (iZ (0)))) (iZ_in (by omega) (by omega) (by omega)) rfl (by rw [iZ_ix (n := k) (by omega) (by omega)] <;> rfl) ?_
      refine Ev.stc (c1 := (47, [some (.inr (.inr (.inr (12, 0, sm)))), some (.inr (.inr (.inr (20, 4, c)))), some (.inr (.inr (.inr (26, 8, b)))), some (.inl ((iZ ((k : Int))) + (iZ (1))))], [], (setI h b k (iZ (0))))) (c2 := (47, [some (.inr (.inr (.inr (12, 0, sm)))), some (.inr (.inr (.inr (20, 4, c)))), some (.inr (.inr (.inr (26, 8, b)))), some (.inl (iZ (((k : Int)) + 1)))], [], (setI h b k (iZ (0))))) rfl (by rw [iZ_add]) ?_
      refine Ev.sts 1 (c' := (7, [some (.inr (.inr (.inr (12, 0, sm)))), some (.inr (.inr (.inr (20, 4, c)))), some (.inr (.inr (.inr (26, 8, b)))), some (.inl (iZ (((k : Int)) + 1)))], [], (setI h b k (iZ (0))))) rfl ?_
      exact k2 (by omega) c1
    · refine Ev.sts 2 (c' := (43, [some (.inr (.inr (.inr (12, 0, sm)))), some (.inr (.inr (.inr (20, 4, c)))), some (.inr (.inr (.inr (26, 8, b)))), some (.inl (iZ ((k : Int))))], [.inl (iZ (1)), .inl (iZ ((k : Int))), .inr (.inr (.inr (26, 8, b)))], h)) rfl ?_
      refine Ev.sto (j := (iZ ((k : Int)))) (n := 8) (h2 := (setI h b k (iZ (1)))) (iZ_in (by omega) (by omega) (by omega)) rfl (by rw [iZ_ix (n := k) (by omega) (by omega)] <;> rfl) ?_
      refine Ev.stc (c1 := (47, [some (.inr (.inr (.inr (12, 0, sm)))), some (.inr (.inr (.inr (20, 4, c)))), some (.inr (.inr (.inr (26, 8, b)))), some (.inl ((iZ ((k : Int))) + (iZ (1))))], [], (setI h b k (iZ (1))))) (c2 := (47, [some (.inr (.inr (.inr (12, 0, sm)))), some (.inr (.inr (.inr (20, 4, c)))), some (.inr (.inr (.inr (26, 8, b)))), some (.inl (iZ (((k : Int)) + 1)))], [], (setI h b k (iZ (1))))) rfl (by rw [iZ_add]) ?_
      refine Ev.sts 1 (c' := (7, [some (.inr (.inr (.inr (12, 0, sm)))), some (.inr (.inr (.inr (20, 4, c)))), some (.inr (.inr (.inr (26, 8, b)))), some (.inl (iZ (((k : Int)) + 1)))], [], (setI h b k (iZ (1))))) rfl ?_
      exact k1 (by omega) c1

theorem tk_in {d sm c : Nat} {h : PH} {Q : Rs → PH → Prop} (k1 : Ev d 180 (7, [some (.inr (.inr (.inr (12, 0, sm)))), some (.inr (.inr (.inr (20, 4, c)))), some (.inr (.inr (.inr (26, 8, (hN h))))), some (.inl (iZ (0)))], [], (grow h 8)) Q) : Rn d 180 [.inr (.inr (.inr (12, 0, sm))), .inr (.inr (.inr (20, 4, c)))] h Q := by
  refine Ev.sts 1 (c' := (2, [some (.inr (.inr (.inr (12, 0, sm)))), some (.inr (.inr (.inr (20, 4, c)))), none, none], [.inl (iZ (8))], h)) rfl ?_
  refine Ev.sts 1 (c' := (4, [some (.inr (.inr (.inr (12, 0, sm)))), some (.inr (.inr (.inr (20, 4, c)))), none, none], [.inr (.inr (.inr (26, 8, (hN h))))], (grow h 8))) rfl ?_
  refine Ev.sts 3 (c' := (7, [some (.inr (.inr (.inr (12, 0, sm)))), some (.inr (.inr (.inr (20, 4, c)))), some (.inr (.inr (.inr (26, 8, (hN h))))), some (.inl (iZ (0)))], [], (grow h 8))) rfl ?_
  exact k1

theorem tk_lp {d sm c b mn al : Nat} {x : Ctx} {B : Bk} {hb h0 : PH} {fv gv : Nat → Ctx → Int32 → Int32} {Q : Rs → PH → Prop} (vf : VF hb B fv gv) (hb_ : b = hN h0) (hsm : sm + 5 < b) (hc : c < b) (q : ∀ h1, nwI h0 h1 8 → tkR h1 b (mkF fv x mn 0 (iZ 0)) → Q (.inl (some (.inr (.inr (.inr (26, 8, b)))))) h1) (i : Nat) : ∀ (k n : Nat) (h : PH), k + i = mn → BH hb h sm B mn al → h.2.2.1 sm 0 = (11, 0, 83) → coR h c x → nwI h0 h 8 → tkR h b (iZ (n : Int)) → n < 2 ^ k → mkF fv x i k (iZ (n : Int)) = mkF fv x mn 0 (iZ 0) → Ev (d + 20) 180 (7, [some (.inr (.inr (.inr (12, 0, sm)))), some (.inr (.inr (.inr (20, 4, c)))), some (.inr (.inr (.inr (26, 8, b)))), some (.inl (iZ ((k : Int))))], [], h) Q := by
  induction i with
  | zero =>
    intro k n h hk bh e0 co x0 t hn em
    have al8 := bf_al bh
    refine tk_7 (d := d + 19) (ra := 0) (v := iZ 0) (by omega) al8.2.1 e0 (bf_6 bh) (bf_7 bh) (fun z => by omega) (fun z => by omega) (fun _ => q h x0 ?_) (fun z => by omega) (fun z => by omega)
    rw [← em]; exact t
  | succ i ih =>
    intro k n h hk bh e0 co x0 t hn em
    subst hb_
    have al8 := bf_al bh
    have k8 : k < 8 := by omega
    obtain ⟨ra, er, tr⟩ := bf_f bh vf (show k < mn by omega)
    have b1 := (vf.1 k (by omega)).2.1 x (iZ (n : Int))
    have p8 : 2 ^ k ≤ 128 := Nat.pow_le_pow_right (by decide) (show k ≤ 7 by omega)
    have e2 : 2 ^ (k + 1) = 2 ^ k * 2 := Nat.pow_succ 2 k
    have kk : Kp sm (fun a => a ≤ 82) h0 h0 := Kp_r _ _ _
    have st : ∀ v, fv k x (iZ (n : Int)) = v → (v = iZ 0 ∨ v = iZ 1) → Ev (d + 20) 180 (7, [some (.inr (.inr (.inr (12, 0, sm)))), some (.inr (.inr (.inr (20, 4, c)))), some (.inr (.inr (.inr (26, 8, hN h0)))), some (.inl (iZ ((k : Int) + 1)))], [], (setI h (hN h0) k v)) Q := fun v hv hv2 => by
      have bh1 : BH hb (setI h (hN h0) k v) sm B mn al := BH_k bh (Kp_I (fun z => by omega) (by have := x0.2.2.1; omega))
      have co1 : coR (setI h (hN h0) k v) c x := by unfold coR; rw [setI_oth (show c ≠ hN h0 by omega)]; exact co
      have em1 : mkF fv x i (k + 1) (iZ (n : Int) ||| (v <<< (iZ (k : Int) &&& 31))) = mkF fv x mn 0 (iZ 0) := by rw [← em, ← hv]; rfl
      have t1 := tkR_s t k8 hn hv2
      rcases hv2 with e | e
      · have eo := or_no ⟨k, k8⟩ ⟨n, by omega⟩
        rw [e] at em1 t1 ⊢
        rw [eo] at em1 t1
        rw [e] at bh1 co1
        exact ih (k + 1) n _ (by omega) bh1 e0 co1 (nwI_s x0) t1 (by omega) em1
      · have eo := or_bit ⟨k, k8⟩ ⟨n, by omega⟩ hn
        rw [e] at em1 t1 ⊢
        rw [eo] at em1 t1
        rw [e] at bh1 co1
        exact ih (k + 1) (n + 2 ^ k) _ (by omega) bh1 e0 co1 (nwI_s x0) t1 (by omega) em1
    refine tk_7 (d := d + 19) (ra := ra) (v := fv k x (iZ (n : Int))) (by omega) al8.2.1 e0 (bf_6 bh) (bf_7 bh) (fun _ => er) (fun _ => tr_of co t tr (d + 19) (by omega)) (fun z => by omega) (fun _ c => ?_) (fun _ c => ?_)
    · exact st (iZ 1) (Classical.not_not.mp c) (.inr rfl)
    · exact st (iZ 0) (b1.elim id (fun z => absurd z c)) (.inl rfl)
theorem ls_takers {d sm c mn al : Nat} {x : Ctx} {B : Bk} {hb h : PH} {fv gv : Nat → Ctx → Int32 → Int32} {Q : Rs → PH → Prop} (vf : VF hb B fv gv) (bh : BH hb h sm B mn al) (hsm : sm + 5 < hN h) (hc : c < hN h) (e0 : h.2.2.1 sm 0 = (11, 0, 83)) (co : coR h c x) (zr : h.1 (hN h) = fun _ => 0) (q : ∀ h1, nwI h h1 8 → tkR h1 (hN h) (mkF fv x mn 0 (iZ 0)) → Q (.inl (some (.inr (.inr (.inr (26, 8, hN h)))))) h1) : Rn (d + 20) 180 [.inr (.inr (.inr (12, 0, sm))), .inr (.inr (.inr (20, 4, c)))] h Q := by
  refine tk_in (d := d + 20) (tk_lp (d := d) vf rfl hsm hc q mn 0 0 (grow h 8) (by omega) (BH_k bh Kp_g) e0 co (nwI_g h 8) (fun i hi => ?_) (by decide) rfl)
  show h.1 (hN h) i = _
  rw [zr]
  have := tk_0 ⟨i, hi⟩ ⟨0, by decide⟩ (Nat.pow_pos (by decide))
  exact this.symm
theorem ls_allow {d sm nt ma : Nat} {M : List Int} {h : PH} (e0 : h.2.2.1 sm 0 = (11, 0, 83)) (e5 : h.2.2.1 83 5 = (20, M.length, ma)) (hM : 1 ≤ M.length ∧ M.length ≤ 8) (em : ∀ j, j < M.length → h.1 ma j = iZ (M.getD j 0)) (en : h.1 sm 5 = iZ (nt : Int)) (hn : nt < 100000) : Rv d 173 [.inr (.inr (.inr (12, 0, sm)))] h (some (.inl (iZ (M.getD ((nt : Int) % (M.length : Int)).toNat 0)))) h := Rv.of fun Q q => by
  have x1 := Int.emod_nonneg (nt : Int) (show (M.length : Int) ≠ 0 by omega)
  have x2 := Int.emod_lt_of_pos (nt : Int) (show 0 < (M.length : Int) by omega)
  refine Ev.sts 1 (c' := (1, [some (.inr (.inr (.inr (12, 0, sm))))], [.inr (.inr (.inr (12, 0, sm)))], h)) rfl ?_
  refine Ev.gfr (r := (11, 0, 83)) rfl e0 ?_
  refine Ev.gfr (r := (20, M.length, ma)) rfl e5 ?_
  refine Ev.sts 1 (c' := (8, [some (.inr (.inr (.inr (12, 0, sm))))], [.inr (.inr (.inr (12, 0, sm))), .inr (.inr (.inr (20, M.length, ma)))], h)) rfl ?_
  refine Ev.gv (w := (iZ ((nt : Int)))) rfl en ?_
  refine Ev.sts 1 (c' := (12, [some (.inr (.inr (.inr (12, 0, sm))))], [.inr (.inr (.inr (12, 0, sm))), .inl (iZ ((nt : Int))), .inr (.inr (.inr (20, M.length, ma)))], h)) rfl ?_
  refine Ev.gfr (r := (11, 0, 83)) rfl e0 ?_
  refine Ev.gfr (r := (20, M.length, ma)) rfl e5 ?_
  refine Ev.gv (w := (iZ (M.length))) rfl (iZ_nat _) ?_
  refine Ev.pv (p := (iZ (M.length)) = 0) (v := .inl ((iZ ((nt : Int))) - (iZ ((nt : Int))) / (iZ (M.length)) * (iZ (M.length)))) (w := .inl (iZ (((nt : Int)) % M.length))) (iZ_n0 (by omega) (by omega)) rfl (congrArg vI (iZ_rem (by omega) (by omega) (by omega) (by omega))) ?_
  refine Ev.ldv (j := (iZ (((nt : Int)) % M.length))) (n := M.length) (w := .inl (iZ (M.getD ((nt : Int) % (M.length : Int)).toNat 0))) (iZ_in (by omega) (by omega) (by omega)) rfl (by rw [iZ_ix (n := ((nt : Int) % (M.length : Int)).toNat) (by omega) (by omega)]; exact congrArg vI (em _ (by omega))) ?_
  exact Ev.ret rfl (q)

theorem va_0 {d sm wl wr ga tl : Nat} {w : Wn} {h : PH} {Q : Rs → PH → Prop} (hw : wRw h wl wr w) (hg : w.1 < 6) (hl : wl ≤ 5000) (htl : tl < 4) (e0 : h.2.2.1 sm 0 = (11, 0, 83)) (e8 : h.2.2.1 83 8 = (28, 6, 86)) (eg : h.2.2.1 86 w.1 = (20, 4, ga)) (et : h.1 ga 3 = iZ (tl : Int)) (q0 : tl = 0 → Q (.inl (some (.inl (iZ ((wl : Int) - 3))))) h) (k1 : tl ≠ 0 → Ev d 174 (28, [some (.inr (.inr (.inr (12, 0, sm)))), some (.inr (.inr (.inr (20, wl, wr)))), some (.inl (iZ ((tl : Int)))), some (.inl (iZ (0))), some (.inl (iZ (3))), none], [], h) Q) : Rn d 174 [.inr (.inr (.inr (12, 0, sm))), .inr (.inr (.inr (20, wl, wr)))] h Q := by
  have lw := hw.1
  refine Ev.sts 1 (c' := (1, [some (.inr (.inr (.inr (12, 0, sm)))), some (.inr (.inr (.inr (20, wl, wr)))), none, none, none, none], [.inr (.inr (.inr (12, 0, sm)))], h)) rfl ?_
  refine Ev.gfr (r := (11, 0, 83)) rfl e0 ?_
  refine Ev.gfr (r := (28, 6, 86)) rfl e8 ?_
  refine Ev.sts 2 (c' := (9, [some (.inr (.inr (.inr (12, 0, sm)))), some (.inr (.inr (.inr (20, wl, wr)))), none, none, none, none], [.inl (iZ (0)), .inr (.inr (.inr (20, wl, wr))), .inr (.inr (.inr (28, 6, 86)))], h)) rfl ?_
  refine Ev.ldv (j := (iZ (0))) (n := wl) (w := .inl (iZ ((w.1 : Int)))) (iZ_in (by omega) (by omega) (by omega)) rfl (congrArg vI hw.2.1) ?_
  refine Ev.ldv (j := (iZ ((w.1 : Int)))) (n := 6) (w := .inr (.inr (.inr (20, 4, ga)))) (iZ_in (by omega) (by omega) (by omega)) rfl (by rw [iZ_ix (n := w.1) (by omega) (by omega)]; exact congrArg vR eg) ?_
  refine Ev.sts 1 (c' := (12, [some (.inr (.inr (.inr (12, 0, sm)))), some (.inr (.inr (.inr (20, wl, wr)))), none, none, none, none], [.inl (iZ (3)), .inr (.inr (.inr (20, 4, ga)))], h)) rfl ?_
  refine Ev.ldv (j := (iZ (3))) (n := 4) (w := .inl (iZ ((tl : Int)))) (by decide) rfl (congrArg vI et) ?_
  refine Ev.sts 2 (c' := (15, [some (.inr (.inr (.inr (12, 0, sm)))), some (.inr (.inr (.inr (20, wl, wr)))), some (.inl (iZ ((tl : Int)))), none, none, none], [.inl (iZ ((tl : Int)))], h)) rfl ?_
  refine Ev.brc (p := ¬ (iZ ((tl : Int))) = (iZ (0))) (q := ¬ (((tl : Int) : Int)) = 0) (c1 := (23, [some (.inr (.inr (.inr (12, 0, sm)))), some (.inr (.inr (.inr (20, wl, wr)))), some (.inl (iZ ((tl : Int)))), none, none, none], [], h)) (c2 := (18, [some (.inr (.inr (.inr (12, 0, sm)))), some (.inr (.inr (.inr (20, wl, wr)))), some (.inl (iZ ((tl : Int)))), none, none, none], [], h)) rfl (not_congr (iZ_eq ⟨by omega, by omega⟩ ⟨by omega, by omega⟩)) (fun c0 => ?_) (fun c0 => ?_)
  · refine Ev.sts 4 (c' := (28, [some (.inr (.inr (.inr (12, 0, sm)))), some (.inr (.inr (.inr (20, wl, wr)))), some (.inl (iZ ((tl : Int)))), some (.inl (iZ (0))), some (.inl (iZ (3))), none], [], h)) rfl ?_
    exact k1 (by omega)
  · refine Ev.sts 1 (c' := (19, [some (.inr (.inr (.inr (12, 0, sm)))), some (.inr (.inr (.inr (20, wl, wr)))), some (.inl (iZ ((tl : Int)))), none, none, none], [.inr (.inr (.inr (20, wl, wr)))], h)) rfl ?_
    refine Ev.gv (w := (iZ (wl))) rfl (iZ_nat _) ?_
    refine Ev.sts 1 (c' := (21, [some (.inr (.inr (.inr (12, 0, sm)))), some (.inr (.inr (.inr (20, wl, wr)))), some (.inl (iZ ((tl : Int)))), none, none, none], [.inl (iZ (3)), .inl (iZ (wl))], h)) rfl ?_
    refine Ev.gv (w := (iZ (wl - 3))) rfl (iZ_sub _ _) ?_
    exact Ev.ret rfl (q0 (by omega))

theorem va_28 {d sm wl wr tl ra n ca ka cf tf j k : Nat} {w : Wn} {its v : Int32} {x5 : Option VV} {h : PH} {Q : Rs → PH → Prop} (hw : wRw h wl wr w) (hg : w.1 < 6) (hl : wl ≤ 5000) (hk : 3 ≤ k ∧ k ≤ wl) (htl : 1 ≤ tl ∧ tl < 4) (hn : n ≤ 5000) (e0 : h.2.2.1 sm 0 = (11, 0, 83)) (e9 : h.2.2.1 83 9 = (27, 6, 87)) (er : h.2.2.1 87 w.1 = (13, 0, ra)) (ec : h.2.2.1 sm 1 = (28, n, ca)) (ek : h.2.2.1 sm 2 = (29, n, ka)) (ej : k < wl → h.1 wr k = iZ (j : Int)) (hj : k < wl → j < n) (ecf : k < wl → h.2.2.1 ca j = (20, 4, cf)) (etf : k < wl → h.2.2.1 ka j = (26, 8, tf)) (hv : k < wl → Rv d 183 [.inr (.inr (.inr (13, 0, ra))), .inr (.inr (.inr (20, 4, cf))), .inr (.inr (.inr (26, 8, tf)))] h (some (.inl v)) h) (q0 : k = wl → Q (.inl (some (.inl its))) h) (k1 : k < wl → k = 3 → Ev (d + 1) 174 (28, [some (.inr (.inr (.inr (12, 0, sm)))), some (.inr (.inr (.inr (20, wl, wr)))), some (.inl (iZ ((tl : Int)))), some (.inl (v)), some (.inl (iZ ((k : Int) + 1))), some (.inl (v))], [], h) Q) (k2 : k < wl → k ≠ 3 ∧ tl = 1 → Ev (d + 1) 174 (28, [some (.inr (.inr (.inr (12, 0, sm)))), some (.inr (.inr (.inr (20, wl, wr)))), some (.inl (iZ ((tl : Int)))), some (.inl ((its + v))), some (.inl (iZ ((k : Int) + 1))), some (.inl (v))], [], h) Q) (k3 : k < wl → k ≠ 3 ∧ tl = 2 → Ev (d + 1) 174 (28, [some (.inr (.inr (.inr (12, 0, sm)))), some (.inr (.inr (.inr (20, wl, wr)))), some (.inl (iZ ((tl : Int)))), some (.inl ((if its < v then v else its))), some (.inl (iZ ((k : Int) + 1))), some (.inl (v))], [], h) Q) (k4 : k < wl → k ≠ 3 ∧ tl = 3 → Ev (d + 1) 174 (28, [some (.inr (.inr (.inr (12, 0, sm)))), some (.inr (.inr (.inr (20, wl, wr)))), some (.inl (iZ ((tl : Int)))), some (.inl ((if v < its then v else its))), some (.inl (iZ ((k : Int) + 1))), some (.inl (v))], [], h) Q) : Ev (d + 1) 174 (28, [some (.inr (.inr (.inr (12, 0, sm)))), some (.inr (.inr (.inr (20, wl, wr)))), some (.inl (iZ ((tl : Int)))), some (.inl (its)), some (.inl (iZ ((k : Int)))), x5], [], h) Q := by
  have lw := hw.1
  have hjn := hj
  refine Ev.sts 2 (c' := (31, [some (.inr (.inr (.inr (12, 0, sm)))), some (.inr (.inr (.inr (20, wl, wr)))), some (.inl (iZ ((tl : Int)))), some (.inl (its)), some (.inl (iZ ((k : Int)))), x5], [.inr (.inr (.inr (20, wl, wr))), .inl (iZ ((k : Int)))], h)) rfl ?_
  refine Ev.gv (w := (iZ (wl))) rfl (iZ_nat _) ?_
  refine Ev.brc (p := (iZ (wl)) ≤ (iZ ((k : Int)))) (q := ((wl : Int)) ≤ (k : Int)) (c1 := (119, [some (.inr (.inr (.inr (12, 0, sm)))), some (.inr (.inr (.inr (20, wl, wr)))), some (.inl (iZ ((tl : Int)))), some (.inl (its)), some (.inl (iZ ((k : Int)))), x5], [], h)) (c2 := (35, [some (.inr (.inr (.inr (12, 0, sm)))), some (.inr (.inr (.inr (20, wl, wr)))), some (.inl (iZ ((tl : Int)))), some (.inl (its)), some (.inl (iZ ((k : Int)))), x5], [], h)) rfl (iZ_le ⟨by omega, by omega⟩ ⟨by omega, by omega⟩) (fun c0 => ?_) (fun c0 => ?_)
  · refine Ev.sts 1 (c' := (120, [some (.inr (.inr (.inr (12, 0, sm)))), some (.inr (.inr (.inr (20, wl, wr)))), some (.inl (iZ ((tl : Int)))), some (.inl (its)), some (.inl (iZ ((k : Int)))), x5], [.inl (its)], h)) rfl ?_
    exact Ev.ret rfl (q0 (by omega))
  · refine Ev.sts 1 (c' := (36, [some (.inr (.inr (.inr (12, 0, sm)))), some (.inr (.inr (.inr (20, wl, wr)))), some (.inl (iZ ((tl : Int)))), some (.inl (its)), some (.inl (iZ ((k : Int)))), x5], [.inr (.inr (.inr (12, 0, sm)))], h)) rfl ?_
    refine Ev.gfr (r := (11, 0, 83)) rfl e0 ?_
    refine Ev.gfr (r := (27, 6, 87)) rfl e9 ?_
    refine Ev.sts 2 (c' := (44, [some (.inr (.inr (.inr (12, 0, sm)))), some (.inr (.inr (.inr (20, wl, wr)))), some (.inl (iZ ((tl : Int)))), some (.inl (its)), some (.inl (iZ ((k : Int)))), x5], [.inl (iZ (0)), .inr (.inr (.inr (20, wl, wr))), .inr (.inr (.inr (27, 6, 87)))], h)) rfl ?_
    refine Ev.ldv (j := (iZ (0))) (n := wl) (w := .inl (iZ ((w.1 : Int)))) (iZ_in (by omega) (by omega) (by omega)) rfl (congrArg vI hw.2.1) ?_
    refine Ev.ldv (j := (iZ ((w.1 : Int)))) (n := 6) (w := .inr (.inr (.inr (13, 0, ra)))) (iZ_in (by omega) (by omega) (by omega)) rfl (by rw [iZ_ix (n := w.1) (by omega) (by omega)]; exact congrArg vR er) ?_
    refine Ev.sts 1 (c' := (47, [some (.inr (.inr (.inr (12, 0, sm)))), some (.inr (.inr (.inr (20, wl, wr)))), some (.inl (iZ ((tl : Int)))), some (.inl (its)), some (.inl (iZ ((k : Int)))), x5], [.inr (.inr (.inr (12, 0, sm))), .inr (.inr (.inr (13, 0, ra)))], h)) rfl ?_
    refine Ev.gfr (r := (28, n, ca)) rfl ec ?_
    refine Ev.sts 2 (c' := (53, [some (.inr (.inr (.inr (12, 0, sm)))), some (.inr (.inr (.inr (20, wl, wr)))), some (.inl (iZ ((tl : Int)))), some (.inl (its)), some (.inl (iZ ((k : Int)))), x5], [.inl (iZ ((k : Int))), .inr (.inr (.inr (20, wl, wr))), .inr (.inr (.inr (28, n, ca))), .inr (.inr (.inr (13, 0, ra)))], h)) rfl ?_
    refine Ev.ldv (j := (iZ ((k : Int)))) (n := wl) (w := .inl (iZ ((j : Int)))) (iZ_in (by omega) (by omega) (by omega)) rfl (by rw [iZ_ix (n := k) (by omega) (by omega)]; exact congrArg vI (ej (by omega))) ?_
    refine Ev.ldv (j := (iZ ((j : Int)))) (n := n) (w := .inr (.inr (.inr (20, 4, cf)))) (iZ_in (by omega) (by omega) (by omega)) rfl (by rw [iZ_ix (n := j) (by omega) (by omega)]; exact congrArg vR (ecf (by omega))) ?_
    refine Ev.sts 1 (c' := (56, [some (.inr (.inr (.inr (12, 0, sm)))), some (.inr (.inr (.inr (20, wl, wr)))), some (.inl (iZ ((tl : Int)))), some (.inl (its)), some (.inl (iZ ((k : Int)))), x5], [.inr (.inr (.inr (12, 0, sm))), .inr (.inr (.inr (20, 4, cf))), .inr (.inr (.inr (13, 0, ra)))], h)) rfl ?_
    refine Ev.gfr (r := (29, n, ka)) rfl ek ?_
    refine Ev.sts 2 (c' := (62, [some (.inr (.inr (.inr (12, 0, sm)))), some (.inr (.inr (.inr (20, wl, wr)))), some (.inl (iZ ((tl : Int)))), some (.inl (its)), some (.inl (iZ ((k : Int)))), x5], [.inl (iZ ((k : Int))), .inr (.inr (.inr (20, wl, wr))), .inr (.inr (.inr (29, n, ka))), .inr (.inr (.inr (20, 4, cf))), .inr (.inr (.inr (13, 0, ra)))], h)) rfl ?_
    refine Ev.ldv (j := (iZ ((k : Int)))) (n := wl) (w := .inl (iZ ((j : Int)))) (iZ_in (by omega) (by omega) (by omega)) rfl (by rw [iZ_ix (n := k) (by omega) (by omega)]; exact congrArg vI (ej (by omega))) ?_
    refine Ev.ldv (j := (iZ ((j : Int)))) (n := n) (w := .inr (.inr (.inr (26, 8, tf)))) (iZ_in (by omega) (by omega) (by omega)) rfl (by rw [iZ_ix (n := j) (by omega) (by omega)]; exact congrArg vR (etf (by omega))) ?_
    refine Ev.callv (a := [.inr (.inr (.inr (13, 0, ra))), .inr (.inr (.inr (20, 4, cf))), .inr (.inr (.inr (26, 8, tf)))]) rfl (hv (by omega)) ?_
    refine Ev.sts 3 (c' := (72, [some (.inr (.inr (.inr (12, 0, sm)))), some (.inr (.inr (.inr (20, wl, wr)))), some (.inl (iZ ((tl : Int)))), some (.inl (its)), some (.inl (iZ ((k : Int)))), some (.inl (v))], [.inl (iZ (3)), .inl (iZ ((k : Int)))], h)) rfl ?_
    refine Ev.brc (p := ¬ (iZ ((k : Int))) = (iZ (3))) (q := ¬ (((k : Int) : Int)) = 3) (c1 := (80, [some (.inr (.inr (.inr (12, 0, sm)))), some (.inr (.inr (.inr (20, wl, wr)))), some (.inl (iZ ((tl : Int)))), some (.inl (its)), some (.inl (iZ ((k : Int)))), some (.inl (v))], [], h)) (c2 := (75, [some (.inr (.inr (.inr (12, 0, sm)))), some (.inr (.inr (.inr (20, wl, wr)))), some (.inl (iZ ((tl : Int)))), some (.inl (its)), some (.inl (iZ ((k : Int)))), some (.inl (v))], [], h)) rfl (not_congr (iZ_eq ⟨by omega, by omega⟩ ⟨by omega, by omega⟩)) (fun c1 => ?_) (fun c1 => ?_)
    · refine Ev.sts 2 (c' := (82, [some (.inr (.inr (.inr (12, 0, sm)))), some (.inr (.inr (.inr (20, wl, wr)))), some (.inl (iZ ((tl : Int)))), some (.inl (its)), some (.inl (iZ ((k : Int)))), some (.inl (v))], [.inl (iZ (1)), .inl (iZ ((tl : Int)))], h)) rfl ?_
      refine Ev.brc (p := ¬ (iZ ((tl : Int))) = (iZ (1))) (q := ¬ (((tl : Int) : Int)) = 1) (c1 := (92, [some (.inr (.inr (.inr (12, 0, sm)))), some (.inr (.inr (.inr (20, wl, wr)))), some (.inl (iZ ((tl : Int)))), some (.inl (its)), some (.inl (iZ ((k : Int)))), some (.inl (v))], [], h)) (c2 := (85, [some (.inr (.inr (.inr (12, 0, sm)))), some (.inr (.inr (.inr (20, wl, wr)))), some (.inl (iZ ((tl : Int)))), some (.inl (its)), some (.inl (iZ ((k : Int)))), some (.inl (v))], [], h)) rfl (not_congr (iZ_eq ⟨by omega, by omega⟩ ⟨by omega, by omega⟩)) (fun c2 => ?_) (fun c2 => ?_)
      · refine Ev.sts 2 (c' := (94, [some (.inr (.inr (.inr (12, 0, sm)))), some (.inr (.inr (.inr (20, wl, wr)))), some (.inl (iZ ((tl : Int)))), some (.inl (its)), some (.inl (iZ ((k : Int)))), some (.inl (v))], [.inl (iZ (2)), .inl (iZ ((tl : Int)))], h)) rfl ?_
        refine Ev.brc (p := ¬ (iZ ((tl : Int))) = (iZ (2))) (q := ¬ (((tl : Int) : Int)) = 2) (c1 := (106, [some (.inr (.inr (.inr (12, 0, sm)))), some (.inr (.inr (.inr (20, wl, wr)))), some (.inl (iZ ((tl : Int)))), some (.inl (its)), some (.inl (iZ ((k : Int)))), some (.inl (v))], [], h)) (c2 := (97, [some (.inr (.inr (.inr (12, 0, sm)))), some (.inr (.inr (.inr (20, wl, wr)))), some (.inl (iZ ((tl : Int)))), some (.inl (its)), some (.inl (iZ ((k : Int)))), some (.inl (v))], [], h)) rfl (not_congr (iZ_eq ⟨by omega, by omega⟩ ⟨by omega, by omega⟩)) (fun c3 => ?_) (fun c3 => ?_)
        · refine Ev.sts 4 (c' := (113, [some (.inr (.inr (.inr (12, 0, sm)))), some (.inr (.inr (.inr (20, wl, wr)))), some (.inl (iZ ((tl : Int)))), some (.inl ((if v < its then v else its))), some (.inl (iZ ((k : Int)))), some (.inl (v))], [], h)) rfl ?_
          refine Ev.stc (c1 := (116, [some (.inr (.inr (.inr (12, 0, sm)))), some (.inr (.inr (.inr (20, wl, wr)))), some (.inl (iZ ((tl : Int)))), some (.inl ((if v < its then v else its))), some (.inl ((iZ ((k : Int))) + (iZ (1)))), some (.inl (v))], [], h)) (c2 := (116, [some (.inr (.inr (.inr (12, 0, sm)))), some (.inr (.inr (.inr (20, wl, wr)))), some (.inl (iZ ((tl : Int)))), some (.inl ((if v < its then v else its))), some (.inl (iZ (((k : Int)) + 1))), some (.inl (v))], [], h)) rfl (by rw [iZ_add]) ?_
          refine Ev.sts 1 (c' := (28, [some (.inr (.inr (.inr (12, 0, sm)))), some (.inr (.inr (.inr (20, wl, wr)))), some (.inl (iZ ((tl : Int)))), some (.inl ((if v < its then v else its))), some (.inl (iZ (((k : Int)) + 1))), some (.inl (v))], [], h)) rfl ?_
          exact k4 (by omega) (by omega)
        · refine Ev.sts 5 (c' := (113, [some (.inr (.inr (.inr (12, 0, sm)))), some (.inr (.inr (.inr (20, wl, wr)))), some (.inl (iZ ((tl : Int)))), some (.inl ((if its < v then v else its))), some (.inl (iZ ((k : Int)))), some (.inl (v))], [], h)) rfl ?_
          refine Ev.stc (c1 := (116, [some (.inr (.inr (.inr (12, 0, sm)))), some (.inr (.inr (.inr (20, wl, wr)))), some (.inl (iZ ((tl : Int)))), some (.inl ((if its < v then v else its))), some (.inl ((iZ ((k : Int))) + (iZ (1)))), some (.inl (v))], [], h)) (c2 := (116, [some (.inr (.inr (.inr (12, 0, sm)))), some (.inr (.inr (.inr (20, wl, wr)))), some (.inl (iZ ((tl : Int)))), some (.inl ((if its < v then v else its))), some (.inl (iZ (((k : Int)) + 1))), some (.inl (v))], [], h)) rfl (by rw [iZ_add]) ?_
          refine Ev.sts 1 (c' := (28, [some (.inr (.inr (.inr (12, 0, sm)))), some (.inr (.inr (.inr (20, wl, wr)))), some (.inl (iZ ((tl : Int)))), some (.inl ((if its < v then v else its))), some (.inl (iZ (((k : Int)) + 1))), some (.inl (v))], [], h)) rfl ?_
          exact k3 (by omega) (by omega)
      · refine Ev.sts 5 (c' := (113, [some (.inr (.inr (.inr (12, 0, sm)))), some (.inr (.inr (.inr (20, wl, wr)))), some (.inl (iZ ((tl : Int)))), some (.inl ((its + v))), some (.inl (iZ ((k : Int)))), some (.inl (v))], [], h)) rfl ?_
        refine Ev.stc (c1 := (116, [some (.inr (.inr (.inr (12, 0, sm)))), some (.inr (.inr (.inr (20, wl, wr)))), some (.inl (iZ ((tl : Int)))), some (.inl ((its + v))), some (.inl ((iZ ((k : Int))) + (iZ (1)))), some (.inl (v))], [], h)) (c2 := (116, [some (.inr (.inr (.inr (12, 0, sm)))), some (.inr (.inr (.inr (20, wl, wr)))), some (.inl (iZ ((tl : Int)))), some (.inl ((its + v))), some (.inl (iZ (((k : Int)) + 1))), some (.inl (v))], [], h)) rfl (by rw [iZ_add]) ?_
        refine Ev.sts 1 (c' := (28, [some (.inr (.inr (.inr (12, 0, sm)))), some (.inr (.inr (.inr (20, wl, wr)))), some (.inl (iZ ((tl : Int)))), some (.inl ((its + v))), some (.inl (iZ (((k : Int)) + 1))), some (.inl (v))], [], h)) rfl ?_
        exact k2 (by omega) (by omega)
    · refine Ev.sts 3 (c' := (113, [some (.inr (.inr (.inr (12, 0, sm)))), some (.inr (.inr (.inr (20, wl, wr)))), some (.inl (iZ ((tl : Int)))), some (.inl (v)), some (.inl (iZ ((k : Int)))), some (.inl (v))], [], h)) rfl ?_
      refine Ev.stc (c1 := (116, [some (.inr (.inr (.inr (12, 0, sm)))), some (.inr (.inr (.inr (20, wl, wr)))), some (.inl (iZ ((tl : Int)))), some (.inl (v)), some (.inl ((iZ ((k : Int))) + (iZ (1)))), some (.inl (v))], [], h)) (c2 := (116, [some (.inr (.inr (.inr (12, 0, sm)))), some (.inr (.inr (.inr (20, wl, wr)))), some (.inl (iZ ((tl : Int)))), some (.inl (v)), some (.inl (iZ (((k : Int)) + 1))), some (.inl (v))], [], h)) rfl (by rw [iZ_add]) ?_
      refine Ev.sts 1 (c' := (28, [some (.inr (.inr (.inr (12, 0, sm)))), some (.inr (.inr (.inr (20, wl, wr)))), some (.inl (iZ ((tl : Int)))), some (.inl (v)), some (.inl (iZ (((k : Int)) + 1))), some (.inl (v))], [], h)) rfl ?_
      exact k1 (by omega) (by omega)

/-- how a goose tells, and what a comma is worth to it -/
def tlY (B : Bk) (g : Nat) : Nat := (B.2.2.getD g g0).2.2.2.1
def fY (B : Bk) (gv : Nat → Ctx → Int32 → Int32) (cm : List (Ctx × Int32)) (g n : Nat) : Int32 := if (B.2.2.getD g g0).2.2.2.1 = 0 then iZ 1 else gv g (cm.getD n c00).1 (cm.getD n c00).2
theorem va_lp {d sm wl wr ca ka oa ta mn al : Nat} {u : Q5} {M : Ms} {B : Bk} {hb h : PH} {fv gv : Nat → Ctx → Int32 → Int32} {w : Wn} {Q : Rs → PH → Prop} (vf : VF hb B fv gv) (bh : BH hb h sm B mn al) (x : SMh h sm u ca ka oa ta M) (hw : wRw h wl wr w) (hg : w.1 < al) (htl : tlY B w.1 ≠ 0) (hns : ∀ n ∈ w.2.2.2, n < (yC M).length) (hl : w.2.2.2.length ≤ 4000) (hc : (yC M).length ≤ 5000) (rest : List Nat) : ∀ (k : Nat) (its : Int32) (x5 : Option VV), 4 ≤ k → w.2.2.2.drop (k - 3) = rest → Q (.inl (some (.inl (rest.foldl (fun s b => jn (tlY B w.1) s (fY B gv (yC M) w.1 b)) its)))) h → k + rest.length = wl → Ev (d + 20) 174 (28, [some (.inr (.inr (.inr (12, 0, sm)))), some (.inr (.inr (.inr (20, wl, wr)))), some (.inl (iZ (tlY B w.1 : Int))), some (.inl (its)), some (.inl (iZ ((k : Int)))), x5], [], h) Q := by
  obtain ⟨ga, g1, g2, g3, g4, g5, -⟩ := bf_go bh hg
  have al6 := bf_al bh
  obtain ⟨ra, er, tr⟩ := bf_g bh vf hg htl
  obtain ⟨x0, ⟨c1, c2, cfr, c3⟩, ⟨k1, k2, tfr, k3⟩, -⟩ := x
  have g5 : tlY B w.1 < 4 := g5
  have e9 := bf_9 bh
  have lw := hw.1
  induction rest with
  | nil =>
    intro k its x5 hk hd q hl2
    have hl2 : k + 0 = wl := hl2
    refine va_28 (d := d + 19) (ra := ra) (n := (yC M).length) (ca := ca) (ka := ka) (cf := 0) (tf := 0) (j := 0) (v := its) hw (by omega) (by omega) (by omega) ⟨by omega, g5⟩ hc x0 e9 er c1 k1 (fun z => by omega) (fun z => by omega) (fun z => by omega) (fun z => by omega) (fun z => by omega) (fun _ => q) (fun z => by omega) (fun z => by omega) (fun z => by omega) (fun z => by omega)
  | cons b rest ih =>
    intro k its x5 hk hd q hl2
    have hl2 : k + (rest.length + 1) = wl := hl2
    have hlt : k - 3 < w.2.2.2.length := by omega
    have hb_ : w.2.2.2.getD (k - 3) 0 = b := by
      have := drop_getD (0 : Nat) w.2.2.2 (k - 3) hlt
      rw [hd] at this
      exact (List.cons.inj this).1.symm
    have hd2 : w.2.2.2.drop (k + 1 - 3) = rest := by
      have := drop_getD (0 : Nat) w.2.2.2 (k - 3) hlt
      rw [hd] at this
      rw [show k + 1 - 3 = k - 3 + 1 by omega]
      exact (List.cons.inj this).2.symm
    have hbn : b < (yC M).length := hns b (by rw [← hb_]; exact getD_mem hlt)
    obtain ⟨y1, y2, y3⟩ := c3 b hbn
    obtain ⟨t1, t2, t3⟩ := k3 b hbn
    have ev : fY B gv (yC M) w.1 b = gv w.1 ((yC M).getD b c00).1 ((yC M).getD b c00).2 := if_neg htl
    have go : ∀ s1, s1 = jn (tlY B w.1) its (fY B gv (yC M) w.1 b) → Ev (d + 20) 174 (28, [some (.inr (.inr (.inr (12, 0, sm)))), some (.inr (.inr (.inr (20, wl, wr)))), some (.inl (iZ (tlY B w.1 : Int))), some (.inl (s1)), some (.inl (iZ ((k : Int) + 1))), some (.inl (fY B gv (yC M) w.1 b))], [], h) Q := fun s1 hs => by
      refine ih (k + 1) s1 _ (by omega) hd2 ?_ (by omega)
      rw [hs]; exact q
    refine va_28 (d := d + 19) (ra := ra) (n := (yC M).length) (ca := ca) (ka := ka) (cf := cfr b) (tf := tfr b) (j := b) (v := fY B gv (yC M) w.1 b) hw (by omega) (by omega) (by omega) ⟨by omega, g5⟩ hc x0 e9 er c1 k1 (fun _ => ?_) (fun _ => hbn) (fun _ => y1) (fun _ => t1) (fun _ => ?_) (fun z => by omega) (fun _ z => by omega) (fun _ z => go _ ?_) (fun _ z => go _ ?_) (fun _ z => go _ ?_)
    · have := hw.2.2.2.2 (k - 3) hlt
      rw [show 3 + (k - 3) = k by omega, hb_] at this
      exact this
    · rw [ev]; exact tr_of y3 t3 tr (d + 19) (by omega)
    · rw [jn_s (by omega) (by omega)]
    · rw [jn_2 z.2]
    · rw [jn_3 z.2]
theorem ls_value {d sm wl wr ca ka oa ta mn al : Nat} {u : Q5} {M : Ms} {B : Bk} {hb h : PH} {fv gv : Nat → Ctx → Int32 → Int32} {w : Wn} (vf : VF hb B fv gv) (bh : BH hb h sm B mn al) (x : SMh h sm u ca ka oa ta M) (hw : wRw h wl wr w) (hg : w.1 < al) (hne : w.2.2.2 ≠ []) (hns : ∀ n ∈ w.2.2.2, n < (yC M).length) (hl : w.2.2.2.length ≤ 4000) (hc : (yC M).length ≤ 5000) : Rv (d + 20) 174 [.inr (.inr (.inr (12, 0, sm))), .inr (.inr (.inr (20, wl, wr)))] h (some (.inl (vlF (tlY B w.1) (fY B gv (yC M) w.1) w.2.2.2))) h := Rv.of fun Q q => by
  obtain ⟨ga, g1, g2, g3, g4, g5, -⟩ := bf_go bh hg
  have al6 := bf_al bh
  have g5 : tlY B w.1 < 4 := g5
  have lw := hw.1
  have xx := x
  obtain ⟨x0, ⟨c1, c2, cfr, c3⟩, ⟨k1, k2, tfr, k3⟩, -⟩ := x
  refine va_0 (d := d + 20) (ga := ga) (tl := tlY B w.1) hw (by omega) (by omega) g5 x0 (bf_8 bh) g1 g2.2.2.2 (fun e => ?_) (fun e => ?_)
  · have f1 : ∀ n, fY B gv (yC M) w.1 n = iZ 1 := fun n => if_pos e
    rw [e, vlF_c f1 hne] at q
    rw [show (wl : Int) - 3 = (w.2.2.2.length : Int) by omega]
    exact q
  · obtain ⟨b, rest, en⟩ : ∃ b rest, w.2.2.2 = b :: rest := by
      cases hx : w.2.2.2 with
      | nil => exact absurd hx hne
      | cons b rest => exact ⟨b, rest, rfl⟩
    have ln : w.2.2.2.length = rest.length + 1 := by rw [en]; rfl
    have hbn : b < (yC M).length := hns b (by rw [en]; exact List.mem_cons_self)
    obtain ⟨ra, er, tr⟩ := bf_g bh vf hg e
    obtain ⟨y1, y2, y3⟩ := c3 b hbn
    obtain ⟨t1, t2, t3⟩ := k3 b hbn
    have ev : fY B gv (yC M) w.1 b = gv w.1 ((yC M).getD b c00).1 ((yC M).getD b c00).2 := if_neg e
    refine va_28 (d := d + 19) (k := 3) (ra := ra) (n := (yC M).length) (ca := ca) (ka := ka) (cf := cfr b) (tf := tfr b) (j := b) (v := fY B gv (yC M) w.1 b) hw (by omega) (by omega) (by omega) ⟨by omega, g5⟩ hc x0 (bf_9 bh) er c1 k1 (fun _ => ?_) (fun _ => hbn) (fun _ => y1) (fun _ => t1) (fun _ => ?_) (fun z => by omega) (fun _ z => ?_) (fun _ z => by omega) (fun _ z => by omega) (fun _ z => by omega)
    · have := hw.2.2.2.2 0 (by omega)
      rw [en] at this
      exact this
    · rw [ev]; exact tr_of y3 t3 tr (d + 19) (by omega)
    · refine va_lp (d := d) vf bh xx hw hg e hns hl hc rest 4 _ _ (Nat.le_refl _) (by rw [en]; rfl) ?_ (by omega)
      rw [en] at q
      exact q
