/-! All lines of the book. -/
theorem wl_all {d L : Nat} {N : Int} {Q : Rs → PH → Prop} (hE1 : eTs 0 ≤ d + 5) (hE2 : eV 0 ≤ d + 5) (hN9 : 0 ≤ N ∧ N ≤ 9) (m : Nat) : ∀ (k : Int) (h : PH) (dr tk : Nat) (tp : List Int) (ks : List Sg) (s : Sm) (nl mn al : Nat) (x3 : Option VV), 0 ≤ k → k + (m : Int) = N → LSt h L dr tk tp ks s nl mn al → tk ≤ 253 → (nl : Int) ≤ k → (∀ (h1 : PH) (dr1 tk1 : Nat) (tp1 : List Int) (ks1 : List Sg) (s1 : Sm) (nl1 mn1 al1 : Nat), LSt h1 L dr1 tk1 tp1 ks1 s1 nl1 mn1 al1 → Kp 83 nA h h1 → tk1 ≤ 253 → (nl1 : Int) ≤ N → tk ≤ tk1 → hN h1 ≤ hN h + 14 * (tk1 - tk) → hS h1 + gP tk ≤ hS h + gP tk1 → Q (.inl none) h1) → Ev (d + 6) 161 (174, [some (.inr (.inr (.inr (11, 0, 83)))), some (.inl (iZ N)), some (.inl (iZ k)), x3], [], h) Q := by
  induction m with
  | zero =>
    intro k h dr tk tp ks s nl mn al x3 k0 kN S ht hnl q
    obtain ⟨ln, b⟩ := S.1
    exact wl_174 (d := d + 6) b (by omega) ⟨k0, by omega⟩ ⟨by omega, by omega⟩ (q h dr tk tp ks s nl mn al S (Kp_r _ _ _) ht (by omega) (Nat.le_refl _) (by omega) (Nat.le_refl _)) (fun z => absurd z (by omega))
  | succ m ih =>
    intro k h dr tk tp ks s nl mn al x3 k0 kN S ht hnl q
    have S0 := S
    obtain ⟨⟨ln, b⟩, lx, en, bs, bi, fF, fG, H, l1, l2, l3⟩ := S
    have h88 := b.2.2.2.2.2.2.2
    refine wl_174 (d := d + 6) b (by omega) ⟨k0, by omega⟩ ⟨by omega, by omega⟩ (q h dr tk tp ks s nl mn al S0 (Kp_r _ _ _) ht (by omega) (Nat.le_refl _) (by omega) (Nat.le_refl _)) (fun _ ht2 => ?_)
    obtain ⟨b1, kb⟩ := BL_ln b
    have H1 := HB_ln (tk := tk) h88 H
    have h8l : 88 ≤ hN (lnH h tk) := h88
    have nl1 : hN (lnH h tk) = hN h := rfl
    have ml1 : hS (lnH h tk) = hS h := rfl
    have K0 : Kp 83 nA h (lnH h tk) := Kp_m kb (by omega) (fun x hx e => by omega)
    refine wl_208 (d := d + 4) b1 H1.1.2.2.1 H1.1.2.1 (by omega) (fun h1 dr1 B1 F1 hd1 hm n1 m1 => ?_) (fun h1 B1 F1 hm n1 m1 => ?_)
    · refine ln_flock hE1 B1 lx en bs bi fF fG (HB_F h8l F1 H1) hm (by omega) l1 l2 (by omega) (fun h2 tk2 dr2 tp2 ks2 s2 S2 K2 a1 a2 a3 a4 => ?_)
      refine wl_673 (d := d + 6) (ih (k + 1) h2 dr2 tk2 tp2 ks2 s2 (nl + 1) (mn + 1) al x3 (by omega) (by omega) S2 (by omega) (by omega) (fun h3 dr3 tk3 tp3 ks3 s3 nl3 mn3 al3 S3 K3 c1 c2 c3 c4 c5 => q h3 dr3 tk3 tp3 ks3 s3 nl3 mn3 al3 S3 (Kp_t K0 (Kp_t (KL_F h8l F1) (Kp_t K2 K3))) c1 c2 (by omega) (by omega) (by omega)))
    · refine wl_301 (d := d + 6) (al := al) ((HB_F h8l F1 H1).2.1.2.2.1) H1.2.1.2.1 (fun ha => ?_) ?_
      · refine ln_goose hE2 B1 lx en bs bi fF fG (HB_F h8l F1 H1) hm ha (by omega) l1 l2 (by omega) (fun h2 tk2 dr2 tp2 ks2 s2 x4 S2 K2 a1 a2 a3 a4 => ?_)
        refine wl_673 (d := d + 6) (ih (k + 1) h2 dr2 tk2 tp2 ks2 s2 (nl + 1) mn (al + 1) x4 (by omega) (by omega) S2 (by omega) (by omega) (fun h3 dr3 tk3 tp3 ks3 s3 nl3 mn3 al3 S3 K3 c1 c2 c3 c4 c5 => q h3 dr3 tk3 tp3 ks3 s3 nl3 mn3 al3 S3 (Kp_t K0 (Kp_t (KL_F h8l F1) (Kp_t K2 K3))) c1 c2 (by omega) (by omega) (by omega)))
      · have g := gP12 tk
        refine wl_673 (d := d + 6) (ih (k + 1) h1 (dr + 1) (tk + 12) tp ks s nl mn al x3 (by omega) (by omega) ⟨⟨_, B1⟩, lx, en, bs, bi, fF, fG, HB_F h8l F1 H1, by omega, by omega, by omega⟩ (by omega) (by omega) (fun h3 dr3 tk3 tp3 ks3 s3 nl3 mn3 al3 S3 K3 c1 c2 c3 c4 c5 => q h3 dr3 tk3 tp3 ks3 s3 nl3 mn3 al3 S3 (Kp_t K0 (Kp_t (KL_F h8l F1) K3)) c1 c2 (by omega) (by omega) (by omega)))
