/-! The book writes itself. -/
theorem bk_sm0 : bkO sm0 = ([5], [], []) := rfl
theorem BIs_M (M : List Int) : BIs ((0, 0), M, [], [], [], [], []) := ⟨rfl, fun t ht => absurd ht List.not_mem_nil, fun g hg => absurd hg List.not_mem_nil⟩
theorem bk_M {M : List Int} (h : M ≠ []) : bkO ((0, 0), M, [], [], [], [], []) = (M, [], []) := by
  show ((if M = [] then [5] else M), [], []) = _
  rw [if_neg h]
theorem bw_go {d L dr ln : Nat} {h : PH} {Q : Rs → PH → Prop} (hE1 : eTs 0 ≤ d + 5) (hE2 : eV 0 ≤ d + 5) (b : BKl h L dr 0 ln []) (hln : ln = 0) (hdr : dr = 0) (a : H2b h) (m5 : MOr h [5]) (q : ∀ (h1 : PH) (dr1 tk1 : Nat) (tp1 : List Int) (ks1 : List Sg) (s1 : Sm) (nl1 mn1 al1 : Nat), LSt h1 L dr1 tk1 tp1 ks1 s1 nl1 mn1 al1 → Kp 83 nA h h1 → tk1 ≤ 253 → nl1 ≤ 9 → hN h1 ≤ hN h + 14 * tk1 + 100 → hS h1 ≤ hS h + gP tk1 + 3000 → Q (.inl none) h1) : Rn (d + 6) 161 [.inr (.inr (.inr (11, 0, 83)))] h Q := by
  subst hln; subst hdr
  have h88 := b.2.2.2.2.2.2.2
  refine md_0 (d := d + 4) (x1 := none) (x2 := none) (x3 := none) b (by omega) (fun h1 b1 f1 n1 m1 => ?_) (fun h1 M b1 f1 hM n1 m1 => ?_)
  · refine md_163 (d := d + 4) b1 (by omega) (fun h2 N b2 f2 hN_ n2 m2 => ?_)
    have h8b : 88 ≤ hN h1 := b1.2.2.2.2.2.2.2
    have H : HB h2 (bkO sm0) 0 0 := by
      rw [bk_sm0]
      exact HB_F h8b f2 (HB_F h88 f1 (H2_HB a m5))
    exact wl_all hE1 hE2 ⟨by omega, by omega⟩ N.toNat 0 h2 _ 0 [] [] sm0 0 0 0 _ (by omega) (by omega) ⟨⟨_, b2⟩, LXs_nil, rfl, BKs_0, BIs_M [], rfl, rfl, H, by decide, by decide, by omega⟩ (by omega) (by omega) (fun h3 dr3 tk3 tp3 ks3 s3 nl3 mn3 al3 S K c1 c2 c3 c4 c5 => q h3 dr3 tk3 tp3 ks3 s3 nl3 mn3 al3 S (Kp_t (KL_F h88 f1) (Kp_t (KL_F h8b f2) K)) c1 (by omega) (by omega) (by have : gP 0 = 0 := rfl; omega))
  · have h8b : 88 ≤ hN h1 := b1.2.2.2.2.2.2.2
    obtain ⟨b2, k2⟩ := BL_mo (M := M) b1
    have nn : hN (setR (grow h1 M) 83 5 (20, M, hN h1)) = hN h1 + 1 := rfl
    have mm : hS (setR (grow h1 M) 83 5 (20, M, hN h1)) = hS h1 + M := rfl
    have a1 := H2_F f1 a
    have a2 : H2b (setR (grow h1 M) 83 5 (20, M, hN h1)) := ⟨a1.1, a1.2.1, (setR_ne (by decide)).trans a1.2.2.1, (setR_ne (by decide)).trans a1.2.2.2.1, (setR_ne (by decide)).trans a1.2.2.2.2⟩
    refine tw_moon b2 (by show 0 ≤ 1700; decide) (fun h3 b3 f3 n3 m3 x3 => ?_)
    have e51 : (txC 51).length = 5 := by decide +kernel
    have e00 : ([] : List Int).length = 0 := rfl
    have k3 := KT_n f3
    have a3 := H2_F f3.1 a2
    have r3 : MRw h3 (hN h1) M [] := ⟨(f3.1.2.2 5 (by decide)).trans (setR_self _ _ _ _), by omega, by omega, fun j hj => absurd hj (Nat.not_lt_zero _)⟩
    have l3 := lx_51 (tp := []) (ks := []) LXs_nil rfl
    refine md_47 (d := d + 6) ?_
    refine md_lp hM M h3 _ _ [] (by show 0 + M = M; omega) ⟨b3, txR_lo x3 (by omega), by omega, by omega⟩ l3.1 (fun _ => l3.2) a3 r3 (by rw [List.length_append]; show 0 + (txC 51).length ≤ 5 + 4 * 0; omega) (by show 0 + 1 + 1 ≤ 5 + 2 * 0; decide) (fun h4 dr4 tp4 ms c1 g4 l4 a4 r4 K4 t4 d4 n4 m4 => ?_)
    refine tw_semi g4.1 (by omega) (fun h5 b5 f5 n5 m5' x5 => ?_)
    have e53 : (txC 53).length = 2 := by decide +kernel
    obtain ⟨l5, en5⟩ := lx_53 l4
    have h8d : 88 ≤ hN h4 := g4.1.2.2.2.2.2.2.2
    have h8e : 88 ≤ hN h5 := b5.2.2.2.2.2.2.2
    refine md_163 (d := d + 4) b5 (by omega) (fun h6 N b6 f6 hN_ n6 m6 => ?_)
    have mo4 : MOr h4 ms := ⟨hN h1, by rw [c1]; exact r4.1, .inr r4.2.1, r4.2.2.1, by omega, r4.2.2.2⟩
    have mne : ms ≠ [] := fun z => by rw [z] at c1; have : M = 0 := c1.symm; omega
    have H : HB h6 (bkO ((0, 0), ms, [], [], [], [], [])) 0 0 := by
      rw [bk_M mne]
      exact HB_F h8e f6 (HB_F h8d f5.1 (H2_HB a4 mo4))
    obtain ⟨x, l, e⟩ : ∃ x l, ms = x :: l := by
      cases ms with
      | nil => exact absurd rfl mne
      | cons x l => exact ⟨x, l, rfl⟩
    have bs : BKs ((4, 0, 0) :: moK ms ++ [(30, 0, 0)]) ((0, 0), ms, [], [], [], [], []) 0 := by
      rw [e]
      have ll : l.length ≤ 7 := by have : l.length + 1 = M := by rw [← c1, e]; rfl
                                   omega
      have hb : ∀ y ∈ x :: l, y ≤ 99 := fun y hy => by
        obtain ⟨j, hj, ej⟩ := List.getElem_of_mem hy
        have := (r4.2.2.2 j (by rw [e]; exact hj)).2.2
        rw [e, List.getD_eq_getElem?_getD, List.getElem?_eq_getElem hj] at this
        rw [← ej]; exact this
      have := BKs_moon (n := x) (l := l) ll hb
      rw [mnsK_e] at this
      exact this
    have kl : ((4, 0, 0) :: moK ms ++ [(30, 0, 0)] : List Sg).length ≤ 12 := by
      have : ms.length ≤ 4 := by omega
      match ms, this with
      | [], _ => decide
      | [_], _ => exact (by show 3 ≤ 12; decide)
      | [_, _], _ => exact (by show 5 ≤ 12; decide)
      | [_, _, _], _ => exact (by show 7 ≤ 12; decide)
      | [_, _, _, _], _ => exact (by show 9 ≤ 12; decide)
    refine wl_all hE1 hE2 ⟨by omega, by omega⟩ N.toNat 0 h6 _ 0 _ _ _ 0 0 0 _ (by omega) (by omega) ⟨⟨_, b6⟩, l5, en5, bs, BIs_M ms, rfl, rfl, H, by rw [List.length_append]; omega, kl, by omega⟩ (by omega) (by omega) (fun h7 dr7 tk7 tp7 ks7 s7 nl7 mn7 al7 S K e1 e2 e3 e4 e5 => q h7 dr7 tk7 tp7 ks7 s7 nl7 mn7 al7 S (Kp_t (KL_F h88 f1) (Kp_t k2 (Kp_t (KL_F (by omega) f3.1) (Kp_t K4 (Kp_t (KL_F h8d f5.1) (Kp_t (KL_F h8e f6) K)))))) e1 (by omega) (by omega) (by have : gP 0 = 0 := rfl; omega))
