/-! The invariant through the calls that count. -/
theorem WS_nigN {S : Sta} {N : Nat} (w : WSr S N (wmS S)) : ∀ k, WSr (nigN S k) (N + k) (wmS (nigN S k)) := by
  intro k
  induction k with
  | zero => exact w
  | succ k ih => exact WS_nig ih
theorem lnL_7 {ws ws2 : Nat → List Win} (h : ∀ g, (ws2 g).length ≤ (ws g).length + 7) : ∀ n g, lnL ws2 n g ≤ lnL ws n g + 7 * n := by
  intro n
  induction n with
  | zero => intro g; exact Nat.le_refl _
  | succ n ih =>
    intro g
    have a := ih (g + 1)
    have b := h g
    show (ws2 g).length + lnL ws2 n (g + 1) ≤ (ws g).length + lnL ws n (g + 1) + 7 * (n + 1)
    omega
theorem cgap_l {hr wd : Int} {tl : Nat} {v : Int32} {W : List Win} : (cgap hr wd tl v W).length ≤ W.length + 1 := by
  unfold cgap
  rw [insW_len]
  exact Nat.succ_le_succ (List.length_filter_le _ _)
theorem gst_len {B : Bk} {hr wm : Int} {tk : Int32} {vs : Nat → Int32} {g l : Nat} {W : List Win} : (gst B hr wm tk vs g W l).1.length ≤ W.length + 7 := by
  unfold gst
  by_cases a : g < B.2.2.length ∧ bitv tk (iZ (B.2.2.getD g g0).1) = iZ 1
  · rw [if_pos a]
    by_cases b : hr - hr % (if (B.2.2.getD g g0).2.2.1 = 0 then 1 else (B.2.2.getD g g0).2.2.1) + (B.2.2.getD g g0).2.1 ≤ wm
    · rw [if_pos b]; exact Nat.le_add_right _ _
    · rw [if_neg b]
      by_cases c : (B.2.2.getD g g0).2.2.1 = 0
      · rw [if_pos c]
        have := cgap_l (hr := hr) (wd := (B.2.2.getD g g0).2.1) (tl := (B.2.2.getD g g0).2.2.2.1) (v := vs g) (W := W)
        show (cgap hr (B.2.2.getD g g0).2.1 (B.2.2.getD g g0).2.2.2.1 (vs g) W).length ≤ W.length + 7
        omega
      · rw [if_neg c]
        exact cev_len' 7 W _
  · rw [if_neg a]; exact Nat.le_add_right _ _
theorem em_0 {hr st : Int} : (hr - hr % st) % st = 0 := by
  have e : hr - hr % st = st * (hr / st) := by
    have := Int.mul_ediv_add_emod hr st
    omega
  rw [e]
  exact Int.mul_emod_right _ _
theorem gst_rw {B : Bk} {hr wm gr n : Int} {tk : Int32} {vs : Nat → Int32} {g l : Nat} {W : List Win} (bn : bkN B) (hg : g < B.2.2.length) (h0 : 0 ≤ hr) (hn : 0 ≤ n) (r : rwG (B.2.2.getD g g0) gr wm n W) : rwG (B.2.2.getD g g0) (max gr hr) wm (n + 1) (gst B hr wm tk vs g W l).1 := by
  obtain ⟨b1, b2, b3, b4, b5, b6⟩ := bn.2.2.2.2.2 g hg
  have r2 : rwG (B.2.2.getD g g0) (max gr hr) wm (n + 1) W := rwG_hi r (by omega) (by omega)
  unfold gst
  by_cases a : g < B.2.2.length ∧ bitv tk (iZ (B.2.2.getD g g0).1) = iZ 1
  · rw [if_pos a]
    by_cases b : hr - hr % (if (B.2.2.getD g g0).2.2.1 = 0 then 1 else (B.2.2.getD g g0).2.2.1) + (B.2.2.getD g g0).2.1 ≤ wm
    · rw [if_pos b]; exact r2
    · rw [if_neg b]
      by_cases c : (B.2.2.getD g g0).2.2.1 = 0
      · rw [if_pos c]
        rw [if_pos c] at b
        refine ⟨fun _ => ?_, fun z => absurd c z⟩
        exact gG_gap b2 h0 (by omega) (by omega) (gG_hi (r.1 c) (by omega) (Int.le_refl _))
      · rw [if_neg c]
        refine ⟨fun z => absurd z c, fun _ => ?_⟩
        have hm := Int.emod_nonneg hr (b := (B.2.2.getD g g0).2.2.1) c
        exact cev_g (by omega) hn 7 W _ em_0 (by omega) (gW_C (gW_hi (r.2 c) (by omega) (Int.le_refl _)))
  · rw [if_neg a]; exact r2
theorem WS_cwm {S : Sta} {N : Nat} {x : Ctx} {tk : Int32} {vs : Nat → Int32} (w : WSr S N (wmS S)) (ok : okX x) (hcs : (csS S).length < 120) (htk : 0 ≤ tk.toInt ∧ tk.toInt < 256) : WSr (cwmS S x tk vs) N (wmS S) := by
  have al := alB_b w.1 (ntS S : Int)
  obtain ⟨w1, w2, w3, w4, w5, w6, w7, w8⟩ := w
  obtain ⟨x1, x2, -⟩ := ok
  have el : (csS (cwmS S x tk vs)).length = (csS S).length + 1 := app_len' _ _
  refine ⟨w1, w2, ⟨by rw [el]; omega, fun j hj => ?_⟩, w4, ⟨?_, ?_, ?_, ?_, ?_⟩, fun g => ⟨fun c => ?_, fun c => ?_⟩, ⟨?_, w7.2⟩, w8⟩
  · rw [el] at hj
    show 0 ≤ ((csS S ++ [(x.1, tk)]).getD j cd0).1 ∧ ((csS S ++ [(x.1, tk)]).getD j cd0).1 ≤ 999 ∧ 0 ≤ ((csS S ++ [(x.1, tk)]).getD j cd0).2.toInt ∧ ((csS S ++ [(x.1, tk)]).getD j cd0).2.toInt < 256
    rw [app_get' _ _ _ _ hj]
    by_cases e : j = (csS S).length
    · rw [if_pos e]; exact ⟨x1, x2, htk.1, htk.2⟩
    · rw [if_neg e]; exact w3.2 j (by omega)
  · show -1 ≤ max (grS S) x.1; omega
  · show max (grS S) x.1 ≤ 999; omega
  · show 0 ≤ max (wmS S) (max (grS S) x.1 - alB (bkS S) (ntS S)); omega
  · show max (wmS S) (max (grS S) x.1 - alB (bkS S) (ntS S)) ≤ 2000; omega
  · show max (grS S) x.1 - 99 ≤ max (wmS S) (max (grS S) x.1 - alB (bkS S) (ntS S)); omega
  · rw [el]
    exact gst_rw w1 c x1 (by omega) ((w6 g).1 c)
  · show (gst (bkS S) x.1 (wmS S) tk vs g (wdS S g) (ltS S g)).1 = []
    unfold gst
    rw [if_neg (fun z => by have : (bkS S).2.2.length ≤ g := c; omega), (w6 g).2 c]
  · rw [el]
    have := lnL_7 (ws := wdS S) (ws2 := wdS (cwmS S x tk vs)) (fun g => gst_len) 6 0
    show (tlS S).length + lnL (wdS (cwmS S x tk vs)) 6 0 ≤ 42 * ((csS S).length + 1)
    omega
theorem WS_com {S : Sta} {N : Nat} {x : Ctx} {tk : Int32} {vs : Nat → Int32} (w : WSr S N (wmS S)) (ok : okX x) (hcs : (csS S).length < 120) (htk : 0 ≤ tk.toInt ∧ tk.toInt < 256) : WSr (comS S x tk vs) N (wmS (comS S x tk vs)) := WSr_tol (WS_cwm w ok hcs htk)
/-- what cs_comma and ms_comma ask -/
theorem WS_wl {S : Sta} {N : Nat} (w : WSr S N (wmS S)) (hcs : (csS S).length < 120) (g : Nat) : wsB 1000 (wdS S g) ∧ (wdS S g).length ≤ 121 ∧ unW (wdS S g) := by
  have b := WSr_w w g
  exact ⟨b.1, by rcases WS_l w g with h | h <;> omega, b.2⟩
theorem WS_wl2 {S : Sta} {N : Nat} {x : Ctx} {tk : Int32} {vs : Nat → Int32} (w : WSr S N (wmS S)) (ok : okX x) (hcs : (csS S).length < 120) (htk : 0 ≤ tk.toInt ∧ tk.toInt < 256) (g : Nat) : wsB 1000 (gst (bkS S) x.1 (wmS S) tk vs g (wdS S g) (ltS S g)).1 ∧ (gst (bkS S) x.1 (wmS S) tk vs g (wdS S g) (ltS S g)).1.length ≤ 200 := by
  have b := (WSr_w (WS_cwm (vs := vs) w ok hcs htk) g).1
  have l := gst_len (B := bkS S) (hr := x.1) (wm := wmS S) (tk := tk) (vs := vs) (g := g) (l := ltS S g) (W := wdS S g)
  have l2 := (WS_wl w hcs g).2.1
  exact ⟨b, by omega⟩
