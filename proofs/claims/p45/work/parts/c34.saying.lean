/-! The law says a text: all rounds. -/
def SIn (h : PH) (T : List Int) (f : Nat) (S : Sta) : Prop := CI h S 68 64 u00 ∧ WSr S 0 (wmS S) ∧ tpS S = pdT T f
theorem u00_q {a : Nat} (h : ¬ qN u00 a) : 1 ≤ a ∧ a ≤ 82 := by
  apply Classical.byContradiction
  intro c
  apply h
  unfold qN u00
  dsimp only
  omega
theorem pdT_l (T : List Int) (f : Nat) : (pdT T f).length = f := by unfold pdT; rw [List.length_map, List.length_range]
theorem sy_out {d N n : Nat} {r : VR} {T : List Int} {Q : Rs → PH → Prop} (as : asT T) (hn : T.length = n) (hn2 : n ≤ 1560) (m : Nat) : ∀ (f : Nat) (h : PH) (S : Sta) (x4 x5 : Option VV), n ≤ f + 20 * m → f ≤ n + 20 → SIn h T f S → txR h 87 N r T → N ≤ hN h → Zr h → (∀ (h1 : PH) (S1 : Sta) (f1 : Nat) (x4 x5 : Option VV), SIn h1 T f1 S1 → n ≤ f1 → txR h1 87 N r T → Zr h1 → Kp N (fun a => 1 ≤ a ∧ a ≤ 82) h h1 → hN h1 ≤ hN h + m → hS h1 ≤ hS h + 5 * m → Ev (d + 4) 30 (103, [some (.inr (.inr (.inr (1, 0, 1)))), some (.inr (.inr (.inr r))), some (.inl (iZ ((n : Int)))), some (.inl (iZ ((f1 : Int)))), x4, x5], [], h1) Q) → Ev (d + 4) 30 (7, [some (.inr (.inr (.inr (1, 0, 1)))), some (.inr (.inr (.inr r))), some (.inl (iZ ((n : Int)))), some (.inl (iZ ((f : Int)))), x4, x5], [], h) Q := by
  induction m with
  | zero =>
    intro f h S x4 x5 hm hf s t hN0 z q
    exact sy_7 (d := d + 4) (by omega) (by omega) (fun c => q h S f x4 x5 s c t z (Kp_r _ _ _) (by omega) (by omega)) (fun c => absurd c (by omega))
  | succ m ih =>
    intro f h S x4 x5 hm hf s t hN0 z q
    refine sy_7 (d := d + 4) (by omega) (by omega) (fun c => q h S f x4 x5 s c t z (Kp_r _ _ _) (by omega) (by omega)) (fun c => ?_)
    obtain ⟨I, w, et⟩ := s
    have kg : Kp (hN h) nA h (grow h 5) := Kp_g
    have w5 := w.1.2.2.2.2.1
    refine sy_in (N := N) (ra := hN h) as hn (by omega) (by omega) hN0 20 0 (grow h 5) rfl (txR_Kp t kg hN0 (fun _ _ y => y)) (Nat.lt_succ_self _) (fun q5 hq => ?_) (fun h2 s2 k2 e2 t2 => ?_)
    · rw [show min 4 (0 - 4 * q5) = 0 by omega]
      exact z (hN h) (Nat.le_refl _) q5
    · have k02 : Kp (hN h) nA h h2 := Kp_t kg k2
      have I2 := CI_K I w5 k02
      have lt : (tpS S).length ≤ 1580 := by rw [et, pdT_l]; omega
      have n2 : hN h2 = hN h + 1 := by show h2.2.2.2.1 = _; rw [e2]; rfl
      have m2 : hS h2 = hS h + 5 := by show h2.2.2.2.2 = _; rw [e2]; rfl
      refine sy_72 (d := d + 2) I2 (WS_N w (by decide)) lt s2 (fun h3 I3 F3 => ?_)
      have h83 := ci_hN I2
      have kf := Kp_FX h83 F3
      have kf2 : Kp (hN h2) (fun a => 1 ≤ a ∧ a ≤ 82) h2 h3 := Kp_m kf (Nat.le_refl _) (fun x _ y => y.elim (fun y => y) u00_q)
      have w3 := WS_fed (a := iZ (wN T (f + 4 * 0) 4)) (b := iZ (wN T (f + 4 * 1) 4)) (c := iZ (wN T (f + 4 * 2) 4)) (d := iZ (wN T (f + 4 * 3) 4)) (e := iZ (wN T (f + 4 * 4) 4)) w lt
      have n3 : hN h3 ≤ hN h2 := by have := F3.2.2.2.2.2.1; omega
      have m3 : hS h3 ≤ hS h2 := by have := F3.2.2.2.2.2.2.1; omega
      refine ih (f + 20) h3 _ _ _ (by omega) (by omega) ⟨I3, w3, ?_⟩ (txR_Kp t2 kf2 (by omega) (fun a ha => by omega)) (by have := kf2.2.2.2; omega) (Kp_Z kf2 (Kp_Z k02 z)) (fun h4 S4 f4 y4 y5 s4 c4 t4 z4 k4 n4 m4 => q h4 S4 f4 y4 y5 s4 c4 t4 z4 (Kp_t (Kp_m k02 hN0 (fun _ _ y => absurd y (fun y => y))) (Kp_t (Kp_m kf2 (by omega) (fun _ _ y => y)) k4)) (by omega) (by omega))
      show tpS S ++ _ = _
      rw [et]
      exact pdT_20 as f
