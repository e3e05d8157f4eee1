/-! Twenty letters of a text in five ints. -/
/-- the letter at j, a blank behind the end -/
def lB (T : List Int) (j : Nat) : Int := if j < T.length then T.getD j 0 else 32
theorem lB_b {T : List Int} (as : asT T) (j : Nat) : 0 ≤ lB T j ∧ lB T j < 128 := by
  unfold lB
  split
  · exact asT_get as j
  · exact ⟨by decide, by decide⟩
/-- c letters from s on as a number -/
def wN (T : List Int) (s : Nat) : Nat → Int
  | 0 => 0
  | c + 1 => wN T s c * 256 + lB T (s + c)
theorem wN_b {T : List Int} (as : asT T) (s : Nat) : (0 ≤ wN T s 1 ∧ wN T s 1 < 128) ∧ (0 ≤ wN T s 2 ∧ wN T s 2 < 32768) ∧ (0 ≤ wN T s 3 ∧ wN T s 3 < 8388608) := by
  have b0 := lB_b as (s + 0)
  have b1 := lB_b as (s + 1)
  have b2 := lB_b as (s + 2)
  have e1 : wN T s 1 = 0 * 256 + lB T (s + 0) := rfl
  have e2 : wN T s 2 = wN T s 1 * 256 + lB T (s + 1) := rfl
  have e3 : wN T s 3 = wN T s 2 * 256 + lB T (s + 2) := rfl
  omega
theorem wN_3 {T : List Int} (as : asT T) (s : Nat) {c : Nat} (hc : c ≤ 3) : 0 ≤ wN T s c ∧ wN T s c < 8388608 := by
  obtain ⟨a, b, e⟩ := wN_b as s
  rcases (show c = 0 ∨ c = 1 ∨ c = 2 ∨ c = 3 by omega) with rfl | rfl | rfl | rfl
  · exact ⟨Int.le_refl _, by show (0 : Int) < 8388608; decide⟩
  · omega
  · omega
  · omega
/-- the row after k letters from f on -/
def sRw (h : PH) (ra : Nat) (T : List Int) (f k : Nat) : Prop := ∀ q, q < 5 → h.1 ra q = iZ (wN T (f + 4 * q) (min 4 (k - 4 * q)))
theorem sRw_s {h : PH} {ra f k : Nat} {T : List Int} (r : sRw h ra T f k) (hk : k < 20) : sRw (setI h ra (k / 4) (iZ (wN T (f + 4 * (k / 4)) (k % 4) * 256 + lB T (f + k)))) ra T f (k + 1) := by
  intro q hq
  by_cases e : q = k / 4
  · subst e
    rw [setI_self, show min 4 (k + 1 - 4 * (k / 4)) = k % 4 + 1 by omega]
    show _ = iZ (wN T (f + 4 * (k / 4)) (k % 4) * 256 + lB T (f + 4 * (k / 4) + k % 4))
    rw [show f + 4 * (k / 4) + k % 4 = f + k by omega]
  · rw [setI_ne (fun z => e z.2), r q hq, show min 4 (k + 1 - 4 * q) = min 4 (k - 4 * q) by omega]
theorem sy_20o {d lo N f k n ra ta : Nat} {T : List Int} {h : PH} {Q : Rs → PH → Prop} (t : txR h lo N (14, 0, ta) T) (as : asT T) (hn : T.length = n) (hn2 : n ≤ 2000) (hf : f ≤ 2000) (hk : k ≤ 20) (r : sRw h ra T f k) (kd : k = 20 → Ev (d + 4) 30 (72, [some (.inr (.inr (.inr (1, 0, 1)))), some (.inr (.inr (.inr (14, 0, ta)))), some (.inl (iZ ((n : Int)))), some (.inl (iZ ((f : Int)))), some (.inr (.inr (.inr (20, 5, ra)))), some (.inl (iZ ((k : Int))))], [], h) Q) (kn : k < 20 → sRw (setI h ra (k / 4) (iZ (wN T (f + 4 * (k / 4)) (k % 4) * 256 + lB T (f + k)))) ra T f (k + 1) → Ev (d + 4) 30 (20, [some (.inr (.inr (.inr (1, 0, 1)))), some (.inr (.inr (.inr (14, 0, ta)))), some (.inl (iZ ((n : Int)))), some (.inl (iZ ((f : Int)))), some (.inr (.inr (.inr (20, 5, ra)))), some (.inl (iZ (((k + 1 : Nat) : Int))))], [], (setI h ra (k / 4) (iZ (wN T (f + 4 * (k / 4)) (k % 4) * 256 + lB T (f + k))))) Q) : Ev (d + 4) 30 (20, [some (.inr (.inr (.inr (1, 0, 1)))), some (.inr (.inr (.inr (14, 0, ta)))), some (.inl (iZ ((n : Int)))), some (.inl (iZ ((f : Int)))), some (.inr (.inr (.inr (20, 5, ra)))), some (.inl (iZ ((k : Int))))], [], h) Q := by
  have rq : k < 20 → h.1 ra (k / 4) = iZ (wN T (f + 4 * (k / 4)) (k % 4)) := fun z => by
    have := r (k / 4) (by omega)
    rw [show min 4 (k - 4 * (k / 4)) = k % 4 by omega] at this
    exact this
  have ag := asT_get as (f + k)
  have lb := lB_b as (f + k)
  refine Ev.sts 2 (c' := (24, [some (.inr (.inr (.inr (1, 0, 1)))), some (.inr (.inr (.inr (14, 0, ta)))), some (.inl (iZ ((n : Int)))), some (.inl (iZ ((f : Int)))), some (.inr (.inr (.inr (20, 5, ra)))), some (.inl (iZ ((k : Int))))], [.inl (iZ (20)), .inl (iZ ((k : Int)))], h)) rfl ?_
  refine Ev.brc (p := (iZ (20)) ≤ (iZ ((k : Int)))) (q := ((20 : Int)) ≤ (k : Int)) (c1 := (72, [some (.inr (.inr (.inr (1, 0, 1)))), some (.inr (.inr (.inr (14, 0, ta)))), some (.inl (iZ ((n : Int)))), some (.inl (iZ ((f : Int)))), some (.inr (.inr (.inr (20, 5, ra)))), some (.inl (iZ ((k : Int))))], [], h)) (c2 := (27, [some (.inr (.inr (.inr (1, 0, 1)))), some (.inr (.inr (.inr (14, 0, ta)))), some (.inl (iZ ((n : Int)))), some (.inl (iZ ((f : Int)))), some (.inr (.inr (.inr (20, 5, ra)))), some (.inl (iZ ((k : Int))))], [], h)) rfl (iZ_le ⟨by omega, by omega⟩ ⟨by omega, by omega⟩) (fun c0 => ?_) (fun c0 => ?_)
  · exact kd (by omega)
  · refine Ev.sts 3 (c' := (32, [some (.inr (.inr (.inr (1, 0, 1)))), some (.inr (.inr (.inr (14, 0, ta)))), some (.inl (iZ ((n : Int)))), some (.inl (iZ ((f : Int)))), some (.inr (.inr (.inr (20, 5, ra)))), some (.inl (iZ ((k : Int))))], [.inl (iZ (4)), .inl (iZ ((k : Int))), .inr (.inr (.inr (20, 5, ra)))], h)) rfl ?_
    refine Ev.pv (p := (iZ (4)) = 0) (v := .inl ((iZ ((k : Int))) / (iZ (4)))) (w := .inl (iZ (((k : Int)) / 4))) (iZ_n0 (by omega) (by omega)) rfl (congrArg vI (iZ_div (by omega) (by omega) (by omega) (by omega))) ?_
    refine Ev.sts 3 (c' := (38, [some (.inr (.inr (.inr (1, 0, 1)))), some (.inr (.inr (.inr (14, 0, ta)))), some (.inl (iZ ((n : Int)))), some (.inl (iZ ((f : Int)))), some (.inr (.inr (.inr (20, 5, ra)))), some (.inl (iZ ((k : Int))))], [.inl (iZ (4)), .inl (iZ ((k : Int))), .inr (.inr (.inr (20, 5, ra))), .inl (iZ (((k : Int)) / 4)), .inr (.inr (.inr (20, 5, ra)))], h)) rfl ?_
    refine Ev.pv (p := (iZ (4)) = 0) (v := .inl ((iZ ((k : Int))) / (iZ (4)))) (w := .inl (iZ (((k : Int)) / 4))) (iZ_n0 (by omega) (by omega)) rfl (congrArg vI (iZ_div (by omega) (by omega) (by omega) (by omega))) ?_
    refine Ev.ldv (j := (iZ (((k : Int)) / 4))) (n := 5) (w := .inl (iZ (wN T (f + 4 * (k / 4)) (k % 4)))) (iZ_in (by omega) (by omega) (by omega)) rfl (by rw [iZ_ix (n := k / 4) (by omega) (by omega)]; exact congrArg vI (rq (by omega))) ?_
    refine Ev.sts 4 (c' := (46, [some (.inr (.inr (.inr (1, 0, 1)))), some (.inr (.inr (.inr (14, 0, ta)))), some (.inl (iZ ((n : Int)))), some (.inl (iZ ((f : Int)))), some (.inr (.inr (.inr (20, 5, ra)))), some (.inl (iZ ((k : Int))))], [.inl (iZ ((k : Int))), .inl (iZ ((f : Int))), .inl (((iZ (wN T (f + 4 * (k / 4)) (k % 4))) <<< ((iZ (8)) &&& 31))), .inl (iZ (((k : Int)) / 4)), .inr (.inr (.inr (20, 5, ra)))], h)) rfl ?_
    refine Ev.gv (w := (iZ (((f : Int)) + ((k : Int))))) rfl (iZ_add _ _) ?_
    refine Ev.sts 1 (c' := (48, [some (.inr (.inr (.inr (1, 0, 1)))), some (.inr (.inr (.inr (14, 0, ta)))), some (.inl (iZ ((n : Int)))), some (.inl (iZ ((f : Int)))), some (.inr (.inr (.inr (20, 5, ra)))), some (.inl (iZ ((k : Int))))], [.inl (iZ ((n : Int))), .inl (iZ (((f : Int)) + ((k : Int)))), .inl (((iZ (wN T (f + 4 * (k / 4)) (k % 4))) <<< ((iZ (8)) &&& 31))), .inl (iZ (((k : Int)) / 4)), .inr (.inr (.inr (20, 5, ra)))], h)) rfl ?_
    refine Ev.brc (p := (iZ ((n : Int))) ≤ (iZ (((f : Int)) + ((k : Int))))) (q := (((n : Int) : Int)) ≤ ((f : Int)) + ((k : Int))) (c1 := (62, [some (.inr (.inr (.inr (1, 0, 1)))), some (.inr (.inr (.inr (14, 0, ta)))), some (.inl (iZ ((n : Int)))), some (.inl (iZ ((f : Int)))), some (.inr (.inr (.inr (20, 5, ra)))), some (.inl (iZ ((k : Int))))], [.inl (((iZ (wN T (f + 4 * (k / 4)) (k % 4))) <<< ((iZ (8)) &&& 31))), .inl (iZ (((k : Int)) / 4)), .inr (.inr (.inr (20, 5, ra)))], h)) (c2 := (51, [some (.inr (.inr (.inr (1, 0, 1)))), some (.inr (.inr (.inr (14, 0, ta)))), some (.inl (iZ ((n : Int)))), some (.inl (iZ ((f : Int)))), some (.inr (.inr (.inr (20, 5, ra)))), some (.inl (iZ ((k : Int))))], [.inl (((iZ (wN T (f + 4 * (k / 4)) (k % 4))) <<< ((iZ (8)) &&& 31))), .inl (iZ (((k : Int)) / 4)), .inr (.inr (.inr (20, 5, ra)))], h)) rfl (iZ_le ⟨by omega, by omega⟩ ⟨by omega, by omega⟩) (fun c1 => ?_) (fun c1 => ?_)
    · refine Ev.sts 1 (c' := (64, [some (.inr (.inr (.inr (1, 0, 1)))), some (.inr (.inr (.inr (14, 0, ta)))), some (.inl (iZ ((n : Int)))), some (.inl (iZ ((f : Int)))), some (.inr (.inr (.inr (20, 5, ra)))), some (.inl (iZ ((k : Int))))], [.inl (iZ (32)), .inl (((iZ (wN T (f + 4 * (k / 4)) (k % 4))) <<< ((iZ (8)) &&& 31))), .inl (iZ (((k : Int)) / 4)), .inr (.inr (.inr (20, 5, ra)))], h)) rfl ?_
      have eb : lB T (f + k) = 32 := if_neg (by omega)
      refine Ev.gv (w := (iZ (wN T (f + 4 * (k / 4)) (k % 4) * 256 + lB T (f + k)))) rfl (by rw [eb]; exact shl_or (wN_3 as _ (by omega)) ⟨by omega, by omega⟩) ?_
      refine Ev.sto (j := (iZ (((k : Int)) / 4))) (n := 5) (h2 := (setI h ra (k / 4) ((iZ (wN T (f + 4 * (k / 4)) (k % 4) * 256 + lB T (f + k)))))) (iZ_in (by omega) (by omega) (by omega)) rfl (by rw [iZ_ix (n := k / 4) (by omega) (by omega)]) ?_
      refine Ev.stc (c1 := (69, [some (.inr (.inr (.inr (1, 0, 1)))), some (.inr (.inr (.inr (14, 0, ta)))), some (.inl (iZ ((n : Int)))), some (.inl (iZ ((f : Int)))), some (.inr (.inr (.inr (20, 5, ra)))), some (.inl ((iZ ((k : Int))) + (iZ (1))))], [], (setI h ra (k / 4) ((iZ (wN T (f + 4 * (k / 4)) (k % 4) * 256 + lB T (f + k))))))) (c2 := (69, [some (.inr (.inr (.inr (1, 0, 1)))), some (.inr (.inr (.inr (14, 0, ta)))), some (.inl (iZ ((n : Int)))), some (.inl (iZ ((f : Int)))), some (.inr (.inr (.inr (20, 5, ra)))), some (.inl (iZ (((k : Int)) + 1)))], [], (setI h ra (k / 4) ((iZ (wN T (f + 4 * (k / 4)) (k % 4) * 256 + lB T (f + k))))))) rfl (by rw [iZ_add]) ?_
      refine Ev.sts 1 (c' := (20, [some (.inr (.inr (.inr (1, 0, 1)))), some (.inr (.inr (.inr (14, 0, ta)))), some (.inl (iZ ((n : Int)))), some (.inl (iZ ((f : Int)))), some (.inr (.inr (.inr (20, 5, ra)))), some (.inl (iZ (((k : Int)) + 1)))], [], (setI h ra (k / 4) ((iZ (wN T (f + 4 * (k / 4)) (k % 4) * 256 + lB T (f + k))))))) rfl ?_
      rw [show ((k : Int) + 1) = ((k + 1 : Nat) : Int) by omega]
      exact kn (by omega) (sRw_s r (by omega))
    · refine Ev.sts 3 (c' := (55, [some (.inr (.inr (.inr (1, 0, 1)))), some (.inr (.inr (.inr (14, 0, ta)))), some (.inl (iZ ((n : Int)))), some (.inl (iZ ((f : Int)))), some (.inr (.inr (.inr (20, 5, ra)))), some (.inl (iZ ((k : Int))))], [.inl (iZ ((k : Int))), .inl (iZ ((f : Int))), .inr (.inr (.inr (14, 0, ta))), .inl (((iZ (wN T (f + 4 * (k / 4)) (k % 4))) <<< ((iZ (8)) &&& 31))), .inl (iZ (((k : Int)) / 4)), .inr (.inr (.inr (20, 5, ra)))], h)) rfl ?_
      refine Ev.gv (w := (iZ (((f : Int)) + ((k : Int))))) rfl (iZ_add _ _) ?_
      rw [show ((f : Int) + (k : Int)) = ((f + k : Nat) : Int) by omega]
      refine Ev.callv (a := [.inr (.inr (.inr (14, 0, ta))), .inl (iZ (((f + k : Nat) : Int)))]) rfl ((tx_charAt (i := f + k) t as (by omega) (by omega)).mono rfl rfl) ?_
      refine Ev.sts 1 (c' := (64, [some (.inr (.inr (.inr (1, 0, 1)))), some (.inr (.inr (.inr (14, 0, ta)))), some (.inl (iZ ((n : Int)))), some (.inl (iZ ((f : Int)))), some (.inr (.inr (.inr (20, 5, ra)))), some (.inl (iZ ((k : Int))))], [.inl (iZ (T.getD (f + k) 0)), .inl (((iZ (wN T (f + 4 * (k / 4)) (k % 4))) <<< ((iZ (8)) &&& 31))), .inl (iZ (((k : Int)) / 4)), .inr (.inr (.inr (20, 5, ra)))], h)) rfl ?_
      have eb : lB T (f + k) = T.getD (f + k) 0 := if_pos (by omega)
      refine Ev.gv (w := (iZ (wN T (f + 4 * (k / 4)) (k % 4) * 256 + lB T (f + k)))) rfl (by rw [eb]; exact shl_or (wN_3 as _ (by omega)) ⟨by omega, by omega⟩) ?_
      refine Ev.sto (j := (iZ (((k : Int)) / 4))) (n := 5) (h2 := (setI h ra (k / 4) ((iZ (wN T (f + 4 * (k / 4)) (k % 4) * 256 + lB T (f + k)))))) (iZ_in (by omega) (by omega) (by omega)) rfl (by rw [iZ_ix (n := k / 4) (by omega) (by omega)]) ?_
      refine Ev.stc (c1 := (69, [some (.inr (.inr (.inr (1, 0, 1)))), some (.inr (.inr (.inr (14, 0, ta)))), some (.inl (iZ ((n : Int)))), some (.inl (iZ ((f : Int)))), some (.inr (.inr (.inr (20, 5, ra)))), some (.inl ((iZ ((k : Int))) + (iZ (1))))], [], (setI h ra (k / 4) ((iZ (wN T (f + 4 * (k / 4)) (k % 4) * 256 + lB T (f + k))))))) (c2 := (69, [some (.inr (.inr (.inr (1, 0, 1)))), some (.inr (.inr (.inr (14, 0, ta)))), some (.inl (iZ ((n : Int)))), some (.inl (iZ ((f : Int)))), some (.inr (.inr (.inr (20, 5, ra)))), some (.inl (iZ (((k : Int)) + 1)))], [], (setI h ra (k / 4) ((iZ (wN T (f + 4 * (k / 4)) (k % 4) * 256 + lB T (f + k))))))) rfl (by rw [iZ_add]) ?_
      refine Ev.sts 1 (c' := (20, [some (.inr (.inr (.inr (1, 0, 1)))), some (.inr (.inr (.inr (14, 0, ta)))), some (.inl (iZ ((n : Int)))), some (.inl (iZ ((f : Int)))), some (.inr (.inr (.inr (20, 5, ra)))), some (.inl (iZ (((k : Int)) + 1)))], [], (setI h ra (k / 4) ((iZ (wN T (f + 4 * (k / 4)) (k % 4) * 256 + lB T (f + k))))))) rfl ?_
      rw [show ((k : Int) + 1) = ((k + 1 : Nat) : Int) by omega]
      exact kn (by omega) (sRw_s r (by omega))

theorem sy_20c {d lo N f k n ra ta : Nat} {T : List Int} {h : PH} {Q : Rs → PH → Prop} (t : txR h lo N (43, 0, ta) T) (as : asT T) (hn : T.length = n) (hn2 : n ≤ 2000) (hf : f ≤ 2000) (hk : k ≤ 20) (r : sRw h ra T f k) (kd : k = 20 → Ev (d + 4) 30 (72, [some (.inr (.inr (.inr (1, 0, 1)))), some (.inr (.inr (.inr (43, 0, ta)))), some (.inl (iZ ((n : Int)))), some (.inl (iZ ((f : Int)))), some (.inr (.inr (.inr (20, 5, ra)))), some (.inl (iZ ((k : Int))))], [], h) Q) (kn : k < 20 → sRw (setI h ra (k / 4) (iZ (wN T (f + 4 * (k / 4)) (k % 4) * 256 + lB T (f + k)))) ra T f (k + 1) → Ev (d + 4) 30 (20, [some (.inr (.inr (.inr (1, 0, 1)))), some (.inr (.inr (.inr (43, 0, ta)))), some (.inl (iZ ((n : Int)))), some (.inl (iZ ((f : Int)))), some (.inr (.inr (.inr (20, 5, ra)))), some (.inl (iZ (((k + 1 : Nat) : Int))))], [], (setI h ra (k / 4) (iZ (wN T (f + 4 * (k / 4)) (k % 4) * 256 + lB T (f + k))))) Q) : Ev (d + 4) 30 (20, [some (.inr (.inr (.inr (1, 0, 1)))), some (.inr (.inr (.inr (43, 0, ta)))), some (.inl (iZ ((n : Int)))), some (.inl (iZ ((f : Int)))), some (.inr (.inr (.inr (20, 5, ra)))), some (.inl (iZ ((k : Int))))], [], h) Q := by
  have rq : k < 20 → h.1 ra (k / 4) = iZ (wN T (f + 4 * (k / 4)) (k % 4)) := fun z => by
    have := r (k / 4) (by omega)
    rw [show min 4 (k - 4 * (k / 4)) = k % 4 by omega] at this
    exact this
  have ag := asT_get as (f + k)
  have lb := lB_b as (f + k)
  refine Ev.sts 2 (c' := (24, [some (.inr (.inr (.inr (1, 0, 1)))), some (.inr (.inr (.inr (43, 0, ta)))), some (.inl (iZ ((n : Int)))), some (.inl (iZ ((f : Int)))), some (.inr (.inr (.inr (20, 5, ra)))), some (.inl (iZ ((k : Int))))], [.inl (iZ (20)), .inl (iZ ((k : Int)))], h)) rfl ?_
  refine Ev.brc (p := (iZ (20)) ≤ (iZ ((k : Int)))) (q := ((20 : Int)) ≤ (k : Int)) (c1 := (72, [some (.inr (.inr (.inr (1, 0, 1)))), some (.inr (.inr (.inr (43, 0, ta)))), some (.inl (iZ ((n : Int)))), some (.inl (iZ ((f : Int)))), some (.inr (.inr (.inr (20, 5, ra)))), some (.inl (iZ ((k : Int))))], [], h)) (c2 := (27, [some (.inr (.inr (.inr (1, 0, 1)))), some (.inr (.inr (.inr (43, 0, ta)))), some (.inl (iZ ((n : Int)))), some (.inl (iZ ((f : Int)))), some (.inr (.inr (.inr (20, 5, ra)))), some (.inl (iZ ((k : Int))))], [], h)) rfl (iZ_le ⟨by omega, by omega⟩ ⟨by omega, by omega⟩) (fun c0 => ?_) (fun c0 => ?_)
  · exact kd (by omega)
  · refine Ev.sts 3 (c' := (32, [some (.inr (.inr (.inr (1, 0, 1)))), some (.inr (.inr (.inr (43, 0, ta)))), some (.inl (iZ ((n : Int)))), some (.inl (iZ ((f : Int)))), some (.inr (.inr (.inr (20, 5, ra)))), some (.inl (iZ ((k : Int))))], [.inl (iZ (4)), .inl (iZ ((k : Int))), .inr (.inr (.inr (20, 5, ra)))], h)) rfl ?_
    refine Ev.pv (p := (iZ (4)) = 0) (v := .inl ((iZ ((k : Int))) / (iZ (4)))) (w := .inl (iZ (((k : Int)) / 4))) (iZ_n0 (by omega) (by omega)) rfl (congrArg vI (iZ_div (by omega) (by omega) (by omega) (by omega))) ?_
    refine Ev.sts 3 (c' := (38, [some (.inr (.inr (.inr (1, 0, 1)))), some (.inr (.inr (.inr (43, 0, ta)))), some (.inl (iZ ((n : Int)))), some (.inl (iZ ((f : Int)))), some (.inr (.inr (.inr (20, 5, ra)))), some (.inl (iZ ((k : Int))))], [.inl (iZ (4)), .inl (iZ ((k : Int))), .inr (.inr (.inr (20, 5, ra))), .inl (iZ (((k : Int)) / 4)), .inr (.inr (.inr (20, 5, ra)))], h)) rfl ?_
    refine Ev.pv (p := (iZ (4)) = 0) (v := .inl ((iZ ((k : Int))) / (iZ (4)))) (w := .inl (iZ (((k : Int)) / 4))) (iZ_n0 (by omega) (by omega)) rfl (congrArg vI (iZ_div (by omega) (by omega) (by omega) (by omega))) ?_
    refine Ev.ldv (j := (iZ (((k : Int)) / 4))) (n := 5) (w := .inl (iZ (wN T (f + 4 * (k / 4)) (k % 4)))) (iZ_in (by omega) (by omega) (by omega)) rfl (by rw [iZ_ix (n := k / 4) (by omega) (by omega)]; exact congrArg vI (rq (by omega))) ?_
    refine Ev.sts 4 (c' := (46, [some (.inr (.inr (.inr (1, 0, 1)))), some (.inr (.inr (.inr (43, 0, ta)))), some (.inl (iZ ((n : Int)))), some (.inl (iZ ((f : Int)))), some (.inr (.inr (.inr (20, 5, ra)))), some (.inl (iZ ((k : Int))))], [.inl (iZ ((k : Int))), .inl (iZ ((f : Int))), .inl (((iZ (wN T (f + 4 * (k / 4)) (k % 4))) <<< ((iZ (8)) &&& 31))), .inl (iZ (((k : Int)) / 4)), .inr (.inr (.inr (20, 5, ra)))], h)) rfl ?_
    refine Ev.gv (w := (iZ (((f : Int)) + ((k : Int))))) rfl (iZ_add _ _) ?_
    refine Ev.sts 1 (c' := (48, [some (.inr (.inr (.inr (1, 0, 1)))), some (.inr (.inr (.inr (43, 0, ta)))), some (.inl (iZ ((n : Int)))), some (.inl (iZ ((f : Int)))), some (.inr (.inr (.inr (20, 5, ra)))), some (.inl (iZ ((k : Int))))], [.inl (iZ ((n : Int))), .inl (iZ (((f : Int)) + ((k : Int)))), .inl (((iZ (wN T (f + 4 * (k / 4)) (k % 4))) <<< ((iZ (8)) &&& 31))), .inl (iZ (((k : Int)) / 4)), .inr (.inr (.inr (20, 5, ra)))], h)) rfl ?_
    refine Ev.brc (p := (iZ ((n : Int))) ≤ (iZ (((f : Int)) + ((k : Int))))) (q := (((n : Int) : Int)) ≤ ((f : Int)) + ((k : Int))) (c1 := (62, [some (.inr (.inr (.inr (1, 0, 1)))), some (.inr (.inr (.inr (43, 0, ta)))), some (.inl (iZ ((n : Int)))), some (.inl (iZ ((f : Int)))), some (.inr (.inr (.inr (20, 5, ra)))), some (.inl (iZ ((k : Int))))], [.inl (((iZ (wN T (f + 4 * (k / 4)) (k % 4))) <<< ((iZ (8)) &&& 31))), .inl (iZ (((k : Int)) / 4)), .inr (.inr (.inr (20, 5, ra)))], h)) (c2 := (51, [some (.inr (.inr (.inr (1, 0, 1)))), some (.inr (.inr (.inr (43, 0, ta)))), some (.inl (iZ ((n : Int)))), some (.inl (iZ ((f : Int)))), some (.inr (.inr (.inr (20, 5, ra)))), some (.inl (iZ ((k : Int))))], [.inl (((iZ (wN T (f + 4 * (k / 4)) (k % 4))) <<< ((iZ (8)) &&& 31))), .inl (iZ (((k : Int)) / 4)), .inr (.inr (.inr (20, 5, ra)))], h)) rfl (iZ_le ⟨by omega, by omega⟩ ⟨by omega, by omega⟩) (fun c1 => ?_) (fun c1 => ?_)
    · refine Ev.sts 1 (c' := (64, [some (.inr (.inr (.inr (1, 0, 1)))), some (.inr (.inr (.inr (43, 0, ta)))), some (.inl (iZ ((n : Int)))), some (.inl (iZ ((f : Int)))), some (.inr (.inr (.inr (20, 5, ra)))), some (.inl (iZ ((k : Int))))], [.inl (iZ (32)), .inl (((iZ (wN T (f + 4 * (k / 4)) (k % 4))) <<< ((iZ (8)) &&& 31))), .inl (iZ (((k : Int)) / 4)), .inr (.inr (.inr (20, 5, ra)))], h)) rfl ?_
      have eb : lB T (f + k) = 32 := if_neg (by omega)
      refine Ev.gv (w := (iZ (wN T (f + 4 * (k / 4)) (k % 4) * 256 + lB T (f + k)))) rfl (by rw [eb]; exact shl_or (wN_3 as _ (by omega)) ⟨by omega, by omega⟩) ?_
      refine Ev.sto (j := (iZ (((k : Int)) / 4))) (n := 5) (h2 := (setI h ra (k / 4) ((iZ (wN T (f + 4 * (k / 4)) (k % 4) * 256 + lB T (f + k)))))) (iZ_in (by omega) (by omega) (by omega)) rfl (by rw [iZ_ix (n := k / 4) (by omega) (by omega)]) ?_
      refine Ev.stc (c1 := (69, [some (.inr (.inr (.inr (1, 0, 1)))), some (.inr (.inr (.inr (43, 0, ta)))), some (.inl (iZ ((n : Int)))), some (.inl (iZ ((f : Int)))), some (.inr (.inr (.inr (20, 5, ra)))), some (.inl ((iZ ((k : Int))) + (iZ (1))))], [], (setI h ra (k / 4) ((iZ (wN T (f + 4 * (k / 4)) (k % 4) * 256 + lB T (f + k))))))) (c2 := (69, [some (.inr (.inr (.inr (1, 0, 1)))), some (.inr (.inr (.inr (43, 0, ta)))), some (.inl (iZ ((n : Int)))), some (.inl (iZ ((f : Int)))), some (.inr (.inr (.inr (20, 5, ra)))), some (.inl (iZ (((k : Int)) + 1)))], [], (setI h ra (k / 4) ((iZ (wN T (f + 4 * (k / 4)) (k % 4) * 256 + lB T (f + k))))))) rfl (by rw [iZ_add]) ?_
      refine Ev.sts 1 (c' := (20, [some (.inr (.inr (.inr (1, 0, 1)))), some (.inr (.inr (.inr (43, 0, ta)))), some (.inl (iZ ((n : Int)))), some (.inl (iZ ((f : Int)))), some (.inr (.inr (.inr (20, 5, ra)))), some (.inl (iZ (((k : Int)) + 1)))], [], (setI h ra (k / 4) ((iZ (wN T (f + 4 * (k / 4)) (k % 4) * 256 + lB T (f + k))))))) rfl ?_
      rw [show ((k : Int) + 1) = ((k + 1 : Nat) : Int) by omega]
      exact kn (by omega) (sRw_s r (by omega))
    · refine Ev.sts 3 (c' := (55, [some (.inr (.inr (.inr (1, 0, 1)))), some (.inr (.inr (.inr (43, 0, ta)))), some (.inl (iZ ((n : Int)))), some (.inl (iZ ((f : Int)))), some (.inr (.inr (.inr (20, 5, ra)))), some (.inl (iZ ((k : Int))))], [.inl (iZ ((k : Int))), .inl (iZ ((f : Int))), .inr (.inr (.inr (43, 0, ta))), .inl (((iZ (wN T (f + 4 * (k / 4)) (k % 4))) <<< ((iZ (8)) &&& 31))), .inl (iZ (((k : Int)) / 4)), .inr (.inr (.inr (20, 5, ra)))], h)) rfl ?_
      refine Ev.gv (w := (iZ (((f : Int)) + ((k : Int))))) rfl (iZ_add _ _) ?_
      rw [show ((f : Int) + (k : Int)) = ((f + k : Nat) : Int) by omega]
      refine Ev.callv (a := [.inr (.inr (.inr (43, 0, ta))), .inl (iZ (((f + k : Nat) : Int)))]) rfl ((tx_charAt (i := f + k) t as (by omega) (by omega)).mono rfl rfl) ?_
      refine Ev.sts 1 (c' := (64, [some (.inr (.inr (.inr (1, 0, 1)))), some (.inr (.inr (.inr (43, 0, ta)))), some (.inl (iZ ((n : Int)))), some (.inl (iZ ((f : Int)))), some (.inr (.inr (.inr (20, 5, ra)))), some (.inl (iZ ((k : Int))))], [.inl (iZ (T.getD (f + k) 0)), .inl (((iZ (wN T (f + 4 * (k / 4)) (k % 4))) <<< ((iZ (8)) &&& 31))), .inl (iZ (((k : Int)) / 4)), .inr (.inr (.inr (20, 5, ra)))], h)) rfl ?_
      have eb : lB T (f + k) = T.getD (f + k) 0 := if_pos (by omega)
      refine Ev.gv (w := (iZ (wN T (f + 4 * (k / 4)) (k % 4) * 256 + lB T (f + k)))) rfl (by rw [eb]; exact shl_or (wN_3 as _ (by omega)) ⟨by omega, by omega⟩) ?_
      refine Ev.sto (j := (iZ (((k : Int)) / 4))) (n := 5) (h2 := (setI h ra (k / 4) ((iZ (wN T (f + 4 * (k / 4)) (k % 4) * 256 + lB T (f + k)))))) (iZ_in (by omega) (by omega) (by omega)) rfl (by rw [iZ_ix (n := k / 4) (by omega) (by omega)]) ?_
      refine Ev.stc (c1 := (69, [some (.inr (.inr (.inr (1, 0, 1)))), some (.inr (.inr (.inr (43, 0, ta)))), some (.inl (iZ ((n : Int)))), some (.inl (iZ ((f : Int)))), some (.inr (.inr (.inr (20, 5, ra)))), some (.inl ((iZ ((k : Int))) + (iZ (1))))], [], (setI h ra (k / 4) ((iZ (wN T (f + 4 * (k / 4)) (k % 4) * 256 + lB T (f + k))))))) (c2 := (69, [some (.inr (.inr (.inr (1, 0, 1)))), some (.inr (.inr (.inr (43, 0, ta)))), some (.inl (iZ ((n : Int)))), some (.inl (iZ ((f : Int)))), some (.inr (.inr (.inr (20, 5, ra)))), some (.inl (iZ (((k : Int)) + 1)))], [], (setI h ra (k / 4) ((iZ (wN T (f + 4 * (k / 4)) (k % 4) * 256 + lB T (f + k))))))) rfl (by rw [iZ_add]) ?_
      refine Ev.sts 1 (c' := (20, [some (.inr (.inr (.inr (1, 0, 1)))), some (.inr (.inr (.inr (43, 0, ta)))), some (.inl (iZ ((n : Int)))), some (.inl (iZ ((f : Int)))), some (.inr (.inr (.inr (20, 5, ra)))), some (.inl (iZ (((k : Int)) + 1)))], [], (setI h ra (k / 4) ((iZ (wN T (f + 4 * (k / 4)) (k % 4) * 256 + lB T (f + k))))))) rfl ?_
      rw [show ((k : Int) + 1) = ((k + 1 : Nat) : Int) by omega]
      exact kn (by omega) (sRw_s r (by omega))

