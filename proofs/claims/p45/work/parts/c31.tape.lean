/-! All twenty; the tape that comes of them. -/
theorem sy_in {d lo N f n ra : Nat} {r : VR} {T : List Int} {Q : Rs → PH → Prop} (as : asT T) (hn : T.length = n) (hn2 : n ≤ 2000) (hf : f ≤ 2000) (hra : N ≤ ra) (m : Nat) : ∀ (k : Nat) (h : PH), k + m = 20 → txR h lo N r T → ra < hN h → sRw h ra T f k → (∀ h1, sRw h1 ra T f 20 → Kp ra nA h h1 → h1.2 = h.2 → txR h1 lo N r T → Ev (d + 4) 30 (72, [some (.inr (.inr (.inr (1, 0, 1)))), some (.inr (.inr (.inr r))), some (.inl (iZ ((n : Int)))), some (.inl (iZ ((f : Int)))), some (.inr (.inr (.inr (20, 5, ra)))), some (.inl (iZ (((20 : Nat) : Int))))], [], h1) Q) → Ev (d + 4) 30 (20, [some (.inr (.inr (.inr (1, 0, 1)))), some (.inr (.inr (.inr r))), some (.inl (iZ ((n : Int)))), some (.inl (iZ ((f : Int)))), some (.inr (.inr (.inr (20, 5, ra)))), some (.inl (iZ (((k : Nat) : Int))))], [], h) Q := by
  induction m with
  | zero =>
    intro k h hk t hh s q
    have e : k = 20 := by omega
    subst e
    have t0 := t
    rcases t with ⟨y, rfl, y2⟩ | ⟨a, v, rfl, y⟩
    · exact sy_20c t0 as hn hn2 hf (Nat.le_refl _) s (fun _ => q h s (Kp_r _ _ _) rfl t0) (fun z => absurd z (by decide))
    · exact sy_20o t0 as hn hn2 hf (Nat.le_refl _) s (fun _ => q h s (Kp_r _ _ _) rfl t0) (fun z => absurd z (by decide))
  | succ m ih =>
    intro k h hk t hh s q
    have t0 := t
    have kp : ∀ v, Kp ra nA h (setI h ra (k / 4) v) := fun v => Kp_I (fun z => absurd z (Nat.lt_irrefl _)) hh
    have go := fun s2 => ih (k + 1) (setI h ra (k / 4) (iZ (wN T (f + 4 * (k / 4)) (k % 4) * 256 + lB T (f + k)))) (by omega) (txR_Kp t (kp _) hra (fun _ _ z => z)) hh s2 (fun h1 s1 k1 e1 t1 => q h1 s1 (Kp_t (kp _) k1) e1 t1)
    rcases t with ⟨y, rfl, y2⟩ | ⟨a, v, rfl, y⟩
    · exact sy_20c t0 as hn hn2 hf (by omega) s (fun z => absurd z (by omega)) (fun _ s2 => go s2)
    · exact sy_20o t0 as hn hn2 hf (by omega) s (fun z => absurd z (by omega)) (fun _ s2 => go s2)
theorem wN_4 {T : List Int} (as : asT T) (s : Nat) : by4 (iZ (wN T s 4)) = [lB T s, lB T (s + 1), lB T (s + 2), lB T (s + 3)] := by
  have e : wN T s 4 = ((lB T s * 256 + lB T (s + 1)) * 256 + lB T (s + 2)) * 256 + lB T (s + 3) := by
    show (((0 * 256 + lB T (s + 0)) * 256 + lB T (s + 1)) * 256 + lB T (s + 2)) * 256 + lB T (s + 3) = _
    rw [Nat.add_zero, Int.zero_mul, Int.zero_add]
  rw [e]
  exact by4_w (lB_b as _) (lB_b as _) (lB_b as _) (lB_b as _)
/-- the first f letters, blanks behind the end -/
def pdT (T : List Int) (f : Nat) : List Int := (List.range f).map (lB T)
theorem pdT_20 {T : List Int} (as : asT T) (f : Nat) : pdT T f ++ (by4 (iZ (wN T (f + 4 * 0) 4)) ++ (by4 (iZ (wN T (f + 4 * 1) 4)) ++ (by4 (iZ (wN T (f + 4 * 2) 4)) ++ (by4 (iZ (wN T (f + 4 * 3) 4)) ++ by4 (iZ (wN T (f + 4 * 4) 4)))))) = pdT T (f + 20) := by
  rw [wN_4 as, wN_4 as, wN_4 as, wN_4 as, wN_4 as]
  unfold pdT
  rw [show f + 20 = f + 1 + 1 + 1 + 1 + 1 + 1 + 1 + 1 + 1 + 1 + 1 + 1 + 1 + 1 + 1 + 1 + 1 + 1 + 1 + 1 by omega]
  simp only [List.range_succ, List.map_append, List.map_cons, List.map_nil, List.append_assoc, List.cons_append, List.nil_append]
  rfl
theorem pdT_take {T : List Int} {f : Nat} (h : T.length ≤ f) : (pdT T f).take T.length = T := by
  apply List.ext_getElem
  · rw [List.length_take]; unfold pdT; rw [List.length_map, List.length_range]; omega
  · intro j h1 h2
    rw [List.getElem_take]
    unfold pdT
    rw [List.getElem_map, List.getElem_range]
    unfold lB
    rw [if_pos h2, List.getD_eq_getElem?_getD, List.getElem?_eq_getElem h2]
    rfl
