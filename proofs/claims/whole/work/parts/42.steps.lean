/-! Both ways of counting are one. -/
def cinR (wd : Int) (tl : Nat) (v : Int32) : List Win → Int → List Win
  | [], s => [(s, s + wd, 1, v)]
  | w :: W, s => if w.1 < s then w :: cinR wd tl v W s else if w.1 = s then (s, w.2.1, w.2.2.1 + 1, jn tl w.2.2.2 v) :: W else (s, s + wd, 1, v) :: w :: W
theorem cin_R (wd : Int) (tl : Nat) (v : Int32) (W : List Win) (s : Int) : cin wd tl v W s = cinR wd tl v W s := by
  induction W with
  | nil => rfl
  | cons w W ih =>
    by_cases c : w.1 < s
    · have e : pl (w :: W) s = pl W s + 1 := if_pos c
      have e2 : cinR wd tl v (w :: W) s = w :: cinR wd tl v W s := if_pos c
      rw [e2, ← ih]
      unfold cin
      rw [e]
      by_cases d : pl W s < W.length ∧ (W.getD (pl W s) w0).1 = s
      · rw [if_pos d, if_pos (show pl W s + 1 < (w :: W).length ∧ ((w :: W).getD (pl W s + 1) w0).1 = s from ⟨Nat.succ_lt_succ d.1, d.2⟩)]; rfl
      · rw [if_neg d, if_neg (fun z => d ⟨Nat.lt_of_succ_lt_succ z.1, z.2⟩)]
        show (w :: W).take (pl (w :: W) s) ++ _ :: (w :: W).drop (pl (w :: W) s) = w :: (W.take (pl W s) ++ _ :: W.drop (pl W s))
        rw [e]; rfl
    · have e : pl (w :: W) s = 0 := if_neg c
      unfold cin
      rw [e]
      by_cases d : w.1 = s
      · have e2 : cinR wd tl v (w :: W) s = (s, w.2.1, w.2.2.1 + 1, jn tl w.2.2.2 v) :: W := (if_neg c).trans (if_pos d)
        rw [e2, if_pos (show 0 < (w :: W).length ∧ ((w :: W).getD 0 w0).1 = s from ⟨Nat.zero_lt_succ _, d⟩)]; rfl
      · have e2 : cinR wd tl v (w :: W) s = (s, s + wd, 1, v) :: w :: W := (if_neg c).trans (if_neg d)
        rw [e2, if_neg (fun z => d z.2)]
        show (w :: W).take (pl (w :: W) s) ++ _ :: (w :: W).drop (pl (w :: W) s) = _
        rw [e]; rfl
theorem cinR_c {wd : Int} {tl : Nat} {v : Int32} : ∀ (W : List Win) (s r : Int), s < r → cinR wd tl v (cinR wd tl v W s) r = cinR wd tl v (cinR wd tl v W r) s := by
  intro W
  induction W with
  | nil =>
    intro s r h
    show (if s < r then (s, s + wd, 1, v) :: cinR wd tl v [] r else _) = (if r < s then _ else if r = s then _ else (s, s + wd, 1, v) :: (r, r + wd, 1, v) :: [])
    rw [if_pos h, if_neg (by omega), if_neg (by omega)]; rfl
  | cons w W ih =>
    intro s r h
    by_cases c1 : w.1 < s
    · have e1 : cinR wd tl v (w :: W) s = w :: cinR wd tl v W s := if_pos c1
      have e2 : cinR wd tl v (w :: W) r = w :: cinR wd tl v W r := if_pos (by omega)
      rw [e1, e2]
      show (if w.1 < r then w :: cinR wd tl v (cinR wd tl v W s) r else _) = (if w.1 < s then w :: cinR wd tl v (cinR wd tl v W r) s else _)
      rw [if_pos (by omega), if_pos c1, ih s r h]
    · by_cases c2 : w.1 = s
      · have e1 : cinR wd tl v (w :: W) s = (s, w.2.1, w.2.2.1 + 1, jn tl w.2.2.2 v) :: W := (if_neg c1).trans (if_pos c2)
        have e2 : cinR wd tl v (w :: W) r = w :: cinR wd tl v W r := if_pos (by omega)
        rw [e1, e2]
        show (if s < r then (s, w.2.1, w.2.2.1 + 1, jn tl w.2.2.2 v) :: cinR wd tl v W r else _) = (if w.1 < s then _ else if w.1 = s then (s, w.2.1, w.2.2.1 + 1, jn tl w.2.2.2 v) :: cinR wd tl v W r else _)
        rw [if_pos h, if_neg c1, if_pos c2]
      · have e1 : cinR wd tl v (w :: W) s = (s, s + wd, 1, v) :: w :: W := (if_neg c1).trans (if_neg c2)
        rw [e1]
        have e3 : cinR wd tl v ((s, s + wd, 1, v) :: w :: W) r = (s, s + wd, 1, v) :: cinR wd tl v (w :: W) r := if_pos h
        rw [e3]
        have hd : ∃ x L, cinR wd tl v (w :: W) r = x :: L ∧ s < x.1 := by
          by_cases d1 : w.1 < r
          · exact ⟨w, _, if_pos d1, by omega⟩
          · by_cases d2 : w.1 = r
            · exact ⟨_, _, (if_neg d1).trans (if_pos d2), h⟩
            · exact ⟨_, _, (if_neg d1).trans (if_neg d2), h⟩
        obtain ⟨x, L, hx, hs⟩ := hd
        rw [hx]
        exact ((if_neg (show ¬ x.1 < s by omega)).trans (if_neg (show ¬ x.1 = s by omega))).symm
theorem cin_c {wd : Int} {tl : Nat} {v : Int32} (W : List Win) {s r : Int} (h : s ≠ r) : cin wd tl v (cin wd tl v W s) r = cin wd tl v (cin wd tl v W r) s := by
  simp only [cin_R]
  rcases Int.lt_or_gt_of_ne h with h | h
  · exact cinR_c W s r h
  · exact (cinR_c W r s h).symm
/-- the reference's way by steps, on one goose's windows -/
def evW (wd st hr wm : Int) (tl : Nat) (v : Int32) : Nat → List Win → Int → List Win
  | 0, W, _ => W
  | n + 1, W, s => if hr < s then W else evW wd st hr wm tl v n (if s + wd ≤ wm then W else cin wd tl v W s) (s + st)
/-- one start, by its number -/
def ste (wd st wm : Int) (tl : Nat) (v : Int32) (W : List Win) (k : Nat) : List Win := if st * k + wd ≤ wm then W else cin wd tl v W (st * k)
theorem ste_c {wd st wm : Int} {tl : Nat} {v : Int32} (hst : 0 < st) (W : List Win) {j k : Nat} (h : j ≠ k) : ste wd st wm tl v (ste wd st wm tl v W j) k = ste wd st wm tl v (ste wd st wm tl v W k) j := by
  have hne : st * (j : Int) ≠ st * (k : Int) := fun e => h (by have := Int.eq_of_mul_eq_mul_left (by omega) e; omega)
  unfold ste
  by_cases c1 : st * (j : Int) + wd ≤ wm
  · rw [if_pos c1, if_pos c1]
  · by_cases c2 : st * (k : Int) + wd ≤ wm
    · rw [if_pos c2, if_pos c2]
    · rw [if_neg c1, if_neg c1, if_neg c2, if_neg c2]
      exact cin_c W hne
/-- n starts from k upward -/
def steU (wd st wm : Int) (tl : Nat) (v : Int32) : Nat → Nat → List Win → List Win
  | 0, _, W => W
  | n + 1, k, W => steU wd st wm tl v n (k + 1) (ste wd st wm tl v W k)
theorem steU_p {wd st wm : Int} {tl : Nat} {v : Int32} (hst : 0 < st) : ∀ (n k j : Nat) (W : List Win), (j < k ∨ k + n ≤ j) → ste wd st wm tl v (steU wd st wm tl v n k W) j = steU wd st wm tl v n k (ste wd st wm tl v W j) := by
  intro n
  induction n with
  | zero => intro k j W _; rfl
  | succ n ih =>
    intro k j W h
    show ste wd st wm tl v (steU wd st wm tl v n (k + 1) (ste wd st wm tl v W k)) j = steU wd st wm tl v n (k + 1) (ste wd st wm tl v (ste wd st wm tl v W j) k)
    rw [ih (k + 1) j _ (by omega), ste_c hst W (show k ≠ j by omega)]
theorem steU_s {wd st wm : Int} {tl : Nat} {v : Int32} (hst : 0 < st) : ∀ (n k : Nat) (W : List Win), steU wd st wm tl v (n + 1) k W = steU wd st wm tl v n k (ste wd st wm tl v W (k + n)) := by
  intro n
  induction n with
  | zero => intro k W; rfl
  | succ n ih =>
    intro k W
    show steU wd st wm tl v (n + 1) (k + 1) (ste wd st wm tl v W k) = steU wd st wm tl v n (k + 1) (ste wd st wm tl v (ste wd st wm tl v W (k + (n + 1))) k)
    rw [ih (k + 1), show k + 1 + n = k + (n + 1) by omega, ste_c hst W (show k ≠ k + (n + 1) by omega)]
theorem evW_U {wd st hr wm : Int} {tl : Nat} {v : Int32} (hst : 0 < st) : ∀ (m n k : Nat) (W : List Win), n ≤ m → (∀ j : Nat, k ≤ j → (j < k + n ↔ st * (j : Int) ≤ hr)) → n < m → evW wd st hr wm tl v m W (st * k) = steU wd st wm tl v n k W := by
  intro m
  induction m with
  | zero => intro n k W _ _ h; omega
  | succ m ih =>
    intro n k W h1 h2 h3
    match n with
    | 0 =>
      have : ¬ st * (k : Int) ≤ hr := fun z => absurd ((h2 k (Nat.le_refl _)).mpr z) (by omega)
      show (if hr < st * (k : Int) then W else _) = W
      rw [if_pos (by omega)]
    | n + 1 =>
      have := (h2 k (Nat.le_refl _)).mp (by omega)
      show (if hr < st * (k : Int) then W else evW wd st hr wm tl v m (if st * (k : Int) + wd ≤ wm then W else cin wd tl v W (st * k)) (st * (k : Int) + st)) = steU wd st wm tl v n (k + 1) (ste wd st wm tl v W k)
      rw [if_neg (by omega), show st * (k : Int) + st = st * ((k + 1 : Nat) : Int) by rw [Int.natCast_add, Int.mul_add]; omega]
      exact ih n (k + 1) _ (by omega) (fun j hj => (by have := h2 j (by omega); rw [show k + 1 + n = k + (n + 1) by omega]; exact this)) (by omega)
theorem cev_U {wd st hr wm : Int} {tl : Nat} {v : Int32} (hst : 0 < st) : ∀ (m n k b : Nat) (W : List Win), n ≤ m → (n = 0 ∨ b + 1 = k + n) → (∀ j : Nat, j ≤ b → (k ≤ j ↔ hr < st * (j : Int) + wd)) → (n = 0 → ∀ j : Nat, j ≤ b → ¬ hr < st * (j : Int) + wd) → cev wd st hr wm tl v m W (st * (b : Int)) = steU wd st wm tl v n k W := by
  intro m
  induction m with
  | zero =>
    intro n k b W h1 _ _ _
    have : n = 0 := by omega
    subst this; rfl
  | succ m ih =>
    intro n k b W h1 h2 h3 h4
    have hb : 0 ≤ st * (b : Int) := Int.mul_nonneg (by omega) (by omega)
    have hunf : cev wd st hr wm tl v (m + 1) W (st * (b : Int)) = cev wd st hr wm tl v m (if hr < st * (b : Int) + wd ∧ wm < st * (b : Int) + wd then cin wd tl v W (st * (b : Int)) else W) (st * (b : Int) - st) := if_neg (by omega)
    have hneg : ∀ V, b = 0 → cev wd st hr wm tl v m V (st * (b : Int) - st) = V := by
      intro V h0
      subst h0
      have e : st * ((0 : Nat) : Int) - st = -st := by rw [show ((0 : Nat) : Int) = 0 from rfl, Int.mul_zero]; omega
      rw [e]
      match m with
      | 0 => rfl
      | m + 1 => exact if_pos (by omega)
    have hpos : ∀ b', b = b' + 1 → st * (b : Int) - st = st * (b' : Int) := by
      intro b' h0
      subst h0
      rw [Int.natCast_add, Int.mul_add]; omega
    match n with
    | 0 =>
      rw [hunf, if_neg (fun z => h4 rfl b (Nat.le_refl _) z.1)]
      match b with
      | 0 => exact hneg W rfl
      | b' + 1 =>
        rw [hpos b' rfl]
        exact ih 0 k b' W (by omega) (Or.inl rfl) (fun j hj => h3 j (by omega)) (fun _ j hj => h4 rfl j (by omega))
    | n + 1 =>
      have hk : b + 1 = k + (n + 1) := by omega
      have hin : hr < st * (b : Int) + wd := (h3 b (Nat.le_refl _)).mp (by omega)
      have est : (if hr < st * (b : Int) + wd ∧ wm < st * (b : Int) + wd then cin wd tl v W (st * (b : Int)) else W) = ste wd st wm tl v W b := by
        unfold ste
        by_cases c : st * (b : Int) + wd ≤ wm
        · rw [if_neg (by omega), if_pos c]
        · rw [if_pos (by omega), if_neg c]
      rw [hunf, est, steU_s hst n k W, show k + n = b by omega]
      match b with
      | 0 =>
        have : n = 0 := by omega
        subst this
        exact hneg _ rfl
      | b' + 1 =>
        rw [hpos b' rfl]
        refine ih n k b' _ (by omega) (by omega) (fun j hj => h3 j (by omega)) (fun hn j hj z => ?_)
        have := (h3 j (by omega)).mpr z
        omega
/-- by steps both ways make the same of a goose's windows -/
theorem ev_ce {wd st hr wm : Int} {tl : Nat} {v : Int32} {G : Gs} (eW : G.2.1 = wd) (eS : G.2.2.1 = st) (hh : 0 ≤ hr ∧ hr < 1000) (g4 : 1 ≤ wd ∧ wd ≤ 200) (g5 : 1 ≤ st ∧ st ≤ wd) (h7 : wd < 7 * st) (W : List Win) : evW wd st hr wm tl v 200 W (fsM G hr) = cev wd st hr wm tl v 7 W (hr - hr % st) := by
  have hst : 0 < st := by omega
  obtain ⟨b, hb⟩ : ∃ b : Nat, (b : Int) = hr / st := ⟨(hr / st).toNat, Int.toNat_of_nonneg (Int.ediv_nonneg hh.1 (by omega))⟩
  have eb : hr - hr % st = st * (b : Int) := by
    have := Int.emod_def hr st
    rw [hb]; omega
  have m1 := Int.emod_nonneg hr (show st ≠ 0 by omega)
  have m2 := Int.emod_lt_of_pos hr hst
  have mono : ∀ j k : Nat, j ≤ k → st * (j : Int) ≤ st * (k : Int) := fun j k h => Int.mul_le_mul_of_nonneg_left (by omega) (by omega)
  have succ : ∀ j : Nat, st * ((j + 1 : Nat) : Int) = st * (j : Int) + st := fun j => by rw [Int.natCast_add, Int.mul_add]; omega
  have ha : ∃ a : Nat, fsM G hr = st * (a : Int) ∧ a ≤ b + 1 ∧ (∀ j : Nat, a ≤ j ↔ hr < st * (j : Int) + wd) := by
    unfold fsM
    rw [eS, eW, if_neg (by omega)]
    by_cases c : hr - wd + 1 ≤ 0
    · rw [if_pos c]
      refine ⟨0, by rw [show ((0 : Nat) : Int) = 0 from rfl, Int.mul_zero], by omega, fun j => ⟨fun _ => ?_, fun _ => Nat.zero_le _⟩⟩
      have := mono 0 j (Nat.zero_le _)
      rw [show ((0 : Nat) : Int) = 0 from rfl, Int.mul_zero] at this
      omega
    · rw [if_neg c]
      obtain ⟨a, hA⟩ : ∃ a : Nat, (a : Int) = (hr - wd + 1 + st - 1) / st := ⟨((hr - wd + 1 + st - 1) / st).toNat, Int.toNat_of_nonneg (Int.ediv_nonneg (by omega) (by omega))⟩
      have d1 := Int.emod_def (hr - wd + 1 + st - 1) st
      have d2 := Int.emod_nonneg (hr - wd + 1 + st - 1) (show st ≠ 0 by omega)
      have d3 := Int.emod_lt_of_pos (hr - wd + 1 + st - 1) hst
      rw [← hA] at d1 ⊢
      have key : ∀ j : Nat, a ≤ j ↔ hr < st * (j : Int) + wd := by
        intro j
        constructor
        · intro h
          have := mono a j h
          omega
        · intro h
          refine Classical.byContradiction fun z => ?_
          have e1 := mono (j + 1) a (by omega)
          rw [succ j] at e1
          omega
      refine ⟨a, Int.mul_comm _ _, ?_, key⟩
      have := (key b).mpr (by omega)
      omega
  obtain ⟨a, ea, hab, hak⟩ := ha
  have hspan : b + 1 - a ≤ 7 := by
    refine Classical.byContradiction fun z => ?_
    have e1 : a + 7 ≤ b := by omega
    have e2 := mono (a + 7) b e1
    have e3 := (hak a).mp (Nat.le_refl _)
    have e4 : st * ((a + 7 : Nat) : Int) = st * (a : Int) + 7 * st := by rw [Int.natCast_add, Int.mul_add]; omega
    omega
  rw [ea, eb]
  rw [evW_U hst 200 (b + 1 - a) a W (by omega) (fun j hj => ?_) (by omega), cev_U hst 7 (b + 1 - a) a b W hspan (by omega) (fun j _ => hak j) (fun h0 j hj z => ?_)]
  · have := (hak j).mpr z
    omega
  · constructor
    · intro h
      have := mono j b (by omega)
      omega
    · intro h
      refine Classical.byContradiction fun z => ?_
      have e1 := mono (b + 1) j (by omega)
      rw [succ b] at e1
      omega
