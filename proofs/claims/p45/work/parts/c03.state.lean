/-! The book while it is written: what stands, what a step keeps, a token added, a tree made. -/
/-- the book at 83: its script, draws, tokens, line, text -/
def BKh (h : PH) (L dr tk ln : Nat) (tp : List Int) : Prop := (h.2.2.1 83 0 = (45, L, 0) ∧ L ≤ 100000) ∧ h.1 83 1 = iZ (dr : Int) ∧ h.1 83 2 = iZ (tk : Int) ∧ h.1 83 3 = iZ (ln : Int) ∧ txR h 87 (hN h) (h.2.2.1 83 4) tp ∧ asT tp ∧ Zr h ∧ 88 ≤ hN h ∧ tp.length ≤ 6 * tk + 4
/-- a step keeps all but the book's draws, tokens, text, and what is new -/
def FB (h h1 : PH) : Prop := Kp (hN h) (fun a => a = 83) h h1 ∧ (∀ k, k ≠ 1 → k ≠ 2 → h1.1 83 k = h.1 83 k) ∧ ∀ k, k ≠ 4 → h1.2.2.1 83 k = h.2.2.1 83 k
theorem FB_r (h : PH) : FB h h := ⟨Kp_r _ _ _, fun _ _ _ => rfl, fun _ _ => rfl⟩
theorem FB_n {h h1 : PH} (f : FB h h1) : hN h ≤ hN h1 := f.1.2.2.2
theorem FB_t {h h1 h2 : PH} (a : FB h h1) (b : FB h1 h2) : FB h h2 := ⟨Kp_t a.1 (Kp_m b.1 (FB_n a) (fun _ _ z => z)), fun k k1 k2 => (b.2.1 k k1 k2).trans (a.2.1 k k1 k2), fun k k4 => (b.2.2 k k4).trans (a.2.2 k k4)⟩
def gP : Nat → Nat
  | 0 => 0
  | n + 1 => gP n + (30 * n + 300)
theorem BK_draw {h : PH} {L dr tk ln : Nat} {tp : List Int} (b : BKh h L dr tk ln tp) : BKh (setI h 83 1 (iZ ((dr : Int) + 1))) L (dr + 1) tk ln tp ∧ FB h (setI h 83 1 (iZ ((dr : Int) + 1))) := by
  obtain ⟨b1, b2, b3, b4, b5, b6, b7, b8, b9⟩ := b
  have k : Kp (hN h) (fun a => a = 83) h (setI h 83 1 (iZ ((dr : Int) + 1))) := Kp_I (fun _ => rfl) (by omega)
  refine ⟨⟨b1, setI_self _ _ _ _, (setI_ne (by decide)).trans b3, (setI_ne (by decide)).trans b4, txR_Kp b5 k (Nat.le_refl _) (fun a ha => by omega), b6, Kp_Z k b7, b8, b9⟩, k, fun k k1 _ => setI_ne (fun z => k1 z.2), fun _ _ => rfl⟩
theorem bk_draw {d L dr tk ln : Nat} {n : Int} {tp : List Int} {h : PH} {Q : Rs → PH → Prop} (b : BKh h L dr tk ln tp) (hd : dr < 1000000) (hn : 0 < n ∧ n ≤ 100000) (q : ∀ (w : Int) h1, 0 ≤ w → w < n → BKh h1 L (dr + 1) tk ln tp → FB h h1 → hN h1 = hN h → hS h1 = hS h → h1.2.2.1 83 = h.2.2.1 83 → Q (.inl (some (.inl (iZ w)))) h1) : Rn (d + 1) 162 [.inr (.inr (.inr (11, 0, 83))), .inl (iZ (n))] h Q :=
  bk_draw0 b.1.1 b.2.1 hd b.1.2 hn (fun w w0 w1 => q w _ w0 w1 (BK_draw b).1 (BK_draw b).2 rfl rfl rfl)
theorem bk_short {d L dr tk ln : Nat} {tp : List Int} {h : PH} {Q : Rs → PH → Prop} (b : BKh h L dr tk ln tp) (ht : tk ≤ 1000 ∧ ln ≤ 1000) (q1 : tk < ln + 40 → Q (.inl (some (.inl (iZ 1)))) h) (q0 : ¬ tk < ln + 40 → Q (.inl (some (.inl (iZ 0)))) h) : Rn d 168 [.inr (.inr (.inr (11, 0, 83)))] h Q := by
  refine Ev.sts 1 (c' := (1, [some (.inr (.inr (.inr (11, 0, 83))))], [.inr (.inr (.inr (11, 0, 83)))], h)) rfl ?_
  refine Ev.gv (w := (iZ ((tk : Int)))) rfl b.2.2.1 ?_
  refine Ev.sts 1 (c' := (5, [some (.inr (.inr (.inr (11, 0, 83))))], [.inr (.inr (.inr (11, 0, 83))), .inl (iZ ((tk : Int)))], h)) rfl ?_
  refine Ev.gv (w := (iZ ((ln : Int)))) rfl b.2.2.2.1 ?_
  refine Ev.sts 1 (c' := (10, [some (.inr (.inr (.inr (11, 0, 83))))], [.inl (iZ (40)), .inl (iZ ((ln : Int))), .inl (iZ ((tk : Int)))], h)) rfl ?_
  refine Ev.gv (w := (iZ (((ln : Int)) + 40))) rfl (iZ_add _ _) ?_
  refine Ev.brc (p := (iZ (((ln : Int)) + 40)) ≤ (iZ ((tk : Int)))) (q := ((((ln : Int)) + 40 : Int)) ≤ (tk : Int)) (c1 := (18, [some (.inr (.inr (.inr (11, 0, 83))))], [], h)) (c2 := (14, [some (.inr (.inr (.inr (11, 0, 83))))], [], h)) rfl (iZ_le ⟨by omega, by omega⟩ ⟨by omega, by omega⟩) (fun c0 => ?_) (fun c0 => ?_)
  · refine Ev.sts 1 (c' := (19, [some (.inr (.inr (.inr (11, 0, 83))))], [.inl (iZ (0))], h)) rfl ?_
    exact Ev.ret rfl (q0 (by omega))
  · refine Ev.sts 2 (c' := (19, [some (.inr (.inr (.inr (11, 0, 83))))], [.inl (iZ (1))], h)) rfl ?_
    exact Ev.ret rfl (q1 (by omega))

theorem BK_g {h : PH} {L dr tk ln n : Nat} {tp : List Int} (b : BKh h L dr tk ln tp) : BKh (grow h n) L dr tk ln tp ∧ FB h (grow h n) := by
  obtain ⟨b1, b2, b3, b4, b5, b6, b7, b8, b9⟩ := b
  have k : Kp (hN h) (fun a => a = 83) h (grow h n) := Kp_g
  have n1 : hN (grow h n) = hN h + 1 := rfl
  exact ⟨⟨b1, b2, b3, b4, txR_up (txR_Kp b5 k (Nat.le_refl _) (fun a ha => by omega)) (by omega), b6, Kp_Z k b7, by omega, b9⟩, k, fun _ _ _ => rfl, fun _ _ => rfl⟩
/-- h1 is h with other texts made: the book itself as it was -/
theorem BK_k {h h1 : PH} {L dr tk ln : Nat} {tp : List Int} (b : BKh h L dr tk ln tp) (k : Kp (hN h) nA h h1) : BKh h1 L dr tk ln tp ∧ FB h h1 := by
  obtain ⟨b1, b2, b3, b4, b5, b6, b7, b8, b9⟩ := b
  have e := k.2.1 83 (by omega) (fun z => z)
  have n := k.2.2.2
  refine ⟨⟨by rw [e.2]; exact b1, by rw [e.1]; exact b2, by rw [e.1]; exact b3, by rw [e.1]; exact b4, by rw [e.2]; exact txR_up (txR_Kp b5 k (Nat.le_refl _) (fun _ _ z => z)) n, b6, Kp_Z k b7, by omega, b9⟩, Kp_m k (Nat.le_refl _) (fun _ _ z => absurd z (fun y => y)), fun j _ _ => by rw [e.1], fun j _ => by rw [e.2]⟩
/-- the book's text is put -/
theorem BK_put {h h1 : PH} {L dr tk ln t2 : Nat} {tp T : List Int} {r : VR} {x : Int32} (b : BKh h L dr tk ln tp) (k : Kp (hN h) nA h h1) (t : txR h1 87 (hN h1) r (tp ++ T)) (as : asT T) (ht : x = iZ (t2 : Int)) (hl : (tp ++ T).length ≤ 6 * t2 + 4) : BKh (setI (setR h1 83 4 r) 83 2 x) L dr t2 ln (tp ++ T) ∧ FB h (setI (setR h1 83 4 r) 83 2 x) := by
  obtain ⟨⟨b1, b2, b3, b4, b5, b6, b7, b8, b9⟩, f⟩ := BK_k b k
  have k1 : Kp (hN h1) (fun a => a = 83) h1 (setI (setR h1 83 4 r) 83 2 x) := Kp_t (Kp_R (fun _ => rfl)) (Kp_I (fun _ => rfl) (by show 83 < hN h1; omega))
  have r4 : (setI (setR h1 83 4 r) 83 2 x).2.2.1 83 4 = r := setR_self _ _ _ _
  refine ⟨⟨⟨(setR_ne (by decide)).trans b1.1, b1.2⟩, (setI_ne (by decide)).trans b2, (setI_self _ _ _ _).trans ht, (setI_ne (by decide)).trans b4, by rw [r4]; exact txR_Kp t k1 (Nat.le_refl _) (fun a ha => by omega), asT_app b6 as, Kp_Z k1 b7, b8, hl⟩, FB_t f ⟨k1, fun j _ j2 => (setI_ne (fun z => j2 z.2)), fun j j4 => setR_ne (fun z => j4 z.2)⟩⟩
