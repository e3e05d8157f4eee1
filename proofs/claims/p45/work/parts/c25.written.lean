/-! The book is written. -/
theorem lx_51 {tp : List Int} {ks : List Sg} (l : LXs tp ks) (e : enN tp = false) : LXs (tp ++ txC 51) (ks ++ [(4, 0, 0)]) ∧ enN (tp ++ txC 51) = false := by
  rw [show txC 51 = [] ++ ([109, 111, 111, 110] ++ [32]) by decide +kernel]
  have r := LX_w (pre := []) (w := [109, 111, 111, 110]) (post := [32]) l (tk1_wd (by decide +kernel) : tk1 _ (4, 0, 0)) (.inl rfl) (.inr ⟨32, rfl, rfl⟩) (fun _ z => by rw [e] at z; cases z)
  exact ⟨r.1, (r.2.2 (List.cons_ne_nil _ _))⟩
theorem ll_51 : (txC 51).length ≤ 5 := by decide +kernel
theorem lx_52 {tp : List Int} {ks : List Sg} (l : LXs tp ks) : LXs (tp ++ txC 52) (ks ++ [(31, 0, 0)]) ∧ enN (tp ++ txC 52) = false := by
  rw [show txC 52 = [] ++ ([44] ++ []) by decide +kernel]
  have r := LX_w (pre := []) (w := [44]) (post := []) l (tk1_sg (by decide +kernel) : tk1 _ (31, 0, 0)) (.inl rfl) (.inl rfl) (fun _ _ => rfl)
  exact ⟨r.1, ((r.2.1 rfl).trans rfl)⟩
theorem ll_52 : (txC 52).length ≤ 1 := by decide +kernel
def moK : List Int → List Sg
  | [] => []
  | n :: l => (3, n, 0) :: l.flatMap (fun x => [(31, 0, 0), (3, x, 0)])
theorem mnsK_e : ∀ l : List Int, mnsK l = l.flatMap (fun x => [(31, 0, 0), (3, x, 0)]) ++ [(30, 0, 0)] := by
  intro l
  induction l with
  | nil => rfl
  | cons n l ih => rw [List.flatMap_cons]; show (31, 0, 0) :: (3, n, 0) :: mnsK l = _; rw [ih]; rfl
theorem moK_app (ms : List Int) (n : Int) (h : ms ≠ []) : moK (ms ++ [n]) = moK ms ++ [(31, 0, 0), (3, n, 0)] := by
  cases ms with
  | nil => exact absurd rfl h
  | cons x l => show (3, x, 0) :: (l ++ [n]).flatMap _ = _; rw [List.flatMap_append]; rfl
/-- no flock, no goose yet -/
def H2b (h : PH) : Prop := h.1 83 7 = iZ ((0 : Nat) : Int) ∧ h.1 83 10 = iZ ((0 : Nat) : Int) ∧ h.2.2.1 83 6 = (27, 8, 85) ∧ h.2.2.1 83 8 = (28, 6, 86) ∧ h.2.2.1 83 9 = (27, 6, 87)
theorem H2_F {h h1 : PH} (f : FB h h1) (a : H2b h) : H2b h1 := ⟨(f.2.1 7 (by decide) (by decide)).trans a.1, (f.2.1 10 (by decide) (by decide)).trans a.2.1, (f.2.2 6 (by decide)).trans a.2.2.1, (f.2.2 8 (by decide)).trans a.2.2.2.1, (f.2.2 9 (by decide)).trans a.2.2.2.2⟩
theorem H2_w {h : PH} {ma j : Nat} {v : Int32} (hm : 83 < ma) (a : H2b h) : H2b (setI h ma j v) := ⟨(setI_ne (by omega)).trans a.1, (setI_ne (by omega)).trans a.2.1, a.2.2⟩
theorem H2_HB {h : PH} {M : List Int} (a : H2b h) (m : MOr h M) : HB h (M, [], []) 0 0 := ⟨⟨rfl, by decide, a.1, a.2.2.1, fun f hf => absurd hf (Nat.not_lt_zero _)⟩, ⟨rfl, by decide, a.2.1, a.2.2.2.1, a.2.2.2.2, fun g hg => absurd hg (Nat.not_lt_zero _)⟩, m⟩
/-- the moon's numbers so far -/
def MRw (h : PH) (ma M : Nat) (ms : List Int) : Prop := h.2.2.1 83 5 = (20, M, ma) ∧ 87 < ma ∧ ma < hN h ∧ ∀ j, j < ms.length → h.1 ma j = iZ (ms.getD j 0) ∧ 0 ≤ ms.getD j 0 ∧ ms.getD j 0 ≤ 99
theorem MR_G {h h1 : PH} {ma M : Nat} {ms : List Int} (f : KGa ma h h1) (r : ∀ j, h1.1 ma j = h.1 ma j) (a : MRw h ma M ms) : MRw h1 ma M ms := ⟨(f.2.2 5 (by decide)).trans a.1, a.2.1, Nat.lt_of_lt_of_le a.2.2.1 f.1.2.2.2, fun j hj => by rw [r j]; exact a.2.2.2 j hj⟩
theorem H2_G {h h1 : PH} {ma : Nat} (f : KGa ma h h1) (a : H2b h) : H2b h1 := ⟨(f.2.1 7 (by decide)).trans a.1, (f.2.1 10 (by decide)).trans a.2.1, (f.2.2 6 (by decide)).trans a.2.2.1, (f.2.2 8 (by decide)).trans a.2.2.2.1, (f.2.2 9 (by decide)).trans a.2.2.2.2⟩
theorem K83_G {h h1 : PH} {ma : Nat} (f : KGa ma h h1) (hm : 83 < ma) (h88 : 88 ≤ hN h) : Kp 83 nA h h1 := Kp_m f.1 (by omega) (fun x hx e => by omega)
theorem MR_w {h : PH} {ma M : Nat} {ms : List Int} {w : Int} (a : MRw h ma M ms) (hw : 0 ≤ w ∧ w ≤ 99) : MRw (setI h ma ms.length (iZ w)) ma M (ms ++ [w]) := by
  refine ⟨a.1, a.2.1, a.2.2.1, fun j hj => ?_⟩
  rw [List.length_append] at hj
  replace hj : j < ms.length + 1 := hj
  by_cases e : j = ms.length
  · rw [e, getD_app1]; exact ⟨setI_self _ _ _ _, hw⟩
  · rw [getD_app0 _ _ _ _ (by omega)]
    exact ⟨(setI_ne (fun z => e z.2)).trans (a.2.2.2 j (by omega)).1, (a.2.2.2 j (by omega)).2⟩
theorem BL_mo {h : PH} {L dr tk ln M : Nat} {tp : List Int} (b : BKl h L dr tk ln tp) : BKl (setR (grow h M) 83 5 (20, M, hN h)) L dr tk ln tp ∧ Kp 83 nA h (setR (grow h M) 83 5 (20, M, hN h)) := by
  obtain ⟨b1, b2, b3, b4, b5, b6, b7, b8⟩ := b
  have k : Kp (hN h) (fun a => a = 83) h (setR (grow h M) 83 5 (20, M, hN h)) := Kp_t Kp_g (Kp_R (fun _ => rfl))
  exact ⟨⟨⟨(setR_ne (by decide)).trans b1.1, b1.2⟩, b2, b3, b4, by rw [show (setR (grow h M) 83 5 (20, M, hN h)).2.2.1 83 4 = h.2.2.1 83 4 from setR_ne (by decide)]; exact txR_up (txR_Kp b5 k (Nat.le_refl _) (fun a ha => by omega)) (Nat.le_succ _), b6, Kp_Z k b7, by show 88 ≤ hN h + 1; omega⟩, Kp_m k (by omega) (fun x hx e => by omega)⟩
/-- the moon's numbers, one after another -/
theorem md_lp {d L M ma : Nat} {x2 x3 : Option VV} {Q : Rs → PH → Prop} (hM : 1 ≤ M ∧ M ≤ 4) (m : Nat) : ∀ (h : PH) (dr : Nat) (tp ms : List Int), ms.length + m = M → GWb h ma L dr 0 0 tp → LXs tp ((4, 0, 0) :: moK ms) → (ms = [] → enN tp = false) → H2b h → MRw h ma M ms → tp.length ≤ 5 + 4 * ms.length → dr ≤ 5 + 2 * ms.length → (∀ (h1 : PH) (dr1 : Nat) (tp1 ms1 : List Int), ms1.length = M → GWb h1 ma L dr1 0 0 tp1 → LXs tp1 ((4, 0, 0) :: moK ms1) → H2b h1 → MRw h1 ma M ms1 → Kp 83 nA h h1 → tp1.length ≤ 5 + 4 * M → dr1 ≤ 5 + 2 * M → hN h1 ≤ hN h + 7 * m → hS h1 ≤ hS h + 300 * m → Ev (d + 6) 161 (137, [some (.inr (.inr (.inr (11, 0, 83)))), some (.inl (iZ ((M : Nat) : Int))), x2, x3], [], h1) Q) → Ev (d + 6) 161 (49, [some (.inr (.inr (.inr (11, 0, 83)))), some (.inl (iZ ((ms.length : Nat) : Int))), x2, x3], [], h) Q := by
  induction m with
  | zero =>
    intro h dr tp ms hm g lx en a r hl hd k
    refine md_49 (d := d + 4) g (by omega) r.1 hM.2 (by omega) (fun e => ?_) (fun z => absurd z (by omega))
    rw [e]
    exact k h dr tp ms (by omega) g lx a r (Kp_r _ _ _) (by omega) (by omega) (by omega) (by omega)
  | succ m ih =>
    intro h dr tp ms hm g lx en a r hl hd k
    have g8 := g.2.2.1
    have h88 := g.1.2.2.2.2.2.2.2
    refine md_49 (d := d + 4) g (by omega) r.1 hM.2 (by omega) (fun z => absurd z (by omega)) (fun z h1 w dr1 g1 f1 r1 hw n1 m1 hd1 => ?_)
    obtain ⟨g2, f2⟩ := GW_w (j := ms.length) (v := iZ w) g1
    have r2 := MR_w (w := w) (MR_G f1 r1 r) hw
    have a2 : H2b (setI h1 ma ms.length (iZ w)) := H2_G f2 (H2_G f1 a)
    have dl := digs_len (n := w)
    have nn : hN (setI h1 ma ms.length (iZ w)) = hN h1 := rfl
    have mm : hS (setI h1 ma ms.length (iZ w)) = hS h1 := rfl
    have lm : (ms ++ [w]).length = ms.length + 1 := by rw [List.length_append]; rfl
    have rg : (setI h1 ma ms.length (iZ w)).1 ma ms.length = iZ w := setI_self _ _ _ _
    have h88b : 88 ≤ hN (setI h1 ma ms.length (iZ w)) := g2.1.2.2.2.2.2.2.2
    by_cases e : ms = []
    · subst e
      refine tw_num0 (M := M) (ma := ma) g2.1 (by omega) rfl ⟨by omega, by omega⟩ g2.2.2.2 r2.1 rg (by omega) (fun h3 b3 f3 n3 m3 x3 => ?_)
      have e35 : (txC 35 ++ digs w) = digs w := by rw [txC35]; rfl
      rw [e35] at b3 x3 m3
      have l3 := (lx_num (n := w) (by omega) lx (en rfl)).1
      refine md_131 (d := d + 6) ?_
      have row : ∀ j, h3.1 ma j = (setI h1 ma ([] : List Int).length (iZ w)).1 ma j := fun j => KG_row f3 g2.2.2.2 g8 j
      refine ih h3 dr1 _ [w] (by rw [← hm]; show 1 + m = 0 + (m + 1); omega) (GW_T g2 b3 x3 f3) (by exact l3) (fun y => absurd y (List.cons_ne_nil _ _)) (H2_F f3.1 a2) (MR_G (KG_T f3) row r2) (by rw [List.length_append]; show _ ≤ 5 + 4 * 1; have : tp.length ≤ 5 := hl; omega) (by show _ ≤ 5 + 2 * 1; have : dr ≤ 5 := hd; omega) (fun h4 dr4 tp4 ms4 c1 c2 c3 c4 c5 c6 c7 c8 c9 c10 => k h4 dr4 tp4 ms4 c1 c2 c3 c4 c5 (Kp_t (Kp_t (K83_G f1 (by omega) h88) (Kp_t (K83_G f2 (by omega) (by omega)) (KL_F h88b f3.1))) c6) c7 c8 (by omega) (by have : tp.length ≤ 5 := hl; omega))
    · have le : 0 < ms.length := List.length_pos_iff.mpr e
      refine tw_num1 (M := M) (ma := ma) g2.1 (by omega) le ⟨by omega, by omega⟩ g2.2.2.2 r2.1 rg (by omega) (fun h3 b3 f3 n3 m3 x3 => ?_)
      have e52 : (txC 52 ++ digs w).length = 1 + (digs w).length := by rw [List.length_append, show (txC 52).length = 1 by decide +kernel]
      obtain ⟨l1, e1⟩ := lx_52 lx
      have l3 := (lx_num (n := w) (by omega) l1 e1).1
      refine md_131 (d := d + 6) ?_
      have row : ∀ j, h3.1 ma j = (setI h1 ma ms.length (iZ w)).1 ma j := fun j => KG_row f3 g2.2.2.2 g8 j
      have ek : ((ms.length + 1 : Nat) : Int) = (((ms ++ [w]).length : Nat) : Int) := by rw [lm]
      rw [ek]
      refine ih h3 dr1 _ (ms ++ [w]) (by omega) (GW_T g2 b3 x3 f3) (by rw [moK_app ms w e]; simpa only [List.append_assoc, List.cons_append, List.nil_append] using l3) (fun y => absurd (congrArg List.length y) (by rw [lm]; show ms.length + 1 ≠ 0; omega)) (H2_F f3.1 a2) (MR_G (KG_T f3) row r2) (by rw [List.length_append]; omega) (by omega) (fun h4 dr4 tp4 ms4 c1 c2 c3 c4 c5 c6 c7 c8 c9 c10 => k h4 dr4 tp4 ms4 c1 c2 c3 c4 c5 (Kp_t (Kp_t (K83_G f1 (by omega) h88) (Kp_t (K83_G f2 (by omega) (by omega)) (KL_F h88b f3.1))) c6) c7 c8 (by omega) (by omega))
