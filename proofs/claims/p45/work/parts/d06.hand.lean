/-! The stream by hand in the heap: its state; what keeps it; the book's facts. -/
abbrev Ms : Type := List (Ctx × Int32) × List Wn × List Wn × Nat × Int × Int × (Nat → Nat)
def yC (M : Ms) : List (Ctx × Int32) := M.1
def yO (M : Ms) : List Wn := M.2.1
def yT (M : Ms) : List Wn := M.2.2.1
def yN (M : Ms) : Nat := M.2.2.2.1
def yG (M : Ms) : Int := M.2.2.2.2.1
def yK (M : Ms) : Int := M.2.2.2.2.2.1
def yL (M : Ms) : Nat → Nat := M.2.2.2.2.2.2
def mkM (C : List (Ctx × Int32)) (O T : List Wn) (n : Nat) (g k : Int) (l : Nat → Nat) : Ms := (C, O, T, n, g, k, l)
def c00 : Ctx × Int32 := ((0, 0, 0, 0), 0)
def sCm (h : PH) (sm : Nat) (u : Q5) (ca : Nat) (cm : List (Ctx × Int32)) : Prop := h.2.2.1 sm 1 = (28, cm.length, ca) ∧ (sm < ca ∧ ca < hN h) ∧ ∃ fr : Nat → Nat, ∀ j, j < cm.length → h.2.2.1 ca j = (20, 4, fr j) ∧ pI sm u (hN h) (fr j) ∧ coR h (fr j) (cm.getD j c00).1
def sTk (h : PH) (sm : Nat) (u : Q5) (ka : Nat) (cm : List (Ctx × Int32)) : Prop := h.2.2.1 sm 2 = (29, cm.length, ka) ∧ (sm < ka ∧ ka < hN h) ∧ ∃ fr : Nat → Nat, ∀ j, j < cm.length → h.2.2.1 ka j = (26, 8, fr j) ∧ pI sm u (hN h) (fr j) ∧ tkR h (fr j) (cm.getD j c00).2
def sOw (h : PH) (sm : Nat) (u : Q5) (k oa : Nat) (L : List Wn) : Prop := h.2.2.1 sm k = (28, L.length, oa) ∧ (sm < oa ∧ oa < hN h) ∧ ∃ fl fr : Nat → Nat, oWs h sm u oa fl fr L
def sNm (h : PH) (sm n : Nat) (g k : Int) : Prop := h.1 sm 5 = iZ (n : Int) ∧ h.1 sm 6 = iZ g ∧ h.1 sm 7 = iZ k
def sLt (h : PH) (sm : Nat) (l : Nat → Nat) : Prop := h.2.2.1 sm 8 = (20, 6, sm + 5) ∧ ∀ g, g < 6 → h.1 (sm + 5) g = iZ ((l g : Nat) : Int)
/-- the stream at sm shows M -/
def SMh (h : PH) (sm : Nat) (u : Q5) (ca ka oa ta : Nat) (M : Ms) : Prop := h.2.2.1 sm 0 = (11, 0, 83) ∧ sCm h sm u ca (yC M) ∧ sTk h sm u ka (yC M) ∧ sOw h sm u 3 oa (yO M) ∧ sOw h sm u 4 ta (yT M) ∧ sNm h sm (yN M) (yG M) (yK M) ∧ sLt h sm (yL M) ∧ (oa ≠ ca ∧ oa ≠ ka ∧ oa ≠ ta) ∧ (88 ≤ sm ∧ sm + 5 < hN h)
theorem sCm_SI {h h1 : PH} {sm ob ca : Nat} {u : Q5} {cm : List (Ctx × Int32)} (s : SI sm ob h h1) (c : ca ≠ ob) (e : h1.2.2.1 sm 1 = h.2.2.1 sm 1) (x : sCm h sm u ca cm) : sCm h1 sm u ca cm := by
  obtain ⟨x1, x2, fr, x3⟩ := x
  refine ⟨e.trans x1, ⟨x2.1, Nat.lt_of_lt_of_le x2.2 s.2.2.2⟩, fr, fun j hj => ?_⟩
  obtain ⟨y1, ⟨p1, p2, p3⟩, y3⟩ := x3 j hj
  refine ⟨by rw [s.2.1 ca x2.2 (by omega) c]; exact y1, ⟨p1, Nat.lt_of_lt_of_le p2 s.2.2.2, p3⟩, ?_⟩
  unfold coR
  rw [s.1 (fr j) p2 (by omega) (by omega)]
  exact y3
theorem sTk_SI {h h1 : PH} {sm ob ka : Nat} {u : Q5} {cm : List (Ctx × Int32)} (s : SI sm ob h h1) (c : ka ≠ ob) (e : h1.2.2.1 sm 2 = h.2.2.1 sm 2) (x : sTk h sm u ka cm) : sTk h1 sm u ka cm := by
  obtain ⟨x1, x2, fr, x3⟩ := x
  refine ⟨e.trans x1, ⟨x2.1, Nat.lt_of_lt_of_le x2.2 s.2.2.2⟩, fr, fun j hj => ?_⟩
  obtain ⟨y1, ⟨p1, p2, p3⟩, y3⟩ := x3 j hj
  refine ⟨by rw [s.2.1 ka x2.2 (by omega) c]; exact y1, ⟨p1, Nat.lt_of_lt_of_le p2 s.2.2.2, p3⟩, ?_⟩
  unfold tkR
  rw [s.1 (fr j) p2 (by omega) (by omega)]
  exact y3
theorem sOw_SI {h h1 : PH} {sm ob oa k : Nat} {u : Q5} {L : List Wn} (s : SI sm ob h h1) (c : oa ≠ ob) (e : h1.2.2.1 sm k = h.2.2.1 sm k) (x : sOw h sm u k oa L) : sOw h1 sm u k oa L := by
  obtain ⟨x1, x2, fl, fr, x3⟩ := x
  exact ⟨e.trans x1, ⟨x2.1, Nat.lt_of_lt_of_le x2.2 s.2.2.2⟩, fl, fr, oWs_SI s x2.2 (by omega) c x3⟩
theorem sNm_e {h h1 : PH} {sm n : Nat} {g k : Int} (e : h1.1 sm = h.1 sm) (x : sNm h sm n g k) : sNm h1 sm n g k := by unfold sNm; rw [e]; exact x
theorem sLt_e {h h1 : PH} {sm : Nat} {l : Nat → Nat} (e : h1.1 (sm + 5) = h.1 (sm + 5)) (e8 : h1.2.2.1 sm 8 = h.2.2.1 sm 8) (x : sLt h sm l) : sLt h1 sm l := by unfold sLt; rw [e, e8]; exact x
/-- another row of open windows -/
theorem SM_op {h h1 : PH} {sm ca ka oa ta ob oe : Nat} {u : Q5} {M : Ms} {L : List Wn} (x : SMh h sm u ca ka oa ta M) (s : SI sm oe h h1) (ce : oe = sm ∨ oe = oa) (er : ∀ k, k ≠ 3 → h1.2.2.1 sm k = h.2.2.1 sm k) (e1 : h1.1 sm = h.1 sm) (e5 : h1.1 (sm + 5) = h.1 (sm + 5)) (o : sOw h1 sm u 3 ob L) (cb : ob = oa ∨ hN h ≤ ob) : SMh h1 sm u ca ka ob ta (mkM (yC M) L (yT M) (yN M) (yG M) (yK M) (yL M)) := by
  obtain ⟨x0, x1, x2, x3, x4, x5, x6, x7, x8⟩ := x
  have l1 := x1.2.1
  have l2 := x2.2.1
  have l4 := x4.2.1
  have n := s.2.2.2
  exact ⟨(er 0 (by decide)).trans x0, sCm_SI s (by omega) (er 1 (by decide)) x1, sTk_SI s (by omega) (er 2 (by decide)) x2, o, sOw_SI s (by omega) (er 4 (by decide)) x4, sNm_e e1 x5, sLt_e e5 (er 8 (by decide)) x6, ⟨by omega, by omega, by omega⟩, ⟨x8.1, by omega⟩⟩
/-- nothing but rows that are new -/
theorem SM_new {h h1 : PH} {sm ca ka oa ta : Nat} {u : Q5} {M : Ms} (x : SMh h sm u ca ka oa ta M) (s : SI sm sm h h1) (er : ∀ k, h1.2.2.1 sm k = h.2.2.1 sm k) (e1 : h1.1 sm = h.1 sm) (e5 : h1.1 (sm + 5) = h.1 (sm + 5)) : SMh h1 sm u ca ka oa ta M :=
  SM_op x s (.inl rfl) (fun k _ => er k) e1 e5 (sOw_SI s (by have := x.2.2.2.1.2.1; omega) (er 3) x.2.2.2.1) (.inl rfl)
/-- numbers of the stream written -/
theorem SM_num {h h1 : PH} {sm ca ka oa ta : Nat} {u : Q5} {M : Ms} {n : Nat} {g k : Int} (x : SMh h sm u ca ka oa ta M) (e2 : h1.2 = h.2) (e : ∀ a, a ≠ sm → h1.1 a = h.1 a) (y : sNm h1 sm n g k) : SMh h1 sm u ca ka oa ta (mkM (yC M) (yO M) (yT M) n g k (yL M)) ∧ SI sm sm h h1 := by
  obtain ⟨x0, x1, x2, x3, x4, x5, x6, x7, x8⟩ := x
  have hn : hN h1 = hN h := by unfold hN; rw [e2]
  have s : SI sm sm h h1 := ⟨fun a _ a2 _ => e a a2, fun a _ _ _ => by rw [e2], fun a ha => e a (by omega), by omega⟩
  have er : ∀ k, h1.2.2.1 sm k = h.2.2.1 sm k := fun k => by rw [e2]
  have l1 := x1.2.1
  have l2 := x2.2.1
  have l3 := x3.2.1
  have l4 := x4.2.1
  exact ⟨⟨(er 0).trans x0, sCm_SI s (by omega) (er 1) x1, sTk_SI s (by omega) (er 2) x2, sOw_SI s (by omega) (er 3) x3, sOw_SI s (by omega) (er 4) x4, y, sLt_e (e (sm + 5) (by omega)) (er 8) x6, x7, ⟨x8.1, by omega⟩⟩, s⟩
/-- the book as it was written stands -/
def BH (h0 h : PH) (sm : Nat) (B : Bk) (mn al : Nat) : Prop := HB h0 B mn al ∧ hN h0 = sm ∧ 88 ≤ sm ∧ Kp sm (fun a => a ≤ 82) h0 h
theorem BH_k {h0 h h1 : PH} {sm mn al : Nat} {B : Bk} (b : BH h0 h sm B mn al) (k : Kp sm (fun a => a ≤ 82) h h1) : BH h0 h1 sm B mn al := ⟨b.1, b.2.1, b.2.2.1, Kp_t b.2.2.2 k⟩
theorem SI_K {h h1 : PH} {sm oa : Nat} (s : SI sm oa h h1) (hs : sm + 5 < hN h) (ho : sm ≤ oa) : Kp sm (fun a => a ≤ 82) h h1 := ⟨rfl, fun a ha _ => ⟨s.1 a (by omega) (by omega) (by omega), s.2.1 a (by omega) (by omega) (by omega)⟩, s.2.2.1, s.2.2.2⟩
theorem bf_r {h0 h : PH} {sm mn al : Nat} {B : Bk} (b : BH h0 h sm B mn al) (a : Nat) (h1 : 83 ≤ a) (h2 : a < sm) : h.1 a = h0.1 a ∧ h.2.2.1 a = h0.2.2.1 a := b.2.2.2.2.1 a h2 (by omega)
theorem bf_7 {h0 h : PH} {sm mn al : Nat} {B : Bk} (b : BH h0 h sm B mn al) : h.1 83 7 = iZ (mn : Int) := by
  rw [(bf_r b 83 (by decide) (by have := b.2.2.1; omega)).1]; exact b.1.1.2.2.1
theorem bf_10 {h0 h : PH} {sm mn al : Nat} {B : Bk} (b : BH h0 h sm B mn al) : h.1 83 10 = iZ (al : Int) := by
  rw [(bf_r b 83 (by decide) (by have := b.2.2.1; omega)).1]; exact b.1.2.1.2.2.1
theorem bf_6 {h0 h : PH} {sm mn al : Nat} {B : Bk} (b : BH h0 h sm B mn al) : h.2.2.1 83 6 = (27, 8, 85) := by
  rw [(bf_r b 83 (by decide) (by have := b.2.2.1; omega)).2]; exact b.1.1.2.2.2.1
theorem bf_8 {h0 h : PH} {sm mn al : Nat} {B : Bk} (b : BH h0 h sm B mn al) : h.2.2.1 83 8 = (28, 6, 86) := by
  rw [(bf_r b 83 (by decide) (by have := b.2.2.1; omega)).2]; exact b.1.2.1.2.2.2.1
theorem bf_9 {h0 h : PH} {sm mn al : Nat} {B : Bk} (b : BH h0 h sm B mn al) : h.2.2.1 83 9 = (27, 6, 87) := by
  rw [(bf_r b 83 (by decide) (by have := b.2.2.1; omega)).2]; exact b.1.2.1.2.2.2.2.1
theorem bf_mo {h0 h : PH} {sm mn al : Nat} {B : Bk} (b : BH h0 h sm B mn al) : ∃ ma, h.2.2.1 83 5 = (20, B.1.length, ma) ∧ (1 ≤ B.1.length ∧ B.1.length ≤ 4) ∧ ∀ j, j < B.1.length → h.1 ma j = iZ (B.1.getD j 0) ∧ 0 ≤ B.1.getD j 0 ∧ B.1.getD j 0 ≤ 99 := by
  obtain ⟨ma, m1, m2, m3, m4, m5⟩ := b.1.2.2
  have hs := b.2.1
  have h8 := b.2.2.1
  refine ⟨ma, by rw [(bf_r b 83 (by decide) (by omega)).2]; exact m1, m4, fun j hj => ?_⟩
  rw [(bf_r b ma (by omega) (by omega)).1]
  exact m5 j hj
theorem TR_13 {h : PH} {lo N D : Nat} {r : VR} {f : Ctx → Int32 → Int32} (t : TRr h lo N D r f) : ∃ a, r = (13, 0, a) := by
  have l : ∀ f, TRl h lo N r f → ∃ a, r = (13, 0, a) := fun f ⟨a, e, _⟩ => ⟨a, e⟩
  cases D with
  | zero => exact l f t
  | succ D =>
    rcases t with t | ⟨a, s, k, p, q, u, v, e, _⟩ | ⟨a, p, u, e, _⟩
    · exact l f t
    · exact ⟨a, e⟩
    · exact ⟨a, e⟩
/-- what the book's trees are worth -/
def VF (h0 : PH) (B : Bk) (fv gv : Nat → Ctx → Int32 → Int32) : Prop := (∀ f, f < B.2.1.length → TRr h0 87 (hN h0) 19 (h0.2.2.1 85 f) (fv f) ∧ b01 (fv f) ∧ EVk (B.2.1.getD f []) (fv f) 12) ∧ ∀ g, g < B.2.2.length → (B.2.2.getD g g0).2.2.2.1 ≠ 0 → TRr h0 87 (hN h0) 8 (h0.2.2.1 87 g) (gv g) ∧ EVk (B.2.2.getD g g0).2.2.2.2 (gv g) 9
theorem VF_ex {h0 : PH} {B : Bk} {mn al : Nat} (b : HB h0 B mn al) : ∃ fv gv, VF h0 B fv gv := by
  obtain ⟨⟨a1, a2, a3, a4, a5⟩, ⟨c1, c2, c3, c4, c5, c6⟩, -⟩ := b
  have f1 : ∀ f, ∃ fn, f < B.2.1.length → TRr h0 87 (hN h0) 19 (h0.2.2.1 85 f) fn ∧ b01 fn ∧ EVk (B.2.1.getD f []) fn 12 := fun f => by
    by_cases c : f < mn
    · obtain ⟨fn, t⟩ := a5 f c
      exact ⟨fn, fun _ => t⟩
    · exact ⟨fun _ _ => 0, fun z => by omega⟩
  have g1 : ∀ g, ∃ gn, g < B.2.2.length → (B.2.2.getD g g0).2.2.2.1 ≠ 0 → TRr h0 87 (hN h0) 8 (h0.2.2.1 87 g) gn ∧ EVk (B.2.2.getD g g0).2.2.2.2 gn 9 := fun g => by
    by_cases c : g < al ∧ (B.2.2.getD g g0).2.2.2.1 ≠ 0
    · obtain ⟨ga, _, _, _, _, t⟩ := c6 g c.1
      obtain ⟨gn, t⟩ := t c.2
      exact ⟨gn, fun _ _ => t⟩
    · exact ⟨fun _ _ => 0, fun z1 z2 => absurd ⟨by omega, z2⟩ c⟩
  exact ⟨fun f => Classical.choose (f1 f), fun g => Classical.choose (g1 g), fun f hf => Classical.choose_spec (f1 f) hf, fun g hg => Classical.choose_spec (g1 g) hg⟩
theorem bf_f {h0 h : PH} {sm mn al f : Nat} {B : Bk} {fv gv : Nat → Ctx → Int32 → Int32} (b : BH h0 h sm B mn al) (v : VF h0 B fv gv) (hf : f < mn) : ∃ ra, h.2.2.1 85 f = (13, 0, ra) ∧ TRr h 87 sm 19 (13, 0, ra) (fv f) := by
  have hm := b.1.1.1
  have t := (v.1 f (by omega)).1
  obtain ⟨ra, e⟩ := TR_13 t
  rw [e, b.2.1] at t
  refine ⟨ra, by rw [(bf_r b 85 (by decide) (by have := b.2.2.1; omega)).2]; exact e, TR_Kp b.2.2.2 (Nat.le_refl _) (fun a ha => by omega) (Nat.le_refl _) (Nat.le_refl _) t⟩
theorem bf_g {h0 h : PH} {sm mn al g : Nat} {B : Bk} {fv gv : Nat → Ctx → Int32 → Int32} (b : BH h0 h sm B mn al) (v : VF h0 B fv gv) (hg : g < al) (ht : (B.2.2.getD g g0).2.2.2.1 ≠ 0) : ∃ ra, h.2.2.1 87 g = (13, 0, ra) ∧ TRr h 87 sm 8 (13, 0, ra) (gv g) := by
  have hm := b.1.2.1.1
  have t := (v.2 g (by omega) ht).1
  obtain ⟨ra, e⟩ := TR_13 t
  rw [e, b.2.1] at t
  refine ⟨ra, by rw [(bf_r b 87 (by decide) (by have := b.2.2.1; omega)).2]; exact e, TR_Kp b.2.2.2 (Nat.le_refl _) (fun a ha => by omega) (Nat.le_refl _) (Nat.le_refl _) t⟩
/-- a goose's row -/
theorem bf_go {h0 h : PH} {sm mn al g : Nat} {B : Bk} (b : BH h0 h sm B mn al) (hg : g < al) : ∃ ga, h.2.2.1 86 g = (20, 4, ga) ∧ (h.1 ga 0 = iZ ((B.2.2.getD g g0).1 : Int) ∧ h.1 ga 1 = iZ (B.2.2.getD g g0).2.1 ∧ h.1 ga 2 = iZ (B.2.2.getD g g0).2.2.1 ∧ h.1 ga 3 = iZ ((B.2.2.getD g g0).2.2.2.1 : Int)) ∧ (B.2.2.getD g g0).1 < mn ∧ goB (B.2.2.getD g g0) ∧ (B.2.2.getD g g0).2.2.2.1 < 4 ∧ (87 < ga ∧ ga < sm) := by
  obtain ⟨ga, a1, a2, a3, a4, a5⟩ := b.1.2.1.2.2.2.2.2 g hg
  have hs := b.2.1
  have h8 := b.2.2.1
  refine ⟨ga, by rw [(bf_r b 86 (by decide) (by omega)).2]; exact a1, by rw [(bf_r b ga (by omega) (by omega)).1]; exact a3, a4.1, ⟨a4.2.1, a4.2.2.1, a4.2.2.2.1, a4.2.2.2.2.1, fun z => ?_⟩, a4.2.2.2.2.2.2, ⟨a2.1, by omega⟩⟩
  have q := a4.2.2.2.2.2.1 z
  have s1 : 1 ≤ (B.2.2.getD g g0).2.2.1 := by have := a4.2.2.2.1; omega
  have e := Int.mul_ediv_add_emod (B.2.2.getD g g0).2.1 (B.2.2.getD g g0).2.2.1
  have m1 := Int.emod_lt_of_pos (B.2.2.getD g g0).2.1 (show 0 < (B.2.2.getD g g0).2.2.1 by omega)
  have m2 := Int.mul_le_mul_of_nonneg_left q (show 0 ≤ (B.2.2.getD g g0).2.2.1 by omega)
  omega
theorem bf_al {h0 h : PH} {sm mn al : Nat} {B : Bk} (b : BH h0 h sm B mn al) : B.2.1.length = mn ∧ mn ≤ 8 ∧ B.2.2.length = al ∧ al ≤ 6 := ⟨b.1.1.1, b.1.1.2.1, b.1.2.1.1, b.1.2.1.2.1⟩
