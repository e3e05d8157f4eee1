/-! The book's lists in the heap: flocks, geese, moon; how they grow. -/
/-- the flocks' trees: worth what the book's tests are -/
def FLr (h : PH) (fl : List (List Cmd)) (mn : Nat) : Prop := fl.length = mn ∧ mn ≤ 8 ∧ h.1 83 7 = iZ (mn : Int) ∧ h.2.2.1 83 6 = (27, 8, 85) ∧ ∀ f, f < mn → ∃ fn, TRr h 87 (hN h) 19 (h.2.2.1 85 f) fn ∧ b01 fn ∧ EVk (fl.getD f []) fn 12
/-- a goose's row and tree -/
def GSr (h : PH) (mn g : Nat) (G : Gs) : Prop := ∃ ga, h.2.2.1 86 g = (20, 4, ga) ∧ (87 < ga ∧ ga < hN h) ∧ (h.1 ga 0 = iZ (G.1 : Int) ∧ h.1 ga 1 = iZ G.2.1 ∧ h.1 ga 2 = iZ G.2.2.1 ∧ h.1 ga 3 = iZ (G.2.2.2.1 : Int)) ∧ (G.1 < mn ∧ 1 ≤ G.2.1 ∧ G.2.1 ≤ 200 ∧ 0 ≤ G.2.2.1 ∧ G.2.2.1 ≤ G.2.1 ∧ (G.2.2.1 ≠ 0 → G.2.1 / G.2.2.1 ≤ 6) ∧ G.2.2.2.1 < 4) ∧ (G.2.2.2.1 ≠ 0 → ∃ fn, TRr h 87 (hN h) 8 (h.2.2.1 87 g) fn ∧ EVk G.2.2.2.2 fn 9)
def GOr (h : PH) (gs : List Gs) (mn al : Nat) : Prop := gs.length = al ∧ al ≤ 6 ∧ h.1 83 10 = iZ (al : Int) ∧ h.2.2.1 83 8 = (28, 6, 86) ∧ h.2.2.1 83 9 = (27, 6, 87) ∧ ∀ g, g < al → GSr h mn g (gs.getD g g0)
def MOr (h : PH) (M : List Int) : Prop := ∃ ma, h.2.2.1 83 5 = (20, M.length, ma) ∧ (ma = 84 ∨ 87 < ma) ∧ ma < hN h ∧ (1 ≤ M.length ∧ M.length ≤ 4) ∧ ∀ j, j < M.length → h.1 ma j = iZ (M.getD j 0) ∧ 0 ≤ M.getD j 0 ∧ M.getD j 0 ≤ 99
def HB (h : PH) (B : Bk) (mn al : Nat) : Prop := FLr h B.2.1 mn ∧ GOr h B.2.2 mn al ∧ MOr h B.1
/-- rows above 87 and what the lists hold stand -/
def HF (h h1 : PH) : Prop := Kp (hN h) (fun a => a ≤ 83) h h1
theorem TR_hf {h h1 : PH} {D : Nat} {r : VR} {g : Ctx → Int32 → Int32} (k : Kp (hN h) (fun a => a ≤ 87) h h1) (t : TRr h 87 (hN h) D r g) : TRr h1 87 (hN h1) D r g := TR_Kp k (Nat.le_refl _) (fun a ha => by omega) k.2.2.2 (Nat.le_refl _) t
theorem FLr_k {h h1 : PH} {fl : List (List Cmd)} {mn : Nat} (k : Kp (hN h) (fun a => a ≤ 87) h h1) (e7 : h1.1 83 7 = h.1 83 7) (e6 : h1.2.2.1 83 6 = h.2.2.1 83 6) (e85 : ∀ f, f < mn → h1.2.2.1 85 f = h.2.2.1 85 f) (a : FLr h fl mn) : FLr h1 fl mn := by
  obtain ⟨a1, a2, a3, a4, a5⟩ := a
  refine ⟨a1, a2, e7.trans a3, e6.trans a4, fun f hf => ?_⟩
  obtain ⟨fn, t, b, v⟩ := a5 f hf
  exact ⟨fn, by rw [e85 f hf]; exact TR_hf k t, b, v⟩
theorem GSr_k {h h1 : PH} {mn m2 g : Nat} {G : Gs} (k : Kp (hN h) (fun a => a ≤ 87) h h1) (hm : mn ≤ m2) (e86 : h1.2.2.1 86 g = h.2.2.1 86 g) (e87 : h1.2.2.1 87 g = h.2.2.1 87 g) (a : GSr h mn g G) : GSr h1 m2 g G := by
  obtain ⟨ga, a1, a2, a3, a4, a5⟩ := a
  have e := (k.2.1 ga a2.2 (by omega)).1
  refine ⟨ga, e86.trans a1, ⟨a2.1, Nat.lt_of_lt_of_le a2.2 k.2.2.2⟩, by rw [e]; exact a3, ⟨by omega, a4.2⟩, fun z => ?_⟩
  obtain ⟨fn, t, v⟩ := a5 z
  exact ⟨fn, by rw [e87]; exact TR_hf k t, v⟩
theorem GOr_k {h h1 : PH} {gs : List Gs} {mn m2 al : Nat} (k : Kp (hN h) (fun a => a ≤ 87) h h1) (hm : mn ≤ m2) (e10 : h1.1 83 10 = h.1 83 10) (e8 : h1.2.2.1 83 8 = h.2.2.1 83 8) (e9 : h1.2.2.1 83 9 = h.2.2.1 83 9) (e86 : ∀ g, g < al → h1.2.2.1 86 g = h.2.2.1 86 g) (e87 : ∀ g, g < al → h1.2.2.1 87 g = h.2.2.1 87 g) (a : GOr h gs mn al) : GOr h1 gs m2 al := by
  obtain ⟨a1, a2, a3, a4, a5, a6⟩ := a
  exact ⟨a1, a2, e10.trans a3, e8.trans a4, e9.trans a5, fun g hg => GSr_k k hm (e86 g hg) (e87 g hg) (a6 g hg)⟩
theorem MOr_k {h h1 : PH} {M : List Int} (k : Kp (hN h) (fun a => a ≤ 87) h h1) (e5 : h1.2.2.1 83 5 = h.2.2.1 83 5) (e84 : h1.1 84 = h.1 84) (a : MOr h M) : MOr h1 M := by
  obtain ⟨ma, a1, a2, a3, a4, a5⟩ := a
  have e : h1.1 ma = h.1 ma := by
    rcases a2 with rfl | a2
    · exact e84
    · exact (k.2.1 ma a3 (by omega)).1
  exact ⟨ma, e5.trans a1, a2, Nat.lt_of_lt_of_le a3 k.2.2.2, a4, fun j hj => by rw [e]; exact a5 j hj⟩
theorem HB_F {h h1 : PH} {B : Bk} {mn al : Nat} (h88 : 88 ≤ hN h) (f : FB h h1) (a : HB h B mn al) : HB h1 B mn al := by
  have k : Kp (hN h) (fun a => a ≤ 87) h h1 := Kp_m f.1 (Nat.le_refl _) (fun x _ e => by omega)
  have r : ∀ x, 84 ≤ x → x ≤ 87 → h1.1 x = h.1 x ∧ h1.2.2.1 x = h.2.2.1 x := fun x x1 x2 => f.1.2.1 x (by omega) (by omega)
  have i := f.2.1
  have j := f.2.2
  exact ⟨FLr_k k (i 7 (by decide) (by decide)) (j 6 (by decide)) (fun g _ => by rw [(r 85 (by decide) (by decide)).2]) a.1, GOr_k k (Nat.le_refl _) (i 10 (by decide) (by decide)) (j 8 (by decide)) (j 9 (by decide)) (fun g _ => by rw [(r 86 (by decide) (by decide)).2]) (fun g _ => by rw [(r 87 (by decide) (by decide)).2]) a.2.1, MOr_k k (j 5 (by decide)) (r 84 (by decide) (by decide)).1 a.2.2⟩
theorem getD_app1 {α : Type} (d x : α) (l : List α) : (l ++ [x]).getD l.length d = x := by
  rw [List.getD_eq_getElem?_getD, List.getElem?_append_right (Nat.le_refl _), Nat.sub_self]; rfl
theorem getD_app0 {α : Type} (d x : α) (l : List α) (j : Nat) (h : j < l.length) : (l ++ [x]).getD j d = l.getD j d := by
  rw [List.getD_eq_getElem?_getD, List.getD_eq_getElem?_getD, List.getElem?_append_left h]
/-- one more flock -/
def fl7H (h : PH) (mn ra : Nat) : PH := setI (setR h 85 mn (13, 0, ra)) 83 7 (iZ ((mn : Int) + 1))
theorem fl7H_k {h : PH} {mn ra N : Nat} (h88 : 88 ≤ hN h) : Kp N (fun a => a = 83 ∨ a = 85) h (fl7H h mn ra) := Kp_t (Kp_R (fun _ => .inr rfl)) (Kp_I (fun _ => .inl rfl) (by show 83 < hN h; omega))
theorem HB_fl {h : PH} {B : Bk} {mn al ra : Nat} {c : List Cmd} {fn : Ctx → Int32 → Int32} (h88 : 88 ≤ hN h) (a : HB h B mn al) (hm : mn < 8) (t : TRr h 87 (hN h) 19 (13, 0, ra) fn) (b : b01 fn) (v : EVk c fn 12) : HB (fl7H h mn ra) (B.1, B.2.1 ++ [c], B.2.2) (mn + 1) al := by
  have k : Kp (hN h) (fun a => a ≤ 87) h (fl7H h mn ra) := Kp_m (fl7H_k h88) (Nat.le_refl _) (fun x _ e => by omega)
  have r : ∀ x, x ≠ 83 → x ≠ 85 → (fl7H h mn ra).1 x = h.1 x ∧ (fl7H h mn ra).2.2.1 x = h.2.2.1 x := fun x x1 x2 => ⟨setI_oth x1, setR_oth x2⟩
  obtain ⟨⟨a1, a2, a3, a4, a5⟩, ag, am⟩ := a
  refine ⟨⟨by rw [List.length_append, a1]; rfl, hm, (setI_self _ _ _ _).trans (by rw [show (((mn + 1 : Nat) : Int)) = (mn : Int) + 1 by omega]), (setR_ne (by omega)).trans a4, fun f hf => ?_⟩, GOr_k k (Nat.le_succ _) (setI_ne (by omega)) (setR_ne (by omega)) (setR_ne (by omega)) (fun g _ => by rw [(r 86 (by decide) (by decide)).2]) (fun g _ => by rw [(r 87 (by decide) (by decide)).2]) ag, MOr_k k (setR_ne (by omega)) (r 84 (by decide) (by decide)).1 am⟩
  by_cases e : f = mn
  · rw [e]
    refine ⟨fn, ?_, b, ?_⟩
    · rw [show (fl7H h mn ra).2.2.1 85 mn = (13, 0, ra) from setR_self _ _ _ _]; exact TR_hf k t
    · show EVk ((B.2.1 ++ [c]).getD mn []) fn 12
      rw [← a1, getD_app1]; exact v
  · obtain ⟨gn, t2, b2, v2⟩ := a5 f (by omega)
    refine ⟨gn, ?_, b2, ?_⟩
    · rw [show (fl7H h mn ra).2.2.1 85 f = h.2.2.1 85 f from setR_ne (fun z => e z.2)]; exact TR_hf k t2
    · show EVk ((B.2.1 ++ [c]).getD f []) gn 12
      rw [getD_app0 _ _ _ _ (by omega)]; exact v2
/-- one more goose: its tree if it tells no count, its row -/
def go7H (h : PH) (al ga : Nat) : PH := setI (setR h 86 al (20, 4, ga)) 83 10 (iZ ((al : Int) + 1))
theorem go7H_k {h : PH} {al ga N : Nat} (h88 : 88 ≤ hN h) : Kp N (fun a => a = 83 ∨ a = 86) h (go7H h al ga) := Kp_t (Kp_R (fun _ => .inr rfl)) (Kp_I (fun _ => .inl rfl) (by show 83 < hN h; omega))
theorem HB_of {h : PH} {B : Bk} {mn al : Nat} {r : VR} (h88 : 88 ≤ hN h) (a : HB h B mn al) : HB (setR h 87 al r) B mn al := by
  have k : Kp (hN h) (fun a => a ≤ 87) h (setR h 87 al r) := Kp_R (fun _ => Nat.le_refl _)
  have q : ∀ x, x ≠ 87 → (setR h 87 al r).2.2.1 x = h.2.2.1 x := fun x x1 => setR_oth x1
  exact ⟨FLr_k k rfl (setR_ne (by omega)) (fun f _ => by rw [q 85 (by decide)]) a.1, GOr_k k (Nat.le_refl _) rfl (setR_ne (by omega)) (setR_ne (by omega)) (fun g _ => by rw [q 86 (by decide)]) (fun g hg => setR_ne (fun z => by omega)) a.2.1, MOr_k k (setR_ne (by omega)) rfl a.2.2⟩
theorem HB_go {h : PH} {B : Bk} {mn al ga : Nat} {G : Gs} (h88 : 88 ≤ hN h) (a : HB h B mn al) (ha6 : al < 6) (g1 : 87 < ga ∧ ga < hN h) (g2 : h.1 ga 0 = iZ (G.1 : Int) ∧ h.1 ga 1 = iZ G.2.1 ∧ h.1 ga 2 = iZ G.2.2.1 ∧ h.1 ga 3 = iZ (G.2.2.2.1 : Int)) (g3 : G.1 < mn ∧ 1 ≤ G.2.1 ∧ G.2.1 ≤ 200 ∧ 0 ≤ G.2.2.1 ∧ G.2.2.1 ≤ G.2.1 ∧ (G.2.2.1 ≠ 0 → G.2.1 / G.2.2.1 ≤ 6) ∧ G.2.2.2.1 < 4) (g4 : G.2.2.2.1 ≠ 0 → ∃ fn, TRr h 87 (hN h) 8 (h.2.2.1 87 al) fn ∧ EVk G.2.2.2.2 fn 9) : HB (go7H h al ga) (B.1, B.2.1, B.2.2 ++ [G]) mn (al + 1) := by
  have k : Kp (hN h) (fun a => a ≤ 87) h (go7H h al ga) := Kp_m (go7H_k h88) (Nat.le_refl _) (fun x _ e => by omega)
  have r : ∀ x, x ≠ 83 → x ≠ 86 → (go7H h al ga).1 x = h.1 x ∧ (go7H h al ga).2.2.1 x = h.2.2.1 x := fun x x1 x2 => ⟨setI_oth x1, setR_oth x2⟩
  obtain ⟨af, ⟨a1, a2, a3, a4, a5, a6⟩, am⟩ := a
  refine ⟨FLr_k k (setI_ne (by omega)) (setR_ne (by omega)) (fun f _ => by rw [(r 85 (by decide) (by decide)).2]) af, ⟨by rw [List.length_append, a1]; rfl, ha6, (setI_self _ _ _ _).trans (by rw [show (((al + 1 : Nat) : Int)) = (al : Int) + 1 by omega]), (setR_ne (by omega)).trans a4, (setR_ne (by omega)).trans a5, fun g hg => ?_⟩, MOr_k k (setR_ne (by omega)) (r 84 (by decide) (by decide)).1 am⟩
  have r87 : (go7H h al ga).2.2.1 87 = h.2.2.1 87 := (r 87 (by decide) (by decide)).2
  by_cases e : g = al
  · rw [e]
    have eg : (B.2.2 ++ [G]).getD al g0 = G := by rw [← a1, getD_app1]
    show GSr (go7H h al ga) mn al ((B.2.2 ++ [G]).getD al g0)
    rw [eg]
    refine ⟨ga, setR_self _ _ _ _, g1, by rw [(r ga (by omega) (by omega)).1]; exact g2, g3, fun z => ?_⟩
    obtain ⟨fn, t, v⟩ := g4 z
    exact ⟨fn, by rw [r87]; exact TR_hf k t, v⟩
  · show GSr (go7H h al ga) mn g ((B.2.2 ++ [G]).getD g g0)
    rw [getD_app0 _ _ _ _ (by omega)]
    exact GSr_k k (Nat.le_refl _) (setR_ne (fun z => e z.2)) (by rw [r87]) (a6 g (by omega))
