/-! Both sides looked at: the loops. -/
/-- sizes and latest after k commas, of the flocks below f after k + 1 -/
def szH (h : PH) (za lb : Nat) (cs : List (Int × Int32)) (mn k f : Nat) : Prop := ∀ j, j < mn → h.1 za j = iZ (szK cs (iZ (j : Int)) (if j < f then k + 1 else k)) ∧ h.1 lb j = iZ (ltF cs (iZ (j : Int)) (if j < f then k + 1 else k))
theorem szH_n {h : PH} {za lb mn k : Nat} {cs : List (Int × Int32)} (x : szH h za lb cs mn k mn) : szH h za lb cs mn (k + 1) 0 := by
  intro j hj
  have := x j hj
  rw [if_pos hj] at this
  rw [if_neg (Nat.not_lt_zero _)]
  exact this
theorem szH_s {h : PH} {za lb mn k f : Nat} {cs : List (Int × Int32)} (hz : za ≠ lb) (c : bitv (cs.getD k cd0).2 (iZ (f : Int)) = iZ 1) (x : szH h za lb cs mn k f) : szH (setI (setI h za f (iZ (szK cs (iZ (f : Int)) k + 1))) lb f (iZ (k : Int))) za lb cs mn k (f + 1) := by
  intro j hj
  by_cases e : j = f
  · rw [e, if_pos (Nat.lt_succ_self f), szK_y c, ltF_y c]
    exact ⟨(setI_ne (by omega)).trans (setI_self _ _ _ _), setI_self _ _ _ _⟩
  · obtain ⟨y1, y2⟩ := x j hj
    have q : (if j < f + 1 then k + 1 else k) = if j < f then k + 1 else k := by
      by_cases w : j < f
      · rw [if_pos w, if_pos (by omega)]
      · rw [if_neg w, if_neg (by omega)]
    rw [q]
    exact ⟨(setI_ne (by omega)).trans ((setI_ne (fun z => e z.2)).trans y1), (setI_ne (fun z => e z.2)).trans ((setI_ne (by omega)).trans y2)⟩
theorem szH_o {h : PH} {za lb mn k f : Nat} {cs : List (Int × Int32)} (c : ¬ bitv (cs.getD k cd0).2 (iZ (f : Int)) = iZ 1) (x : szH h za lb cs mn k f) : szH h za lb cs mn k (f + 1) := by
  intro j hj
  have y := x j hj
  by_cases e : j = f
  · rw [e] at y ⊢
    rw [if_neg (Nat.lt_irrefl _)] at y
    rw [if_pos (Nat.lt_succ_self f), szK_n c, ltF_n c]
    exact y
  · have q : (if j < f + 1 then k + 1 else k) = if j < f then k + 1 else k := by
      by_cases w : j < f
      · rw [if_pos w, if_pos (by omega)]
      · rw [if_neg w, if_neg (by omega)]
    rw [q]
    exact y
theorem is_lp180 {d sm n k mn ka tf b m_ : Nat} {u : Q5} {S : Sta} {h0 : PH} {Q : Rs → PH → Prop} (I0 : CI h0 S b m_ u) (W : WN S) (w5 : (bkS S).2.2.length ≤ 6) (ub : uB u sm) (hs : 88 ≤ sm ∧ sm < hN h0) (em : (bkS S).2.1.length = mn) (hmn : mn ≤ 8) (hk : k < n) (hn : (csS S).length = n) (e0 : h0.2.2.1 sm 0 = (11, 0, 83)) (e2 : h0.2.2.1 sm 2 = (29, n, ka)) (ek : h0.2.2.1 ka k = (26, 8, tf)) (e7 : h0.1 83 7 = iZ (mn : Int)) (htf : tf < hN h0) (t : tkR h0 tf ((csS S).getD k cd0).2) (q : ∀ h1, nwK h0 h1 2 16 → szH h1 (hN h0) (hN h0 + 1) (csS S) mn (k + 1) 0 → ∀ x7 x8 x9 x10 : Option VV, Ev (d + 23) 172 (255, [some (.inr (.inr (.inr (12, 0, sm)))), some (.inr (.inr (.inr (1, 0, 1)))), some (.inl (iZ ((n : Int)))), some (.inr (.inr (.inr (20, 8, (hN h0))))), some (.inr (.inr (.inr (20, 8, (hN h0 + 1))))), some (.inl (iZ ((k : Int)))), some (.inl (iZ (pcN ((csS S).getD k cd0).2 mn))), x7, x8, x9, x10], [], h1) Q) (m : Nat) : ∀ (f : Nat) (h : PH) (x8 x9 x10 : Option VV), f + m = mn → nwK h0 h 2 16 → szH h (hN h0) (hN h0 + 1) (csS S) mn k f → Ev (d + 23) 172 (180, [some (.inr (.inr (.inr (12, 0, sm)))), some (.inr (.inr (.inr (1, 0, 1)))), some (.inl (iZ ((n : Int)))), some (.inr (.inr (.inr (20, 8, (hN h0))))), some (.inr (.inr (.inr (20, 8, (hN h0 + 1))))), some (.inl (iZ ((k : Int)))), some (.inl (iZ (pcN ((csS S).getD k cd0).2 f))), some (.inl (iZ ((f : Int)))), x8, x9, x10], [], h) Q := by
  have w8 := W.2.1
  induction m with
  | zero =>
    intro f h x8 x9 x10 hf x y
    obtain rfl : f = mn := by omega
    have n1 := x.2.2.2.1
    exact is_180 (d := d + 21) (mn := f) (bt := 0) (sz := 0) hk (by omega) (Nat.le_refl _) hmn ⟨by omega, by omega⟩ (by rw [x.1]; exact e0) (by rw [x.1]; exact e2) (by rw [x.1]; exact ek) ((congrFun (x.2.1 83 (by omega)) 7).trans e7) (fun c => by omega) (fun c => by omega) (fun c => by omega) (fun _ => q h x (szH_n y) _ _ _ _) (fun c => by omega) (fun c => by omega)
  | succ m ih =>
    intro f h x8 x9 x10 hf x y
    have n1 := x.2.2.2.1
    have I := CI_SI I0 w5 (nwK_SI (sm := sm) x) ub hs.1 (Nat.le_refl _)
    have tf1 : h.1 tf f = bitv ((csS S).getD k cd0).2 (iZ (f : Int)) := (congrFun (x.2.1 tf htf) f).trans (t f (by omega))
    have y1 := (y f (by omega)).1
    rw [if_neg (Nat.lt_irrefl _)] at y1
    have sb := szK_b (csS S) (iZ (f : Int)) k
    by_cases c : bitv ((csS S).getD k cd0).2 (iZ (f : Int)) = iZ 1
    · refine is_180 (d := d + 21) (mn := mn) (bt := 1) (sz := szK (csS S) (iZ (f : Int)) k) hk (by omega) (by omega) hmn ⟨by omega, by omega⟩ (by rw [x.1]; exact e0) (by rw [x.1]; exact e2) (by rw [x.1]; exact ek) ((congrFun (x.2.1 83 (by omega)) 7).trans e7) (fun _ => tf1.trans c) (fun _ => y1) (fun _ => Rv.of fun Q1 q1 => cq_isIn (d := d + 21) I W (p := (f : Int)) (k := k) ⟨by omega, by omega⟩ rfl (by omega) (fun _ => q1) (fun z => absurd c z)) (fun z => by omega) (fun _ _ => ?_) (fun _ z => by omega)
      have i := ih (f + 1) _ x8 x9 x10 (by omega) (nwK_s (nwK_s x (by omega) (by omega)) (by omega) (by show hN h0 + 1 < hN h; omega)) (szH_s (by omega) c y)
      have ep : pcN ((csS S).getD k cd0).2 (f + 1) = pcN ((csS S).getD k cd0).2 f + 1 := by
        show pcN ((csS S).getD k cd0).2 f + (if bitv ((csS S).getD k cd0).2 (iZ (f : Int)) = iZ 1 then 1 else 0) = _
        rw [if_pos c]
      rw [ep] at i
      exact i
    · refine is_180 (d := d + 21) (mn := mn) (bt := 0) (sz := szK (csS S) (iZ (f : Int)) k) hk (by omega) (by omega) hmn ⟨by omega, by omega⟩ (by rw [x.1]; exact e0) (by rw [x.1]; exact e2) (by rw [x.1]; exact ek) ((congrFun (x.2.1 83 (by omega)) 7).trans e7) (fun _ => tf1.trans ((bitv_01 _ _).elim (fun z => z) (fun z => absurd z c))) (fun _ => y1) (fun _ => Rv.of fun Q1 q1 => cq_isIn (d := d + 21) I W (p := (f : Int)) (k := k) ⟨by omega, by omega⟩ rfl (by omega) (fun z => absurd (bitv_1 z) c) (fun _ => q1)) (fun z => by omega) (fun _ z => by omega) (fun _ _ => ?_)
      have i := ih (f + 1) h x8 x9 x10 (by omega) x (szH_o c y)
      have ep : pcN ((csS S).getD k cd0).2 (f + 1) = pcN ((csS S).getD k cd0).2 f := by
        show pcN ((csS S).getD k cd0).2 f + (if bitv ((csS S).getD k cd0).2 (iZ (f : Int)) = iZ 1 then 1 else 0) = _
        rw [if_neg c]; omega
      rw [ep] at i
      exact i
theorem is_lp168 {d sm n mn al ca ka oa ta b m_ : Nat} {u : Q5} {S : Sta} {M : Ms} {B : Bk} {gv : Nat → Ctx → Int32 → Int32} {hb h0 : PH} {Q : Rs → PH → Prop} (I0 : CI h0 S b m_ u) (W : WN S) (w5 : (bkS S).2.2.length ≤ 6) (ub : uB u sm) (x0 : SMh h0 sm u ca ka oa ta M) (bh : BH hb h0 sm B mn al) (ms : MSy S M B gv) (hm : mskM mn M) (hn : (yC M).length = n) (q : ∀ h1, nwK h0 h1 2 16 → szH h1 (hN h0) (hN h0 + 1) (csS S) mn n 0 → ∀ x6 x7 x8 x9 x10 : Option VV, Ev (d + 23) 172 (295, [some (.inr (.inr (.inr (12, 0, sm)))), some (.inr (.inr (.inr (1, 0, 1)))), some (.inl (iZ ((n : Int)))), some (.inr (.inr (.inr (20, 8, (hN h0))))), some (.inr (.inr (.inr (20, 8, (hN h0 + 1))))), some (.inl (iZ (0))), x6, x7, x8, x9, x10], [], h1) Q) (m : Nat) : ∀ (k : Nat) (h : PH) (x6 x7 x8 x9 x10 : Option VV), k + m = n → nwK h0 h 2 16 → szH h (hN h0) (hN h0 + 1) (csS S) mn k 0 → Ev (d + 23) 172 (168, [some (.inr (.inr (.inr (12, 0, sm)))), some (.inr (.inr (.inr (1, 0, 1)))), some (.inl (iZ ((n : Int)))), some (.inr (.inr (.inr (20, 8, (hN h0))))), some (.inr (.inr (.inr (20, 8, (hN h0 + 1))))), some (.inl (iZ ((k : Int)))), x6, x7, x8, x9, x10], [], h) Q := by
  have w8 := W.2.1
  have al6 := bf_al bh
  have cl : (csS S).length = n := by rw [ms.2.1]; exact (List.length_map _).trans hn
  have em : (bkS S).2.1.length = mn := by rw [ms.1]; exact al6.1
  obtain ⟨z0, ⟨c1, c2, cfr, c3⟩, ⟨k1, k2, tfr, k3⟩, -, -, -, -, -, hs⟩ := x0
  rw [hn] at c1 k1 c3 k3
  induction m with
  | zero =>
    intro k h x6 x7 x8 x9 x10 hk x y
    obtain rfl : k = n := by omega
    exact is_168 (d := d + 23) (Nat.le_refl _) (by omega) (fun _ => q h x y _ _ _ _ _) (fun c => by omega)
  | succ m ih =>
    intro k h x6 x7 x8 x9 x10 hk x y
    have kn : k < n := by omega
    obtain ⟨t1, t2, t3⟩ := k3 k kn
    obtain ⟨r1, r2, r3⟩ := c3 k kn
    have mk : (csS S).getD k cd0 = (((yC M).getD k c00).1.1, ((yC M).getD k c00).2) := by rw [ms.2.1]; exact csM_get M k (by omega)
    refine is_168 (d := d + 23) (by omega) (by omega) (fun c => by omega) (fun _ => ?_)
    refine is_lp180 (d := d) (n := n) I0 W w5 ub ⟨hs.1, by omega⟩ em al6.2.1 kn cl z0 k1 t1 (bf_7 bh) t2.2.1 (by rw [mk]; exact t3) (fun h1 n1 y1 x7 x8 x9 x10 => ?_) mn 0 h _ _ _ (by omega) x y
    obtain ⟨kk, kk1, kk2⟩ := hm _ (getD_mem (d := c00) (show k < (yC M).length by omega))
    refine is_255 (d := d + 21) (n := n) (ca := ca) (cf := cfr k) (CI_SI I0 w5 (nwK_SI (sm := sm) n1) ub hs.1 (Nat.le_refl _)) W kn cl (by rw [n1.1]; exact c1) (by rw [n1.1]; exact r1) ?_ ?_ (ih (k + 1) h1 _ _ _ _ _ (by omega) n1 y1)
    · rw [mk, n1.2.1 (cfr k) r2.2.1]
      exact r3.1
    · rw [mk]
      show bcv ((yC M).getD k c00).2 = iZ (pcN ((yC M).getD k c00).2 mn)
      rw [kk2]
      exact pc_mn al6.2.1 kk1
theorem is_lp295 {d sm n mn al b m_ : Nat} {u : Q5} {S : Sta} {M : Ms} {B : Bk} {gv : Nat → Ctx → Int32 → Int32} {hb h0 h : PH} {Q : Rs → PH → Prop} (I : CI h S b m_ u) (W : WN S) (e0 : h.2.2.1 sm 0 = (11, 0, 83)) (bh : BH hb h sm B mn al) (ms : MSy S M B gv) (hn : (yC M).length = n) (y : szH h (hN h0) (hN h0 + 1) (csS S) mn n 0) (q : ∀ x8 x9 x10 : Option VV, Ev (d + 23) 172 (351, [some (.inr (.inr (.inr (12, 0, sm)))), some (.inr (.inr (.inr (1, 0, 1)))), some (.inl (iZ ((n : Int)))), some (.inr (.inr (.inr (20, 8, (hN h0))))), some (.inr (.inr (.inr (20, 8, (hN h0 + 1))))), some (.inl (iZ (0))), some (.inl (iZ (0))), some (.inl (iZ (0))), x8, x9, x10], [], h) Q) (m : Nat) : ∀ (f : Nat) (x6 x7 x8 x9 x10 : Option VV), f + m = mn → Ev (d + 23) 172 (295, [some (.inr (.inr (.inr (12, 0, sm)))), some (.inr (.inr (.inr (1, 0, 1)))), some (.inl (iZ ((n : Int)))), some (.inr (.inr (.inr (20, 8, (hN h0))))), some (.inr (.inr (.inr (20, 8, (hN h0 + 1))))), some (.inl (iZ ((f : Int)))), x6, x7, x8, x9, x10], [], h) Q := by
  have al6 := bf_al bh
  have cl : (csS S).length = n := by rw [ms.2.1]; exact (List.length_map _).trans hn
  have em : (bkS S).2.1.length = mn := by rw [ms.1]; exact al6.1
  have ez : ∀ f : Nat, f < mn → h.1 (hN h0) f = iZ (szF (csS S) (iZ (f : Int))) ∧ h.1 (hN h0 + 1) f = iZ (ltF (csS S) (iZ (f : Int)) (csS S).length) := fun f hf => by
    obtain ⟨y1, y2⟩ := y f hf
    rw [if_neg (Nat.not_lt_zero _), ← cl] at y1 y2
    rw [szK_e] at y1
    exact ⟨y1, y2⟩
  induction m with
  | zero =>
    intro f x6 x7 x8 x9 x10 hf
    obtain rfl : f = mn := by omega
    exact is_295 (d := d + 21) I W (Nat.le_refl _) al6.2.1 em e0 (bf_7 bh) (fun c => by omega) (fun c => by omega) (fun _ => q _ _ _) (fun c => by omega)
  | succ m ih =>
    intro f x6 x7 x8 x9 x10 hf
    exact is_295 (d := d + 21) I W (by omega) al6.2.1 em e0 (bf_7 bh) (fun c => (ez f c).1) (fun c => (ez f c).2) (fun c => by omega) (fun _ => ih (f + 1) _ _ _ _ _ (by omega))
theorem is_lp379 {d sm n g p mn al ca ka oa ta b m_ : Nat} {sl : Int} {u : Q5} {S : Sta} {M : Ms} {B : Bk} {fv gv : Nat → Ctx → Int32 → Int32} {hb h0 h : PH} {A R : List Wn} {Q : Rs → PH → Prop} (vf : VF hb B fv gv) (I : CI h S b m_ u) (W : WN S) (x : SMh h sm u ca ka oa ta M) (bh : BH hb h sm B mn al) (ms : MSy S M B gv) (mi : MIy M B) (hc : (yC M).length ≤ 120) (hO : (yO M).length ≤ 5000) (ln : ∀ w ∈ yO M, w.2.2.2.length ≤ 1000) (hg : g < al) (eA : (yO M).drop p = A ++ R) (hA : ∀ v ∈ A, v.1 = g) (hR : ∀ v ∈ R, g < v.1) (er : wdS S g = A.map (wo (tlY B) (fY B gv (yC M)))) (hp : p + A.length ≤ (yO M).length) (q : ∀ x9 x10 : Option VV, Ev (d + 23) 172 (495, [some (.inr (.inr (.inr (12, 0, sm)))), some (.inr (.inr (.inr (1, 0, 1)))), some (.inl (iZ ((n : Int)))), some (.inr (.inr (.inr (20, 8, (hN h0))))), some (.inr (.inr (.inr (20, 8, (hN h0 + 1))))), some (.inl (iZ (((p + A.length : Nat) : Int)))), some (.inl (iZ (sl))), some (.inl (iZ ((g : Int)))), some (.inl (iZ ((p : Int)))), x9, x10], [], h) Q) (m : Nat) : ∀ (k : Nat) (x9 x10 : Option VV), k + m = p + A.length → p ≤ k → Ev (d + 23) 172 (379, [some (.inr (.inr (.inr (12, 0, sm)))), some (.inr (.inr (.inr (1, 0, 1)))), some (.inl (iZ ((n : Int)))), some (.inr (.inr (.inr (20, 8, (hN h0))))), some (.inr (.inr (.inr (20, 8, (hN h0 + 1))))), some (.inl (iZ ((k : Int)))), some (.inl (iZ (sl))), some (.inl (iZ ((g : Int)))), some (.inl (iZ ((p : Int)))), x9, x10], [], h) Q := by
  have al6 := bf_al bh
  obtain ⟨e3, lo, fl, fr, o_⟩ := x.2.2.2.1
  have eb : (bkS S).2.2.length = al := by rw [ms.1]; exact al6.2.2.1
  have row : ∀ k, k < (yO M).length → (yO M).getD k wn0 ∈ yO M := fun k hk => getD_mem hk
  have lenw : (wdS S g).length = A.length := by rw [er]; exact List.length_map _
  induction m with
  | zero =>
    intro k x9 x10 hk hpk
    obtain rfl : k = p + A.length := by omega
    have ng : p + A.length < (yO M).length → ((yO M).getD (p + A.length) wn0).1 ≠ g := fun z => by
      have e : (yO M).getD (p + A.length) wn0 = R.getD 0 wn0 := by
        rw [dr_get (yO M) (Nat.le_add_right p A.length), eA, show p + A.length - p = A.length by omega, List.getD_eq_getElem?_getD, List.getElem?_append_right (Nat.le_refl _), Nat.sub_self, List.getD_eq_getElem?_getD]
      have l : R ≠ [] := by
        intro w
        have := congrArg List.length eA
        rw [w, List.append_nil, List.length_drop] at this
        omega
      have mem : R.getD 0 wn0 ∈ R := getD_mem (List.length_pos_iff.mpr l)
      rw [e]
      have := hR _ mem
      omega
    exact is_379 (d := d + 2) (gw := ((yO M).getD (p + A.length) wn0).1) (fl := fl (p + A.length)) (fr := fr (p + A.length)) I W (by omega) hp (by omega) hO e3 (fun z => (o_ _ z).1) (fun z => (o_ _ z).2.2.2.1) (fun z => by have := (mi.2.1 _ (row _ z)).2; omega) (fun z => by
      have a1 := (o_ _ z).2.2.1
      have a2 := ln _ (row _ z)
      have a3 := (mi.2.1 _ (row _ z)).1.2.2.2.2.1
      have a4 : ((yO M).getD (p + A.length) wn0).2.2.2.length ≠ 0 := fun w => a3 (List.eq_nil_of_length_eq_zero w)
      omega) (fun z w => absurd w (ng z)) (fun z w => absurd w (ng z)) (fun z w => absurd w (ng z)) (fun z w => absurd w (ng z)) (fun z w => absurd w (ng z)) (fun _ => q _ _) (fun z w => absurd w (ng z))
  | succ m ih =>
    intro k x9 x10 hk hpk
    have hkl : k < (yO M).length := by omega
    obtain ⟨o1, o2, o3⟩ := o_ k hkl
    have mem := row k hkl
    have eg : (yO M).getD k wn0 = A.getD (k - p) wn0 := by
      rw [dr_get (yO M) hpk, eA, List.getD_eq_getElem?_getD, List.getElem?_append_left (by omega), List.getD_eq_getElem?_getD]
    have g1 : ((yO M).getD k wn0).1 = g := by rw [eg]; exact hA _ (getD_mem (by omega))
    have ew : (wdS S g).getD (k - p) w0 = wo (tlY B) (fY B gv (yC M)) ((yO M).getD k wn0) := by
      rw [er, eg, List.getD_eq_getElem?_getD, List.getElem?_map, List.getElem?_eq_getElem (show k - p < A.length by omega), List.getD_eq_getElem?_getD, List.getElem?_eq_getElem (show k - p < A.length by omega)]
      rfl
    have a2 := ln _ mem
    have wb := (mi.2.1 _ mem).1
    have a4 : ((yO M).getD k wn0).2.2.2.length ≠ 0 := fun w => wb.2.2.2.2.1 (List.eq_nil_of_length_eq_zero w)
    refine is_379 (d := d + 2) (gw := ((yO M).getD k wn0).1) (fl := fl k) (fr := fr k) I W (by omega) (by omega) hpk hO e3 (fun z => o1) (fun z => o3.2.1) (fun z => by omega) (fun z => by have := o3.1; omega) (fun z w => by omega) (fun z w => by rw [ew]; exact o3.2.2.1) (fun z w => by rw [ew]; exact o3.2.2.2.1) (fun z w => ?_) (fun z w => ?_) (fun z => by omega) (fun z w => ih (k + 1) _ _ (by omega) (by omega))
    · rw [ew]
      have := o3.1
      show (fl k : Int) - 3 = (((yO M).getD k wn0).2.2.2.length : Int)
      omega
    · rw [ew]
      exact ls_value (d := d + 2) vf bh x o3 (by omega) wb.2.2.2.2.1 wb.2.2.2.2.2 (by omega) (by omega)
theorem is_lp351 {d sm n mn al ca ka oa ta b m_ : Nat} {u : Q5} {S : Sta} {M : Ms} {B : Bk} {fv gv : Nat → Ctx → Int32 → Int32} {hb h0 h : PH} {Q : Rs → PH → Prop} (vf : VF hb B fv gv) (I : CI h S b m_ u) (W : WN S) (x : SMh h sm u ca ka oa ta M) (bh : BH hb h sm B mn al) (ms : MSy S M B gv) (mi : MIy M B) (hc : (yC M).length ≤ 120) (hO : (yO M).length ≤ 5000) (ln : ∀ w ∈ yO M, w.2.2.2.length ≤ 1000) (hl : ∀ g, ltS S g ≤ 10000) (q : ∀ (p : Nat) (x10 : Option VV), Ev (d + 23) 172 (563, [some (.inr (.inr (.inr (12, 0, sm)))), some (.inr (.inr (.inr (1, 0, 1)))), some (.inl (iZ ((n : Int)))), some (.inr (.inr (.inr (20, 8, (hN h0))))), some (.inr (.inr (.inr (20, 8, (hN h0 + 1))))), some (.inl (iZ ((p : Int)))), some (.inl (iZ (sumL (ltS S) al))), some (.inl (iZ (-1))), some (.inl (iZ (0))), some (.inl (iZ (0))), x10], [], h) Q) (m : Nat) : ∀ (g p : Nat) (x8 x9 x10 : Option VV), g + m = al → (∀ v ∈ (yO M).drop p, g ≤ v.1) → p ≤ (yO M).length → (∀ g2, g ≤ g2 → rwL (tlY B) (fY B gv (yC M)) (yO M) g2 = rwL (tlY B) (fY B gv (yC M)) ((yO M).drop p) g2) → Ev (d + 23) 172 (351, [some (.inr (.inr (.inr (12, 0, sm)))), some (.inr (.inr (.inr (1, 0, 1)))), some (.inl (iZ ((n : Int)))), some (.inr (.inr (.inr (20, 8, (hN h0))))), some (.inr (.inr (.inr (20, 8, (hN h0 + 1))))), some (.inl (iZ ((p : Int)))), some (.inl (iZ (sumL (ltS S) g))), some (.inl (iZ ((g : Int)))), x8, x9, x10], [], h) Q := by
  have al6 := bf_al bh
  have xx := x
  obtain ⟨z0, -, -, -, -, -, ⟨l1, l2⟩, -, hs⟩ := xx
  have eb : (bkS S).2.2.length = al := by rw [ms.1]; exact al6.2.2.1
  have elt : ∀ g, g < 6 → h.1 (sm + 5) g = iZ (ltS S g : Int) := fun g hg => by rw [ms.2.2.2.2.2.2.1]; exact l2 g hg
  induction m with
  | zero =>
    intro g p x8 x9 x10 hg _ _ _
    obtain rfl : g = al := by omega
    exact is_351 (d := d + 23) (l := 0) (Nat.le_refl _) (by omega) z0 (bf_10 bh) l1 (fun c => by omega) (fun _ => q p _) (fun c => by omega)
  | succ m ih =>
    intro g p x8 x9 x10 hg h1 h2 h3
    obtain ⟨A, R, eA, hA, hR, er, ed, hp, h4⟩ := dr_goose mi.1 h1 h2 h3
    have er : wdS S g = A.map (wo (tlY B) (fY B gv (yC M))) := by rw [ms.2.2.2.2.2.1]; exact er
    refine is_351 (d := d + 23) (l := ltS S g) (by omega) (by omega) z0 (bf_10 bh) l1 (fun c => elt g (by omega)) (fun c => by omega) (fun _ => ?_)
    refine is_lp379 (d := d) vf I W x bh ms mi hc hO ln (by omega) eA hA hR er hp (fun x9 x10 => ?_) A.length p _ _ rfl (Nat.le_refl _)
    obtain ⟨ga, a1, ⟨a2, a3, a4, a5⟩, a6, -, a7, a8⟩ := bf_go bh (show g < al by omega)
    refine is_495 (d := d + 20) (ga := ga) I W (by omega) (by omega) ?_ (hl g) (by rw [ms.1]; omega) z0 (bf_8 bh) a1 l1 (by rw [ms.1]; exact a2) (elt g (by omega)) ?_
    · rw [er, List.length_map]
      omega
    · exact ih (g + 1) (p + A.length) _ _ _ (by omega) (fun v hv => by rw [ed] at hv; have := hR v hv; omega) hp h4
theorem is_lp563 {d sm n mn al ca ka oa ta b m_ : Nat} {sl : Int} {u : Q5} {S : Sta} {M : Ms} {B : Bk} {fv gv : Nat → Ctx → Int32 → Int32} {hb h0 h : PH} {Q : Rs → PH → Prop} (vf : VF hb B fv gv) (I : CI h S b m_ u) (W : WN S) (x : SMh h sm u ca ka oa ta M) (bh : BH hb h sm B mn al) (ms : MSy S M B gv) (mi : MIy M B) (hc : (yC M).length ≤ 120) (ln : ∀ w ∈ yT M, w.2.2.2.length ≤ 1000) (q : ∀ x5 x9 x10 : Option VV, Ev (d + 23) 172 (691, [some (.inr (.inr (.inr (12, 0, sm)))), some (.inr (.inr (.inr (1, 0, 1)))), some (.inl (iZ ((n : Int)))), some (.inr (.inr (.inr (20, 8, (hN h0))))), some (.inr (.inr (.inr (20, 8, (hN h0 + 1))))), x5, some (.inl (iZ (sl))), some (.inl (iZ (fulR (tlS S) 0 (-1) 0))), some (.inl (iZ (sumC (tlS S)))), x9, x10], [], h) Q) (m : Nat) : ∀ (k : Nat) (b_ s2 mm : Int) (x5 x10 : Option VV), k + m = (tlS S).length → fulR ((tlS S).drop k) k b_ mm = fulR (tlS S) 0 (-1) 0 → s2 + sumC ((tlS S).drop k) = sumC (tlS S) → -1 ≤ b_ → b_ < k → (b_ < 0 → mm = 0) → (0 ≤ b_ → mm = (((yT M).getD b_.toNat wn0).2.2.2.length : Int)) → Ev (d + 23) 172 (563, [some (.inr (.inr (.inr (12, 0, sm)))), some (.inr (.inr (.inr (1, 0, 1)))), some (.inl (iZ ((n : Int)))), some (.inr (.inr (.inr (20, 8, (hN h0))))), some (.inr (.inr (.inr (20, 8, (hN h0 + 1))))), x5, some (.inl (iZ (sl))), some (.inl (iZ (b_))), some (.inl (iZ (s2))), some (.inl (iZ ((k : Int)))), x10], [], h) Q := by
  have al6 := bf_al bh
  obtain ⟨e4, lo, fl, fr, o_⟩ := x.2.2.2.2.1
  have lT : (tlS S).length = (yT M).length := by rw [ms.2.2.2.2.2.2.2]; exact List.length_map _
  have row : ∀ k, k < (yT M).length → (yT M).getD k wn0 ∈ yT M := fun k hk => getD_mem hk
  have gt6 := tel_6 ms mi (by omega)
  have t16 := W.2.2.2.2.2.2.2.2.2.2.1
  have hfb : ∀ b_ : Int, b_ < (yT M).length → 0 ≤ b_ → fl b_.toNat = 3 + ((yT M).getD b_.toNat wn0).2.2.2.length ∧ fl b_.toNat ≤ 5000 := fun b_ h1 h2 => by
    have a := (o_ b_.toNat (by omega)).2.2.1
    have b := ln _ (row b_.toNat (by omega))
    omega
  induction m with
  | zero =>
    intro k b_ s2 mm x5 x10 hk hf hs2 b1 b2 b3 b4
    have dn : (tlS S).drop k = [] := List.drop_eq_nil_of_le (by omega)
    rw [dn] at hf hs2
    have hf : b_ = fulR (tlS S) 0 (-1) 0 := hf
    have hs2 : s2 + 0 = sumC (tlS S) := hs2
    obtain rfl : s2 = sumC (tlS S) := by omega
    have q := q x5 (some (.inl (iZ (k : Int)))) x10
    rw [← hf] at q
    exact is_563 (d := d + 2) (fl := 0) (fr := 0) (fb := fl b_.toNat) (rb := fr b_.toNat) I W (Nat.le_of_eq (by omega)) lT ⟨b1, by omega⟩ (gt6 k) e4 (fun z => by omega) (fun z => by omega) (fun z => (hfb b_ (by omega) z).2) (fun z => by omega) (fun z => by omega) (fun z => by omega) (fun z => by omega) (fun z => by omega) (fun _ => q) (fun z => by omega) (fun z => by omega)
  | succ m ih =>
    intro k b_ s2 mm x5 x10 hk hf hs2 b1 b2 b3 b4
    have hkl : k < (yT M).length := by omega
    have hkt : k < (tlS S).length := by omega
    obtain ⟨o1, o2, o3⟩ := o_ k hkl
    have mem := row k hkl
    have ew : (tlS S).getD k t0 = tO (tlY B) (fY B gv (yC M)) ((yT M).getD k wn0) := by
      rw [ms.2.2.2.2.2.2.2, List.getD_eq_getElem?_getD, List.getElem?_map, List.getElem?_eq_getElem hkl, List.getD_eq_getElem?_getD, List.getElem?_eq_getElem hkl]
      rfl
    have a2 := ln _ mem
    have wb := (mi.2.2.1 _ mem)
    have a4 : ((yT M).getD k wn0).2.2.2.length ≠ 0 := fun w => wb.1.2.2.2.2.1 (List.eq_nil_of_length_eq_zero w)
    have o31 := o3.1
    have cnt : ((tlS S).getD k t0).2.2.2.1 = (((yT M).getD k wn0).2.2.2.length : Int) := by rw [ew]; rfl
    rw [ful_st hkt, cnt] at hf
    rw [sum_st hkt, cnt] at hs2
    refine is_563 (d := d + 2) (fl := fl k) (fr := fr k) (fb := fl b_.toNat) (rb := fr b_.toNat) I W (by omega) lT ⟨b1, by omega⟩ (gt6 k) e4 (fun z => o1) (fun z w => (o_ b_.toNat (by omega)).1) (fun z => (hfb b_ (by omega) z).2) (fun z => by rw [ew]; exact o3.2.1) (fun z => by rw [ew]; exact o3.2.2.1) (fun z => by rw [ew]; exact o3.2.2.2.1) (fun z => by rw [cnt]; omega) (fun z => ?_) (fun z => by omega) (fun _ w => ?_) (fun _ w => ?_)
    · rw [ew]
      exact ls_value (d := d + 2) vf bh x o3 (by omega) wb.1.2.2.2.2.1 wb.1.2.2.2.2.2 (by omega) (by omega)
    · have c : mm < (((yT M).getD k wn0).2.2.2.length : Int) := by
        by_cases z : b_ < 0
        · have := b3 z; omega
        · have e1 := b4 (by omega)
          have e2 := (hfb b_ (by omega) (by omega)).1
          rcases w with w | w
          · omega
          · omega
      rw [if_pos c] at hf
      exact ih (k + 1) (k : Int) (s2 + ((fl k : Int) - 3)) _ _ _ (by omega) hf (by omega) (by omega) (by omega) (fun z => by omega) (fun _ => rfl)
    · have c : ¬ mm < (((yT M).getD k wn0).2.2.2.length : Int) := by
        have z : 0 ≤ b_ := by omega
        have e1 := b4 z
        have e2 := (hfb b_ (by omega) z).1
        omega
      rw [if_neg c] at hf
      exact ih (k + 1) b_ (s2 + ((fl k : Int) - 3)) mm _ _ (by omega) hf (by omega) b1 (by omega) b3 b4
