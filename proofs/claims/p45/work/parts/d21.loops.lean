/-! A step of the law, whole. -/
theorem l88_lp {d sm L al t ct lt b n : Nat} {mk cm : Int} {xx : Int32} {u : Q5} {S : Sta} {h0 : PH} {Q : Rs → PH → Prop} (hal : al ≤ 6) (ea : (bkS S).2.2.length = al) (I0 : CI h0 S b n u) (W : WN S) (hgt : ∀ j, ((tlS S).getD j t0).1 < 6) (ub : uB u sm) (hs : 88 ≤ sm) (hct : ct = hN h0) (hlt : lt = hN h0 + 1) (q : ∀ h1, nwK h0 h1 2 (al + al) → (∀ j, j < al → h1.1 lt j = iZ (ltS S j : Int) ∧ h1.1 ct j = iZ (cntW (wdS S j) + cntT j (tlS S))) → ∀ x11 x12 x13 x14 x15 x16 x17 x18 : Option VV, Ev (d + 23) 25 (123, [some (.inr (.inr (.inr (45, L, 0)))), some (.inr (.inr (.inr (1, 0, 1)))), some (.inr (.inr (.inr (12, 0, sm)))), some (.inl (iZ (mk))), some (.inl (iZ ((t : Int)))), some (.inl (xx)), some (.inl (iZ ((al : Int)))), some (.inr (.inr (.inr (20, al, ct)))), some (.inr (.inr (.inr (20, al, lt)))), some (.inl (iZ (cm))), some (.inl (iZ ((al : Int)))), x11, x12, x13, x14, x15, x16, x17, x18], [], h1) Q) (m : Nat) : ∀ (k : Nat) (h : PH) (x11 x12 x13 x14 x15 x16 x17 x18 : Option VV), k + m = al → nwK h0 h 2 (al + al) → (∀ j, j < k → h.1 lt j = iZ (ltS S j : Int) ∧ h.1 ct j = iZ (cntW (wdS S j) + cntT j (tlS S))) → Ev (d + 23) 25 (88, [some (.inr (.inr (.inr (45, L, 0)))), some (.inr (.inr (.inr (1, 0, 1)))), some (.inr (.inr (.inr (12, 0, sm)))), some (.inl (iZ (mk))), some (.inl (iZ ((t : Int)))), some (.inl (xx)), some (.inl (iZ ((al : Int)))), some (.inr (.inr (.inr (20, al, ct)))), some (.inr (.inr (.inr (20, al, lt)))), some (.inl (iZ (cm))), some (.inl (iZ ((k : Int)))), x11, x12, x13, x14, x15, x16, x17, x18], [], h) Q := by
  have w5 : (bkS S).2.2.length ≤ 6 := by omega
  induction m with
  | zero =>
    intro k h x11 x12 x13 x14 x15 x16 x17 x18 hk x y
    obtain rfl : k = al := by omega
    have n1 := x.2.2.2.1
    exact lo_88 (d := d + 18) (Nat.le_refl _) hal ea (CI_SI I0 w5 (nwK_SI x) ub hs (Nat.le_refl _)) (CI_SI I0 w5 (nwK_SI (nwK_s x (by omega) (by omega))) ub hs (Nat.le_refl _)) W hgt (fun _ => q h x y _ _ _ _ _ _ _ _) (fun c => by omega)
  | succ m ih =>
    intro k h x11 x12 x13 x14 x15 x16 x17 x18 hk x y
    have n1 := x.2.2.2.1
    refine lo_88 (d := d + 18) (by omega) hal ea (CI_SI I0 w5 (nwK_SI x) ub hs (Nat.le_refl _)) (CI_SI I0 w5 (nwK_SI (nwK_s x (by omega) (by omega))) ub hs (Nat.le_refl _)) W hgt (fun c => by omega) (fun c => ?_)
    refine ih (k + 1) _ _ _ _ _ _ _ _ _ (by omega) (nwK_s (nwK_s x (by omega) (by omega)) (by omega) (by show ct < hN h; omega)) (fun j hj => ?_)
    by_cases e : j = k
    · rw [e]
      exact ⟨(setI_ne (by omega)).trans (setI_self _ _ _ _), setI_self _ _ _ _⟩
    · obtain ⟨y1, y2⟩ := y j (by omega)
      exact ⟨(setI_ne (by omega)).trans ((setI_ne (fun z => e z.2)).trans y1), (setI_ne (fun z => e z.2)).trans ((setI_ne (by omega)).trans y2)⟩
theorem l219_lp {d sm L al t ct lt mn b n : Nat} {mk cm : Int} {xx : Int32} {u : Q5} {S : Sta} {h : PH} {Q : Rs → PH → Prop} (I : CI h S b n u) (W : WN S) (hmn : mn ≤ 8) (em : (bkS S).2.1.length = mn) (e0 : h.2.2.1 sm 0 = (11, 0, 83)) (e7 : h.1 83 7 = iZ (mn : Int)) (q : ∀ x12 x13 x14 x15 x16 x17 x18 : Option VV, Ev (d + 23) 25 (322, [some (.inr (.inr (.inr (45, L, 0)))), some (.inr (.inr (.inr (1, 0, 1)))), some (.inr (.inr (.inr (12, 0, sm)))), some (.inl (iZ (mk))), some (.inl (iZ ((t : Int)))), some (.inl (xx)), some (.inl (iZ ((al : Int)))), some (.inr (.inr (.inr (20, al, ct)))), some (.inr (.inr (.inr (20, al, lt)))), some (.inl (iZ (cm))), some (.inl (iZ (0))), some (.inl (iZ (0))), x12, x13, x14, x15, x16, x17, x18], [], h) Q) (m : Nat) : ∀ (k : Nat) (x11 x12 x13 x14 x15 x16 x17 x18 : Option VV), k + m = mn → Ev (d + 23) 25 (219, [some (.inr (.inr (.inr (45, L, 0)))), some (.inr (.inr (.inr (1, 0, 1)))), some (.inr (.inr (.inr (12, 0, sm)))), some (.inl (iZ (mk))), some (.inl (iZ ((t : Int)))), some (.inl (xx)), some (.inl (iZ ((al : Int)))), some (.inr (.inr (.inr (20, al, ct)))), some (.inr (.inr (.inr (20, al, lt)))), some (.inl (iZ (cm))), some (.inl (iZ ((k : Int)))), x11, x12, x13, x14, x15, x16, x17, x18], [], h) Q := by
  induction m with
  | zero =>
    intro k x11 x12 x13 x14 x15 x16 x17 x18 hk
    obtain rfl : k = mn := by omega
    obtain ⟨f1, f2, f3, f4, f5⟩ := flo_ok (cs := csS S) (f := iZ (k : Int))
    exact lo_219 (d := d + 21) I W hmn (Nat.le_refl _) em e0 e7 f1 f2 f3 f4 f5 (fun _ => q _ _ _ _ _ _ _) (fun c => by omega)
  | succ m ih =>
    intro k x11 x12 x13 x14 x15 x16 x17 x18 hk
    obtain ⟨f1, f2, f3, f4, f5⟩ := flo_ok (cs := csS S) (f := iZ (k : Int))
    exact lo_219 (d := d + 21) I W hmn (by omega) em e0 e7 f1 f2 f3 f4 f5 (fun c => by omega) (fun _ => ih (k + 1) _ _ _ _ _ _ _ _ (by omega))
theorem l383s_lp {d sm L al t ct lt g ga tl b n : Nat} {mk cm la gl wd st : Int} {xx : Int32} {u : Q5} {S : Sta} {h : PH} {Q : Rs → PH → Prop} (I : CI h S b n u) (W : WN S) (hg : g < (bkS S).2.2.length) (hmk : 0 ≤ mk ∧ mk ≤ 2000) (hwd : 1 ≤ wd ∧ wd ≤ 200) (htl : tl < 4) (g1_ : h.1 ga 1 = iZ wd) (g2_ : h.1 ga 2 = iZ st) (g3_ : h.1 ga 3 = iZ (tl : Int)) (hst : 1 ≤ st ∧ st ≤ 200) (hs : srt (wdS S g)) (hw : ∀ v ∈ wdS S g, 0 ≤ v.1 ∧ v.2.1 - v.1 = wd ∧ v.1 % st = 0 ∧ mk < v.2.1) (hv : tl = 0 → ∀ v ∈ wdS S g, v.2.2.2 = iZ v.2.2.1) (q : ∀ (k : Nat) (ls : Int) (x16 x17 x18 : Option VV), Ev (d + 23) 25 (564, [some (.inr (.inr (.inr (45, L, 0)))), some (.inr (.inr (.inr (1, 0, 1)))), some (.inr (.inr (.inr (12, 0, sm)))), some (.inl (iZ (mk))), some (.inl (iZ ((t : Int)))), some (.inl (xx)), some (.inl (iZ ((al : Int)))), some (.inr (.inr (.inr (20, al, ct)))), some (.inr (.inr (.inr (20, al, lt)))), some (.inl (iZ (cm))), some (.inl (iZ (la))), some (.inl (iZ ((g : Int)))), some (.inr (.inr (.inr (20, 4, ga)))), some (.inl (iZ (gl))), some (.inl (iZ (ls))), some (.inl (iZ ((k : Int)))), x16, x17, x18], [], h) Q) (m : Nat) : ∀ (k : Nat) (ls : Int) (x16 x17 x18 : Option VV), k + m = (wdS S g).length → ((k = 0 ∧ ls = -1) ∨ (0 < k ∧ ls = ((wdS S g).getD (k - 1) w0).1)) → Ev (d + 23) 25 (383, [some (.inr (.inr (.inr (45, L, 0)))), some (.inr (.inr (.inr (1, 0, 1)))), some (.inr (.inr (.inr (12, 0, sm)))), some (.inl (iZ (mk))), some (.inl (iZ ((t : Int)))), some (.inl (xx)), some (.inl (iZ ((al : Int)))), some (.inr (.inr (.inr (20, al, ct)))), some (.inr (.inr (.inr (20, al, lt)))), some (.inl (iZ (cm))), some (.inl (iZ (la))), some (.inl (iZ ((g : Int)))), some (.inr (.inr (.inr (20, 4, ga)))), some (.inl (iZ (gl))), some (.inl (iZ (ls))), some (.inl (iZ ((k : Int)))), x16, x17, x18], [], h) Q := by
  have wbb : ∀ j, j < (wdS S g).length → wB 1000 ((wdS S g).getD j w0) := fun j hj => (W.2.2.2.2.2.2.2.2.1 g).1 j hj
  induction m with
  | zero =>
    intro k ls x16 x17 x18 hk c
    have hls : -1 ≤ ls ∧ ls ≤ 1300 := by
      rcases c with ⟨_, c⟩ | ⟨c0, c⟩
      · omega
      · have := wbb (k - 1) (by omega); unfold wB at this; omega
    exact lw_383s (d := d + 19) I W hg (by omega) hmk hls hwd htl g1_ g2_ g3_ hst (fun c => by omega) (fun c => by omega) (fun _ => q k ls _ _ _) (fun c => by omega)
  | succ m ih =>
    intro k ls x16 x17 x18 hk c
    have hls : -1 ≤ ls ∧ ls ≤ 1300 := by
      rcases c with ⟨_, c⟩ | ⟨c0, c⟩
      · omega
      · have := wbb (k - 1) (by omega); unfold wB at this; omega
    obtain ⟨v1, v2, v3, v4⟩ := hw _ (getD_mem (d := w0) (show k < (wdS S g).length by omega))
    refine lw_383s (d := d + 19) I W hg (by omega) hmk hls hwd htl g1_ g2_ g3_ hst (fun _ => ⟨v2, v3, ?_, v4⟩) (fun _ z => hv z _ (getD_mem (by omega))) (fun c => by omega) (fun _ => ih (k + 1) _ _ _ _ (by omega) (.inr ⟨Nat.succ_pos _, rfl⟩))
    rcases c with ⟨_, c⟩ | ⟨c0, c⟩
    · omega
    · rw [c]; exact pw_get hs (show k - 1 < k by omega) (by omega)
theorem l383g_lp {d sm L al t ct lt g ga tl b n : Nat} {mk cm la gl wd st : Int} {xx : Int32} {u : Q5} {S : Sta} {h : PH} {Q : Rs → PH → Prop} (I : CI h S b n u) (W : WN S) (hg : g < (bkS S).2.2.length) (hmk : 0 ≤ mk ∧ mk ≤ 2000) (hwd : 1 ≤ wd ∧ wd ≤ 200) (htl : tl < 4) (g1_ : h.1 ga 1 = iZ wd) (g2_ : h.1 ga 2 = iZ st) (g3_ : h.1 ga 3 = iZ (tl : Int)) (hst : st = 0) (hs : (wdS S g).Pairwise (fun x y => x.2.1 ≤ y.1)) (hw : ∀ v ∈ wdS S g, 0 ≤ v.1 ∧ wd ≤ v.2.1 - v.1 ∧ mk < v.2.1) (hv : tl = 0 → ∀ v ∈ wdS S g, v.2.2.2 = iZ v.2.2.1) (q : ∀ (k : Nat) (ls : Int) (x16 x17 x18 : Option VV), Ev (d + 23) 25 (564, [some (.inr (.inr (.inr (45, L, 0)))), some (.inr (.inr (.inr (1, 0, 1)))), some (.inr (.inr (.inr (12, 0, sm)))), some (.inl (iZ (mk))), some (.inl (iZ ((t : Int)))), some (.inl (xx)), some (.inl (iZ ((al : Int)))), some (.inr (.inr (.inr (20, al, ct)))), some (.inr (.inr (.inr (20, al, lt)))), some (.inl (iZ (cm))), some (.inl (iZ (la))), some (.inl (iZ ((g : Int)))), some (.inr (.inr (.inr (20, 4, ga)))), some (.inl (iZ (gl))), some (.inl (iZ (ls))), some (.inl (iZ ((k : Int)))), x16, x17, x18], [], h) Q) (m : Nat) : ∀ (k : Nat) (ls : Int) (x16 x17 x18 : Option VV), k + m = (wdS S g).length → ((k = 0 ∧ ls = -1) ∨ (0 < k ∧ ls = ((wdS S g).getD (k - 1) w0).2.1)) → Ev (d + 23) 25 (383, [some (.inr (.inr (.inr (45, L, 0)))), some (.inr (.inr (.inr (1, 0, 1)))), some (.inr (.inr (.inr (12, 0, sm)))), some (.inl (iZ (mk))), some (.inl (iZ ((t : Int)))), some (.inl (xx)), some (.inl (iZ ((al : Int)))), some (.inr (.inr (.inr (20, al, ct)))), some (.inr (.inr (.inr (20, al, lt)))), some (.inl (iZ (cm))), some (.inl (iZ (la))), some (.inl (iZ ((g : Int)))), some (.inr (.inr (.inr (20, 4, ga)))), some (.inl (iZ (gl))), some (.inl (iZ (ls))), some (.inl (iZ ((k : Int)))), x16, x17, x18], [], h) Q := by
  have wbb : ∀ j, j < (wdS S g).length → wB 1000 ((wdS S g).getD j w0) := fun j hj => (W.2.2.2.2.2.2.2.2.1 g).1 j hj
  induction m with
  | zero =>
    intro k ls x16 x17 x18 hk c
    have hls : -1 ≤ ls ∧ ls ≤ 1300 := by
      rcases c with ⟨_, c⟩ | ⟨c0, c⟩
      · omega
      · have := wbb (k - 1) (by omega); unfold wB at this; omega
    exact lw_383g (d := d + 19) I W hg (by omega) hmk hls hwd htl g1_ g2_ g3_ hst (fun c => by omega) (fun c => by omega) (fun _ => q k ls _ _ _) (fun c => by omega)
  | succ m ih =>
    intro k ls x16 x17 x18 hk c
    have hls : -1 ≤ ls ∧ ls ≤ 1300 := by
      rcases c with ⟨_, c⟩ | ⟨c0, c⟩
      · omega
      · have := wbb (k - 1) (by omega); unfold wB at this; omega
    obtain ⟨v1, v2, v3⟩ := hw _ (getD_mem (d := w0) (show k < (wdS S g).length by omega))
    refine lw_383g (d := d + 19) I W hg (by omega) hmk hls hwd htl g1_ g2_ g3_ hst (fun _ => ⟨v2, ?_, v3⟩) (fun _ z => hv z _ (getD_mem (by omega))) (fun c => by omega) (fun _ => ih (k + 1) _ _ _ _ (by omega) (.inr ⟨Nat.succ_pos _, rfl⟩))
    rcases c with ⟨_, c⟩ | ⟨c0, c⟩
    · omega
    · rw [c]; exact pw_get hs (show k - 1 < k by omega) (by omega)
/-- what an act changes of a goose's counts -/
def stD (B : Bk) (S1 : Sta) (M M1 : Ms) (g : Nat) : Prop := ((csS S1).length ≤ (yC M).length ∧ (totY M1 g : Int) = totY M g ∧ (yL M1 g : Int) = yL M g) ∨ ((yC M).length < (csS S1).length ∧ (if bitv ((csS S1).getD ((csS S1).length - 1) cd0).2 (iZ (B.2.2.getD g g0).1) = iZ 1 then (1 : Int) else 0) = 0 ∧ (totY M1 g : Int) = totY M g ∧ (yL M1 g : Int) = yL M g) ∨ ((yC M).length < (csS S1).length ∧ (if bitv ((csS S1).getD ((csS S1).length - 1) cd0).2 (iZ (B.2.2.getD g g0).1) = iZ 1 then (1 : Int) else 0) = 1 ∧ (((totY M g : Int) < totY M1 g ∧ (yL M1 g : Int) = yL M g) ∨ ((totY M1 g : Int) = totY M g ∧ (yL M g : Int) < yL M1 g)) ∧ (totY M1 g : Int) - totY M g ≤ 7 ∧ ((B.2.2.getD g g0).2.2.1 = 0 → (totY M1 g : Int) - totY M g ≤ 1))
theorem st_D {B : Bk} {gv : Nat → Ctx → Int32 → Int32} {tkf : Ctx → Int32} {S1 : Sta} {M M1 : Ms} (ms1 : MSy S1 M1 B gv) (mi : MIy M B) (li : LIy M B) (bg : bkG B) (hal : ∀ x : Int, 0 ≤ alB B x ∧ alB B x ≤ 99) (hgr : yG M ≤ 999) (hmk : 0 ≤ yK M ∧ yK M ≤ 2000) (s : stY B tkf M M1) (g : Nat) (hg : g < B.2.2.length) : stD B S1 M M1 g := by
  have e2 := ms1.2.1
  have len : (csS S1).length = (yC M1).length := by rw [e2]; exact List.length_map _
  rcases s with ⟨p, p1, rfl⟩ | ⟨x, x0, x1, rfl⟩
  · obtain ⟨i1, i2, i3, i4, i5, i6, i7, i8, i9⟩ := nig_f (M := M) hal hgr hmk p
    exact .inl ⟨by rw [len, i3]; exact Nat.le_refl _, by rw [(LI_nigN li p).2 g], by rw [i4]⟩
  · obtain ⟨_, c⟩ := LI_com (x := x) (tk := tkf x) li mi bg x0 x1
    obtain ⟨c1, c2⟩ := c g hg
    have lC : (yC (tlM (cwY B (tkf x) M x))).length = (yC M).length + 1 := by show (yC M ++ [(x, tkf x)]).length = _; rw [List.length_append]; rfl
    have lc : (csM M).length = (yC M).length := List.length_map _
    have last : ((csS S1).getD ((csS S1).length - 1) cd0).2 = tkf x := by
      have e : csM (tlM (cwY B (tkf x) M x)) = csM M ++ [(x.1, tkf x)] := by
        show (yC M ++ [(x, tkf x)]).map _ = _
        rw [List.map_append]; rfl
      rw [len, lC, e2, e, show (yC M).length + 1 - 1 = (csM M).length by omega, getD_app1]
    have nu := nuY_le (mk := yK M) (bg.2 g hg) x0
    have c7 : cyG (B.2.2.getD g g0) ≤ 7 := by
      unfold cyG
      split
      · decide
      · split <;> decide
    have cg : (B.2.2.getD g g0).2.2.1 = 0 → cyG (B.2.2.getD g g0) = 1 := fun z => by unfold cyG; rw [if_pos z]
    unfold stD
    rw [last]
    by_cases z : bitv (tkf x) (iZ (B.2.2.getD g g0).1) = iZ 1
    · rw [if_pos z] at c1
      refine .inr (.inr ⟨by omega, if_pos z, ?_, by omega, fun w => by have := cg w; omega⟩)
      by_cases w : nuY (B.2.2.getD g g0) x.1 (yK M) = 0
      · rw [if_pos ⟨z, w⟩] at c2; exact .inr ⟨by omega, by omega⟩
      · rw [if_neg (fun q => w q.2)] at c2; exact .inl ⟨by omega, by omega⟩
    · rw [if_neg z] at c1
      rw [if_neg (fun q => z q.1)] at c2
      exact .inr (.inl ⟨by omega, if_neg z, by omega, by omega⟩)
/-- a goose of the class's state -/
theorem l322_lp {d sm L al t ct lt ca ka oa ta mn b n N : Nat} {cm : Int} {xx : Int32} {u : Q5} {B : Bk} {gv : Nat → Ctx → Int32 → Int32} {hb h : PH} {S1 : Sta} {M M1 : Ms} {Q : Rs → PH → Prop} (I : CI h S1 b n u) (W : WN S1) (wr : WSr S1 N (wmS S1)) (x : SMh h sm u ca ka oa ta M1) (bh : BH hb h sm B mn al) (ms : MSy S1 M1 B gv) (mi : MIy M1 B) (li : LIy M1 B) (hcm : cm = ((yC M).length : Int)) (hcl : (yC M).length ≤ (yC M1).length) (hD : ∀ g, g < al → stD B S1 M M1 g) (hb0 : ∀ g, totY M g ≤ 10000000 ∧ yL M g ≤ 1000 ∧ totY M1 g ≤ 10000000) (hrow : ∀ g, g < al → h.1 ct g = iZ (totY M g : Int) ∧ h.1 lt g = iZ (yL M g : Int)) (hgt : ∀ j, ((tlS S1).getD j t0).1 < 6) (q : ∀ x12 x13 x14 x15 x16 x17 x18 : Option VV, Ev (d + 23) 25 (700, [some (.inr (.inr (.inr (45, L, 0)))), some (.inr (.inr (.inr (1, 0, 1)))), some (.inr (.inr (.inr (12, 0, sm)))), some (.inl (iZ (wmS S1))), some (.inl (iZ ((t : Int)))), some (.inl (xx)), some (.inl (iZ ((al : Int)))), some (.inr (.inr (.inr (20, al, ct)))), some (.inr (.inr (.inr (20, al, lt)))), some (.inl (iZ (cm))), some (.inl (iZ (sumL (ltS S1) al))), some (.inl (iZ ((al : Int)))), x12, x13, x14, x15, x16, x17, x18], [], h) Q) (m : Nat) : ∀ (g : Nat) (x12 x13 x14 x15 x16 x17 x18 : Option VV), g + m = al → Ev (d + 23) 25 (322, [some (.inr (.inr (.inr (45, L, 0)))), some (.inr (.inr (.inr (1, 0, 1)))), some (.inr (.inr (.inr (12, 0, sm)))), some (.inl (iZ (wmS S1))), some (.inl (iZ ((t : Int)))), some (.inl (xx)), some (.inl (iZ ((al : Int)))), some (.inr (.inr (.inr (20, al, ct)))), some (.inr (.inr (.inr (20, al, lt)))), some (.inl (iZ (cm))), some (.inl (iZ (sumL (ltS S1) g))), some (.inl (iZ ((g : Int)))), x12, x13, x14, x15, x16, x17, x18], [], h) Q := by
  have al6 := bf_al bh
  obtain ⟨e1, e2, e3, e4, e5, e6, e7, e8⟩ := id ms
  have ea : (bkS S1).2.2.length = al := by rw [e1]; exact al6.2.2.1
  have em : (bkS S1).2.1.length = mn := by rw [e1]; exact al6.1
  have len : (csS S1).length = (yC M1).length := by rw [e2]; exact List.length_map _
  have w7 := W.2.1
  have lt1 : ∀ g, g < al → yL M1 g ≤ szF (csS S1) (iZ (B.2.2.getD g g0).1) := fun g hg => by
    have := li.2.2.2 g (by omega)
    rw [e2]; exact this
  induction m with
  | zero =>
    intro g x12 x13 x14 x15 x16 x17 x18 hg
    obtain rfl : g = al := by omega
    refine lo_322 (d := d + 20) (ga := 0) I W (by omega) (Nat.le_refl _) ea (fun c => by omega) (fun c => by omega) ?_ x.1 (bf_8 bh) (fun c => by omega) (fun _ => q _ _ _ _ _ _ _) (fun c => by omega)
    have := szF_le (f := iZ (((bkS S1).2.2.getD g g0).1 : Int)) (csS S1)
    omega
  | succ m ih =>
    intro g x12 x13 x14 x15 x16 x17 x18 hg
    have g_ : g < al := by omega
    obtain ⟨ga, a1, ⟨a2, a3, a4, a5⟩, a6, gb, a7, a8⟩ := bf_go bh g_
    obtain ⟨gb1, gb2, gb3, gb4, gb5⟩ := gb
    have hsz := szF_le (f := iZ ((B.2.2.getD g g0).1 : Int)) (csS S1)
    have lts : ltS S1 g = yL M1 g := by rw [e7]
    have l1 := lt1 g g_
    have rws := (wr.2.2.2.2.2.1 g).1 (by rw [ea]; exact g_)
    rw [e1] at rws
    have wg := wr.2.2.2.2.1
    have tot := tot_eq ms g
    obtain ⟨hr1, hr2⟩ := hrow g g_
    have hbg := hb0 g
    have fin : ∀ (k ls : Int) (x16 x17 x18 : Option VV), Ev (d + 23) 25 (564, [some (.inr (.inr (.inr (45, L, 0)))), some (.inr (.inr (.inr (1, 0, 1)))), some (.inr (.inr (.inr (12, 0, sm)))), some (.inl (iZ (wmS S1))), some (.inl (iZ ((t : Int)))), some (.inl (xx)), some (.inl (iZ ((al : Int)))), some (.inr (.inr (.inr (20, al, ct)))), some (.inr (.inr (.inr (20, al, lt)))), some (.inl (iZ (cm))), some (.inl (iZ (sumL (ltS S1) g + (ltS S1 g : Int)))), some (.inl (iZ ((g : Int)))), some (.inr (.inr (.inr (20, 4, ga)))), some (.inl (iZ (((B.2.2.getD g g0).1 : Int)))), some (.inl (iZ (ls))), some (.inl (iZ (k))), x16, x17, x18], [], h) Q := fun k ls x16 x17 x18 => by
      refine lw_564 (d := d + 18) (cq := (totY M g : Int)) (lq := (yL M g : Int)) (st := (B.2.2.getD g g0).2.2.1) (bt := if bitv ((csS S1).getD ((csS S1).length - 1) cd0).2 (iZ (B.2.2.getD g g0).1) = iZ 1 then (1 : Int) else 0) I W (by omega) ea (by omega) hgt ⟨gb3, by omega⟩ ⟨by omega, by omega⟩ ⟨by omega, by omega⟩ ⟨by omega, by omega⟩ ⟨by omega, by omega⟩ ⟨by omega, by omega⟩ (by split <;> omega) hr1 hr2 a4 (fun c => ?_) ?_ (fun y13 y14 y15 y16 y17 y18 => ?_)
      · refine Rv.of fun Q1 q1 => ?_
        refine cq_isIn (d := d + 21) I W (p := ((B.2.2.getD g g0).1 : Int)) (k := (csS S1).length - 1) ⟨by omega, by omega⟩ (by omega) (by omega) (fun bt => ?_) (fun bt => ?_)
        · rw [if_pos (bitv_1 bt)] at q1; exact q1
        · rw [if_neg (show ¬ bitv ((csS S1).getD ((csS S1).length - 1) cd0).2 (iZ ((B.2.2.getD g g0).1 : Int)) = iZ 1 from bt)] at q1; exact q1
      · rw [tot, lts]
        have dd := hD g g_
        unfold stD at dd
        rcases dd with ⟨d1, d2, d3⟩ | ⟨d1, d2, d3, d4⟩ | ⟨d1, d2, d3, d4, d5⟩
        · exact .inl ⟨by omega, d2, d3⟩
        · exact .inr (.inl ⟨by omega, d2, d3, d4⟩)
        · exact .inr (.inr ⟨by omega, d2, d3, d4, d5⟩)
      · have i := ih (g + 1) (some (.inr (.inr (.inr (20, 4, ga))))) y13 y14 y15 y16 y17 y18 (by omega)
        have es : sumL (ltS S1) (g + 1) = sumL (ltS S1) g + (ltS S1 g : Int) := rfl
        rw [es] at i
        exact i
    refine lo_322 (d := d + 20) (ga := ga) I W (by omega) (by omega) ea (fun _ => by rw [e1]; omega) (fun _ => by rw [e1]; omega) (by rw [e1]; omega) x.1 (bf_8 bh) (fun _ => a1) (fun c => by omega) (fun _ => ?_)
    rw [e1]
    have hv : (B.2.2.getD g g0).2.2.2.1 = 0 → ∀ v ∈ wdS S1 g, v.2.2.2 = iZ v.2.2.1 := fun z v hv => by
      rw [e6] at hv
      obtain ⟨w, w1, w2, w3⟩ := rw_mem hv
      rw [w3]
      exact wo_val (by rw [w2]; exact z) (mi.2.1 w w1).1.2.2.2.2.1
    by_cases c : (B.2.2.getD g g0).2.2.1 = 0
    · refine l383g_lp (d := d) (ga := ga) (wd := (B.2.2.getD g g0).2.1) (st := (B.2.2.getD g g0).2.2.1) (tl := (B.2.2.getD g g0).2.2.2.1) I W (by omega) ⟨by omega, by omega⟩ ⟨gb1, gb2⟩ a7 a3 a4 a5 c (by rw [e6]; exact rwL_dj _ mi.1 (li.2.2.1 g c)) (fun v hv2 => ?_) hv (fun k ls x16 x17 x18 => fin _ _ _ _ _) (wdS S1 g).length 0 (-1) _ _ _ (by omega) (.inl ⟨rfl, rfl⟩)
      have r1 := (rws.1 c).2.1 v hv2
      have hv3 := hv2
      rw [e6] at hv3
      obtain ⟨w, w1, w2, w3⟩ := rw_mem hv3
      have wd1 := (li.1 w w1).1 (by rw [w2]; exact c)
      rw [w2] at wd1
      have v1 : v.1 = w.2.1 := by rw [w3]; rfl
      have v2 : v.2.1 = w.2.2.1 := by rw [w3]; rfl
      exact ⟨r1.1, by omega, r1.2.2.2.2.1⟩
    · refine l383s_lp (d := d) (ga := ga) (wd := (B.2.2.getD g g0).2.1) (st := (B.2.2.getD g g0).2.2.1) (tl := (B.2.2.getD g g0).2.2.2.1) I W (by omega) ⟨by omega, by omega⟩ ⟨gb1, gb2⟩ a7 a3 a4 a5 ⟨by omega, by omega⟩ (rws.2 c).1 (fun v hv2 => ?_) hv (fun k ls x16 x17 x18 => fin _ _ _ _ _) (wdS S1 g).length 0 (-1) _ _ _ (by omega) (.inl ⟨rfl, rfl⟩)
      obtain ⟨r1, r2, r3, r4, r5, r6⟩ := (rws.2 c).2 v hv2
      exact ⟨r1, by omega, r3, r5⟩
