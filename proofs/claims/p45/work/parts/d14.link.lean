/-! The stream by hand is the class's state. -/
theorem wo_cg {tl : Nat → Nat} {f f2 : Nat → Nat → Int32} {w : Wn} (h : ∀ n ∈ w.2.2.2, f w.1 n = f2 w.1 n) : wo tl f w = wo tl f2 w := by
  unfold wo
  rw [vlF_cg h]
theorem rwL_cg {tl : Nat → Nat} {f f2 : Nat → Nat → Int32} {g : Nat} : ∀ L : List Wn, (∀ w ∈ L, ∀ n ∈ w.2.2.2, f w.1 n = f2 w.1 n) → rwL tl f L g = rwL tl f2 L g := by
  intro L
  induction L with
  | nil => intro _; rfl
  | cons x L ih =>
    intro h
    have i := ih (fun w hw => h w (List.mem_cons_of_mem _ hw))
    by_cases c : x.1 = g
    · rw [rwL_y c, rwL_y c, i, wo_cg (h x List.mem_cons_self)]
    · rw [rwL_n c, rwL_n c, i]
theorem fY_app {B : Bk} {gv : Nat → Ctx → Int32 → Int32} {C : List (Ctx × Int32)} {c : Ctx × Int32} {g n : Nat} (h : n < C.length) : fY B gv (C ++ [c]) g n = fY B gv C g n := by
  unfold fY
  rw [getD_app0 _ _ _ _ h]
/-- S is what the class has of M -/
def csM (M : Ms) : List (Int × Int32) := (yC M).map (fun c => (c.1.1, c.2))
def MSy (S : Sta) (M : Ms) (B : Bk) (gv : Nat → Ctx → Int32 → Int32) : Prop := bkS S = B ∧ csS S = csM M ∧ ntS S = yN M ∧ grS S = yG M ∧ wmS S = yK M ∧ wdS S = rwL (tlY B) (fY B gv (yC M)) (yO M) ∧ ltS S = yL M ∧ tlS S = (yT M).map (tO (tlY B) (fY B gv (yC M)))
/-- M's windows -/
def MIy (M : Ms) (B : Bk) : Prop := sL (yO M) ∧ (∀ w ∈ yO M, wnB (yC M).length w ∧ w.1 < B.2.2.length) ∧ (∀ w ∈ yT M, wnB (yC M).length w ∧ w.1 < B.2.2.length) ∧ (yO M).length + (yT M).length ≤ pw (cyB B B.2.2.length 0) (yC M).length ∧ ∀ g, B.2.2.length ≤ g → yL M g = 0
theorem goY_p {P : Nat → Prop} {G : Gs} {g n : Nat} {hr mk : Int} {L : List Wn} (b : goB G) (h : ∀ x ∈ L, P x.1) (hg : P g) : ∀ x ∈ goY G g n hr mk L, P x.1 := by
  unfold goY
  by_cases c : G.2.2.1 = 0
  · rw [if_pos c]
    by_cases d : mk < hr + G.2.1
    · rw [if_pos d]
      intro x hx
      rcases (putL_mem _).mp hx with e | e
      · have e1 : (mgF g hr G.2.1 L (g, hr, hr + G.2.1, [n])).1 = g := (mgF_1 L _).1
        rw [e, e1]; exact hg
      · exact h x ((mgK_mem L).mp e).1
    · rw [if_neg d]; exact h
  · rw [if_neg c]
    exact evY_P (P := fun x => P x.1) (by have := b.2.2.1; omega) (fun _ _ _ _ _ => hg) (fun x hx _ => hx) 1001 L 0 (Int.le_refl _) h
theorem gsY_p {P : Nat → Prop} {B : Bk} {N : Nat} {hr mk : Int} {tk : Int32} (b : bkG B) (hp : ∀ g, g < B.2.2.length → P g) : ∀ (m g : Nat) (L : List Wn) (lt : Nat → Nat), g + m = B.2.2.length → (∀ x ∈ L, P x.1) → ∀ x ∈ (gsY B tk N hr mk m g L lt).1, P x.1 := by
  intro m
  induction m with
  | zero => intro g L lt _ h; exact h
  | succ m ih =>
    intro g L lt hm h
    by_cases c : bitv tk (iZ (B.2.2.getD g g0).1) = iZ 1
    · have e : gsY B tk N hr mk (m + 1) g L lt = gsY B tk N hr mk m (g + 1) (goY (B.2.2.getD g g0) g N hr mk L) (fun g2 => if g2 = g then lt g + (if nuY (B.2.2.getD g g0) hr mk = 0 then 1 else 0) else lt g2) := if_pos c
      rw [e]
      exact ih (g + 1) _ _ (by omega) (goY_p (b.2 g (by omega)) h (hp g (by omega)))
    · have e : gsY B tk N hr mk (m + 1) g L lt = gsY B tk N hr mk m (g + 1) L lt := if_neg c
      rw [e]
      exact ih (g + 1) L lt (by omega) h
/-- the values of the comma x for the geese -/
def vsY (B : Bk) (gv : Nat → Ctx → Int32 → Int32) (C : List (Ctx × Int32)) (x : Ctx) (tk : Int32) (g : Nat) : Int32 := fY B gv (C ++ [(x, tk)]) g C.length
theorem MS_com {S : Sta} {M : Ms} {B : Bk} {gv : Nat → Ctx → Int32 → Int32} {x : Ctx} {tk : Int32} (ms : MSy S M B gv) (mi : MIy M B) (bg : bkG B) (h0 : 0 ≤ x.1) (h1 : x.1 ≤ 999) : MSy (comS S x tk (vsY B gv (yC M) x tk)) (tlM (cwY B tk M x)) B gv ∧ MIy (tlM (cwY B tk M x)) B ∧ (∀ w ∈ (cwY B tk M x).2.1, wnB ((yC M).length + 1) w) ∧ (cwY B tk M x).2.1.length ≤ (yO M).length + cyB B B.2.2.length 0 := by
  obtain ⟨e1, e2, e3, e4, e5, e6, e7, e8⟩ := ms
  obtain ⟨m1, m2, m3, m4, m5⟩ := mi
  have fc : ∀ w : Wn, wnB (yC M).length w → ∀ n ∈ w.2.2.2, fY B gv (yC M ++ [(x, tk)]) w.1 n = fY B gv (yC M) w.1 n := fun w hw n hn => fY_app (hw.2.2.2.2.2 n hn)
  have cg : ∀ g, rwL (tlY B) (fY B gv (yC M ++ [(x, tk)])) (yO M) g = rwL (tlY B) (fY B gv (yC M)) (yO M) g := fun g => rwL_cg _ (fun w hw => fc w (m2 w hw).1)
  obtain ⟨g1, g2, g3, g4⟩ := gsY_ok (tl := tlY B) (f := fY B gv (yC M ++ [(x, tk)])) (N := (yC M).length) (hr := x.1) (mk := yK M) (tk := tk) (vs := vsY B gv (yC M) x tk) bg (fun g hg => rfl) (fun g hg => rfl) h0 h1 B.2.2.length 0 (yO M) (yL M) (by omega) m1 (fun w hw => wnB_up (m2 w hw).1 (Nat.le_succ _))
  have gp := gsY_p (P := fun g => g < B.2.2.length) (N := (yC M).length) (hr := x.1) (mk := yK M) (tk := tk) bg (fun g hg => hg) B.2.2.length 0 (yO M) (yL M) (by omega) (fun w hw => (m2 w hw).2)
  have gg : ∀ g, gst B x.1 (yK M) tk (vsY B gv (yC M) x tk) g (wdS S g) (ltS S g) = (rwL (tlY B) (fY B gv (yC M ++ [(x, tk)])) (gsY B tk (yC M).length x.1 (yK M) B.2.2.length 0 (yO M) (yL M)).1 g, (gsY B tk (yC M).length x.1 (yK M) B.2.2.length 0 (yO M) (yL M)).2 g) := fun g => by
    rw [e6, e7, ← cg]; exact (g4 g).1 (Nat.zero_le _)
  have gf : (fun g => (gst (bkS S) x.1 (wmS S) tk (vsY B gv (yC M) x tk) g (wdS S g) (ltS S g)).1) = rwL (tlY B) (fY B gv (yC M ++ [(x, tk)])) (gsY B tk (yC M).length x.1 (yK M) B.2.2.length 0 (yO M) (yL M)).1 := funext fun g => by rw [e1, e5, gg g]
  have emk : max (wmS S) (max (grS S) x.1 - alB (bkS S) (ntS S)) = mkY B (yN M) (yG M) (yK M) x.1 := by rw [e1, e3, e4, e5]; rfl
  refine ⟨⟨e1, ?_, e3, ?_, emk, ?_, ?_, ?_⟩, ⟨sL_flt g1, fun w hw => ?_, fun w hw => ?_, ?_, fun g hg => ?_⟩, g2, g3⟩
  · show csS S ++ [(x.1, tk)] = (yC M ++ [(x, tk)]).map _
    rw [e2, List.map_append]; rfl
  · show max (grS S) x.1 = max (yG M) x.1
    rw [e4]
  · funext g
    show keepE ((fun g => (gst (bkS S) x.1 (wmS S) tk (vsY B gv (yC M) x tk) g (wdS S g) (ltS S g)).1) g) (max (wmS S) (max (grS S) x.1 - alB (bkS S) (ntS S))) = rwL (tlY B) (fY B gv (yC M ++ [(x, tk)])) (kpL (gsY B tk (yC M).length x.1 (yK M) B.2.2.length 0 (yO M) (yL M)).1 (mkY B (yN M) (yG M) (yK M) x.1)) g
    rw [gf, emk, rwL_kp]
  · funext g
    show (gst (bkS S) x.1 (wmS S) tk (vsY B gv (yC M) x tk) g (wdS S g) (ltS S g)).2 = _
    rw [e1, e5, gg g]; rfl
  · show tlS S ++ gnL (fun g => (gst (bkS S) x.1 (wmS S) tk (vsY B gv (yC M) x tk) g (wdS S g) (ltS S g)).1) (max (wmS S) (max (grS S) x.1 - alB (bkS S) (ntS S))) 6 0 = (yT M ++ gnW (gsY B tk (yC M).length x.1 (yK M) B.2.2.length 0 (yO M) (yL M)).1 (mkY B (yN M) (yG M) (yK M) x.1)).map (tO (tlY B) (fY B gv (yC M ++ [(x, tk)])))
    rw [gf, emk, List.map_append, gnL_L 6 0 _ g1 (fun w hw => ⟨Nat.zero_le _, by have := (g2 w hw).1; omega⟩), e8]
    congr 1
    refine List.map_congr_left (fun w hw => ?_)
    show (w.1, wo _ _ w) = (w.1, wo _ _ w)
    rw [wo_cg (fc w (m3 w hw).1)]
  · have lC : (yC (tlM (cwY B tk M x))).length = (yC M).length + 1 := by show (yC M ++ [(x, tk)]).length = _; rw [List.length_append]; rfl
    rw [lC]
    have hm := (List.mem_filter.mp hw).1
    exact ⟨g2 w hm, gp w hm⟩
  · have lC : (yC (tlM (cwY B tk M x))).length = (yC M).length + 1 := by show (yC M ++ [(x, tk)]).length = _; rw [List.length_append]; rfl
    rw [lC]
    rcases List.mem_append.mp hw with e | e
    · exact ⟨wnB_up (m3 w e).1 (Nat.le_succ _), (m3 w e).2⟩
    · have hm := (List.mem_filter.mp e).1
      exact ⟨g2 w hm, gp w hm⟩
  · have lC : (yC (tlM (cwY B tk M x))).length = (yC M).length + 1 := by show (yC M ++ [(x, tk)]).length = _; rw [List.length_append]; rfl
    rw [lC]
    have kg := kp_gn (mkY B (yN M) (yG M) (yK M) x.1) (gsY B tk (yC M).length x.1 (yK M) B.2.2.length 0 (yO M) (yL M)).1
    show (kpL (gsY B tk (yC M).length x.1 (yK M) B.2.2.length 0 (yO M) (yL M)).1 (mkY B (yN M) (yG M) (yK M) x.1)).length + (yT M ++ gnW (gsY B tk (yC M).length x.1 (yK M) B.2.2.length 0 (yO M) (yL M)).1 (mkY B (yN M) (yG M) (yK M) x.1)).length ≤ pw (cyB B B.2.2.length 0) (yC M).length + cyB B B.2.2.length 0
    rw [List.length_append]
    omega
  · have := congrArg Prod.snd (gg g)
    rw [gst_n (fun z => by have := z.1; omega)] at this
    have this : ltS S g = (gsY B tk (yC M).length x.1 (yK M) B.2.2.length 0 (yO M) (yL M)).2 g := this
    show (gsY B tk (yC M).length x.1 (yK M) B.2.2.length 0 (yO M) (yL M)).2 g = 0
    rw [← this, e7]
    exact m5 g hg
theorem MS_nig {S : Sta} {M : Ms} {B : Bk} {gv : Nat → Ctx → Int32 → Int32} (ms : MSy S M B gv) (mi : MIy M B) : MSy (nigS S) (nigY B M) B gv ∧ MIy (nigY B M) B := by
  obtain ⟨e1, e2, e3, e4, e5, e6, e7, e8⟩ := ms
  obtain ⟨m1, m2, m3, m4, m5⟩ := mi
  have emk : max (wmS S) (grS S - alB (bkS S) ((ntS S : Int) + 1)) = max (yK M) (yG M - alB B ((yN M : Int) + 1)) := by rw [e1, e3, e4, e5]
  refine ⟨⟨e1, e2, ?_, e4, emk, ?_, e7, ?_⟩, ⟨sL_flt m1, fun w hw => m2 w (List.mem_filter.mp hw).1, fun w hw => ?_, ?_, m5⟩⟩
  · show ntS S + 1 = yN M + 1
    rw [e3]
  · funext g
    show keepE (wdS S g) (max (wmS S) (grS S - alB (bkS S) ((ntS S : Int) + 1))) = rwL (tlY B) (fY B gv (yC M)) (kpL (yO M) (max (yK M) (yG M - alB B ((yN M : Int) + 1)))) g
    rw [emk, rwL_kp, e6]
  · show tlS S ++ gnL (wdS S) (max (wmS S) (grS S - alB (bkS S) ((ntS S : Int) + 1))) 6 0 = (yT M ++ gnW (yO M) (max (yK M) (yG M - alB B ((yN M : Int) + 1)))).map (tO (tlY B) (fY B gv (yC M)))
    rw [emk, List.map_append, gnL_L 6 0 _ m1 (fun w hw => ⟨Nat.zero_le _, by have := (m2 w hw).1.1; omega⟩), e8, e6]
  · rcases List.mem_append.mp hw with e | e
    · exact m3 w e
    · exact m2 w (List.mem_filter.mp e).1
  · have kg := kp_gn (max (yK M) (yG M - alB B ((yN M : Int) + 1))) (yO M)
    show (kpL (yO M) (max (yK M) (yG M - alB B ((yN M : Int) + 1)))).length + (yT M ++ gnW (yO M) (max (yK M) (yG M - alB B ((yN M : Int) + 1)))).length ≤ _
    rw [List.length_append]
    have m4 : (yO M).length + (yT M).length ≤ pw (cyB B B.2.2.length 0) (yC M).length := m4
    show _ ≤ pw (cyB B B.2.2.length 0) (yC M).length
    omega
theorem MS_nigN {S : Sta} {M : Ms} {B : Bk} {gv : Nat → Ctx → Int32 → Int32} (ms : MSy S M B gv) (mi : MIy M B) : ∀ k, MSy (nigN S k) (nigM B M k) B gv ∧ MIy (nigM B M k) B := by
  intro k
  induction k with
  | zero => exact ⟨ms, mi⟩
  | succ k ih => exact MS_nig ih.1 ih.2
