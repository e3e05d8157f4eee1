/-! A comma by hand in all geese; the class's step. -/
/-- a window's numbers -/
def wnB (N : Nat) (w : Wn) : Prop := w.1 < 6 ∧ (0 ≤ w.2.1 ∧ w.2.1 ≤ 999) ∧ w.2.1 < w.2.2.1 ∧ w.2.2.1 ≤ 1199 ∧ w.2.2.2 ≠ [] ∧ ∀ n ∈ w.2.2.2, n < N
theorem wnB_up {N M : Nat} {w : Wn} (h : wnB N w) (l : N ≤ M) : wnB M w := ⟨h.1, h.2.1, h.2.2.1, h.2.2.2.1, h.2.2.2.2.1, fun n hn => Nat.lt_of_lt_of_le (h.2.2.2.2.2 n hn) l⟩
def goY (G : Gs) (g n : Nat) (hr mk : Int) (L : List Wn) : List Wn := if G.2.2.1 = 0 then (if mk < hr + G.2.1 then putL (mgK g hr G.2.1 L) (mgF g hr G.2.1 L (g, hr, hr + G.2.1, [n])) else L) else evY G.2.1 G.2.2.1 hr mk g n 1001 L 0
def nuY (G : Gs) (hr mk : Int) : Nat := if G.2.2.1 = 0 then (if mk < hr + G.2.1 then 1 else 0) else nvY G.2.1 G.2.2.1 hr mk 1001 0
/-- how many windows one comma can be in, at most -/
def cyG (G : Gs) : Nat := if G.2.2.1 = 0 then 1 else if G.2.2.1 = 1 then 6 else 7
/-- a goose's numbers -/
def goB (G : Gs) : Prop := 1 ≤ G.2.1 ∧ G.2.1 ≤ 200 ∧ 0 ≤ G.2.2.1 ∧ G.2.2.1 ≤ G.2.1 ∧ (G.2.2.1 ≠ 0 → G.2.1 < 7 * G.2.2.1)
theorem nuY_le {G : Gs} {hr mk : Int} (b : goB G) (h0 : 0 ≤ hr) : nuY G hr mk ≤ cyG G := by
  obtain ⟨b1, b2, b3, b4, b5⟩ := b
  unfold nuY cyG
  by_cases c : G.2.2.1 = 0
  · rw [if_pos c, if_pos c]; split <;> omega
  · rw [if_neg c, if_neg c]
    obtain ⟨n7, n6⟩ := nvY_7 (mk := mk) (hr := hr) (m := 1001) (show 1 ≤ G.2.2.1 by omega) b1 h0 (b5 c)
    by_cases e : G.2.2.1 = 1
    · rw [if_pos e]; exact n6 e
    · rw [if_neg e]; exact n7
theorem nuY_late {G : Gs} {hr mk : Int} (b : goB G) (h0 : 0 ≤ hr) (h1 : hr ≤ 999) : nuY G hr mk = 0 ↔ hr - hr % (if G.2.2.1 = 0 then 1 else G.2.2.1) + G.2.1 ≤ mk := by
  obtain ⟨b1, b2, b3, b4, b5⟩ := b
  unfold nuY
  by_cases c : G.2.2.1 = 0
  · rw [if_pos c, if_pos c, Int.emod_one]
    by_cases d : mk < hr + G.2.1
    · rw [if_pos d]; constructor
      · intro h; omega
      · intro h; omega
    · rw [if_neg d]; constructor
      · intro h; omega
      · intro h; rfl
  · rw [if_neg c, if_neg c]
    exact nvY_late (m := 1000) (by omega) b4 h0 (by omega)
theorem goY_len {G : Gs} {g n : Nat} {hr mk : Int} {L : List Wn} : (goY G g n hr mk L).length ≤ L.length + nuY G hr mk := by
  unfold goY nuY
  by_cases c : G.2.2.1 = 0
  · rw [if_pos c, if_pos c]
    by_cases d : mk < hr + G.2.1
    · rw [if_pos d, if_pos d, putL_len]
      have := (mgK_sub (g := g) (hr := hr) (wd := G.2.1) L).length_le
      omega
    · rw [if_neg d, if_neg d]; exact Nat.le_refl _
  · rw [if_neg c, if_neg c]
    exact (evY_len 1001 L 0).1
theorem goY_sL {G : Gs} {g n : Nat} {hr mk : Int} {L : List Wn} (s : sL L) (b : goB G) (he : ∀ x ∈ L, x.2.1 < x.2.2.1) : sL (goY G g n hr mk L) := by
  unfold goY
  by_cases c : G.2.2.1 = 0
  · rw [if_pos c]
    by_cases d : mk < hr + G.2.1
    · rw [if_pos d]; exact putL_s _ (mgK_s s) (gap_s s b.1 he)
    · rw [if_neg d]; exact s
  · rw [if_neg c]; exact evY_sL _ _ _ s
theorem mgF_b {g : Nat} {hr wd : Int} : ∀ (L : List Wn) (a : Wn), (∀ x ∈ L, 0 ≤ x.2.1 ∧ x.2.2.1 ≤ 1199) → (0 ≤ a.2.1 ∧ a.2.1 ≤ 999 ∧ a.2.1 < a.2.2.1 ∧ a.2.2.1 ≤ 1199) → 0 ≤ (mgF g hr wd L a).2.1 ∧ (mgF g hr wd L a).2.1 ≤ 999 ∧ (mgF g hr wd L a).2.1 < (mgF g hr wd L a).2.2.1 ∧ (mgF g hr wd L a).2.2.1 ≤ 1199 := by
  intro L
  induction L with
  | nil => intro a _ h; exact h
  | cons x L ih =>
    intro a h h2
    have hx := h x List.mem_cons_self
    have h3 : ∀ y ∈ L, 0 ≤ y.2.1 ∧ y.2.2.1 ≤ 1199 := fun y hy => h y (List.mem_cons_of_mem _ hy)
    by_cases c : x.1 = g ∧ x.2.1 < hr + wd ∧ hr < x.2.2.1
    · rw [mgF_y c]
      refine ih _ h3 ?_
      show 0 ≤ min a.2.1 x.2.1 ∧ min a.2.1 x.2.1 ≤ 999 ∧ min a.2.1 x.2.1 < max a.2.2.1 x.2.2.1 ∧ max a.2.2.1 x.2.2.1 ≤ 1199
      omega
    · rw [mgF_n c]; exact ih a h3 h2
theorem goY_B {G : Gs} {g N : Nat} {hr mk : Int} {L : List Wn} (b : goB G) (hg : g < 6) (h0 : 0 ≤ hr) (h1 : hr ≤ 999) (h : ∀ x ∈ L, wnB N x) : ∀ x ∈ goY G g N hr mk L, wnB (N + 1) x := by
  obtain ⟨b1, b2, b3, b4, b5⟩ := b
  have hu : ∀ x ∈ L, wnB (N + 1) x := fun x hx => wnB_up (h x hx) (Nat.le_succ _)
  unfold goY
  by_cases c : G.2.2.1 = 0
  · rw [if_pos c]
    by_cases d : mk < hr + G.2.1
    · rw [if_pos d]
      intro x hx
      rcases (putL_mem _).mp hx with e | e
      · rw [e]
        obtain ⟨f1, f2, f3, f4⟩ := mgF_b (g := g) (hr := hr) (wd := G.2.1) L (g, hr, hr + G.2.1, [N]) (fun y hy => ⟨(h y hy).2.1.1, (h y hy).2.2.2.1⟩) ⟨h0, h1, by show hr < hr + G.2.1; omega, by show hr + G.2.1 ≤ 1199; omega⟩
        obtain ⟨n1, n2⟩ := mgF_ns (g := g) (hr := hr) (wd := G.2.1) (N := N + 1) L (g, hr, hr + G.2.1, [N]) (List.cons_ne_nil _ _) (fun n hn => by
          have hn : n ∈ [N] := hn
          rw [List.mem_singleton] at hn; omega) (fun y hy n hn => Nat.lt_succ_of_lt ((h y hy).2.2.2.2.2 n hn))
        have e1 : (mgF g hr G.2.1 L (g, hr, hr + G.2.1, [N])).1 = g := (mgF_1 L _).1
        exact ⟨by rw [e1]; exact hg, ⟨f1, f2⟩, f3, f4, n1, n2⟩
      · exact hu x ((mgK_mem L).mp e).1
    · rw [if_neg d]; exact hu
  · rw [if_neg c]
    refine evY_P (by omega) (fun s s0 s1 s2 s3 => ⟨hg, ⟨s0, by show s ≤ 999; omega⟩, by show s < s + G.2.1; omega, by show s + G.2.1 ≤ 1199; omega, List.cons_ne_nil _ _, fun n hn => by
      have hn : n ∈ [N] := hn
      rw [List.mem_singleton] at hn; omega⟩) (fun x hx _ => ⟨hx.1, hx.2.1, hx.2.2.1, hx.2.2.2.1, fun z => List.cons_ne_nil _ _ (List.append_eq_nil_iff.mp z).2, fun n hn => ?_⟩) 1001 L 0 (Int.le_refl _) hu
    rcases List.mem_append.mp hn with e | e
    · exact hx.2.2.2.2.2 n e
    · rw [List.mem_singleton] at e; omega
/-- the goose's row is the class's; the other rows are as they were -/
theorem rwL_goY {tl : Nat → Nat} {f : Nat → Nat → Int32} {B : Bk} {g n l : Nat} {hr mk : Int} {tk : Int32} {vs : Nat → Int32} {L : List Wn} (b : goB (B.2.2.getD g g0)) (hg : g < B.2.2.length) (ht : tl g = (B.2.2.getD g g0).2.2.2.1) (hf : f g n = vs g) (hb : bitv tk (iZ (B.2.2.getD g g0).1) = iZ 1) (h0 : 0 ≤ hr) (h1 : hr ≤ 999) (s : sL L) (ne : ∀ x ∈ L, x.2.2.2 ≠ []) : gst B hr mk tk vs g (rwL tl f L g) l = (rwL tl f (goY (B.2.2.getD g g0) g n hr mk L) g, l + (if nuY (B.2.2.getD g g0) hr mk = 0 then 1 else 0)) := by
  have nl := nuY_late (mk := mk) b h0 h1
  obtain ⟨b1, b2, b3, b4, b5⟩ := b
  by_cases c : (B.2.2.getD g g0).2.2.1 = 0
  · by_cases d : mk < hr + (B.2.2.getD g g0).2.1
    · have nz : ¬ nuY (B.2.2.getD g g0) hr mk = 0 := by unfold nuY; rw [if_pos c, if_pos d]; exact Nat.one_ne_zero
      rw [gst_g ⟨hg, hb⟩ (fun z => nz (nl.mpr z)) c, if_neg nz, Nat.add_zero]
      unfold goY
      rw [if_pos c, if_pos d, rwL_gap s ne, ht, hf]
    · have nz : nuY (B.2.2.getD g g0) hr mk = 0 := by unfold nuY; rw [if_pos c, if_neg d]
      rw [gst_l ⟨hg, hb⟩ (nl.mp nz), if_pos nz]
      unfold goY
      rw [if_pos c, if_neg d]
  · by_cases z : nuY (B.2.2.getD g g0) hr mk = 0
    · rw [gst_l ⟨hg, hb⟩ (nl.mp z), if_pos z]
      have e : goY (B.2.2.getD g g0) g n hr mk L = L := by
        have hv : nvY (B.2.2.getD g g0).2.1 (B.2.2.getD g g0).2.2.1 hr mk 1001 0 = 0 := by unfold nuY at z; rw [if_neg c] at z; exact z
        unfold goY
        rw [if_neg c]
        have : ∀ (m : Nat) (s : Int), nvY (B.2.2.getD g g0).2.1 (B.2.2.getD g g0).2.2.1 hr mk m s = 0 → evY (B.2.2.getD g g0).2.1 (B.2.2.getD g g0).2.2.1 hr mk g n m L s = L := by
          intro m
          induction m with
          | zero => intro s _; rfl
          | succ m ih =>
            intro s hs
            by_cases k : hr < s
            · exact evY_e k
            · rw [nvY_s k] at hs
              by_cases q : hr < s + (B.2.2.getD g g0).2.1 ∧ mk < s + (B.2.2.getD g g0).2.1
              · rw [if_pos q] at hs; omega
              · rw [evY_s k, if_neg q]; exact ih _ (by omega)
        exact this 1001 0 hv
      rw [e]
    · rw [gst_e ⟨hg, hb⟩ (fun y => z (nl.mpr y)) c, if_neg z, Nat.add_zero]
      unfold goY
      rw [if_neg c, rwL_every (m := 1000) (by omega) (by have := b5 c; omega) h0 (by omega) s ne, ht, hf]
theorem rwL_goY_o {tl : Nat → Nat} {f : Nat → Nat → Int32} {G : Gs} {g g2 n : Nat} {hr mk : Int} {L : List Wn} (hg : ¬ g = g2) : rwL tl f (goY G g n hr mk L) g2 = rwL tl f L g2 := by
  unfold goY
  by_cases c : G.2.2.1 = 0
  · rw [if_pos c]
    by_cases d : mk < hr + G.2.1
    · have e1 : (mgF g hr G.2.1 L (g, hr, hr + G.2.1, [n])).1 = g := (mgF_1 L _).1
      rw [if_pos d, rwL_put_o (by rw [e1]; exact hg), rwL_mgK_o hg]
    · rw [if_neg d]
  · rw [if_neg c]; exact rwL_evY_o hg _ _ _
/-- all geese from g on, m of them -/
def gsY (B : Bk) (tk : Int32) (n : Nat) (hr mk : Int) : Nat → Nat → List Wn → (Nat → Nat) → List Wn × (Nat → Nat)
  | 0, _, L, lt => (L, lt)
  | m + 1, g, L, lt => if bitv tk (iZ (B.2.2.getD g g0).1) = iZ 1 then gsY B tk n hr mk m (g + 1) (goY (B.2.2.getD g g0) g n hr mk L) (fun g2 => if g2 = g then lt g + (if nuY (B.2.2.getD g g0) hr mk = 0 then 1 else 0) else lt g2) else gsY B tk n hr mk m (g + 1) L lt
/-- how many windows a comma can be in, over all geese -/
def cyB (B : Bk) : Nat → Nat → Nat
  | 0, _ => 0
  | m + 1, g => cyG (B.2.2.getD g g0) + cyB B m (g + 1)
def bkG (B : Bk) : Prop := B.2.2.length ≤ 6 ∧ ∀ g, g < B.2.2.length → goB (B.2.2.getD g g0)
theorem gsY_ok {tl : Nat → Nat} {f : Nat → Nat → Int32} {B : Bk} {N : Nat} {hr mk : Int} {tk : Int32} {vs : Nat → Int32} (b : bkG B) (ht : ∀ g, g < B.2.2.length → tl g = (B.2.2.getD g g0).2.2.2.1) (hf : ∀ g, g < B.2.2.length → f g N = vs g) (h0 : 0 ≤ hr) (h1 : hr ≤ 999) : ∀ (m g : Nat) (L : List Wn) (lt : Nat → Nat), g + m = B.2.2.length → sL L → (∀ x ∈ L, wnB (N + 1) x) → sL (gsY B tk N hr mk m g L lt).1 ∧ (∀ x ∈ (gsY B tk N hr mk m g L lt).1, wnB (N + 1) x) ∧ ((gsY B tk N hr mk m g L lt).1.length ≤ L.length + cyB B m g) ∧ ∀ g2, (g ≤ g2 → gst B hr mk tk vs g2 (rwL tl f L g2) (lt g2) = (rwL tl f (gsY B tk N hr mk m g L lt).1 g2, (gsY B tk N hr mk m g L lt).2 g2)) ∧ (g2 < g → rwL tl f (gsY B tk N hr mk m g L lt).1 g2 = rwL tl f L g2 ∧ (gsY B tk N hr mk m g L lt).2 g2 = lt g2) := by
  intro m
  induction m with
  | zero =>
    intro g L lt hm s hB
    refine ⟨s, hB, Nat.le_refl _, fun g2 => ⟨fun h => ?_, fun _ => ⟨rfl, rfl⟩⟩⟩
    rw [gst_n (fun z => by have := z.1; omega)]
    rfl
  | succ m ih =>
    intro g L lt hm s hB
    have hg : g < B.2.2.length := by omega
    by_cases c : bitv tk (iZ (B.2.2.getD g g0).1) = iZ 1
    · have e : gsY B tk N hr mk (m + 1) g L lt = gsY B tk N hr mk m (g + 1) (goY (B.2.2.getD g g0) g N hr mk L) (fun g2 => if g2 = g then lt g + (if nuY (B.2.2.getD g g0) hr mk = 0 then 1 else 0) else lt g2) := if_pos c
      have gb := b.2 g hg
      have s1 : sL (goY (B.2.2.getD g g0) g N hr mk L) := goY_sL s gb (fun x hx => (hB x hx).2.2.1)
      have B1 : ∀ x ∈ goY (B.2.2.getD g g0) g N hr mk L, wnB (N + 1) x := by
        have b6 := b.1
        obtain ⟨b1, b2, b3, b4, b5⟩ := gb
        unfold goY
        by_cases c0 : (B.2.2.getD g g0).2.2.1 = 0
        · rw [if_pos c0]
          by_cases d : mk < hr + (B.2.2.getD g g0).2.1
          · rw [if_pos d]
            intro x hx
            rcases (putL_mem _).mp hx with e | e
            · rw [e]
              obtain ⟨f1, f2, f3, f4⟩ := mgF_b (g := g) (hr := hr) (wd := (B.2.2.getD g g0).2.1) L (g, hr, hr + (B.2.2.getD g g0).2.1, [N]) (fun y hy => ⟨(hB y hy).2.1.1, (hB y hy).2.2.2.1⟩) ⟨h0, h1, by show hr < hr + (B.2.2.getD g g0).2.1; omega, by show hr + (B.2.2.getD g g0).2.1 ≤ 1199; omega⟩
              obtain ⟨n1, n2⟩ := mgF_ns (g := g) (hr := hr) (wd := (B.2.2.getD g g0).2.1) (N := N + 1) L (g, hr, hr + (B.2.2.getD g g0).2.1, [N]) (List.cons_ne_nil _ _) (fun n hn => by
                have hn : n ∈ [N] := hn
                rw [List.mem_singleton] at hn; omega) (fun y hy n hn => (hB y hy).2.2.2.2.2 n hn)
              have e1 : (mgF g hr (B.2.2.getD g g0).2.1 L (g, hr, hr + (B.2.2.getD g g0).2.1, [N])).1 = g := (mgF_1 L _).1
              exact ⟨by rw [e1]; omega, ⟨f1, f2⟩, f3, f4, n1, n2⟩
            · exact hB x ((mgK_mem L).mp e).1
          · rw [if_neg d]; exact hB
        · rw [if_neg c0]
          refine evY_P (by omega) (fun s s0 s1 s2 s3 => ⟨by show g < 6; omega, ⟨s0, by show s ≤ 999; omega⟩, by show s < s + (B.2.2.getD g g0).2.1; omega, by show s + (B.2.2.getD g g0).2.1 ≤ 1199; omega, List.cons_ne_nil _ _, fun n hn => by
            have hn : n ∈ [N] := hn
            rw [List.mem_singleton] at hn; omega⟩) (fun x hx _ => ⟨hx.1, hx.2.1, hx.2.2.1, hx.2.2.2.1, fun z => List.cons_ne_nil _ _ (List.append_eq_nil_iff.mp z).2, fun n hn => ?_⟩) 1001 L 0 (Int.le_refl _) hB
          rcases List.mem_append.mp hn with e | e
          · exact hx.2.2.2.2.2 n e
          · rw [List.mem_singleton] at e; omega
      obtain ⟨i1, i2, i3, i4⟩ := ih (g + 1) (goY (B.2.2.getD g g0) g N hr mk L) (fun g2 => if g2 = g then lt g + (if nuY (B.2.2.getD g g0) hr mk = 0 then 1 else 0) else lt g2) (by omega) s1 B1
      rw [e]
      have l1 := goY_len (G := B.2.2.getD g g0) (g := g) (n := N) (hr := hr) (mk := mk) (L := L)
      have l2 := nuY_le (mk := mk) gb h0
      refine ⟨i1, i2, ?_, fun g2 => ⟨fun h => ?_, fun h => ?_⟩⟩
      · show _ ≤ L.length + (cyG (B.2.2.getD g g0) + cyB B m (g + 1))
        omega
      · by_cases d : g2 = g
        · rw [d]
          have q := (i4 g).2 (Nat.lt_succ_self _)
          rw [q.1, q.2, if_pos rfl]
          exact rwL_goY gb hg (ht g hg) (hf g hg) c h0 h1 s (fun x hx => (hB x hx).2.2.2.2.1)
        · have q := (i4 g2).1 (by omega)
          rw [rwL_goY_o (fun z => d z.symm)] at q
          rw [← q, if_neg d]
      · have q := (i4 g2).2 (by omega)
        rw [rwL_goY_o (by omega)] at q
        refine ⟨q.1, q.2.trans (if_neg (by omega))⟩
    · have e : gsY B tk N hr mk (m + 1) g L lt = gsY B tk N hr mk m (g + 1) L lt := if_neg c
      obtain ⟨i1, i2, i3, i4⟩ := ih (g + 1) L lt (by omega) s hB
      rw [e]
      refine ⟨i1, i2, ?_, fun g2 => ⟨fun h => ?_, fun h => (i4 g2).2 (by omega)⟩⟩
      · show _ ≤ L.length + (cyG (B.2.2.getD g g0) + cyB B m (g + 1))
        omega
      · by_cases d : g2 = g
        · rw [d]
          have q := (i4 g).2 (Nat.lt_succ_self _)
          rw [q.1, q.2, gst_n (fun z => c z.2)]
        · exact (i4 g2).1 (by omega)
