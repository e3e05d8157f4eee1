/-! What a book that was read is worth. -/
def slP (P : List Cmd) (x y : Nat) : List Cmd := (P.drop x).take (y - x)
theorem slP_app {P A : List Cmd} {x y : Nat} (hx : x ≤ y) (hy : y ≤ P.length) : slP (P ++ A) x y = slP P x y := by
  unfold slP
  rw [List.drop_append_of_le_length (by omega), List.take_append_of_le_length (by rw [List.length_drop]; omega)]
theorem slP_new (P A : List Cmd) : slP (P ++ A) P.length (P ++ A).length = A := by
  unfold slP
  rw [List.drop_append_of_le_length (Nat.le_refl _), List.drop_length, List.nil_append, List.length_append, Nat.add_sub_cancel_left, List.take_length]
theorem slP_len {P : List Cmd} {x y : Nat} (hx : x ≤ y) (hy : y ≤ P.length) : (slP P x y).length = y - x := by
  unfold slP
  rw [List.length_take, List.length_drop]
  omega
def tsG (P : List Cmd) (t : Nat × Nat) : Prop := t.1 ≤ t.2 ∧ t.2 ≤ P.length ∧ ∀ x tk, ∃ v, (v = iZ 0 ∨ v = iZ 1) ∧ evs (slP P t.1 t.2) x tk [] [v]
def gxG (P : List Cmd) (n : Nat) (g : Gc) : Prop := g.2.2.2.2.2.1 ≤ g.2.2.2.2.2.2 ∧ g.2.2.2.2.2.2 ≤ P.length ∧ 0 ≤ g.1 ∧ g.1 < n ∧ (g.2.1 = 0 ∨ g.2.1 = 1) ∧ 1 ≤ g.2.2.1 ∧ g.2.2.1 ≤ 200 ∧ 1 ≤ g.2.2.2.1 ∧ g.2.2.2.1 ≤ 200 ∧ (g.2.1 = 1 → g.2.2.2.1 = 1) ∧ (g.2.1 = 0 → g.2.2.2.1 ≤ g.2.2.1 ∧ g.2.2.1 < 7 * g.2.2.2.1) ∧ g.2.2.2.2.1 < 4 ∧ (∀ c ∈ slP P g.2.2.2.2.2.1 g.2.2.2.2.2.2, okVl c) ∧ (g.2.2.2.2.1 ≠ 0 → ∀ x tk, ∃ v, evs (slP P g.2.2.2.2.2.1 g.2.2.2.2.2.2) x tk [] [v])
theorem tsG_app {P A : List Cmd} {t : Nat × Nat} (h : tsG P t) : tsG (P ++ A) t := by
  obtain ⟨h1, h2, h3⟩ := h
  exact ⟨h1, by rw [List.length_append]; omega, by rw [slP_app h1 h2]; exact h3⟩
theorem gxG_app {P A : List Cmd} {n m : Nat} {g : Gc} (h : gxG P n g) (hn : n ≤ m) : gxG (P ++ A) m g := by
  obtain ⟨h1, h2, h3, h4, h5, h6, h7, h8, h9, h10, h11, h12, h13, h14⟩ := h
  exact ⟨h1, by rw [List.length_append]; omega, h3, by omega, h5, h6, h7, h8, h9, h10, h11, h12, by rw [slP_app h1 h2]; exact h13, by rw [slP_app h1 h2]; exact h14⟩
theorem ntE_z {e x : Nat × Nat} (h : (ntE e x).1 = 0) : e.1 = 0 ∧ x.1 = 0 := by
  unfold ntE at h
  by_cases c : e.1 = 0
  · rw [if_pos c] at h; exact ⟨c, h⟩
  · rw [if_neg c] at h; exact absurd h c
theorem ntE_p {e x : Nat × Nat} (h : e.1 = 0) : ntE e x = x := if_pos h
theorem ife_z {c : Prop} [Decidable c] {n p : Nat} (h : (if c then (n, p) else ((0, 0) : Nat × Nat)).1 = 0) (hn : n ≠ 0) : ¬ c := fun z => by rw [if_pos z] at h; exact hn h
/-- the fold's worth -/
def smOk (s : Sm) : Prop := (smT s).length = (smF s).length ∧ (smF s).length ≤ 8 ∧ (smX s).length = (smG s).length ∧ (smG s).length ≤ 6 ∧ (smM s).length ≤ 8 ∧ (∀ t ∈ smT s, tsG (smP s) t) ∧ ((smE s).1 = 0 → (∀ m ∈ smM s, 0 ≤ m ∧ m ≤ 99) ∧ ∀ g ∈ smX s, gxG (smP s) (smF s).length g)
theorem smOk_0 : smOk sm0 := ⟨rfl, by decide, rfl, by decide, by decide, fun t ht => absurd ht List.not_mem_nil, fun _ => ⟨fun m hm => absurd hm List.not_mem_nil, fun g hg => absurd hg List.not_mem_nil⟩⟩
theorem smOk_Q {T : List Tok} (w : tkW T) {s : Sm} (h : smOk s) (q : Nat) : smOk (smQ T s q) := by
  obtain ⟨h1, h2, h3, h4, h5, h6, h7⟩ := h
  refine ⟨h1, h2, h3, h4, ?_, h6, fun e => ?_⟩
  · show (if (smM s).length < 8 then smM s ++ [tN T q] else smM s).length ≤ 8
    by_cases c : (smM s).length < 8
    · rw [if_pos c, app_len']; omega
    · rw [if_neg c]; exact h5
  · obtain ⟨e1, e2⟩ := ntE_z (show (ntE (smE s) (phE T (smM s) q)).1 = 0 from e)
    obtain ⟨e3, e4⟩ := ntE_z (show (ntE _ _).1 = 0 from e2)
    have e5 := ife_z e3 (by decide)
    have e6 := ife_z e4 (by decide)
    obtain ⟨a, b⟩ := h7 e1
    refine ⟨fun m hm => ?_, b⟩
    replace hm : m ∈ (if (smM s).length < 8 then smM s ++ [tN T q] else smM s) := hm
    rw [if_pos (by omega)] at hm
    rcases List.mem_append.mp hm with z | z
    · exact a m z
    · rw [List.mem_singleton.mp z]
      have := tN_b w q
      omega
/-- lines that were read -/
def lnOK (T : List Tok) (l : Ln) : Prop := (l.1 = 0 ∧ ∃ p, (syT T 6 p).1 = true ∧ l.2.2.1 = (syT T 6 p).2.2) ∨ (l.1 = 1 ∧ ∃ q q2, (winF T q).1 = true ∧ (telF T q2).1 = true ∧ l.2.2.1 = (telF T q2).2.2.2 ∧ l.2.2.2.2.1 = (winF T q).2.2.1 ∧ l.2.2.2.2.2.1 = (winF T q).2.2.2.1 ∧ l.2.2.2.2.2.2.1 = (winF T q).2.2.2.2 ∧ l.2.2.2.2.2.2.2 = (telF T q2).2.2.1)
theorem lnOK_fl {T : List Tok} {p : Nat} (h : (flkF T p).1 = true) : lnOK T (flkF T p).2.2 := by
  have k := flkF_k h
  unfold flkF at h k ⊢
  by_cases a : tK T p = 2
  · rw [if_pos a] at h ⊢
    by_cases b : tK T (p + 1) = 6
    · rw [if_pos b] at h ⊢
      exact .inl ⟨rfl, p + 2, h, rfl⟩
    · rw [if_neg b] at h; cases h
  · rw [if_neg a] at h; cases h
theorem lnOK_go {T : List Tok} {p : Nat} (h : (gooF T p).1 = true) : lnOK T (gooF T p).2.2 := by
  unfold gooF at h ⊢
  by_cases a : tK T p = 2
  · rw [if_pos a] at h ⊢
    by_cases b : tK T (p + 1) = 16
    · rw [if_pos b] at h ⊢
      by_cases c : tK T (p + 2) = 2
      · rw [if_pos c] at h ⊢
        by_cases d : (winF T (p + 3)).1 = true
        · rw [if_pos d] at h ⊢
          by_cases e : tK T (winF T (p + 3)).2.1 = 20
          · rw [if_pos e] at h ⊢
            exact .inr ⟨rfl, p + 3, (winF T (p + 3)).2.1 + 1, d, h, rfl, rfl, rfl, rfl, rfl⟩
          · rw [if_neg e] at h; cases h
        · rw [if_neg d] at h; cases h
      · rw [if_neg c] at h; cases h
    · rw [if_neg b] at h; cases h
  · rw [if_neg a] at h; cases h
theorem semF_ok {T : List Tok} {r : Lz} (h : (semF T r).1 = true) : r.1 = true ∧ (semF T r).2.2 = r.2.2 := by
  unfold semF at h ⊢
  by_cases a : r.1 = true
  · rw [if_pos a] at h ⊢
    by_cases b : tK T r.2.1 = 30
    · rw [if_pos b]; exact ⟨a, rfl⟩
    · rw [if_neg b] at h; cases h
  · rw [if_neg a] at h; cases h
theorem lnOK_l {T : List Tok} {p : Nat} (h : (linF T p).1 = true) : lnOK T (linF T p).2.2 := by
  unfold linF at h ⊢
  by_cases a : tK T p = 5
  · rw [if_pos a] at h ⊢
    obtain ⟨b, c⟩ := semF_ok h
    rw [c]; exact lnOK_fl b
  · rw [if_neg a] at h ⊢
    by_cases d : tK T p = 15
    · rw [if_pos d] at h ⊢
      obtain ⟨b, c⟩ := semF_ok h
      rw [c]; exact lnOK_go b
    · rw [if_neg d] at h; cases h
theorem lnOK_s {T : List Tok} : ∀ n p, (lnsF T n p).1 = true → ∀ l ∈ (lnsF T n p).2.2, lnOK T l := by
  intro n
  induction n with
  | zero => intro p _ l hl; exact absurd hl List.not_mem_nil
  | succ n ih =>
    intro p h l hl
    by_cases a : tK T p = 0
    · rw [lns_e a] at hl; exact absurd hl List.not_mem_nil
    · by_cases b : (linF T p).1 = true
      · rw [lns_l a b] at h hl
        rcases List.mem_cons.mp hl with z | z
        · rw [z]; exact lnOK_l b
        · exact ih _ h l z
      · rw [lns_x a (by cases c : (linF T p).1 with | true => exact absurd c b | false => rfl)] at h; cases h
theorem winF_k {T : List Tok} {q : Nat} (h : (winF T q).1 = true) : ((winF T q).2.2.1 = 0 ∨ (winF T q).2.2.1 = 1) ∧ ((winF T q).2.2.1 = 1 → (winF T q).2.2.2.2 = 0) := by
  unfold winF at h ⊢
  by_cases a : tK T q = 19
  · rw [if_pos a] at h ⊢
    by_cases b : tK T (q + 1) = 3
    · rw [if_pos b]; exact ⟨.inr rfl, fun _ => rfl⟩
    · rw [if_neg b] at h; cases h
  · rw [if_neg a] at h ⊢
    by_cases c : tK T q = 17
    · rw [if_pos c] at h ⊢
      by_cases b : tK T (q + 1) = 3
      · rw [if_pos b] at h ⊢
        by_cases d : tK T (q + 2) = 18
        · rw [if_pos d] at h ⊢
          by_cases e : tK T (q + 3) = 3
          · rw [if_pos e]; exact ⟨.inl rfl, fun z => absurd z (by show ¬ (0 : Nat) = 1; decide)⟩
          · rw [if_neg e] at h; cases h
        · rw [if_neg d]; exact ⟨.inl rfl, fun z => absurd z (by show ¬ (0 : Nat) = 1; decide)⟩
      · rw [if_neg b] at h; cases h
    · rw [if_neg c] at h; cases h
theorem lk_lt {F : List Int} {w : Int} (h : 0 ≤ lk F w) : lk F w < F.length := by
  rcases lkF_b (w := w) F 0 with i | i
  · unfold lk; omega
  · unfold lk at h; omega
theorem div_6 {n s : Int} (hs : 1 ≤ s) (h : n / s ≤ 6) : n < 7 * s := by
  have e := Int.mul_ediv_add_emod n s
  have m := Int.emod_lt_of_pos n (show 0 < s by omega)
  have k : s * (n / s) ≤ s * 6 := Int.mul_le_mul_of_nonneg_left h (by omega)
  omega
theorem tel_E {T : List Tok} (w : tkW T) {q : Nat} (h : (telF T q).1 = true) : (telF T q).2.2.1 ≠ 0 → ∀ x tk, ∃ v, evs (telF T q).2.2.2 x tk [] [v] := by
  unfold telF at h ⊢
  by_cases a : tK T q = 21
  · rw [if_pos a]; exact fun z => absurd rfl z
  · rw [if_neg a] at h ⊢
    by_cases b : tK T q = 22 ∨ tK T q = 23 ∨ tK T q = 24
    · rw [if_pos b] at h ⊢
      by_cases c : tK T (q + 1) = 25
      · rw [if_pos c] at h ⊢
        exact fun _ x tk => vl_syV 6 _ h [] (by decide)
      · rw [if_neg c] at h; cases h
    · rw [if_neg b] at h; cases h
theorem smOk_L {T : List Tok} (w : tkW T) {s : Sm} (h : smOk s) {l : Ln} (hl : lnOK T l) : smOk (smL T s l) := by
  obtain ⟨h1, h2, h3, h4, h5, h6, h7⟩ := h
  rcases hl with ⟨a, p, b, c⟩ | ⟨a, q, q2, b, b2, c1, c2, c3, c4, c5⟩
  · rw [smL_0 a]
    have ev := fun x tk => ts_syT w (F := smF s) (x := x) (tk := tk) 6 p b
    rw [← c] at ev
    refine ⟨?_, ?_, h3, h4, h5, fun t ht => ?_, fun e => ?_⟩
    · show (if (smF s).length < 8 then smT s ++ [((smP s).length, (smP s ++ l.2.2.1.map (rsl T (smF s))).length)] else smT s).length = (if (smF s).length < 8 then smF s ++ [tW T l.2.1] else smF s).length
      by_cases d : (smF s).length < 8
      · rw [if_pos d, if_pos d, app_len', app_len', h1]
      · rw [if_neg d, if_neg d, h1]
    · show (if (smF s).length < 8 then smF s ++ [tW T l.2.1] else smF s).length ≤ 8
      by_cases d : (smF s).length < 8
      · rw [if_pos d, app_len']; omega
      · rw [if_neg d]; exact h2
    · replace ht : t ∈ (if (smF s).length < 8 then smT s ++ [((smP s).length, (smP s ++ l.2.2.1.map (rsl T (smF s))).length)] else smT s) := ht
      show tsG (smP s ++ l.2.2.1.map (rsl T (smF s))) t
      have old : ∀ t ∈ smT s, tsG (smP s ++ l.2.2.1.map (rsl T (smF s))) t := fun t ht => tsG_app (h6 t ht)
      by_cases d : (smF s).length < 8
      · rw [if_pos d] at ht
        rcases List.mem_append.mp ht with z | z
        · exact old t z
        · rw [List.mem_singleton.mp z]
          refine ⟨by show (smP s).length ≤ (smP s ++ _).length; rw [List.length_append]; omega, Nat.le_refl _, fun x tk => ?_⟩
          show ∃ v, (v = iZ 0 ∨ v = iZ 1) ∧ evs (slP (smP s ++ l.2.2.1.map (rsl T (smF s))) (smP s).length (smP s ++ l.2.2.1.map (rsl T (smF s))).length) x tk [] [v]
          rw [slP_new]
          exact ev x tk [] (by decide)
      · rw [if_neg d] at ht; exact old t ht
    · obtain ⟨e1, -⟩ := ntE_z (show (ntE (smE s) _).1 = 0 from e)
      obtain ⟨m, g⟩ := h7 e1
      refine ⟨m, fun x hx => ?_⟩
      show gxG (smP s ++ l.2.2.1.map (rsl T (smF s))) (if (smF s).length < 8 then smF s ++ [tW T l.2.1] else smF s).length x
      refine gxG_app (g x hx) ?_
      split
      · rw [app_len']; omega
      · exact Nat.le_refl _
  · rw [smL_1 a]
    obtain ⟨k1, k2⟩ := winF_k b
    obtain ⟨t1, t2, t3, t4⟩ := telF_g w b2
    refine ⟨h1, h2, ?_, ?_, h5, fun t ht => tsG_app (h6 t ht), fun e => ?_⟩
    · show (if (smG s).length < 6 then smX s ++ [_] else smX s).length = (if (smG s).length < 6 then smG s ++ [tW T l.2.1] else smG s).length
      by_cases d : (smG s).length < 6
      · rw [if_pos d, if_pos d, app_len', app_len', h3]
      · rw [if_neg d, if_neg d, h3]
    · show (if (smG s).length < 6 then smG s ++ [tW T l.2.1] else smG s).length ≤ 6
      by_cases d : (smG s).length < 6
      · rw [if_pos d, app_len']; omega
      · rw [if_neg d]; exact h4
    · obtain ⟨e1, e2⟩ := ntE_z (show (ntE (smE s) (goE T (smF s) (smG s) l.2.1 l.2.2.2.1 l.2.2.2.2.2.1 l.2.2.2.2.2.2.1)).1 = 0 from e)
      obtain ⟨m, g⟩ := h7 e1
      refine ⟨m, fun x hx => ?_⟩
      obtain ⟨e3, e4⟩ := ntE_z (show (ntE (nwE T (smF s) (smG s) (smG s).length 6 l.2.1) _).1 = 0 from e2)
      obtain ⟨e5, e6⟩ := ntE_z (show (ntE _ _).1 = 0 from e4)
      obtain ⟨-, e7⟩ := ntE_z (show (ntE _ _).1 = 0 from e3)
      obtain ⟨e8, e9⟩ := ntE_z (show (ntE _ _).1 = 0 from e6)
      have f5 := ife_z e5 (by decide)
      have f7 := ife_z e7 (by decide)
      have f8 := ife_z e8 (by decide)
      replace hx : x ∈ (if (smG s).length < 6 then smX s ++ [(lk (smF s) (tW T l.2.2.2.1), l.2.2.2.2.1, tN T l.2.2.2.2.2.1, stpC T l.2.2.2.2.1 l.2.2.2.2.2.1 l.2.2.2.2.2.2.1, l.2.2.2.2.2.2.2, (smP s).length, (smP s ++ l.2.2.1).length)] else smX s) := hx
      show gxG (smP s ++ l.2.2.1) (smF s).length x
      rw [if_pos (by omega)] at hx
      rcases List.mem_append.mp hx with z | z
      · exact gxG_app (g x z) (Nat.le_refl _)
      · rw [List.mem_singleton.mp z]
        have nb := tN_b w l.2.2.2.2.2.1
        have ll := lk_lt (F := smF s) (w := tW T l.2.2.2.1) (by omega)
        have st : (l.2.2.2.2.2.2.1 = 0 ∧ stpC T l.2.2.2.2.1 l.2.2.2.2.2.1 l.2.2.2.2.2.2.1 = if l.2.2.2.2.1 = 1 then 1 else tN T l.2.2.2.2.2.1) ∨ (l.2.2.2.2.1 = 0 ∧ stpC T l.2.2.2.2.1 l.2.2.2.2.2.1 l.2.2.2.2.2.2.1 = tN T l.2.2.2.2.2.2.1 ∧ 1 ≤ tN T l.2.2.2.2.2.2.1 ∧ tN T l.2.2.2.2.2.2.1 ≤ tN T l.2.2.2.2.2.1 ∧ tN T l.2.2.2.2.2.1 / tN T l.2.2.2.2.2.2.1 ≤ 6) := by
          unfold stpC
          by_cases y : l.2.2.2.2.2.2.1 = 0
          · left; rw [if_pos y]; exact ⟨y, rfl⟩
          · right
            rw [if_neg y]
            rw [if_neg y] at e9
            have f9 := ife_z e9 (by decide)
            refine ⟨?_, rfl, by omega, by omega, by omega⟩
            rw [c2]
            rcases k1 with k | k
            · exact k
            · exact absurd (by rw [c4]; exact k2 k) y
        rw [← c2] at k1
        have g01 : l.2.2.2.2.1 = 0 ∨ l.2.2.2.2.1 = 1 := k1
        have sp : 1 ≤ stpC T l.2.2.2.2.1 l.2.2.2.2.2.1 l.2.2.2.2.2.2.1 ∧ stpC T l.2.2.2.2.1 l.2.2.2.2.2.1 l.2.2.2.2.2.2.1 ≤ 200 ∧ (l.2.2.2.2.1 = 1 → stpC T l.2.2.2.2.1 l.2.2.2.2.2.1 l.2.2.2.2.2.2.1 = 1) ∧ (l.2.2.2.2.1 = 0 → stpC T l.2.2.2.2.1 l.2.2.2.2.2.1 l.2.2.2.2.2.2.1 ≤ tN T l.2.2.2.2.2.1 ∧ tN T l.2.2.2.2.2.1 < 7 * stpC T l.2.2.2.2.1 l.2.2.2.2.2.1 l.2.2.2.2.2.2.1) := by
          rcases st with ⟨-, s2⟩ | ⟨s1, s2, s3, s4, s5⟩
          · rw [s2]
            rcases g01 with y | y
            · rw [if_neg (by omega)]; exact ⟨by omega, by omega, fun z => by omega, fun _ => ⟨Int.le_refl _, by omega⟩⟩
            · rw [if_pos y]; exact ⟨by omega, by omega, fun _ => rfl, fun z => by omega⟩
          · rw [s2]
            have d6 := div_6 s3 s5
            exact ⟨s3, by omega, fun z => by omega, fun _ => ⟨s4, d6⟩⟩
        refine ⟨by show (smP s).length ≤ (smP s ++ _).length; rw [List.length_append]; omega, Nat.le_refl _, by show 0 ≤ lk _ _; omega, ll, g01, by show 1 ≤ tN _ _; omega, by show tN _ _ ≤ 200; omega, sp.1, sp.2.1, sp.2.2.1, sp.2.2.2, by show l.2.2.2.2.2.2.2 < 4; rw [c5]; exact t3, ?_, ?_⟩
        · show ∀ c ∈ slP (smP s ++ l.2.2.1) (smP s).length (smP s ++ l.2.2.1).length, okVl c
          rw [slP_new, c1]; exact t4
        · show l.2.2.2.2.2.2.2 ≠ 0 → ∀ x tk, ∃ v, evs (slP (smP s ++ l.2.2.1) (smP s).length (smP s ++ l.2.2.1).length) x tk [] [v]
          rw [slP_new, c1, c5]; exact tel_E w b2
theorem smOk_fQ {T : List Tok} (w : tkW T) : ∀ (l : List Nat) (s : Sm), smOk s → smOk (l.foldl (smQ T) s) := by
  intro l
  induction l with
  | nil => intro s h; exact h
  | cons q l ih => intro s h; exact ih _ (smOk_Q w h q)
theorem smOk_fL {T : List Tok} (w : tkW T) : ∀ (l : List Ln) (s : Sm), (∀ x ∈ l, lnOK T x) → smOk s → smOk (l.foldl (smL T) s) := by
  intro l
  induction l with
  | nil => intro s _ h; exact h
  | cons q l ih => intro s hl h; exact ih _ (fun x hx => hl x (List.mem_cons_of_mem _ hx)) (smOk_L w h (hl q List.mem_cons_self))
theorem rdS_ok {T : List Tok} (w : tkW T) (h : (rdE T).1 = 0) : smOk (rdS T) ∧ (smE (rdS T)).1 = 0 := by
  unfold rdE at h
  by_cases a : (rdM T).1 = true
  · rw [if_pos a] at h
    by_cases b : (rdL T).1 = true
    · rw [if_pos b] at h
      refine ⟨smOk_fL w _ _ (lnOK_s 400 _ b) (smOk_fQ w _ _ smOk_0), ?_⟩
      by_cases c : (smE (rdS T)).1 = 0
      · exact c
      · rw [if_neg c] at h; exact h
    · rw [if_neg b] at h; exact absurd h (by show ¬ (1 : Nat) = 0; decide)
  · rw [if_neg a] at h; exact absurd h (by show ¬ (1 : Nat) = 0; decide)
/-- the book that was read -/
def gsO (P : List Cmd) (g : Gc) : Gs := (g.1.toNat, g.2.2.1, (if g.2.1 = 1 then 0 else g.2.2.2.1), g.2.2.2.2.1, slP P g.2.2.2.2.2.1 g.2.2.2.2.2.2)
def bkO (s : Sm) : Bk := ((if smM s = [] then [5] else smM s), (smT s).map (fun t => slP (smP s) t.1 t.2), (smX s).map (gsO (smP s)))
theorem mapgD {α β : Type} (f : α → β) (l : List α) (d : α) (e : β) (j : Nat) (h : j < l.length) : (l.map f).getD j e = f (l.getD j d) := by
  rw [List.getD_eq_getElem?_getD, List.getD_eq_getElem?_getD, List.getElem?_map, List.getElem?_eq_getElem h]
  rfl
theorem getD_mem {α : Type} {l : List α} {d : α} {j : Nat} (h : j < l.length) : l.getD j d ∈ l := by
  rw [List.getD_eq_getElem?_getD, List.getElem?_eq_getElem h]
  exact List.getElem_mem h
theorem bkO_N {s : Sm} (h : smOk s) (e : (smE s).1 = 0) : bkN (bkO s) := by
  obtain ⟨h1, h2, h3, h4, h5, h6, h7⟩ := h
  obtain ⟨m, g⟩ := h7 e
  refine ⟨?_, ?_, fun j hj => ?_, by show ((smT s).map _).length ≤ 8; rw [List.length_map, h1]; exact h2, by show ((smX s).map _).length ≤ 6; rw [List.length_map, h3]; exact h4, fun j hj => ?_⟩
  · show 1 ≤ (if smM s = [] then [5] else smM s).length
    split
    · exact Nat.le_refl _
    · rename_i c; exact List.length_pos_iff.mpr c
  · show (if smM s = [] then [5] else smM s).length ≤ 8
    split
    · decide
    · exact h5
  · replace hj : j < (if smM s = [] then [5] else smM s).length := hj
    show 0 ≤ (if smM s = [] then [5] else smM s).getD j 0 ∧ (if smM s = [] then [5] else smM s).getD j 0 ≤ 99
    by_cases c : smM s = []
    · rw [if_pos c] at hj ⊢
      replace hj : j < 1 := hj
      obtain rfl : j = 0 := by omega
      exact ⟨by decide, by decide⟩
    · rw [if_neg c] at hj ⊢
      exact m _ (getD_mem hj)
  · replace hj : j < ((smX s).map (gsO (smP s))).length := hj
    rw [List.length_map] at hj
    show (((smX s).map (gsO (smP s))).getD j g0).1 < 8 ∧ _
    rw [show (bkO s).2.2 = (smX s).map (gsO (smP s)) from rfl, mapgD _ _ gc0 _ _ hj]
    obtain ⟨g1, g2, g3, g4, g5, g6, g7, g8, g9, g10, g11, g12, g13, g14⟩ := g _ (getD_mem (d := gc0) hj)
    generalize (smX s).getD j gc0 = x at g1 g2 g3 g4 g5 g6 g7 g8 g9 g10 g11 g12 g13 g14
    refine ⟨by show x.1.toNat < 8; omega, g6, g7, ?_, ?_, g12⟩
    · show 0 ≤ (if x.2.1 = 1 then 0 else x.2.2.2.1)
      split <;> omega
    · show (if x.2.1 = 1 then 0 else x.2.2.2.1) ≤ x.2.2.1
      split
      · omega
      · have := g11 (by omega); omega
