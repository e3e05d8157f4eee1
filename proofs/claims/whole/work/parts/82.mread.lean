/-! The reference reads a book: the state of the reading; its small methods. -/
def wds (l : List Cmd) : List Int := l.flatMap wcm
theorem wds_app (a b : List Cmd) : wds (a ++ b) = wds a ++ wds b := List.flatMap_append
theorem wds_cons (c : Cmd) (l : List Cmd) : wds (c :: l) = wcm c ++ wds l := rfl
theorem wcm_2 (c : Cmd) : (wcm c).length ≤ 2 ∧ 1 ≤ (wcm c).length := by
  unfold wcm
  repeat' split
  all_goals exact ⟨by simp, by simp⟩
theorem wds_len : ∀ l : List Cmd, (wds l).length ≤ 2 * l.length := by
  intro l
  induction l with
  | nil => exact Nat.le_refl _
  | cons c l ih =>
    rw [wds_cons, List.length_append, List.length_cons]
    have := (wcm_2 c).1
    omega
def lkN : List (Int × Int) → Int → Int
  | [], _ => -1
  | x :: N, w => if x.1 = w then x.2 else lkN N w
def inN (N : List (Int × Int)) (w : Int) : Prop := ∃ x ∈ N, x.1 = w
def n0 : Int × Int := (0, 0)
def nmM (h : PH) (N : List (Int × Int)) : Prop := h.1 83 14 = iZ N.length ∧ N.length ≤ 14 ∧ ∀ j, j < N.length → h.2.1 89 j = lz (N.getD j n0).1 ∧ 0 ≤ (N.getD j n0).1 ∧ (N.getD j n0).1 < 1099511627776 ∧ h.1 90 j = iZ (N.getD j n0).2 ∧ -1 ≤ (N.getD j n0).2 ∧ (N.getD j n0).2 < 8
/-- the reference reads at token p, in the first walk (0) or the second: names N, words W -/
def QM (h : PH) (T : List Tok) (sc p : Nat) (N : List (Int × Int)) (W : List Int) : Prop := Sh h ∧ tmC h T ∧ tkW T ∧ p < T.length ∧ h.1 83 7 = iZ p ∧ h.1 83 8 = iZ sc ∧ sc ≤ 1 ∧ nmM h N ∧ h.1 83 16 = iZ W.length ∧ (sc = 1 → ∀ j, j < W.length → h.1 91 j = iZ (W.getD j 0)) ∧ kyM h
theorem qm_sh {h : PH} {T : List Tok} {sc p : Nat} {N : List (Int × Int)} {W : List Int} (q : QM h T sc p N W) : Sh h := q.1
theorem qm_tk {h : PH} {T : List Tok} {sc p : Nat} {N : List (Int × Int)} {W : List Int} (q : QM h T sc p N W) : tmC h T := q.2.1
theorem qm_w {h : PH} {T : List Tok} {sc p : Nat} {N : List (Int × Int)} {W : List Int} (q : QM h T sc p N W) : tkW T := q.2.2.1
theorem qm_p {h : PH} {T : List Tok} {sc p : Nat} {N : List (Int × Int)} {W : List Int} (q : QM h T sc p N W) : p < T.length := q.2.2.2.1
theorem qm_7 {h : PH} {T : List Tok} {sc p : Nat} {N : List (Int × Int)} {W : List Int} (q : QM h T sc p N W) : h.1 83 7 = iZ p := q.2.2.2.2.1
theorem qm_8 {h : PH} {T : List Tok} {sc p : Nat} {N : List (Int × Int)} {W : List Int} (q : QM h T sc p N W) : h.1 83 8 = iZ sc := q.2.2.2.2.2.1
theorem qm_s {h : PH} {T : List Tok} {sc p : Nat} {N : List (Int × Int)} {W : List Int} (q : QM h T sc p N W) : sc ≤ 1 := q.2.2.2.2.2.2.1
theorem qm_n {h : PH} {T : List Tok} {sc p : Nat} {N : List (Int × Int)} {W : List Int} (q : QM h T sc p N W) : nmM h N := q.2.2.2.2.2.2.2.1
theorem qm_c {h : PH} {T : List Tok} {sc p : Nat} {N : List (Int × Int)} {W : List Int} (q : QM h T sc p N W) : h.1 83 16 = iZ W.length := q.2.2.2.2.2.2.2.2.1
theorem qm_r {h : PH} {T : List Tok} {sc p : Nat} {N : List (Int × Int)} {W : List Int} (q : QM h T sc p N W) : sc = 1 → ∀ j, j < W.length → h.1 91 j = iZ (W.getD j 0) := q.2.2.2.2.2.2.2.2.2.1
theorem qm_k {h : PH} {T : List Tok} {sc p : Nat} {N : List (Int × Int)} {W : List Int} (q : QM h T sc p N W) : kyM h := q.2.2.2.2.2.2.2.2.2.2
/-- what reading changes: the place, the error, the words -/
def fR (h h' : PH) : Prop := h'.2 = h.2 ∧ (∀ a, a ≠ 83 → a ≠ 91 → h'.1 a = h.1 a) ∧ (∀ k, k ≠ 7 → k ≠ 9 → k ≠ 10 → k ≠ 16 → h'.1 83 k = h.1 83 k)
theorem fR_r (h : PH) : fR h h := ⟨rfl, fun _ _ _ => rfl, fun _ _ _ _ _ => rfl⟩
theorem fR_t {h h1 h2 : PH} (a : fR h h1) (c : fR h1 h2) : fR h h2 := ⟨c.1.trans a.1, fun x x1 x2 => (c.2.1 x x1 x2).trans (a.2.1 x x1 x2), fun k k1 k2 k3 k4 => (c.2.2 k k1 k2 k3 k4).trans (a.2.2 k k1 k2 k3 k4)⟩
theorem fR_8 {h : PH} {k : Nat} {v : Int32} (hk : k = 7 ∨ k = 9 ∨ k = 10 ∨ k = 16) : fR h (setI h 83 k v) := ⟨rfl, fun a a1 _ => setI_oth a1, fun j j1 j2 j3 j4 => setI_ne (by omega)⟩
theorem fR_91 {h : PH} {k : Nat} {v : Int32} : fR h (setI h 91 k v) := ⟨rfl, fun a _ a1 => setI_oth a1, fun j _ _ _ _ => setI_ne (by omega)⟩
def erM (h : PH) (T : List Tok) (n q : Nat) : Prop := h.1 83 9 = iZ n ∧ h.1 83 10 = iZ (tS T q)
theorem QM_at {h : PH} {T : List Tok} {sc p : Nat} {N : List (Int × Int)} {W : List Int} (q : QM h T sc p N W) (k : 2 ≤ tK T p) : QM (setI h 83 7 (iZ ((p : Int) + 1))) T sc (p + 1) N W := by
  obtain ⟨q1, q2, q3, q4, q5, q6, q7, ⟨n1, n2, n3⟩, q9, q10, q11⟩ := q
  exact ⟨Sh_eq q1 rfl, fun j hj => ⟨(setI_ne (by omega)).trans (q2 j hj).1, (setI_ne (by omega)).trans (q2 j hj).2.1, (q2 j hj).2.2⟩, q3, tK_in q3 k, setI_self _ _ _ _, (setI_ne (by omega)).trans q6, q7, ⟨(setI_ne (by omega)).trans n1, n2, fun j hj => ⟨(n3 j hj).1, (n3 j hj).2.1, (n3 j hj).2.2.1, (setI_ne (by omega)).trans (n3 j hj).2.2.2.1, (n3 j hj).2.2.2.2⟩⟩, (setI_ne (by omega)).trans q9, fun z j hj => (setI_ne (by omega)).trans (q10 z j hj), q11⟩
theorem QM_p0 {h : PH} {T : List Tok} {p : Nat} {N : List (Int × Int)} {W : List Int} {x : Int} (q : QM h T 0 p N W) : QM (setI h 83 16 (iZ ((W.length : Int) + 1))) T 0 p N (W ++ [x]) := by
  obtain ⟨q1, q2, q3, q4, q5, q6, q7, ⟨n1, n2, n3⟩, q9, q10, q11⟩ := q
  exact ⟨Sh_eq q1 rfl, fun j hj => ⟨(setI_ne (by omega)).trans (q2 j hj).1, (setI_ne (by omega)).trans (q2 j hj).2.1, (q2 j hj).2.2⟩, q3, q4, (setI_ne (by omega)).trans q5, (setI_ne (by omega)).trans q6, q7, ⟨(setI_ne (by omega)).trans n1, n2, fun j hj => ⟨(n3 j hj).1, (n3 j hj).2.1, (n3 j hj).2.2.1, (setI_ne (by omega)).trans (n3 j hj).2.2.2.1, (n3 j hj).2.2.2.2⟩⟩, by rw [app_len']; exact setI_self _ _ _ _, fun z => absurd z (by decide), q11⟩
theorem QM_p1 {h : PH} {T : List Tok} {p : Nat} {N : List (Int × Int)} {W : List Int} {x : Int} (q : QM h T 1 p N W) : QM (setI (setI h 91 W.length (iZ x)) 83 16 (iZ ((W.length : Int) + 1))) T 1 p N (W ++ [x]) := by
  obtain ⟨q1, q2, q3, q4, q5, q6, q7, ⟨n1, n2, n3⟩, q9, q10, q11⟩ := q
  have c : ∀ a k, a ≠ 91 → ¬ (a = 83 ∧ k = 16) → (setI (setI h 91 W.length (iZ x)) 83 16 (iZ ((W.length : Int) + 1))).1 a k = h.1 a k := fun a k a1 a2 => (setI_ne a2).trans (setI_ne (by omega))
  refine ⟨Sh_eq q1 rfl, fun j hj => ⟨(c _ _ (by omega) (by omega)).trans (q2 j hj).1, (c _ _ (by omega) (by omega)).trans (q2 j hj).2.1, (q2 j hj).2.2⟩, q3, q4, (c _ _ (by omega) (by omega)).trans q5, (c _ _ (by omega) (by omega)).trans q6, q7, ⟨(c _ _ (by omega) (by omega)).trans n1, n2, fun j hj => ⟨(n3 j hj).1, (n3 j hj).2.1, (n3 j hj).2.2.1, (c _ _ (by omega) (by omega)).trans (n3 j hj).2.2.2.1, (n3 j hj).2.2.2.2⟩⟩, by rw [app_len']; exact setI_self _ _ _ _, fun z j hj => ?_, q11⟩
  rw [app_len'] at hj
  rw [app_get' _ _ _ _ hj]
  by_cases e : j = W.length
  · rw [if_pos e, e]
    exact (setI_ne (by omega)).trans (setI_self _ _ _ _)
  · rw [if_neg e]
    exact (setI_ne (by omega)).trans ((setI_ne (by omega)).trans (q10 z j (by omega)))
theorem sr_0 {k : Nat} (h : srK k = 0) : k = 2 ∨ (4 ≤ k ∧ k ≤ 25) := by
  unfold srK at h
  by_cases a : k = 0
  · rw [if_pos a] at h; omega
  · rw [if_neg a] at h
    by_cases b : k = 1
    · rw [if_pos b] at h; omega
    · rw [if_neg b] at h
      by_cases c : k = 3
      · rw [if_pos c] at h; omega
      · rw [if_neg c] at h
        by_cases d : 26 ≤ k
        · rw [if_pos d] at h; omega
        · omega
theorem sr_n {k : Nat} (h : ¬ srK k = 0) : ¬ (k = 2 ∨ (4 ≤ k ∧ k ≤ 25)) := by
  intro z
  apply h
  unfold srK
  rw [if_neg (by omega), if_neg (by omega), if_neg (by omega), if_neg (by omega)]
theorem sr_2 {k : Nat} : srK k = 2 ↔ 26 ≤ k := by
  unfold srK
  by_cases a : k = 0
  · rw [if_pos a]; omega
  · rw [if_neg a]
    by_cases b : k = 1
    · rw [if_pos b]; omega
    · rw [if_neg b]
      by_cases c : k = 3
      · rw [if_pos c]; omega
      · rw [if_neg c]
        by_cases d : 26 ≤ k
        · rw [if_pos d]; omega
        · rw [if_neg d]; omega
theorem sr_1 {k : Nat} : srK k = 1 ↔ k = 3 := by
  unfold srK
  by_cases a : k = 0
  · rw [if_pos a]; omega
  · rw [if_neg a]
    by_cases b : k = 1
    · rw [if_pos b]; omega
    · rw [if_neg b]
      by_cases c : k = 3
      · rw [if_pos c]; omega
      · rw [if_neg c]
        by_cases d : 26 ≤ k
        · rw [if_pos d]; omega
        · rw [if_neg d]; omega
theorem sr_4 {k : Nat} : srK k = 4 ↔ k = 0 := by
  unfold srK
  by_cases a : k = 0
  · rw [if_pos a]; omega
  · rw [if_neg a]
    by_cases b : k = 1
    · rw [if_pos b]; omega
    · rw [if_neg b]
      by_cases c : k = 3
      · rw [if_pos c]; omega
      · rw [if_neg c]
        by_cases d : 26 ≤ k
        · rw [if_pos d]; omega
        · rw [if_neg d]; omega
theorem sr_b (k : Nat) : 0 ≤ srK k ∧ srK k ≤ 4 := by
  unfold srK
  repeat' split
  all_goals omega
theorem kw_b : ∀ j, j < 38 → -1 ≤ kwL.getD j 0 ∧ kwL.getD j 0 < 1099511627776 ∧ (4 ≤ j → j ≤ 25 → 0 ≤ kwL.getD j 0) := by
  intro j hj
  have e : ∀ j : Fin 38, -1 ≤ kwL.getD j.val 0 ∧ kwL.getD j.val 0 < 1099511627776 ∧ (4 ≤ j.val → j.val ≤ 25 → 0 ≤ kwL.getD j.val 0) := by decide +kernel
  exact e ⟨j, hj⟩
/-- a token's number is a keyword's only if it is that keyword -/
theorem wh_kw {t : Tok} (tb : tkB t) (hk : t.1 = 2 ∨ (4 ≤ t.1 ∧ t.1 ≤ 25)) {K : Nat} (hK : 4 ≤ K ∧ K ≤ 25) : lz (whK t) = lz (kwL.getD K 0) ↔ t.1 = K := by
  have kb := kw_b K (by omega)
  have k0 := kb.2.2 hK.1 hK.2
  obtain ⟨t1, t2, t3, t4, t5, t6, t7, t8, t9, t10⟩ := tb
  rcases hk with a | ⟨a, a2⟩
  · have e : whK t = t.2.2.2 := by unfold whK; rw [if_pos a]
    rw [e, lz_inj ⟨t7, t8⟩ ⟨k0, kb.2.1⟩]
    constructor
    · intro z; exact absurd z.symm ((t9 a).2 K (by omega))
    · intro z; omega
  · have e : whK t = kwL.getD t.1 0 := by unfold whK; rw [if_neg (by omega), if_neg (by omega), if_neg (by omega), if_pos a]
    have tb2 := kw_b t.1 (by omega)
    rw [e, lz_inj ⟨tb2.2.2 a a2, tb2.2.1⟩ ⟨k0, kb.2.1⟩]
    constructor
    · intro z
      have := kwL_inj ⟨t.1, by omega⟩ ⟨K, by omega⟩ a a2 z
      exact congrArg Fin.val this
    · intro z; rw [z]
theorem sg_c : ∀ j, 26 ≤ j → j ≤ 37 → 0 ≤ (txts.getD j []).getD 0 0 ∧ (txts.getD j []).getD 0 0 < 128 := by
  intro j h1 h2
  have e : ∀ j : Fin 38, 26 ≤ j.val → 0 ≤ (txts.getD j.val []).getD 0 0 ∧ (txts.getD j.val []).getD 0 0 < 128 := by decide +kernel
  exact e ⟨j, by omega⟩ h1
theorem sg_i : ∀ i j : Fin 38, 26 ≤ i.val → 26 ≤ j.val → (txts.getD i.val []).getD 0 0 = (txts.getD j.val []).getD 0 0 → i = j := by decide +kernel
theorem wh_sg {t : Tok} (tb : tkB t) (hk : 26 ≤ t.1) {K : Nat} {c : Int} (hK : 26 ≤ K ∧ K ≤ 37) (hc : c = (txts.getD K []).getD 0 0) : lz (whK t) = (iZ c).toInt64 ↔ t.1 = K := by
  subst hc
  have b1 := sg_c K hK.1 hK.2
  have b2 := sg_c t.1 hk tb.1
  have e : whK t = (txts.getD t.1 []).getD 0 0 := by unfold whK; rw [if_neg (by omega), if_neg (by omega), if_pos hk]
  rw [e, lz_i ⟨by omega, by omega⟩, lz_inj ⟨b2.1, by omega⟩ ⟨b1.1, by omega⟩]
  constructor
  · intro z
    have := sg_i ⟨t.1, by have := tb.1; omega⟩ ⟨K, by omega⟩ hk hK.1 z
    exact congrArg Fin.val this
  · intro z; rw [z]
theorem wh_n {t : Tok} (hk : t.1 = 3) : whK t = t.2.2.1 := by unfold whK; rw [if_neg (by omega), if_pos hk]
theorem wh_w {t : Tok} (hk : t.1 = 2) : whK t = t.2.2.2 := by unfold whK; rw [if_pos hk]
theorem lz_32 (z : Int) : (lz z).toInt32 = iZ z := Int64.toInt32_ofInt
theorem mf_fault {d yn : Nat} {n y : Int} {T : List Tok} {h : PH} (sh : Sh h) (tk : tmC h T) (hy : y = (yn : Int)) (hy2 : yn < T.length) (hT : T.length ≤ 401) : Rv d 185 [.inr (.inr (.inr (11, 0, 83))), .inl (iZ (n)), .inl (iZ (y))] h (some (.inl (iZ 0))) (setI (setI h 83 9 (iZ n)) 83 10 (iZ (tS T yn))) := Rv.of fun Q q => by
  refine Ev.sts 5 (c' := (7, [some (.inr (.inr (.inr (11, 0, 83)))), some (.inl (iZ (n))), some (.inl (iZ (y)))], [.inr (.inr (.inr (11, 0, 83))), .inr (.inr (.inr (11, 0, 83)))], (setI h 83 9 ((iZ (n)))))) rfl ?_
  refine Ev.gfr (r := (20, 402, 87)) rfl (sh_83_5 (h := h) sh) ?_
  refine Ev.sts 1 (c' := (11, [some (.inr (.inr (.inr (11, 0, 83)))), some (.inl (iZ (n))), some (.inl (iZ (y)))], [.inl (iZ (y)), .inr (.inr (.inr (20, 402, 87))), .inr (.inr (.inr (11, 0, 83)))], (setI h 83 9 ((iZ (n)))))) rfl ?_
  refine Ev.ldv (j := (iZ (y))) (n := 402) (w := .inl (iZ (tS T yn))) (iZ_in (by omega) (by omega) (by omega)) rfl (by rw [iZ_ix (n := yn) (by omega) (by omega)]; exact congrArg vI (show h.1 87 yn = iZ (tS T yn) from (tk yn hy2).2.1)) ?_
  refine Ev.sts 2 (c' := (16, [some (.inr (.inr (.inr (11, 0, 83)))), some (.inl (iZ (n))), some (.inl (iZ (y)))], [.inl (iZ (0))], (setI (setI h 83 9 ((iZ (n)))) 83 10 ((iZ (tS T yn)))))) rfl ?_
  exact Ev.ret rfl (q)

theorem mf_isWord {d sc p K : Nat} {T : List Tok} {N : List (Int × Int)} {W : List Int} {h : PH} {x : Int64} {Q : Rs → PH → Prop} (q0 : QM h T sc p N W) (hK : 4 ≤ K ∧ K ≤ 25) (hx : x = lz (kwL.getD K 0)) (k1 : tK T p = K → Q (.inl (some (.inl (iZ 1)))) h) (k0 : ¬ tK T p = K → Q (.inl (some (.inl (iZ 0)))) h) : Rn d 182 [.inr (.inr (.inr (11, 0, 83))), .inr (.inl (x))] h Q := by
  have sh := qm_sh q0
  have w0 := qm_w q0
  have p0 := qm_p q0
  have t0 := qm_tk q0
  have l1 := w0.2.1
  have s1 := qm_s q0
  have tb0 := tBk w0 p
  have sb0 := sr_b (tK T p)
  refine Ev.sts 1 (c' := (1, [some (.inr (.inr (.inr (11, 0, 83)))), some (.inr (.inl (x))), none], [.inr (.inr (.inr (11, 0, 83)))], h)) rfl ?_
  refine Ev.gfr (r := (20, 402, 85)) rfl (sh_83_3 sh) ?_
  refine Ev.sts 1 (c' := (5, [some (.inr (.inr (.inr (11, 0, 83)))), some (.inr (.inl (x))), none], [.inr (.inr (.inr (11, 0, 83))), .inr (.inr (.inr (20, 402, 85)))], h)) rfl ?_
  refine Ev.gv (w := (iZ (p))) rfl (show h.1 83 7 = iZ p from qm_7 q0) ?_
  refine Ev.ldv (j := (iZ (p))) (n := 402) (w := .inl (iZ (srK (tK T p)))) (iZ_in (by omega) (by omega) (by omega)) rfl (by rw [iZ_ix (n := p) (by omega) (by omega)]; exact congrArg vI (t0 p p0).1) ?_
  refine Ev.brc (p := ¬ (iZ (srK (tK T p))) = (iZ (0))) (q := ¬ ((srK (tK T p) : Int)) = 0) (c1 := (30, [some (.inr (.inr (.inr (11, 0, 83)))), some (.inr (.inl (x))), none], [], h)) (c2 := (12, [some (.inr (.inr (.inr (11, 0, 83)))), some (.inr (.inl (x))), none], [], h)) rfl (not_congr (iZ_eq ⟨by omega, by omega⟩ ⟨by omega, by omega⟩)) (fun c0 => ?_) (fun c0 => ?_)
  · refine Ev.sts 1 (c' := (31, [some (.inr (.inr (.inr (11, 0, 83)))), some (.inr (.inl (x))), none], [.inl (iZ (0))], h)) rfl ?_
    exact Ev.ret rfl (by first | exact k0 (fun z_ => by have := sr_n (show ¬ srK (tK T p) = 0 by omega); omega) | exact k0 (fun z_ => by have z2 := (wh_kw tb0 hk hK).mpr z_; rw [← hx] at z2; contradiction))
  · have hk := sr_0 (show srK (tK T p) = 0 by omega)
    refine Ev.sts 1 (c' := (13, [some (.inr (.inr (.inr (11, 0, 83)))), some (.inr (.inl (x))), none], [.inr (.inr (.inr (11, 0, 83)))], h)) rfl ?_
    refine Ev.gfr (r := (21, 402, 86)) rfl (sh_83_4 sh) ?_
    refine Ev.sts 1 (c' := (17, [some (.inr (.inr (.inr (11, 0, 83)))), some (.inr (.inl (x))), none], [.inr (.inr (.inr (11, 0, 83))), .inr (.inr (.inr (21, 402, 86)))], h)) rfl ?_
    refine Ev.gv (w := (iZ (p))) rfl (show h.1 83 7 = iZ p from qm_7 q0) ?_
    refine Ev.ldv (j := (iZ (p))) (n := 402) (w := .inr (.inl ((lz (whK (T.getD p tk0)))))) (iZ_in (by omega) (by omega) (by omega)) rfl (by rw [iZ_ix (n := p) (by omega) (by omega)]; exact congrArg vL ((t0 p p0).2.2 (show ¬ tK T p = 1 by omega))) ?_
    refine Ev.sts 1 (c' := (22, [some (.inr (.inr (.inr (11, 0, 83)))), some (.inr (.inl (x))), none], [.inr (.inl (x)), .inr (.inl ((lz (whK (T.getD p tk0)))))], h)) rfl ?_
    refine Ev.sts 1 (c' := (23, [some (.inr (.inr (.inr (11, 0, 83)))), some (.inr (.inl (x))), none], [.inl ((lg_cmp (lz (whK (T.getD p tk0))) x))], h)) rfl ?_
    refine Ev.brc (p := ¬ (lg_cmp (lz (whK (T.getD p tk0))) x) = (0 : Int32)) (q := ¬ (lz (whK (T.getD p tk0))) = x) (c1 := (30, [some (.inr (.inr (.inr (11, 0, 83)))), some (.inr (.inl (x))), none], [], h)) (c2 := (26, [some (.inr (.inr (.inr (11, 0, 83)))), some (.inr (.inl (x))), none], [], h)) rfl (not_congr (lg_cmp_eq _ _)) (fun c1 => ?_) (fun c1 => ?_)
    · refine Ev.sts 1 (c' := (31, [some (.inr (.inr (.inr (11, 0, 83)))), some (.inr (.inl (x))), none], [.inl (iZ (0))], h)) rfl ?_
      exact Ev.ret rfl (by first | exact k0 (fun z_ => by have := sr_n (show ¬ srK (tK T p) = 0 by omega); omega) | exact k0 (fun z_ => by have z2 := (wh_kw tb0 hk hK).mpr z_; rw [← hx] at z2; contradiction))
    · refine Ev.sts 2 (c' := (31, [some (.inr (.inr (.inr (11, 0, 83)))), some (.inr (.inl (x))), none], [.inl (iZ (1))], h)) rfl ?_
      exact Ev.ret rfl (k1 ((wh_kw tb0 hk hK).mp (by subst hx; first | assumption | (apply Classical.not_not.mp; assumption))))

theorem mf_isSign {d sc p K : Nat} {T : List Tok} {N : List (Int × Int)} {W : List Int} {h : PH} {c : Int} {Q : Rs → PH → Prop} (q0 : QM h T sc p N W) (hK : 26 ≤ K ∧ K ≤ 37) (hc : c = (txts.getD K []).getD 0 0) (k1 : tK T p = K → Q (.inl (some (.inl (iZ 1)))) h) (k0 : ¬ tK T p = K → Q (.inl (some (.inl (iZ 0)))) h) : Rn d 189 [.inr (.inr (.inr (11, 0, 83))), .inl (iZ (c))] h Q := by
  have sh := qm_sh q0
  have w0 := qm_w q0
  have p0 := qm_p q0
  have t0 := qm_tk q0
  have l1 := w0.2.1
  have s1 := qm_s q0
  have tb0 := tBk w0 p
  have sb0 := sr_b (tK T p)
  refine Ev.sts 1 (c' := (1, [some (.inr (.inr (.inr (11, 0, 83)))), some (.inl (iZ (c)))], [.inr (.inr (.inr (11, 0, 83)))], h)) rfl ?_
  refine Ev.gfr (r := (20, 402, 85)) rfl (sh_83_3 sh) ?_
  refine Ev.sts 1 (c' := (5, [some (.inr (.inr (.inr (11, 0, 83)))), some (.inl (iZ (c)))], [.inr (.inr (.inr (11, 0, 83))), .inr (.inr (.inr (20, 402, 85)))], h)) rfl ?_
  refine Ev.gv (w := (iZ (p))) rfl (show h.1 83 7 = iZ p from qm_7 q0) ?_
  refine Ev.ldv (j := (iZ (p))) (n := 402) (w := .inl (iZ (srK (tK T p)))) (iZ_in (by omega) (by omega) (by omega)) rfl (by rw [iZ_ix (n := p) (by omega) (by omega)]; exact congrArg vI (t0 p p0).1) ?_
  refine Ev.sts 1 (c' := (10, [some (.inr (.inr (.inr (11, 0, 83)))), some (.inl (iZ (c)))], [.inl (iZ (2)), .inl (iZ (srK (tK T p)))], h)) rfl ?_
  refine Ev.brc (p := ¬ (iZ (srK (tK T p))) = (iZ (2))) (q := ¬ ((srK (tK T p) : Int)) = 2) (c1 := (32, [some (.inr (.inr (.inr (11, 0, 83)))), some (.inl (iZ (c)))], [], h)) (c2 := (13, [some (.inr (.inr (.inr (11, 0, 83)))), some (.inl (iZ (c)))], [], h)) rfl (not_congr (iZ_eq ⟨by omega, by omega⟩ ⟨by omega, by omega⟩)) (fun c0 => ?_) (fun c0 => ?_)
  · refine Ev.sts 1 (c' := (33, [some (.inr (.inr (.inr (11, 0, 83)))), some (.inl (iZ (c)))], [.inl (iZ (0))], h)) rfl ?_
    exact Ev.ret rfl (by first | exact k0 (fun z_ => by have := sr_2.mpr (show 26 ≤ tK T p by omega); omega) | exact k0 (fun z_ => by have z2 := (wh_sg tb0 hk hK hc).mpr z_; contradiction))
  · have hk := sr_2.mp (show srK (tK T p) = 2 by omega)
    refine Ev.sts 1 (c' := (14, [some (.inr (.inr (.inr (11, 0, 83)))), some (.inl (iZ (c)))], [.inr (.inr (.inr (11, 0, 83)))], h)) rfl ?_
    refine Ev.gfr (r := (21, 402, 86)) rfl (sh_83_4 sh) ?_
    refine Ev.sts 1 (c' := (18, [some (.inr (.inr (.inr (11, 0, 83)))), some (.inl (iZ (c)))], [.inr (.inr (.inr (11, 0, 83))), .inr (.inr (.inr (21, 402, 86)))], h)) rfl ?_
    refine Ev.gv (w := (iZ (p))) rfl (show h.1 83 7 = iZ p from qm_7 q0) ?_
    refine Ev.ldv (j := (iZ (p))) (n := 402) (w := .inr (.inl ((lz (whK (T.getD p tk0)))))) (iZ_in (by omega) (by omega) (by omega)) rfl (by rw [iZ_ix (n := p) (by omega) (by omega)]; exact congrArg vL ((t0 p p0).2.2 (show ¬ tK T p = 1 by omega))) ?_
    refine Ev.sts 2 (c' := (24, [some (.inr (.inr (.inr (11, 0, 83)))), some (.inl (iZ (c)))], [.inr (.inl (((iZ (c))).toInt64)), .inr (.inl ((lz (whK (T.getD p tk0)))))], h)) rfl ?_
    refine Ev.sts 1 (c' := (25, [some (.inr (.inr (.inr (11, 0, 83)))), some (.inl (iZ (c)))], [.inl ((lg_cmp (lz (whK (T.getD p tk0))) ((iZ (c))).toInt64))], h)) rfl ?_
    refine Ev.brc (p := ¬ (lg_cmp (lz (whK (T.getD p tk0))) ((iZ (c))).toInt64) = (0 : Int32)) (q := ¬ (lz (whK (T.getD p tk0))) = ((iZ (c))).toInt64) (c1 := (32, [some (.inr (.inr (.inr (11, 0, 83)))), some (.inl (iZ (c)))], [], h)) (c2 := (28, [some (.inr (.inr (.inr (11, 0, 83)))), some (.inl (iZ (c)))], [], h)) rfl (not_congr (lg_cmp_eq _ _)) (fun c1 => ?_) (fun c1 => ?_)
    · refine Ev.sts 1 (c' := (33, [some (.inr (.inr (.inr (11, 0, 83)))), some (.inl (iZ (c)))], [.inl (iZ (0))], h)) rfl ?_
      exact Ev.ret rfl (by first | exact k0 (fun z_ => by have := sr_2.mpr (show 26 ≤ tK T p by omega); omega) | exact k0 (fun z_ => by have z2 := (wh_sg tb0 hk hK hc).mpr z_; contradiction))
    · refine Ev.sts 2 (c' := (33, [some (.inr (.inr (.inr (11, 0, 83)))), some (.inl (iZ (c)))], [.inl (iZ (1))], h)) rfl ?_
      exact Ev.ret rfl (k1 ((wh_sg tb0 hk hK hc).mp (by first | assumption | (apply Classical.not_not.mp; assumption))))

theorem mf_ifWord {d sc p K : Nat} {T : List Tok} {N : List (Int × Int)} {W : List Int} {h : PH} {x : Int64} {Q : Rs → PH → Prop} (q0 : QM h T sc p N W) (hK : 4 ≤ K ∧ K ≤ 25) (hx : x = lz (kwL.getD K 0)) (k1 : tK T p = K → ∀ h1, QM h1 T sc (p + 1) N W → fR h h1 → Q (.inl (some (.inl (iZ 1)))) h1) (k0 : ¬ tK T p = K → Q (.inl (some (.inl (iZ 0)))) h) : Rn (d + 1) 181 [.inr (.inr (.inr (11, 0, 83))), .inr (.inl (x))] h Q := by
  have sh := qm_sh q0
  have w0 := qm_w q0
  have p0 := qm_p q0
  have t0 := qm_tk q0
  have l1 := w0.2.1
  have s1 := qm_s q0
  have tb0 := tBk w0 p
  have sb0 := sr_b (tK T p)
  refine Ev.sts 2 (c' := (2, [some (.inr (.inr (.inr (11, 0, 83)))), some (.inr (.inl (x))), none], [.inr (.inl (x)), .inr (.inr (.inr (11, 0, 83)))], h)) rfl ?_
  refine Ev.callw (a := [.inr (.inr (.inr (11, 0, 83))), .inr (.inl (x))]) rfl (mf_isWord q0 hK hx (fun ky1 => ?_) (fun ky1 => ?_))
  · refine Ev.brT (p := ¬ (iZ (1)) = (iZ (0))) (c1 := (10, [some (.inr (.inr (.inr (11, 0, 83)))), some (.inr (.inl (x))), none], [], h)) (c2 := (8, [some (.inr (.inr (.inr (11, 0, 83)))), some (.inr (.inl (x))), none], [], h)) (by decide) rfl ?_
    refine Ev.sts 2 (c' := (12, [some (.inr (.inr (.inr (11, 0, 83)))), some (.inr (.inl (x))), none], [.inr (.inr (.inr (11, 0, 83))), .inr (.inr (.inr (11, 0, 83)))], h)) rfl ?_
    refine Ev.gv (w := (iZ (p))) rfl (qm_7 q0) ?_
    refine Ev.sts 1 (c' := (16, [some (.inr (.inr (.inr (11, 0, 83)))), some (.inr (.inl (x))), none], [.inl (iZ (1)), .inl (iZ (p)), .inr (.inr (.inr (11, 0, 83)))], h)) rfl ?_
    refine Ev.gv (w := (iZ (p + 1))) rfl (iZ_add _ _) ?_
    refine Ev.sts 1 (c' := (20, [some (.inr (.inr (.inr (11, 0, 83)))), some (.inr (.inl (x))), none], [], (setI h 83 7 ((iZ (p + 1)))))) rfl ?_
    have q2 : QM (setI h 83 7 ((iZ (p + 1)))) T sc (p + 1) N _ := QM_at q0 (show 2 ≤ tK T p by omega)
    have f2 : fR h (setI h 83 7 ((iZ (p + 1)))) := fR_8 (.inl rfl)
    have z2 := qm_p q2
    generalize (setI h 83 7 ((iZ (p + 1)))) = h2 at q2 f2 ⊢
    refine Ev.sts 1 (c' := (21, [some (.inr (.inr (.inr (11, 0, 83)))), some (.inr (.inl (x))), none], [.inl (iZ (1))], h2)) rfl ?_
    exact Ev.ret rfl (k1 (by assumption) _ q2 (fR_t (fR_r h) f2))
  · refine Ev.brF (p := ¬ (iZ (0)) = (iZ (0))) (c1 := (10, [some (.inr (.inr (.inr (11, 0, 83)))), some (.inr (.inl (x))), none], [], h)) (c2 := (8, [some (.inr (.inr (.inr (11, 0, 83)))), some (.inr (.inl (x))), none], [], h)) (by decide) rfl ?_
    refine Ev.sts 1 (c' := (9, [some (.inr (.inr (.inr (11, 0, 83)))), some (.inr (.inl (x))), none], [.inl (iZ (0))], h)) rfl ?_
    exact Ev.ret rfl (k0 (by assumption))

theorem mf_word {d sc p K : Nat} {T : List Tok} {N : List (Int × Int)} {W : List Int} {h : PH} {x : Int64} {Q : Rs → PH → Prop} (q0 : QM h T sc p N W) (hK : 4 ≤ K ∧ K ≤ 25) (hx : x = lz (kwL.getD K 0)) (k1 : tK T p = K → ∀ h1, QM h1 T sc (p + 1) N W → fR h h1 → Q (.inl (some (.inl (iZ 1)))) h1) (k0 : ¬ tK T p = K → ∀ h1, erM h1 T 1 p → fR h h1 → Q (.inl (some (.inl (iZ 0)))) h1) : Rn (d + 1) 195 [.inr (.inr (.inr (11, 0, 83))), .inr (.inl (x))] h Q := by
  have sh := qm_sh q0
  have w0 := qm_w q0
  have p0 := qm_p q0
  have t0 := qm_tk q0
  have l1 := w0.2.1
  have s1 := qm_s q0
  have tb0 := tBk w0 p
  have sb0 := sr_b (tK T p)
  refine Ev.sts 2 (c' := (2, [some (.inr (.inr (.inr (11, 0, 83)))), some (.inr (.inl (x))), none], [.inr (.inl (x)), .inr (.inr (.inr (11, 0, 83)))], h)) rfl ?_
  refine Ev.callw (a := [.inr (.inr (.inr (11, 0, 83))), .inr (.inl (x))]) rfl (mf_isWord q0 hK hx (fun ky1 => ?_) (fun ky1 => ?_))
  · refine Ev.brT (p := ¬ (iZ (1)) = (iZ (0))) (c1 := (18, [some (.inr (.inr (.inr (11, 0, 83)))), some (.inr (.inl (x))), none], [], h)) (c2 := (8, [some (.inr (.inr (.inr (11, 0, 83)))), some (.inr (.inl (x))), none], [], h)) (by decide) rfl ?_
    refine Ev.sts 2 (c' := (20, [some (.inr (.inr (.inr (11, 0, 83)))), some (.inr (.inl (x))), none], [.inr (.inr (.inr (11, 0, 83))), .inr (.inr (.inr (11, 0, 83)))], h)) rfl ?_
    refine Ev.gv (w := (iZ (p))) rfl (qm_7 q0) ?_
    refine Ev.sts 1 (c' := (24, [some (.inr (.inr (.inr (11, 0, 83)))), some (.inr (.inl (x))), none], [.inl (iZ (1)), .inl (iZ (p)), .inr (.inr (.inr (11, 0, 83)))], h)) rfl ?_
    refine Ev.gv (w := (iZ (p + 1))) rfl (iZ_add _ _) ?_
    refine Ev.sts 1 (c' := (28, [some (.inr (.inr (.inr (11, 0, 83)))), some (.inr (.inl (x))), none], [], (setI h 83 7 ((iZ (p + 1)))))) rfl ?_
    have q2 : QM (setI h 83 7 ((iZ (p + 1)))) T sc (p + 1) N _ := QM_at q0 (show 2 ≤ tK T p by omega)
    have f2 : fR h (setI h 83 7 ((iZ (p + 1)))) := fR_8 (.inl rfl)
    have z2 := qm_p q2
    generalize (setI h 83 7 ((iZ (p + 1)))) = h2 at q2 f2 ⊢
    refine Ev.sts 1 (c' := (29, [some (.inr (.inr (.inr (11, 0, 83)))), some (.inr (.inl (x))), none], [.inl (iZ (1))], h2)) rfl ?_
    exact Ev.ret rfl (k1 (by assumption) _ q2 (fR_t (fR_r h) f2))
  · refine Ev.brF (p := ¬ (iZ (0)) = (iZ (0))) (c1 := (18, [some (.inr (.inr (.inr (11, 0, 83)))), some (.inr (.inl (x))), none], [], h)) (c2 := (8, [some (.inr (.inr (.inr (11, 0, 83)))), some (.inr (.inl (x))), none], [], h)) (by decide) rfl ?_
    refine Ev.sts 3 (c' := (11, [some (.inr (.inr (.inr (11, 0, 83)))), some (.inr (.inl (x))), none], [.inr (.inr (.inr (11, 0, 83))), .inl (iZ (1)), .inr (.inr (.inr (11, 0, 83)))], h)) rfl ?_
    refine Ev.gv (w := (iZ (p))) rfl (qm_7 q0) ?_
    refine Ev.callv (a := [.inr (.inr (.inr (11, 0, 83))), .inl (iZ (1)), .inl (iZ (p))]) rfl (mf_fault (yn := p) (qm_sh q0) (qm_tk q0) (by omega) (by have := qm_p q0; omega) l1) ?_
    exact Ev.ret rfl (k0 (by assumption) _ ⟨(setI_ne (by decide)).trans (setI_self _ _ _ _), setI_self _ _ _ _⟩ (fR_t (fR_r h) (fR_t (fR_8 (k := 9) (by omega)) (fR_8 (k := 10) (by omega)))))

theorem mf_ifSign {d sc p K : Nat} {T : List Tok} {N : List (Int × Int)} {W : List Int} {h : PH} {c : Int} {Q : Rs → PH → Prop} (q0 : QM h T sc p N W) (hK : 26 ≤ K ∧ K ≤ 37) (hc : c = (txts.getD K []).getD 0 0) (k1 : tK T p = K → ∀ h1, QM h1 T sc (p + 1) N W → fR h h1 → Q (.inl (some (.inl (iZ 1)))) h1) (k0 : ¬ tK T p = K → Q (.inl (some (.inl (iZ 0)))) h) : Rn (d + 1) 188 [.inr (.inr (.inr (11, 0, 83))), .inl (iZ (c))] h Q := by
  have sh := qm_sh q0
  have w0 := qm_w q0
  have p0 := qm_p q0
  have t0 := qm_tk q0
  have l1 := w0.2.1
  have s1 := qm_s q0
  have tb0 := tBk w0 p
  have sb0 := sr_b (tK T p)
  refine Ev.sts 2 (c' := (2, [some (.inr (.inr (.inr (11, 0, 83)))), some (.inl (iZ (c)))], [.inl (iZ (c)), .inr (.inr (.inr (11, 0, 83)))], h)) rfl ?_
  refine Ev.callw (a := [.inr (.inr (.inr (11, 0, 83))), .inl (iZ (c))]) rfl (mf_isSign q0 hK hc (fun ky1 => ?_) (fun ky1 => ?_))
  · refine Ev.brT (p := ¬ (iZ (1)) = (iZ (0))) (c1 := (10, [some (.inr (.inr (.inr (11, 0, 83)))), some (.inl (iZ (c)))], [], h)) (c2 := (8, [some (.inr (.inr (.inr (11, 0, 83)))), some (.inl (iZ (c)))], [], h)) (by decide) rfl ?_
    refine Ev.sts 2 (c' := (12, [some (.inr (.inr (.inr (11, 0, 83)))), some (.inl (iZ (c)))], [.inr (.inr (.inr (11, 0, 83))), .inr (.inr (.inr (11, 0, 83)))], h)) rfl ?_
    refine Ev.gv (w := (iZ (p))) rfl (qm_7 q0) ?_
    refine Ev.sts 1 (c' := (16, [some (.inr (.inr (.inr (11, 0, 83)))), some (.inl (iZ (c)))], [.inl (iZ (1)), .inl (iZ (p)), .inr (.inr (.inr (11, 0, 83)))], h)) rfl ?_
    refine Ev.gv (w := (iZ (p + 1))) rfl (iZ_add _ _) ?_
    refine Ev.sts 1 (c' := (20, [some (.inr (.inr (.inr (11, 0, 83)))), some (.inl (iZ (c)))], [], (setI h 83 7 ((iZ (p + 1)))))) rfl ?_
    have q2 : QM (setI h 83 7 ((iZ (p + 1)))) T sc (p + 1) N _ := QM_at q0 (show 2 ≤ tK T p by omega)
    have f2 : fR h (setI h 83 7 ((iZ (p + 1)))) := fR_8 (.inl rfl)
    have z2 := qm_p q2
    generalize (setI h 83 7 ((iZ (p + 1)))) = h2 at q2 f2 ⊢
    refine Ev.sts 1 (c' := (21, [some (.inr (.inr (.inr (11, 0, 83)))), some (.inl (iZ (c)))], [.inl (iZ (1))], h2)) rfl ?_
    exact Ev.ret rfl (k1 (by assumption) _ q2 (fR_t (fR_r h) f2))
  · refine Ev.brF (p := ¬ (iZ (0)) = (iZ (0))) (c1 := (10, [some (.inr (.inr (.inr (11, 0, 83)))), some (.inl (iZ (c)))], [], h)) (c2 := (8, [some (.inr (.inr (.inr (11, 0, 83)))), some (.inl (iZ (c)))], [], h)) (by decide) rfl ?_
    refine Ev.sts 1 (c' := (9, [some (.inr (.inr (.inr (11, 0, 83)))), some (.inl (iZ (c)))], [.inl (iZ (0))], h)) rfl ?_
    exact Ev.ret rfl (k0 (by assumption))

theorem mf_sign {d sc p K : Nat} {T : List Tok} {N : List (Int × Int)} {W : List Int} {h : PH} {c : Int} {Q : Rs → PH → Prop} (q0 : QM h T sc p N W) (hK : 26 ≤ K ∧ K ≤ 37) (hc : c = (txts.getD K []).getD 0 0) (k1 : tK T p = K → ∀ h1, QM h1 T sc (p + 1) N W → fR h h1 → Q (.inl (some (.inl (iZ 1)))) h1) (k0 : ¬ tK T p = K → ∀ h1, erM h1 T 1 p → fR h h1 → Q (.inl (some (.inl (iZ 0)))) h1) : Rn (d + 1) 190 [.inr (.inr (.inr (11, 0, 83))), .inl (iZ (c))] h Q := by
  have sh := qm_sh q0
  have w0 := qm_w q0
  have p0 := qm_p q0
  have t0 := qm_tk q0
  have l1 := w0.2.1
  have s1 := qm_s q0
  have tb0 := tBk w0 p
  have sb0 := sr_b (tK T p)
  refine Ev.sts 2 (c' := (2, [some (.inr (.inr (.inr (11, 0, 83)))), some (.inl (iZ (c)))], [.inl (iZ (c)), .inr (.inr (.inr (11, 0, 83)))], h)) rfl ?_
  refine Ev.callw (a := [.inr (.inr (.inr (11, 0, 83))), .inl (iZ (c))]) rfl (mf_isSign q0 hK hc (fun ky1 => ?_) (fun ky1 => ?_))
  · refine Ev.brT (p := ¬ (iZ (1)) = (iZ (0))) (c1 := (18, [some (.inr (.inr (.inr (11, 0, 83)))), some (.inl (iZ (c)))], [], h)) (c2 := (8, [some (.inr (.inr (.inr (11, 0, 83)))), some (.inl (iZ (c)))], [], h)) (by decide) rfl ?_
    refine Ev.sts 2 (c' := (20, [some (.inr (.inr (.inr (11, 0, 83)))), some (.inl (iZ (c)))], [.inr (.inr (.inr (11, 0, 83))), .inr (.inr (.inr (11, 0, 83)))], h)) rfl ?_
    refine Ev.gv (w := (iZ (p))) rfl (qm_7 q0) ?_
    refine Ev.sts 1 (c' := (24, [some (.inr (.inr (.inr (11, 0, 83)))), some (.inl (iZ (c)))], [.inl (iZ (1)), .inl (iZ (p)), .inr (.inr (.inr (11, 0, 83)))], h)) rfl ?_
    refine Ev.gv (w := (iZ (p + 1))) rfl (iZ_add _ _) ?_
    refine Ev.sts 1 (c' := (28, [some (.inr (.inr (.inr (11, 0, 83)))), some (.inl (iZ (c)))], [], (setI h 83 7 ((iZ (p + 1)))))) rfl ?_
    have q2 : QM (setI h 83 7 ((iZ (p + 1)))) T sc (p + 1) N _ := QM_at q0 (show 2 ≤ tK T p by omega)
    have f2 : fR h (setI h 83 7 ((iZ (p + 1)))) := fR_8 (.inl rfl)
    have z2 := qm_p q2
    generalize (setI h 83 7 ((iZ (p + 1)))) = h2 at q2 f2 ⊢
    refine Ev.sts 1 (c' := (29, [some (.inr (.inr (.inr (11, 0, 83)))), some (.inl (iZ (c)))], [.inl (iZ (1))], h2)) rfl ?_
    exact Ev.ret rfl (k1 (by assumption) _ q2 (fR_t (fR_r h) f2))
  · refine Ev.brF (p := ¬ (iZ (0)) = (iZ (0))) (c1 := (18, [some (.inr (.inr (.inr (11, 0, 83)))), some (.inl (iZ (c)))], [], h)) (c2 := (8, [some (.inr (.inr (.inr (11, 0, 83)))), some (.inl (iZ (c)))], [], h)) (by decide) rfl ?_
    refine Ev.sts 3 (c' := (11, [some (.inr (.inr (.inr (11, 0, 83)))), some (.inl (iZ (c)))], [.inr (.inr (.inr (11, 0, 83))), .inl (iZ (1)), .inr (.inr (.inr (11, 0, 83)))], h)) rfl ?_
    refine Ev.gv (w := (iZ (p))) rfl (qm_7 q0) ?_
    refine Ev.callv (a := [.inr (.inr (.inr (11, 0, 83))), .inl (iZ (1)), .inl (iZ (p))]) rfl (mf_fault (yn := p) (qm_sh q0) (qm_tk q0) (by omega) (by have := qm_p q0; omega) l1) ?_
    exact Ev.ret rfl (k0 (by assumption) _ ⟨(setI_ne (by decide)).trans (setI_self _ _ _ _), setI_self _ _ _ _⟩ (fR_t (fR_r h) (fR_t (fR_8 (k := 9) (by omega)) (fR_8 (k := 10) (by omega)))))

