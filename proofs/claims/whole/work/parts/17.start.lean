/-! The start: the constants' record at the law's entry, out of what the tables and the Statement say. -/
noncomputable def nar : List Cond := flatC (Jvm.Cond.and given_1 narrow_1)
noncomputable def np (p : Nat) (w : Cond) : Bool := decide (nar[p]? = some w)
noncomputable def wq (i : Nat) (w : Cond) : Bool := decide ((sub (i / 1000))[i % 1000]? = some w)
theorem np_ok {p : Nat} {w : Cond} (h : np p w = true) : w ∈ nar := List.mem_of_getElem? (of_decide_eq_true h)
noncomputable def stO : List (String × Nat) := [("CommaStream$Kind", 142), ("CommaStream$Kind", 151), ("CommaStream$Kind", 154), ("CommaStream$Kind", 157), ("CommaStream$Kind", 160), ("CommaStream$Kind", 163), ("CommaStream$Kind", 166), ("CommaStream$Kind", 169), ("CommaStream$Kind", 172), ("CommaStream$Kind", 175), ("CommaStream$Kind", 178), ("CommaStream$Kind", 181), ("CommaStream$Kind", 184), ("CommaStream$Kind", 187), ("CommaStream$Kind", 190), ("CommaStream$Kind", 193), ("CommaStream$Kind", 196), ("CommaStream$Kind", 199), ("CommaStream$Kind", 202), ("CommaStream$Kind", 205), ("CommaStream$Kind", 208), ("CommaStream$Kind", 211), ("CommaStream$Kind", 214), ("CommaStream$Kind", 217), ("CommaStream$Kind", 220), ("CommaStream$Kind", 223), ("CommaStream$Kind", 226), ("CommaStream$Kind", 229), ("CommaStream$Kind", 232), ("CommaStream$Kind", 235), ("CommaStream$Kind", 238), ("CommaStream$Kind", 241), ("CommaStream$Kind", 244), ("CommaStream$Kind", 247), ("CommaStream$Kind", 250), ("CommaStreamModel", 24), ("CommaStreamModel", 30), ("CommaStreamModel", 32), ("CommaStreamModel", 34), ("CommaStreamModel", 138)]
noncomputable def sT (k : Nat) : Term := .string (stO.getD k ("", 0)).1 (stO.getD k ("", 0)).2
noncomputable def sV (k : Nat) : Term := .field (sT k) "java/lang/String" "value" "[B"
noncomputable def sP : List (Nat × Nat × Nat × Nat × List Nat) := [(672, 674, 675, 673, []), (676, 678, 679, 677, [680, 681, 682, 683]), (689, 691, 692, 690, [693, 694, 695, 696, 697]), (698, 700, 701, 699, [702, 703, 704, 705, 706]), (724, 726, 727, 725, [728, 729]), (707, 709, 710, 708, [711, 712, 713]), (808, 810, 811, 809, [812, 813, 814]), (815, 817, 818, 816, [819, 820]), (740, 742, 743, 741, [744, 745, 746, 747]), (749, 751, 752, 750, [753, 754, 755, 756]), (758, 760, 761, 759, [762, 763, 764, 765, 766, 767]), (769, 771, 772, 770, [773, 774, 775, 776]), (821, 823, 824, 822, [825, 826, 827, 828, 829]), (830, 832, 833, 831, [834, 835]), (843, 845, 846, 844, [847, 848, 849, 850, 851]), (852, 854, 855, 853, [856, 857, 858, 859]), (836, 838, 839, 837, [840, 841, 842]), (860, 862, 863, 861, [864, 865, 866, 867, 868]), (658, 660, 661, 659, [662, 663, 664, 665, 666]), (869, 871, 872, 870, [873, 874, 875]), (876, 878, 879, 877, [880, 881, 882, 883]), (884, 886, 887, 885, [888, 889, 890, 891, 892]), (893, 895, 896, 894, [897, 898]), (730, 732, 733, 731, [734]), (735, 737, 738, 736, [739]), (714, 716, 717, 715, [718]), (719, 721, 722, 720, [723]), (667, 669, 670, 668, [671]), (684, 686, 687, 685, [688]), (793, 795, 796, 794, [797]), (798, 800, 801, 799, [802]), (803, 805, 806, 804, [807]), (783, 785, 786, 784, [787]), (788, 790, 791, 789, [792]), (778, 780, 781, 779, [782]), (608, 610, 611, 609, [612, 613, 614, 615]), (616, 618, 619, 617, [620, 621, 622, 623]), (624, 626, 627, 625, [628, 629, 630, 631, 632, 633]), (634, 636, 637, 635, [638, 639, 640, 641]), (642, 644, 645, 643, [646, 647, 648, 649, 650, 651, 652, 653, 654, 655, 656, 657])]
noncomputable def eP : List (Nat × Nat × Nat × Nat × Nat × Nat) := [(10, 11, 12, 24, 171, 2142), (13, 14, 15, 25, 172, 2144), (67, 68, 69, 26, 173, 2231), (16, 17, 18, 27, 174, 2174), (70, 71, 72, 28, 175, 3009), (76, 77, 78, 29, 176, 3044), (79, 80, 81, 30, 177, 3066), (91, 92, 93, 31, 178, 3090), (82, 83, 84, 32, 179, 3080), (130, 131, 132, 33, 180, 3146), (133, 134, 135, 34, 181, 3148), (100, 101, 102, 35, 182, 3123), (103, 104, 105, 36, 183, 3125), (106, 107, 108, 37, 184, 3127), (109, 110, 111, 38, 185, 3129), (136, 137, 138, 39, 186, 3154), (139, 140, 141, 40, 187, 3160), (145, 146, 147, 41, 188, 3168), (148, 149, 150, 42, 189, 3170), (142, 143, 144, 43, 190, 3166), (151, 152, 153, 44, 191, 3176), (4, 5, 6, 45, 192, 1102), (154, 155, 156, 46, 193, 3183), (157, 158, 159, 47, 194, 3185), (160, 161, 162, 48, 195, 3187), (163, 164, 165, 49, 196, 3189), (94, 95, 96, 50, 197, 3116), (97, 98, 99, 51, 198, 3118), (85, 86, 87, 52, 199, 3086), (88, 89, 90, 53, 200, 3088), (7, 8, 9, 54, 201, 2140), (73, 74, 75, 55, 202, 3032), (121, 122, 123, 56, 203, 3140), (124, 125, 126, 57, 204, 3142), (127, 128, 129, 58, 205, 3144), (115, 116, 117, 59, 206, 3133), (118, 119, 120, 60, 207, 3135), (112, 113, 114, 61, 208, 3131)]
noncomputable def kP : List (Nat × Nat) := [(209, 7048), (210, 7090), (211, 7104), (212, 7106), (213, 7108), (214, 7110), (215, 7112), (216, 7114), (217, 7116), (218, 7118), (219, 7120), (220, 7122), (221, 7124), (222, 7126), (223, 7128), (224, 7130), (225, 7132), (226, 7134)]
noncomputable def mP : List (Nat × Nat) := [(317, 4154), (343, 4204), (369, 4230), (401, 5015), (429, 5049), (459, 5077), (499, 5097), (525, 5098), (552, 5196), (583, 6057)]
noncomputable def lP : List Nat := [6075, 6081, 6082, 6083, 6227]
noncomputable def eT (k : Nat) : Term := .static "CommaStream$Kind" (enL.getD k "") "LCommaStream$Kind;"
noncomputable def aT : Term := .static "CommaStream" "KINDS" "[LCommaStream$Kind;"
noncomputable def wT : Term := .static "CommaStream$1" "$SwitchMap$CommaStream$Kind" "[I"
theorem ns_all : ((List.range 40).all fun k => let q := sP.getD k (0, 0, 0, 0, []); np q.1 (.exactly (sT k) "java/lang/String") && np q.2.1 (.arrayOf (sV k) .byte) && np q.2.2.1 (.eq (.length (sV k)) (.int (Int32.ofNat (slen k)))) && np q.2.2.2.1 (.eq (.field (sT k) "java/lang/String" "coder" "B") (.int 0)) && Nat.blt (slen k) 1000 && (List.range (slen k)).all fun j => np (q.2.2.2.2.getD j 0) (.eq (.elem (sV k) (.int (Int32.ofNat j))) (.int (sbyt k j)))) = true := by decide +kernel
theorem ne_all : ((List.range 38).all fun k => let q := eP.getD k (0, 0, 0, 0, 0, 0); np q.1 (.exactly (eT k) "CommaStream$Kind") && np q.2.1 (.eq (.field (eT k) "java/lang/Enum" "ordinal" "I") (.int (Int32.ofNat k))) && np q.2.2.1 (.eq (.field (eT k) "CommaStream$Kind" "text" "Ljava/lang/String;") (sT (tid k))) && np q.2.2.2.1 (.eq (.elem aT (.int (Int32.ofNat k))) (eT k)) && np q.2.2.2.2.1 (.eq (.elem wT (.int (Int32.ofNat k))) (.int (swmL.getD k 0))) && wq q.2.2.2.2.2 (.laysStatic "CommaStream$Kind" (enL.getD k "") "LCommaStream$Kind;")) = true := by decide +kernel
theorem nk_all : ((List.range 18).all fun k => let q := klL.getD k ("", 0); np (kP.getD k (0, 0)).1 (.eq (.static "CommaStreamModel" q.1 "J") (.long q.2)) && wq (kP.getD k (0, 0)).2 (.laysStatic "CommaStreamModel" q.1 "J")) = true := by decide +kernel
theorem nm_all2 : ((List.range 10).all fun k => let q := msL.getD k (0, ""); np (mP.getD k (0, 0)).1 (.exactly (.string "CommaStream" q.1) "java/lang/String") && wq (mP.getD k (0, 0)).2 (.stringRef "CommaStream" q.1 q.2)) = true := by decide +kernel
theorem nl_all : ((List.range 5).all fun k => let q := lsL.getD k (0, "", 0); Nat.blt q.2.2 40 && decide (sT q.2.2 = .string "CommaStreamModel" q.1) && wq (lP.getD k 0) (.stringRef "CommaStreamModel" q.1 q.2.1)) = true := by decide +kernel
theorem nz_all : (np 21 (.arrayOf aT (.object "CommaStream$Kind")) && np 22 (.eq (.length aT) (.int 38)) && wq 2176 (.laysStatic "CommaStream" "KINDS" "[LCommaStream$Kind;") && np 169 (.arrayOf wT .int) && np 170 (.eq (.length wT) (.int 38)) && wq 5117 (.laysStatic "CommaStream$1" "$SwitchMap$CommaStream$Kind" "[I") && np 62 (.eq (.static "java/lang/String" "COMPACT_STRINGS" "Z") (.int 1)) && wq 2190 (.laysStatic "java/lang/String" "COMPACT_STRINGS" "Z") && np 63 (.isRef (.static "jdk/internal/util/Preconditions" "SIOOBE_FORMATTER" "Ljava/util/function/BiFunction;")) && wq 2207 (.laysStatic "jdk/internal/util/Preconditions" "SIOOBE_FORMATTER" "Ljava/util/function/BiFunction;") && np 166 (.isRef (.static Bundle.tN "UNASSIGNED_STACK" Bundle.steD)) && wq 4140 (.laysStatic Bundle.tN "UNASSIGNED_STACK" Bundle.steD) && np 167 (.isRef (.static Bundle.tN "SUPPRESSED_SENTINEL" Bundle.listD)) && wq 4142 (.laysStatic Bundle.tN "SUPPRESSED_SENTINEL" Bundle.listD) && np 253 (.not (.castable "java/lang/IllegalStateException" "java/lang/IllegalArgumentException")) && np 268 (.not (.castable "java/lang/IllegalArgumentException" "java/lang/IndexOutOfBoundsException"))) = true := by decide +kernel
theorem nj_all : (wq 1007 (.initialized "CommaStream$Kind") && wq 1001 (.initialized "CommaStream") && wq 1026 (.initialized "CommaStream$1") && wq 1013 (.initialized "CommaStreamModel") && wq 1014 (.initialized "java/lang/String") && wq 1016 (.initialized "jdk/internal/util/Preconditions") && wq 1018 (.initialized Bundle.tN) && wq 1067 (.arrayOver (.object "CommaStream$Kind")) && wq 1142 (.arrayOver (.object "CommaStream$Goose")) && wq 2022 (.arrayOver (.object "CommaStream$Windows")) && wq 1093 (.arrayClass .int) && wq 1094 (.arrayClass .long) && wq 1065 (.arrayClass .byte)) = true := by decide +kernel
theorem nn_all : enL.length = 38 ∧ msL.length = 10 ∧ lsL.length = 5 ∧ klL.length = 18 ∧ ((List.range 38).all fun k => decide (((List.range 38).map Int32.ofNat).getD k 0 = Int32.ofNat k)) = true := by decide +kernel
section START
variable {args : Array Value} {s : State} {A : Nat → Prop}
theorem arr_prim {ty : FieldType} (h : (Cond.arrayClass ty).before args s = true) (hp : ty = .int ∨ ty = .long ∨ ty = .byte) : ∃ cA, ArrOfT s cA ty ∧ va_RA s cA ty := by
  obtain ⟨cA, k, comp, h1, h2, h3⟩ := Cond.arrayClass_spec h
  refine ⟨cA, fun n z => ⟨(fun k h => by cases h), k, h2, comp, h3⟩, ?_⟩
  rcases hp with rfl | rfl | rfl <;> exact h1
theorem arr_obj {C : String} (h : (Cond.arrayOver (.object C)).before args s = true) : ∃ cA, ArrOfT s cA (.object C) ∧ va_RA s cA (.object C) := by
  obtain ⟨comp, cA, k, f1, -, f2, f3, f4⟩ := Cond.arrayOver_spec h
  exact ⟨cA, fun n z => ⟨(fun k h => by cases h), k, f2, comp, f3⟩, k, comp, f2, f3, f1, f4⟩
theorem OF_eval {t : Term} {a : Nat} {o n d : String} {v : Value} (ht : t.eval args s none [] s = some (.ref a)) (hv : (Term.field t o n d).eval args s none [] s = some v) (hA : ∀ a : Nat, a < s.heap.size → ¬ A a) : va_OF o n d v a A s s.heap := by
  cases hfo : s.fieldFound? o n d with
  | none =>
    rw [va_fe ht] at hv
    simp [State.fieldOf?, State.fieldNamed?, hfo] at hv
  | some x =>
    obtain ⟨cf, k, fi, f⟩ := x
    obtain ⟨g1, cB, g2, g3, -, -, g6⟩ := Term.field_spec hfo ht hv
    exact ⟨cf, k, fi, f, cB, hfo, g1, g2, g3, g6, hA _ (Array.getElem?_eq_some_iff.mp g2).1⟩
theorem OF_ne {o n d : String} {v w : Value} {a : Nat} {H : Heap} (h1 : va_OF o n d v a A s H) (h2 : va_OF o n d w a A s H) : v = w := by
  obtain ⟨cf, k, fi, f, cB, a1, a2, a3, a4, a5, -⟩ := h1
  obtain ⟨cf', k', fi', f', cB', b1, b2, b3, b4, b5, -⟩ := h2
  cases a1.symm.trans b1
  cases a3.symm.trans b3
  exact Option.some.inj (a5.symm.trans b5)
theorem ref_ex {t : Term} {E : String} (h : (Cond.exactly t E).before args s = true) : ∃ a : Nat, t.eval args s none [] s = some (.ref a) := by
  obtain ⟨a, c, cB, k, q1, -⟩ := Cond.exactly_spec (args := args) (first := s) (o := none) (s := s) (idx := []) (t := t) (cls := E) h
  exact ⟨a, q1⟩
theorem start_K (wl : ∀ w ∈ lw_tbl, w.before args s = true) (hg : (Jvm.Cond.and given_1 narrow_1).before args s = true) {b L : Nat} {xs : Nat → Int32} (hX : va_X b L xs s s.heap) (hb : b < s.heap.size) (hA : ∀ a : Nat, a < s.heap.size → ¬ A a) : ∃ K : KT, pm_ko K ∧ kx K = b ∧ kl K = L ∧ ks K = xs ∧ pm_C K A s s.heap := by
  have hn : ∀ {p : Nat} {w : Cond}, np p w = true → w.before args s = true := fun h => flat_of_before _ hg _ (np_ok h)
  have w2 : ∀ {p : Nat} {w : Cond}, wt p w = true → w.before args s = true := fun h => wl _ (List.mem_filter.mp (wt_ok h)).1
  have ww : ∀ {p : Nat} {w : Cond}, wq p w = true → w.before args s = true := fun h => wl _ (sub_lw _ _ (List.mem_of_getElem? (of_decide_eq_true h)))
  have hz := nz_all
  have hj := nj_all
  simp only [Bool.and_eq_true] at hz hj
  obtain ⟨⟨⟨⟨⟨⟨⟨⟨⟨⟨⟨⟨⟨⟨⟨z1, z2⟩, z3⟩, z4⟩, z5⟩, z6⟩, z7⟩, z8⟩, z9⟩, z10⟩, z11⟩, z12⟩, z13⟩, z14⟩, z15⟩, z16⟩ := hz
  obtain ⟨⟨⟨⟨⟨⟨⟨⟨⟨⟨⟨⟨j1, j2⟩, j3⟩, j4⟩, j5⟩, j6⟩, j7⟩, j8⟩, j9⟩, j10⟩, j11⟩, j12⟩, j13⟩ := hj
  obtain ⟨l1, l2, l3, l4, l5⟩ := nn_all
  -- the classes
  have hD : ∃ D : va_G, ∀ (c : Nat) (q : vw_C), pm_cl[c]? = some q → u_Kn s q.1 q.2.1 q.2.2 (D.1 c) (D.2 c) := by
    have h0 : ∀ c : Nat, ∃ x : ClassId × (Nat → Nat), ∀ q : vw_C, pm_cl[c]? = some q → u_Kn s q.1 q.2.1 q.2.2 x.1 x.2 := by
      intro c
      by_cases hc : c < 11
      · have h1 := cl_at (ty := c + 1) (by omega) (by omega)
        rw [Nat.add_sub_cancel] at h1
        have h2 := all_at ni_all hc
        rw [Bool.and_eq_true] at h2
        obtain ⟨cC, iS, h3⟩ := u_known (ws := TBL) (fun w hw => wl w (List.mem_filter.mp hw).1) (uw_ok (ty := c + 1) (by omega) (by omega)) (w2 h2.2)
        refine ⟨(cC, iS), fun q hq => ?_⟩
        rw [h1] at hq
        cases hq
        exact h3
      · refine ⟨(0, fun _ => 0), fun q hq => ?_⟩
        have := (List.getElem?_eq_some_iff.mp hq).1
        unfold pm_cl at this
        rw [List.length_map, List.length_range] at this
        omega
    obtain ⟨f, hf⟩ := Classical.axiomOfChoice h0
    exact ⟨(fun c => (f c).1, fun c => (f c).2), hf⟩
  obtain ⟨D, hD⟩ := hD
  obtain ⟨a20, r20⟩ := arr_prim (ww j11) (Or.inl rfl)
  obtain ⟨a21, r21⟩ := arr_prim (ww j12) (Or.inr (Or.inl rfl))
  obtain ⟨a22, r22⟩ := arr_prim (ww j13) (Or.inr (Or.inr rfl))
  obtain ⟨a23, r23⟩ := arr_obj (ww j8)
  obtain ⟨a24, r24⟩ := arr_obj (ww j9)
  obtain ⟨a25, r25⟩ := arr_obj (ww j10)
  -- the texts
  have hS0 : ∀ k : Nat, ∃ a : Nat, k < 40 → (sT k).eval args s none [] s = some (.ref a) := by
    intro k
    by_cases hk : k < 40
    · have h1 := all_at ns_all hk
      dsimp only at h1
      simp only [Bool.and_eq_true] at h1
      obtain ⟨a, ha⟩ := ref_ex (hn h1.1.1.1.1.1)
      exact ⟨a, fun _ => ha⟩
    · exact ⟨0, fun h => absurd h hk⟩
  obtain ⟨fS, hS⟩ := Classical.axiomOfChoice hS0
  have hB0 : ∀ k : Nat, ∃ a : Nat, k < 40 → (sV k).eval args s none [] s = some (.ref a) ∧ va_T .byte a (slen k) (fun j => .int (sbyt k j)) A s s.heap := by
    intro k
    by_cases hk : k < 40
    · have h1 := all_at ns_all hk
      dsimp only at h1
      simp only [Bool.and_eq_true] at h1
      obtain ⟨⟨⟨⟨⟨s1, s2⟩, s3⟩, s4⟩, s5⟩, s6⟩ := h1
      have h5 := Nat.blt_eq.mp s5
      obtain ⟨t, ht1, ht2⟩ := va_Tof (N := slen k) (f := fun j => .int (sbyt k j)) (by omega) (hn s2) (va_eqt (hn s3)) (fun j hj => va_eqt (hn (all_at s6 hj))) hA
      exact ⟨t, fun _ => ⟨ht1, ht2⟩⟩
    · exact ⟨0, fun h => absurd h hk⟩
  obtain ⟨fB, hB⟩ := Classical.axiomOfChoice hB0
  -- the enum's constants
  have hE0 : ∀ k : Nat, ∃ a : Nat, k < 38 → (eT k).eval args s none [] s = some (.ref a) := by
    intro k
    by_cases hk : k < 38
    · have h1 := all_at ne_all hk
      dsimp only at h1
      simp only [Bool.and_eq_true] at h1
      obtain ⟨a, ha⟩ := ref_ex (hn h1.1.1.1.1.1)
      exact ⟨a, fun _ => ha⟩
    · exact ⟨0, fun h => absurd h hk⟩
  obtain ⟨fE, hE⟩ := Classical.axiomOfChoice hE0
  have eall : ∀ k, k < 38 → np (eP.getD k (0, 0, 0, 0, 0, 0)).1 (.exactly (eT k) "CommaStream$Kind") = true ∧ np (eP.getD k (0, 0, 0, 0, 0, 0)).2.1 (.eq (.field (eT k) "java/lang/Enum" "ordinal" "I") (.int (Int32.ofNat k))) = true ∧ np (eP.getD k (0, 0, 0, 0, 0, 0)).2.2.1 (.eq (.field (eT k) "CommaStream$Kind" "text" "Ljava/lang/String;") (sT (tid k))) = true ∧ np (eP.getD k (0, 0, 0, 0, 0, 0)).2.2.2.1 (.eq (.elem aT (.int (Int32.ofNat k))) (eT k)) = true ∧ np (eP.getD k (0, 0, 0, 0, 0, 0)).2.2.2.2.1 (.eq (.elem wT (.int (Int32.ofNat k))) (.int (swmL.getD k 0))) = true ∧ wq (eP.getD k (0, 0, 0, 0, 0, 0)).2.2.2.2.2 (.laysStatic "CommaStream$Kind" (enL.getD k "") "LCommaStream$Kind;") = true := by
    intro k hk
    have h1 := all_at ne_all hk
    dsimp only at h1
    simp only [Bool.and_eq_true] at h1
    obtain ⟨⟨⟨⟨⟨e1, e2⟩, e3⟩, e4⟩, e5⟩, e6⟩ := h1
    exact ⟨e1, e2, e3, e4, e5, e6⟩
  have hord : ∀ k, k < 38 → va_OF "java/lang/Enum" "ordinal" "I" (.int (Int32.ofNat k)) (fE k) A s s.heap := fun k hk => OF_eval (hE k hk) (va_eqt (hn (eall k hk).2.1)) hA
  obtain ⟨tk, hk1, hk2⟩ := va_Tof (N := 38) (f := fun j => .ref (fE j)) (by omega) (hn z1) (va_eqt (hn z2)) (fun j hj => va_eqv (hn (eall j hj).2.2.2.1) (hE j hj)) hA
  obtain ⟨tw, hw1, hw2⟩ := va_Tof (N := 38) (f := fun j => .int (swmL.getD j 0)) (by omega) (hn z4) (va_eqt (hn z5)) (fun j hj => va_eqt (hn (eall j hj).2.2.2.2.1)) hA
  have hF := hn z9
  have hF2 : ∃ v : Value, (v = .null ∨ ∃ a, v = .ref a) ∧ va_Z "jdk/internal/util/Preconditions" "SIOOBE_FORMATTER" "Ljava/util/function/BiFunction;" v A s s.heap := by
    rcases va_Zqof (ww z10) (ww j6) hF hA with h | ⟨t, h⟩
    · exact ⟨_, Or.inl rfl, h⟩
    · exact ⟨_, Or.inr ⟨t, rfl⟩, h⟩
  obtain ⟨vo, ho1, ho2⟩ := hF2
  refine ⟨(D, fun k => if k = 20 then a20 else if k = 21 then a21 else if k = 22 then a22 else if k = 23 then a23 else if k = 24 then a24 else a25, fE, fS, fB, tk, tw, b, vo, L, xs), ho1, rfl, rfl, rfl, ?_⟩
  refine ⟨⟨hD, ?_⟩, ⟨fun i hi => ?_, fun i j hi hj hij => ?_⟩, fun i hi => ?_, fun i hi => ?_, va_Zof (ww z3) (ww j2) hk1 hA, hk2, va_Zof (ww z6) (ww j3) hw1 hA, hw2, fun q hq => ?_, va_Zof (ww z8) (ww j5) (va_eqt (hn z7)) hA, ho2, vx_Zqof (ww z12) (ww j7) (hn z11) hA, vx_Zqof (ww z14) (ww j7) (hn z13) hA, ⟨hX, hb, hA b hb⟩, fun q hq => ?_, fun q hq => ?_, fun w hw => ?_, va_AO.of (ww j8), va_AO.of (ww j9), va_AO.of (ww j10), va_Nc.of (hn z15), va_Nc.of (hn z16)⟩
  · intro k q hq
    unfold pm_tys at hq
    match k, hq with
    | 0, hq => cases hq; exact r20
    | 1, hq => cases hq; exact r21
    | 2, hq => cases hq; exact r22
    | 3, hq => cases hq; exact r23
    | 4, hq => cases hq; exact r24
    | 5, hq => cases hq; exact r25
  · have hi : i < 38 := by rw [l1] at hi; exact hi
    obtain ⟨e1, e2, e3, e4, e5, e6⟩ := eall i hi
    refine ⟨va_Zref (ww e6) (ww j1) (hE i hi) hA, va_Oof (hn e1) (hE i hi) hA, fun q hq => ?_⟩
    unfold ordF at hq
    rw [List.mem_singleton] at hq
    subst hq
    dsimp only
    rw [of_decide_eq_true (all_at l5 hi)]
    exact hord i hi
  · have hi : i < 38 := by rw [l1] at hi; exact hi
    have hj : j < 38 := by rw [l1] at hj; exact hj
    have hij : fE i = fE j := hij
    have h1 := hord i hi
    rw [hij] at h1
    have h2 := OF_ne h1 (hord j hj)
    injection h2 with h2
    have h3 := congrArg Int32.toInt h2
    rw [Int32.toInt_ofNat_of_lt (by omega), Int32.toInt_ofNat_of_lt (by omega)] at h3
    omega
  · exact OF_eval (hE i hi) (va_eqv (hn (eall i hi).2.2.1) (hS _ (tid_lt i hi))) hA
  · have h1 := all_at ns_all hi
    dsimp only at h1
    simp only [Bool.and_eq_true] at h1
    obtain ⟨⟨⟨⟨⟨s1, s2⟩, s3⟩, s4⟩, s5⟩, s6⟩ := h1
    exact ⟨va_Oof (hn s1) (hS i hi) hA, OF_eval (hS i hi) (va_eqt (hn s4)) hA, OF_eval (hS i hi) (hB i hi).1 hA, (hB i hi).2⟩
  · obtain ⟨i, hi⟩ := List.getElem?_of_mem hq
    have hlt := (List.getElem?_eq_some_iff.mp hi).1
    rw [l4] at hlt
    have h1 := all_at nk_all hlt
    dsimp only at h1
    have h9 : klL.getD i ("", 0) = q := by rw [List.getD_eq_getElem?_getD, hi]; rfl
    rw [h9, Bool.and_eq_true] at h1
    exact va_Zof (ww h1.2) (ww j4) (va_eqtl (hn h1.1)) hA
  · obtain ⟨i, hi⟩ := List.getElem?_of_mem hq
    have hlt := (List.getElem?_eq_some_iff.mp hi).1
    rw [l2] at hlt
    have h1 := all_at nm_all2 hlt
    dsimp only at h1
    have h9 : msL.getD i (0, "") = q := by rw [List.getD_eq_getElem?_getD, hi]; rfl
    rw [h9, Bool.and_eq_true] at h1
    obtain ⟨a, ha⟩ := ref_ex (hn h1.1)
    exact ⟨a, vk_R.of (ww h1.2) ha⟩
  · obtain ⟨i, hi⟩ := List.getElem?_of_mem hq
    have hlt := (List.getElem?_eq_some_iff.mp hi).1
    rw [l3] at hlt
    have h1 := all_at nl_all hlt
    dsimp only at h1
    have h9 : lsL.getD i (0, "", 0) = q := by rw [List.getD_eq_getElem?_getD, hi]; rfl
    rw [h9, Bool.and_eq_true, Bool.and_eq_true] at h1
    have h2 := hS q.2.2 (Nat.blt_eq.mp h1.1.1)
    rw [of_decide_eq_true h1.1.2] at h2
    exact vk_R.of (ww h1.2) h2
  · obtain ⟨h1, h2⟩ := List.mem_filter.mp hw
    have h3 : w.before args s = true := wl w (by unfold lw_tbl; exact List.mem_append_right _ h1)
    cases w <;> first | exact va_Nw.of rfl h3 | exact absurd h2 (by simp [pm_nest])
end START
