/-! The texts of the book as tokens. -/
theorem LX_w {tp pre w post : List Int} {ks : List Sg} {g : Sg} (l : LXs tp ks) (t : tk1 w g) (hp : pre = [] ∨ ∃ c, pre = [c] ∧ isBk c = true) (hq : post = [] ∨ ∃ c, post = [c] ∧ isBk c = true) (hj : pre = [] → enN tp = true → alN (w.getD 0 0) = false) : LXs (tp ++ (pre ++ (w ++ post))) (ks ++ [g]) ∧ (post = [] → enN (tp ++ (pre ++ (w ++ post))) = enN w) ∧ (post ≠ [] → enN (tp ++ (pre ++ (w ++ post))) = false) := by
  have wn := tk1_ne t
  have hw : ∀ tp2, LXs tp2 ks → (enN tp2 = true → alN (w.getD 0 0) = false) → LXs (tp2 ++ (w ++ post)) (ks ++ [g]) ∧ (post = [] → enN (tp2 ++ (w ++ post)) = enN w) ∧ (post ≠ [] → enN (tp2 ++ (w ++ post)) = false) := by
    intro tp2 l2 j2
    obtain ⟨a, e⟩ := LXs_tk l2 t j2
    rcases hq with rfl | ⟨c, rfl, hc⟩
    · rw [List.append_nil]
      exact ⟨a, fun _ => e, fun z => absurd rfl z⟩
    · rw [← List.append_assoc]
      obtain ⟨a2, e2⟩ := LXs_bk a hc
      exact ⟨a2, fun z => absurd z (List.cons_ne_nil _ _), fun _ => e2⟩
  rcases hp with rfl | ⟨c, rfl, hc⟩
  · exact hw tp l (hj rfl)
  · have := hw (tp ++ [c]) (LXs_bk l hc).1 (fun z => by rw [(LXs_bk l hc).2] at z; cases z)
    rw [List.append_assoc] at this
    exact this
theorem tk1_sg {c : Int} {k : Nat} (h : (isLt c || isDg c || isBk c) = false ∧ kindS c = k ∧ k ≠ 1) : tk1 [c] (k, 0, 0) := by
  obtain ⟨h1, h2, h3⟩ := h
  rw [Bool.or_eq_false_iff, Bool.or_eq_false_iff] at h1
  exact .inr (.inr ⟨c, rfl, h1.1.1, h1.1.2, h1.2, by rw [h2]; exact h3, by rw [h2]⟩)
theorem tk1_wd {w : List Int} {k : Nat} (h : (∀ c ∈ w, 97 ≤ c ∧ c ≤ 122) ∧ w ≠ [] ∧ w.length ≤ 8 ∧ kindW (enc w) = k ∧ k ≠ 1 ∧ k ≠ 2) : tk1 w (k, 0, 0) := by
  obtain ⟨h1, h2, h3, h4, h5, h6⟩ := h
  exact .inl ⟨h1, h2, h3, by rw [h4]; exact h5, by rw [h4, if_neg h6]⟩
theorem tk1_nm (a : Nat) (ha : a = 102 ∨ a = 103) (i : Nat) (hi : i < 8) : tk1 [(a : Int), 97 + (i : Int)] (2, 0, ((a : Int) - 96) * 32 + 1 + i) ∧ enN [(a : Int), 97 + (i : Int)] = true := by
  have f : ∀ i : Fin 8, kindW (enc [102, 97 + (i.val : Int)]) = 2 ∧ kindW (enc [103, 97 + (i.val : Int)]) = 2 ∧ enc [102, 97 + (i.val : Int)] = 193 + (i.val : Int) ∧ enc [103, 97 + (i.val : Int)] = 225 + (i.val : Int) ∧ enN [102, 97 + (i.val : Int)] = true ∧ enN [103, 97 + (i.val : Int)] = true := by decide +kernel
  obtain ⟨f1, f2, f3, f4, f5, f6⟩ := f ⟨i, hi⟩
  rcases ha with rfl | rfl
  · refine ⟨.inl ⟨fun c hc => ?_, List.cons_ne_nil _ _, (by show 2 ≤ 8; decide), ?_, ?_⟩, f5⟩
    · simp only [List.mem_cons, List.not_mem_nil, or_false] at hc
      omega
    · show kindW (enc [102, 97 + (i : Int)]) ≠ 1; rw [f1]; decide
    · show _ = (kindW (enc [102, 97 + (i : Int)]), (0 : Int), if kindW (enc [102, 97 + (i : Int)]) = 2 then enc [102, 97 + (i : Int)] else 0)
      rw [f1, if_pos rfl, f3]
      show ((2 : Nat), (0 : Int), (102 - 96) * 32 + 1 + (i : Int)) = _
      rw [show ((102 - 96) * 32 + 1 + (i : Int) : Int) = 193 + (i : Int) by omega]
  · refine ⟨.inl ⟨fun c hc => ?_, List.cons_ne_nil _ _, (by show 2 ≤ 8; decide), ?_, ?_⟩, f6⟩
    · simp only [List.mem_cons, List.not_mem_nil, or_false] at hc
      omega
    · show kindW (enc [103, 97 + (i : Int)]) ≠ 1; rw [f2]; decide
    · show _ = (kindW (enc [103, 97 + (i : Int)]), (0 : Int), if kindW (enc [103, 97 + (i : Int)]) = 2 then enc [103, 97 + (i : Int)] else 0)
      rw [f2, if_pos rfl, f4]
      show ((2 : Nat), (0 : Int), (103 - 96) * 32 + 1 + (i : Int)) = _
      rw [show ((103 - 96) * 32 + 1 + (i : Int) : Int) = 225 + (i : Int) by omega]
theorem tk1_dg {n : Int} (h : 0 ≤ n ∧ n ≤ 999) : tk1 (digs n) (3, n, 0) ∧ enN (digs n) = true := by
  have f : ∀ i : Fin 1000, (∀ c ∈ digs (i.val : Int), 48 ≤ c ∧ c ≤ 57) ∧ nbF (digs (i.val : Int)) 0 = (i.val : Int) ∧ enN (digs (i.val : Int)) = true := by decide +kernel
  obtain ⟨f1, f2, f3⟩ := f ⟨n.toNat, by omega⟩
  rw [show ((n.toNat : Nat) : Int) = n by omega] at f1 f2 f3
  have dl := digs_len (n := n)
  exact ⟨.inr (.inl ⟨f1, fun z => by rw [z] at dl; exact absurd dl.1 (by decide), by omega, by rw [f2]⟩), f3⟩
theorem lx_36 {tp : List Int} {ks : List Sg} (l : LXs tp ks) : LXs (tp ++ txC 36) (ks ++ [(26, 0, 0)]) ∧ enN (tp ++ txC 36) = false := by
  rw [show txC 36 = [] ++ ([40] ++ []) by decide +kernel]
  have r := LX_w (pre := []) (w := [40]) (post := []) l (tk1_sg (by decide +kernel) : tk1 _ (26, 0, 0)) (.inl rfl) (.inl rfl) (fun _ _ => rfl)
  exact ⟨r.1, ((r.2.1 rfl).trans rfl)⟩
theorem ll_36 : (txC 36).length ≤ 1 := by decide +kernel
theorem lx_37 {tp : List Int} {ks : List Sg} (l : LXs tp ks) : LXs (tp ++ txC 37) (ks ++ [(27, 0, 0)]) ∧ enN (tp ++ txC 37) = false := by
  rw [show txC 37 = [] ++ ([41] ++ []) by decide +kernel]
  have r := LX_w (pre := []) (w := [41]) (post := []) l (tk1_sg (by decide +kernel) : tk1 _ (27, 0, 0)) (.inl rfl) (.inl rfl) (fun _ _ => rfl)
  exact ⟨r.1, ((r.2.1 rfl).trans rfl)⟩
theorem ll_37 : (txC 37).length ≤ 1 := by decide +kernel
theorem lx_38 {tp : List Int} {ks : List Sg} (l : LXs tp ks) : LXs (tp ++ txC 38) (ks ++ [(37, 0, 0)]) ∧ enN (tp ++ txC 38) = false := by
  rw [show txC 38 = [] ++ ([42] ++ []) by decide +kernel]
  have r := LX_w (pre := []) (w := [42]) (post := []) l (tk1_sg (by decide +kernel) : tk1 _ (37, 0, 0)) (.inl rfl) (.inl rfl) (fun _ _ => rfl)
  exact ⟨r.1, ((r.2.1 rfl).trans rfl)⟩
theorem ll_38 : (txC 38).length ≤ 1 := by decide +kernel
theorem lx_39 {tp : List Int} {ks : List Sg} (l : LXs tp ks) : LXs (tp ++ txC 39) (ks ++ [(35, 0, 0)]) ∧ enN (tp ++ txC 39) = false := by
  rw [show txC 39 = [32] ++ ([43] ++ [32]) by decide +kernel]
  have r := LX_w (pre := [32]) (w := [43]) (post := [32]) l (tk1_sg (by decide +kernel) : tk1 _ (35, 0, 0)) (.inr ⟨32, rfl, rfl⟩) (.inr ⟨32, rfl, rfl⟩) (fun z => absurd z (List.cons_ne_nil _ _))
  exact ⟨r.1, (r.2.2 (List.cons_ne_nil _ _))⟩
theorem ll_39 : (txC 39).length ≤ 3 := by decide +kernel
theorem lx_40 {tp : List Int} {ks : List Sg} (l : LXs tp ks) : LXs (tp ++ txC 40) (ks ++ [(36, 0, 0)]) ∧ enN (tp ++ txC 40) = false := by
  rw [show txC 40 = [] ++ ([45] ++ []) by decide +kernel]
  have r := LX_w (pre := []) (w := [45]) (post := []) l (tk1_sg (by decide +kernel) : tk1 _ (36, 0, 0)) (.inl rfl) (.inl rfl) (fun _ _ => rfl)
  exact ⟨r.1, ((r.2.1 rfl).trans rfl)⟩
theorem ll_40 : (txC 40).length ≤ 1 := by decide +kernel
theorem lx_41 {tp : List Int} {ks : List Sg} (l : LXs tp ks) : LXs (tp ++ txC 41) (ks ++ [(28, 0, 0)]) ∧ enN (tp ++ txC 41) = false := by
  rw [show txC 41 = [] ++ ([91] ++ []) by decide +kernel]
  have r := LX_w (pre := []) (w := [91]) (post := []) l (tk1_sg (by decide +kernel) : tk1 _ (28, 0, 0)) (.inl rfl) (.inl rfl) (fun _ _ => rfl)
  exact ⟨r.1, ((r.2.1 rfl).trans rfl)⟩
theorem ll_41 : (txC 41).length ≤ 1 := by decide +kernel
theorem lx_42 {tp : List Int} {ks : List Sg} (l : LXs tp ks) : LXs (tp ++ txC 42) (ks ++ [(29, 0, 0)]) ∧ enN (tp ++ txC 42) = false := by
  rw [show txC 42 = [] ++ ([93] ++ []) by decide +kernel]
  have r := LX_w (pre := []) (w := [93]) (post := []) l (tk1_sg (by decide +kernel) : tk1 _ (29, 0, 0)) (.inl rfl) (.inl rfl) (fun _ _ => rfl)
  exact ⟨r.1, ((r.2.1 rfl).trans rfl)⟩
theorem ll_42 : (txC 42).length ≤ 1 := by decide +kernel
theorem lx_43 {tp : List Int} {ks : List Sg} (l : LXs tp ks) (e : enN tp = false) : LXs (tp ++ txC 43) (ks ++ [(7, 0, 0)]) ∧ enN (tp ++ txC 43) = false := by
  rw [show txC 43 = [] ++ ([105, 110] ++ [32]) by decide +kernel]
  have r := LX_w (pre := []) (w := [105, 110]) (post := [32]) l (tk1_wd (by decide +kernel) : tk1 _ (7, 0, 0)) (.inl rfl) (.inr ⟨32, rfl, rfl⟩) (fun _ z => by rw [e] at z; cases z)
  exact ⟨r.1, (r.2.2 (List.cons_ne_nil _ _))⟩
theorem ll_43 : (txC 43).length ≤ 3 := by decide +kernel
theorem lx_45 {tp : List Int} {ks : List Sg} (l : LXs tp ks) : LXs (tp ++ txC 45) (ks ++ [(32, 0, 0)]) ∧ enN (tp ++ txC 45) = false := by
  rw [show txC 45 = [] ++ ([60] ++ []) by decide +kernel]
  have r := LX_w (pre := []) (w := [60]) (post := []) l (tk1_sg (by decide +kernel) : tk1 _ (32, 0, 0)) (.inl rfl) (.inl rfl) (fun _ _ => rfl)
  exact ⟨r.1, ((r.2.1 rfl).trans rfl)⟩
theorem ll_45 : (txC 45).length ≤ 1 := by decide +kernel
theorem lx_46 {tp : List Int} {ks : List Sg} (l : LXs tp ks) : LXs (tp ++ txC 46) (ks ++ [(33, 0, 0)]) ∧ enN (tp ++ txC 46) = false := by
  rw [show txC 46 = [32] ++ ([62] ++ [32]) by decide +kernel]
  have r := LX_w (pre := [32]) (w := [62]) (post := [32]) l (tk1_sg (by decide +kernel) : tk1 _ (33, 0, 0)) (.inr ⟨32, rfl, rfl⟩) (.inr ⟨32, rfl, rfl⟩) (fun z => absurd z (List.cons_ne_nil _ _))
  exact ⟨r.1, (r.2.2 (List.cons_ne_nil _ _))⟩
theorem ll_46 : (txC 46).length ≤ 3 := by decide +kernel
theorem lx_47 {tp : List Int} {ks : List Sg} (l : LXs tp ks) : LXs (tp ++ txC 47) (ks ++ [(34, 0, 0)]) ∧ enN (tp ++ txC 47) = false := by
  rw [show txC 47 = [] ++ ([61] ++ []) by decide +kernel]
  have r := LX_w (pre := []) (w := [61]) (post := []) l (tk1_sg (by decide +kernel) : tk1 _ (34, 0, 0)) (.inl rfl) (.inl rfl) (fun _ _ => rfl)
  exact ⟨r.1, ((r.2.1 rfl).trans rfl)⟩
theorem ll_47 : (txC 47).length ≤ 1 := by decide +kernel
theorem lx_48 {tp : List Int} {ks : List Sg} (l : LXs tp ks) (e : enN tp = false) : LXs (tp ++ txC 48) (ks ++ [(8, 0, 0)]) ∧ enN (tp ++ txC 48) = false := by
  rw [show txC 48 = [] ++ ([110, 111, 116] ++ [32]) by decide +kernel]
  have r := LX_w (pre := []) (w := [110, 111, 116]) (post := [32]) l (tk1_wd (by decide +kernel) : tk1 _ (8, 0, 0)) (.inl rfl) (.inr ⟨32, rfl, rfl⟩) (fun _ z => by rw [e] at z; cases z)
  exact ⟨r.1, (r.2.2 (List.cons_ne_nil _ _))⟩
theorem ll_48 : (txC 48).length ≤ 4 := by decide +kernel
theorem lx_49 {tp : List Int} {ks : List Sg} (l : LXs tp ks) : LXs (tp ++ txC 49) (ks ++ [(9, 0, 0)]) ∧ enN (tp ++ txC 49) = false := by
  rw [show txC 49 = [32] ++ ([97, 110, 100] ++ [32]) by decide +kernel]
  have r := LX_w (pre := [32]) (w := [97, 110, 100]) (post := [32]) l (tk1_wd (by decide +kernel) : tk1 _ (9, 0, 0)) (.inr ⟨32, rfl, rfl⟩) (.inr ⟨32, rfl, rfl⟩) (fun z => absurd z (List.cons_ne_nil _ _))
  exact ⟨r.1, (r.2.2 (List.cons_ne_nil _ _))⟩
theorem ll_49 : (txC 49).length ≤ 5 := by decide +kernel
theorem lx_50 {tp : List Int} {ks : List Sg} (l : LXs tp ks) : LXs (tp ++ txC 50) (ks ++ [(10, 0, 0)]) ∧ enN (tp ++ txC 50) = false := by
  rw [show txC 50 = [32] ++ ([111, 114] ++ [32]) by decide +kernel]
  have r := LX_w (pre := [32]) (w := [111, 114]) (post := [32]) l (tk1_wd (by decide +kernel) : tk1 _ (10, 0, 0)) (.inr ⟨32, rfl, rfl⟩) (.inr ⟨32, rfl, rfl⟩) (fun z => absurd z (List.cons_ne_nil _ _))
  exact ⟨r.1, (r.2.2 (List.cons_ne_nil _ _))⟩
theorem ll_50 : (txC 50).length ≤ 4 := by decide +kernel
theorem lx_62 {tp : List Int} {ks : List Sg} (l : LXs tp ks) (e : enN tp = false) : LXs (tp ++ txC 62) (ks ++ [(11, 0, 0)]) ∧ enN (tp ++ txC 62) = true := by
  rw [show txC 62 = [] ++ ([104, 111, 117, 114] ++ []) by decide +kernel]
  have r := LX_w (pre := []) (w := [104, 111, 117, 114]) (post := []) l (tk1_wd (by decide +kernel) : tk1 _ (11, 0, 0)) (.inl rfl) (.inl rfl) (fun _ z => by rw [e] at z; cases z)
  exact ⟨r.1, ((r.2.1 rfl).trans rfl)⟩
theorem ll_62 : (txC 62).length ≤ 4 := by decide +kernel
theorem lx_63 {tp : List Int} {ks : List Sg} (l : LXs tp ks) (e : enN tp = false) : LXs (tp ++ txC 63) (ks ++ [(12, 0, 0)]) ∧ enN (tp ++ txC 63) = true := by
  rw [show txC 63 = [] ++ ([107, 105, 110, 100] ++ []) by decide +kernel]
  have r := LX_w (pre := []) (w := [107, 105, 110, 100]) (post := []) l (tk1_wd (by decide +kernel) : tk1 _ (12, 0, 0)) (.inl rfl) (.inl rfl) (fun _ z => by rw [e] at z; cases z)
  exact ⟨r.1, ((r.2.1 rfl).trans rfl)⟩
theorem ll_63 : (txC 63).length ≤ 4 := by decide +kernel
theorem lx_64 {tp : List Int} {ks : List Sg} (l : LXs tp ks) (e : enN tp = false) : LXs (tp ++ txC 64) (ks ++ [(13, 0, 0)]) ∧ enN (tp ++ txC 64) = true := by
  rw [show txC 64 = [] ++ ([119, 101, 105, 103, 104, 116] ++ []) by decide +kernel]
  have r := LX_w (pre := []) (w := [119, 101, 105, 103, 104, 116]) (post := []) l (tk1_wd (by decide +kernel) : tk1 _ (13, 0, 0)) (.inl rfl) (.inl rfl) (fun _ z => by rw [e] at z; cases z)
  exact ⟨r.1, ((r.2.1 rfl).trans rfl)⟩
theorem ll_64 : (txC 64).length ≤ 6 := by decide +kernel
theorem lx_65 {tp : List Int} {ks : List Sg} (l : LXs tp ks) (e : enN tp = false) : LXs (tp ++ txC 65) (ks ++ [(14, 0, 0)]) ∧ enN (tp ++ txC 65) = true := by
  rw [show txC 65 = [] ++ ([119, 105, 110, 103] ++ []) by decide +kernel]
  have r := LX_w (pre := []) (w := [119, 105, 110, 103]) (post := []) l (tk1_wd (by decide +kernel) : tk1 _ (14, 0, 0)) (.inl rfl) (.inl rfl) (fun _ z => by rw [e] at z; cases z)
  exact ⟨r.1, ((r.2.1 rfl).trans rfl)⟩
theorem ll_65 : (txC 65).length ≤ 4 := by decide +kernel
theorem lx_fld {tp : List Int} {ks : List Sg} {f : Nat} (hf : f < 4) (l : LXs tp ks) (e : enN tp = false) : LXs (tp ++ txC (fid 0 f)) (ks ++ [(11 + f, 0, 0)]) ∧ enN (tp ++ txC (fid 0 f)) = true ∧ (txC (fid 0 f)).length ≤ 6 := by
  rcases (show f = 0 ∨ f = 1 ∨ f = 2 ∨ f = 3 by omega) with rfl | rfl | rfl | rfl
  · exact ⟨(lx_62 l e).1, (lx_62 l e).2, Nat.le_trans ll_62 (by decide)⟩
  · exact ⟨(lx_63 l e).1, (lx_63 l e).2, Nat.le_trans ll_63 (by decide)⟩
  · exact ⟨(lx_64 l e).1, (lx_64 l e).2, Nat.le_trans ll_64 (by decide)⟩
  · exact ⟨(lx_65 l e).1, (lx_65 l e).2, Nat.le_trans ll_65 (by decide)⟩
theorem lx_num {tp : List Int} {ks : List Sg} {n : Int} (h : 0 ≤ n ∧ n ≤ 999) (l : LXs tp ks) (e : enN tp = false) : LXs (tp ++ digs n) (ks ++ [(3, n, 0)]) ∧ enN (tp ++ digs n) = true := by
  obtain ⟨t, en⟩ := tk1_dg h
  have r := LXs_tk l t (fun z => by rw [e] at z; cases z)
  exact ⟨r.1, r.2.trans en⟩
