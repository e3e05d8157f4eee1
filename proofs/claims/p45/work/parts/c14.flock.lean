/-! A line with a flock. -/
theorem lx_53 {tp : List Int} {ks : List Sg} (l : LXs tp ks) : LXs (tp ++ txC 53) (ks ++ [(30, 0, 0)]) ∧ enN (tp ++ txC 53) = false := by
  rw [show txC 53 = [] ++ ([59] ++ [10]) by decide +kernel]
  have r := LX_w (pre := []) (w := [59]) (post := [10]) l (tk1_sg (by decide +kernel) : tk1 _ (30, 0, 0)) (.inl rfl) (.inr ⟨10, rfl, rfl⟩) (fun _ _ => rfl)
  exact ⟨r.1, (r.2.2 (List.cons_ne_nil _ _))⟩
theorem ll_53 : (txC 53).length ≤ 2 := by decide +kernel
theorem nmF_s (n : Nat) : nmF (n + 1) = nmF n ++ [193 + (n : Int)] := by unfold nmF; rw [List.range_succ, List.map_append]; rfl
theorem nmG_s (n : Nat) : nmG (n + 1) = nmG n ++ [225 + (n : Int)] := by unfold nmG; rw [List.range_succ, List.map_append]; rfl
theorem nmF_l (n : Nat) : (nmF n).length = n := by unfold nmF; rw [List.length_map, List.length_range]
theorem nmG_l (n : Nat) : (nmG n).length = n := by unfold nmG; rw [List.length_map, List.length_range]
theorem enN_sp {tp : List Int} {ks : List Sg} (l : LXs tp ks) : LXs (tp ++ [32]) ks ∧ enN (tp ++ [32]) = false := LXs_bk l rfl
/-- a word of the language, then a blank -/
theorem lx_kw {tp w : List Int} {ks : List Sg} {k : Nat} (l : LXs tp ks) (e : enN tp = false) (t : tk1 w (k, 0, 0)) : LXs (tp ++ (w ++ [32])) (ks ++ [(k, 0, 0)]) ∧ enN (tp ++ (w ++ [32])) = false := by
  have a := (LXs_tk l t (fun z => by rw [e] at z; cases z)).1
  rw [← List.append_assoc]
  exact enN_sp a
theorem lx_nm {tp : List Int} {ks : List Sg} (a : Nat) (ha : a = 102 ∨ a = 103) {i : Nat} (hi : i < 8) (l : LXs tp ks) (e : enN tp = false) : LXs (tp ++ [(a : Int), 97 + (i : Int)]) (ks ++ [(2, 0, ((a : Int) - 96) * 32 + 1 + i)]) := (LXs_tk l (tk1_nm a ha i hi).1 (fun z => by rw [e] at z; cases z)).1
theorem lx_flock {tp : List Int} {ks : List Sg} {mn : Nat} (hm : mn < 8) (l : LXs tp ks) (e : enN tp = false) : LXs (tp ++ (txC 54 ++ ([97 + (mn : Int)] ++ txC 55))) (ks ++ [(5, 0, 0), (2, 0, 193 + (mn : Int)), (6, 0, 0)]) ∧ enN (tp ++ (txC 54 ++ ([97 + (mn : Int)] ++ txC 55))) = false := by
  obtain ⟨l1, e1⟩ := lx_kw (w := [102, 108, 111, 99, 107]) (k := 5) l e (tk1_wd (by decide +kernel))
  have l2 := lx_nm 102 (.inl rfl) hm l1 e1
  obtain ⟨l3, e3⟩ := enN_sp l2
  obtain ⟨l4, e4⟩ := lx_kw (w := [116, 97, 107, 101, 115]) (k := 6) l3 e3 (tk1_wd (by decide +kernel))
  have t54 : txC 54 = [102, 108, 111, 99, 107] ++ ([32] ++ [102]) := by decide +kernel
  have t55 : txC 55 = [32] ++ ([116, 97, 107, 101, 115] ++ [32]) := by decide +kernel
  rw [show ((102 : Nat) : Int) - 96 = 6 by decide, show (6 * 32 + 1 + (mn : Int)) = 193 + (mn : Int) by omega] at l4
  have eq : tp ++ ([102, 108, 111, 99, 107] ++ [32]) ++ [((102 : Nat) : Int), 97 + (mn : Int)] ++ [32] ++ ([116, 97, 107, 101, 115] ++ [32]) = tp ++ (txC 54 ++ ([97 + (mn : Int)] ++ txC 55)) := by
    rw [t54, t55]
    simp only [List.append_assoc, List.cons_append, List.nil_append]
    rfl
  rw [eq] at l4 e4
  exact ⟨by simpa only [List.append_assoc, List.cons_append, List.nil_append] using l4, e4⟩
theorem BL_fl {h : PH} {L dr tk ln mn ra : Nat} {tp : List Int} (b : BKl h L dr tk ln tp) : BKl (fl7H h mn ra) L dr tk ln tp := by
  obtain ⟨b1, b2, b3, b4, b5, b6, b7, b8⟩ := b
  have k : Kp (hN h) (fun a => a = 83 ∨ a = 85) h (fl7H h mn ra) := fl7H_k b8
  exact ⟨⟨(setR_ne (by omega)).trans b1.1, b1.2⟩, (setI_ne (by decide)).trans b2, (setI_ne (by decide)).trans b3, (setI_ne (by decide)).trans b4, by rw [show (fl7H h mn ra).2.2.1 83 4 = h.2.2.1 83 4 from setR_ne (by omega)]; exact txR_Kp b5 k (Nat.le_refl _) (fun a ha => by omega), b6, Kp_Z k b7, b8⟩
theorem Pst_g {C : List Sg → List Cmd → Prop} {Z : (Ctx → Int32 → Int32) → Prop} {K D bd cc mn : Nat} {h : PH} {L dr tk ln : Nat} {ks : List Sg} {h1 : PH} {ra : Nat} (p : Pst C Z K D bd cc h L dr tk ln ks h1 ra) (g : gM mn h) : gM mn h1 := by
  obtain ⟨dr1, tk1, tp1, kk, c, f, p1, p2, -⟩ := p
  exact gM_f g p2
theorem fl_274 {d L dr tk ln mn : Nat} {x1 x2 x3 : Option VV} {tp : List Int} {ks : List Sg} {h : PH} {Q : Rs → PH → Prop} (hE : eTs 0 ≤ d) (b : BKh h L dr tk ln tp) (lx : LXs tp ks) (en : enN tp = false) (hg : gM mn h) (hm : mn < 8) (h6 : h.2.2.1 83 6 = (27, 8, 85)) (ht : tk ≤ 276) (ht2 : ln ≤ 236) (hd : dr ≤ 12 * tk + 1900) (k : ∀ h1 ra, Pst (cT mn 0) b01 12 19 14 16 h L dr tk ln ks h1 ra → Ev (d + 1) 161 (647, [some (.inr (.inr (.inr (11, 0, 83)))), x1, x2, x3], [], (fl7H h1 mn ra)) Q) : Ev (d + 1) 161 (274, [some (.inr (.inr (.inr (11, 0, 83)))), x1, x2, x3], [], h) Q := by
  refine Ev.sts 1 (c' := (275, [some (.inr (.inr (.inr (11, 0, 83)))), x1, x2, x3], [.inr (.inr (.inr (11, 0, 83)))], h)) rfl ?_
  refine Ev.gfr (r := (27, 8, 85)) rfl h6 ?_
  refine Ev.sts 1 (c' := (279, [some (.inr (.inr (.inr (11, 0, 83)))), x1, x2, x3], [.inr (.inr (.inr (11, 0, 83))), .inr (.inr (.inr (27, 8, 85)))], h)) rfl ?_
  refine Ev.gv (w := (iZ ((mn : Int)))) rfl hg.1 ?_
  refine Ev.sts 2 (c' := (284, [some (.inr (.inr (.inr (11, 0, 83)))), x1, x2, x3], [.inl (iZ (0)), .inr (.inr (.inr (11, 0, 83))), .inl (iZ ((mn : Int))), .inr (.inr (.inr (27, 8, 85)))], h)) rfl ?_
  refine Ev.callw (a := [.inr (.inr (.inr (11, 0, 83))), .inl (iZ (0))]) rfl (test_0 mn _ hE _ _ _ _ _ _ _ _ hg b lx en (by omega) (by omega) (by omega) (fun h1 ra P => ?_))
  have hg1 := Pst_g P hg
  refine Ev.sto (j := (iZ ((mn : Int)))) (n := 8) (h2 := (setR h1 85 mn (13, 0, ra))) (iZ_in (by omega) (by omega) (by omega)) rfl (by rw [iZ_ix (n := mn) (by omega) (by omega)]) ?_
  refine Ev.sts 2 (c' := (290, [some (.inr (.inr (.inr (11, 0, 83)))), x1, x2, x3], [.inr (.inr (.inr (11, 0, 83))), .inr (.inr (.inr (11, 0, 83)))], (setR h1 85 mn (13, 0, ra)))) rfl ?_
  refine Ev.gv (w := (iZ ((mn : Int)))) rfl hg1.1 ?_
  refine Ev.sts 1 (c' := (294, [some (.inr (.inr (.inr (11, 0, 83)))), x1, x2, x3], [.inl (iZ (1)), .inl (iZ ((mn : Int))), .inr (.inr (.inr (11, 0, 83)))], (setR h1 85 mn (13, 0, ra)))) rfl ?_
  refine Ev.gv (w := (iZ (((mn : Int)) + 1))) rfl (iZ_add _ _) ?_
  refine Ev.sts 2 (c' := (647, [some (.inr (.inr (.inr (11, 0, 83)))), x1, x2, x3], [], (setI (setR h1 85 mn (13, 0, ra)) 83 7 ((iZ (((mn : Int)) + 1)))))) rfl ?_
  exact k _ _ P

