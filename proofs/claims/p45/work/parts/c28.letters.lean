/-! Letters of a text. -/
theorem and255 {x : Int} (h : 0 ≤ x ∧ x < 128) : (iZ x &&& iZ 255 : Int32) = iZ x := by
  have f : ∀ i : Fin 128, (iZ (i.val : Int) &&& iZ 255 : Int32) = iZ (i.val : Int) := by decide +kernel
  have := f ⟨x.toNat, by omega⟩
  rw [show ((x.toNat : Nat) : Int) = x by omega] at this
  exact this
theorem st_idx {d i n : Nat} {h : PH} (hi : i < n) (hn : n ≤ 100000) : Rv (d + 1) 190 [.inl (iZ ((i : Int))), .inl (iZ ((n : Int)))] h (none) h := Rv.of fun Q q => by
  refine Ev.sts 3 (c' := (5, [some (.inl (iZ ((i : Int)))), some (.inl (iZ ((n : Int))))], [.inr (.inr (.inr (46, 0, 0))), .inl (iZ ((n : Int))), .inl (iZ ((i : Int)))], h)) rfl ?_
  refine Ev.callv (a := [.inl (iZ ((i : Int))), .inl (iZ ((n : Int))), .inr (.inr (.inr (46, 0, 0)))]) rfl (la_idx ⟨by omega, by omega⟩ (by omega)) ?_
  refine Ev.sts 1 (c' := (9, [some (.inl (iZ ((i : Int)))), some (.inl (iZ ((n : Int))))], [], h)) rfl ?_
  exact Ev.ret rfl (q)

theorem la_at_c {d i n v : Nat} {x : Int} {h : PH} (e : sbyt v i = iZ x) (hx : 0 ≤ x ∧ x < 128) (hi : i < n) (hn : n ≤ 100000) : Rv (d + 2) 211 [.inr (.inr (.inr (44, n, v))), .inl (iZ ((i : Int)))] h (some (.inl (iZ x))) h := Rv.of fun Q q => by
  refine Ev.sts 2 (c' := (2, [some (.inr (.inr (.inr (44, n, v)))), some (.inl (iZ ((i : Int))))], [.inr (.inr (.inr (44, n, v))), .inl (iZ ((i : Int)))], h)) rfl ?_
  refine Ev.gv (w := (iZ (n))) rfl (iZ_nat _) ?_
  refine Ev.callv (a := [.inl (iZ ((i : Int))), .inl (iZ (n))]) rfl (st_idx hi hn) ?_
  refine Ev.sts 2 (c' := (8, [some (.inr (.inr (.inr (44, n, v)))), some (.inl (iZ ((i : Int))))], [.inl (iZ ((i : Int))), .inr (.inr (.inr (44, n, v)))], h)) rfl ?_
  refine Ev.ldv (j := (iZ ((i : Int)))) (n := n) (w := .inl (iZ (x))) (iZ_in (by omega) (by omega) (by omega)) rfl (by rw [iZ_ix (n := i) (by omega) (by omega)]; exact congrArg vI e) ?_
  refine Ev.sts 1 (c' := (12, [some (.inr (.inr (.inr (44, n, v)))), some (.inl (iZ ((i : Int))))], [.inl (iZ (255)), .inl (iZ (x))], h)) rfl ?_
  refine Ev.gv (w := (iZ (x))) rfl (and255 hx) ?_
  refine Ev.gv (w := (iZ (x))) rfl (i2c_s ⟨by omega, by omega⟩) ?_
  exact Ev.retC rfl (i2c_s ⟨by omega, by omega⟩) (q)

theorem la_at_o {d i n v : Nat} {x : Int} {h : PH} (e : h.1 v i = iZ x) (hx : 0 ≤ x ∧ x < 128) (hi : i < n) (hn : n ≤ 100000) : Rv (d + 2) 211 [.inr (.inr (.inr (22, n, v))), .inl (iZ ((i : Int)))] h (some (.inl (iZ x))) h := Rv.of fun Q q => by
  refine Ev.sts 2 (c' := (2, [some (.inr (.inr (.inr (22, n, v)))), some (.inl (iZ ((i : Int))))], [.inr (.inr (.inr (22, n, v))), .inl (iZ ((i : Int)))], h)) rfl ?_
  refine Ev.gv (w := (iZ (n))) rfl (iZ_nat _) ?_
  refine Ev.callv (a := [.inl (iZ ((i : Int))), .inl (iZ (n))]) rfl (st_idx hi hn) ?_
  refine Ev.sts 2 (c' := (8, [some (.inr (.inr (.inr (22, n, v)))), some (.inl (iZ ((i : Int))))], [.inl (iZ ((i : Int))), .inr (.inr (.inr (22, n, v)))], h)) rfl ?_
  refine Ev.ldv (j := (iZ ((i : Int)))) (n := n) (w := .inl (iZ (x))) (iZ_in (by omega) (by omega) (by omega)) rfl (by rw [iZ_ix (n := i) (by omega) (by omega)]; exact congrArg vI e) ?_
  refine Ev.sts 1 (c' := (12, [some (.inr (.inr (.inr (22, n, v)))), some (.inl (iZ ((i : Int))))], [.inl (iZ (255)), .inl (iZ (x))], h)) rfl ?_
  refine Ev.gv (w := (iZ (x))) rfl (and255 hx) ?_
  refine Ev.gv (w := (iZ (x))) rfl (i2c_s ⟨by omega, by omega⟩) ?_
  exact Ev.retC rfl (i2c_s ⟨by omega, by omega⟩) (q)

theorem st_at_c {d k i : Nat} {x : Int} {h : PH} (e : sbyt k i = iZ x) (hi : i < slen k) (hn : slen k ≤ 100000) (hx : 0 ≤ x ∧ x < 128) : Rv (d + 3) 191 [.inr (.inr (.inr (43, 0, k))), .inl (iZ ((i : Int)))] h (some (.inl (iZ x))) h := Rv.of fun Q q => by
  refine Ev.sts 1 (c' := (1, [some (.inr (.inr (.inr (43, 0, k)))), some (.inl (iZ ((i : Int))))], [.inr (.inr (.inr (43, 0, k)))], h)) rfl ?_
  refine Ev.callv (a := [.inr (.inr (.inr (43, 0, k)))]) rfl t1_isL_c ?_
  refine Ev.brF (p := (iZ (1)) = (iZ (0))) (c1 := (16, [some (.inr (.inr (.inr (43, 0, k)))), some (.inl (iZ ((i : Int))))], [], h)) (c2 := (7, [some (.inr (.inr (.inr (43, 0, k)))), some (.inl (iZ ((i : Int))))], [], h)) (by decide) rfl ?_
  refine Ev.sts 3 (c' := (12, [some (.inr (.inr (.inr (43, 0, k)))), some (.inl (iZ ((i : Int))))], [.inl (iZ ((i : Int))), .inr (.inr (.inr (44, (slen k), k)))], h)) rfl ?_
  refine Ev.callv (a := [.inr (.inr (.inr (44, (slen k), k))), .inl (iZ ((i : Int)))]) rfl (la_at_c e hx hi hn) ?_
  exact Ev.retC rfl (i2c_s ⟨by omega, by omega⟩) (q)

theorem st_at_o {d a n v i : Nat} {x : Int} {h : PH} (e0 : h.2.2.1 a 0 = (22, n, v)) (e1 : h.1 a 1 = iZ 0) (e : h.1 v i = iZ x) (hi : i < n) (hn : n ≤ 100000) (hx : 0 ≤ x ∧ x < 128) : Rv (d + 3) 191 [.inr (.inr (.inr (14, 0, a))), .inl (iZ ((i : Int)))] h (some (.inl (iZ x))) h := Rv.of fun Q q => by
  refine Ev.sts 1 (c' := (1, [some (.inr (.inr (.inr (14, 0, a)))), some (.inl (iZ ((i : Int))))], [.inr (.inr (.inr (14, 0, a)))], h)) rfl ?_
  refine Ev.callv (a := [.inr (.inr (.inr (14, 0, a)))]) rfl (t1_isL_o e0 e1) ?_
  refine Ev.brF (p := (iZ (1)) = (iZ (0))) (c1 := (16, [some (.inr (.inr (.inr (14, 0, a)))), some (.inl (iZ ((i : Int))))], [], h)) (c2 := (7, [some (.inr (.inr (.inr (14, 0, a)))), some (.inl (iZ ((i : Int))))], [], h)) (by decide) rfl ?_
  refine Ev.sts 1 (c' := (8, [some (.inr (.inr (.inr (14, 0, a)))), some (.inl (iZ ((i : Int))))], [.inr (.inr (.inr (14, 0, a)))], h)) rfl ?_
  refine Ev.gfr (r := (22, n, v)) rfl e0 ?_
  refine Ev.sts 1 (c' := (12, [some (.inr (.inr (.inr (14, 0, a)))), some (.inl (iZ ((i : Int))))], [.inl (iZ ((i : Int))), .inr (.inr (.inr (22, n, v)))], h)) rfl ?_
  refine Ev.callv (a := [.inr (.inr (.inr (22, n, v))), .inl (iZ ((i : Int)))]) rfl (la_at_o e hx hi hn) ?_
  exact Ev.retC rfl (i2c_s ⟨by omega, by omega⟩) (q)

theorem tx_charAt {d lo N i : Nat} {r : VR} {T : List Int} {h : PH} (t : txR h lo N r T) (as : asT T) (hi : i < T.length) (hn : T.length ≤ 100000) : Rv (d + 3) 191 [.inr (.inr (.inr r)), .inl (iZ ((i : Int)))] h (some (.inl (iZ (T.getD i 0)))) h := by
  have a := asT_get as i
  rcases t with ⟨k, rfl, rfl⟩ | ⟨b, v, rfl, -, e0, e1, e2⟩
  · exact st_at_c (txC_get k i) (by rw [← txC_len]; exact hi) (by rw [← txC_len]; exact hn) a
  · exact st_at_o e0 e1 (e2 i hi) hi hn a
