/-! The law's walk out of one run of the pure machine. -/
def h0 (xs : Nat → Int32) : PH := (fun a j => if a = 0 then xs j else 0, fun _ _ => 0, fun _ _ => (0, 0, 0), 1, 0)
def scr (L : Nat) : VV := .inr (.inr (.inr (45, L, 0)))
/-- what is wanting: the law answers 1 for every script -/
def LAW_OK : Prop := ∀ (L : Nat) (xs : Nat → Int32), L ≤ 260 → ∃ (n d : Nat) (h' : PH), d ≤ 1390 ∧ run n d 25 (0, entL 25 [scr L], [], h0 xs) = some (.inl (some (.inl 1)), h') ∧ hN h' ≤ 90000 ∧ hS h' ≤ 7301442
theorem law_25 : cnm (mow 25) = "CommaStreamLaw" ∧ mxl 25 = 19 ∧ mini 25 = false ∧ (layA [scr 0]).length = 1 := by decide +kernel
theorem law_mb : mb 25 = code := rfl
theorem end_one {cf : Cf} {h' : PH} (hs : step 25 cf = some (.inr (.inr (.inl (some (.inl 1)), h')))) : cf.2.2.1 = [.inl 1] ∧ cf.2.2.2 = h' ∧ fetch 25 cf.1 = some .ireturn := by
  obtain ⟨pc, lsv, st, h⟩ := cf
  have hs0 := hs
  unfold step at hs
  dsimp only at hs
  cases hf : fetch 25 pc with
  | none => rw [hf] at hs; cases hs
  | some i =>
  have hend := step_end hf hs0
  rw [hf] at hs
  cases i
  case ireturn =>
    replace hs : sRetI 25 st h = some (.inr (.inr (.inl (some (.inl 1)), h'))) := hs
    unfold sRetI at hs
    split at hs
    · rename_i x
      simp only [Bool.cond_eq_ite] at hs
      repeat' (split at hs)
      all_goals (cases hs <;> first | exact ⟨rfl, rfl, rfl⟩ | exact ⟨rfl, rfl, hf⟩)
    · cases hs
  case lreturn =>
    dsimp only at hs
    split at hs
    · cases (bif_t hs).2
    · cases hs
  case dreturn =>
    dsimp only at hs
    split at hs
    · cases (bif_t hs).2
    · cases hs
  case areturn =>
    dsimp only at hs
    split at hs
    · cases (bif_t hs).2
    · cases hs
  case return_ =>
    dsimp only at hs
    split at hs
    · cases (bif_t hs).2
    · cases hs
  case new idx =>
    replace hs : sNew 25 idx pc lsv st h = some (.inr (.inr (.inl (some (.inl 1)), h'))) := hs
    unfold sNew at hs
    simp only [nx, Bool.cond_eq_ite] at hs
    repeat' (split at hs)
    all_goals cases hs
  all_goals (exact absurd hend (by simp [endI]))
theorem law_start (ok : LAW_OK) {p : Program} {e : Env} {s : State} {m : MethodId} {below : List Frame} {meth : Method} {c : Code} (l : Launch) (hflags : l.flags = flags0) {b L : Nat} {xs : Nat → Int32} (hL : L ≤ 260) (C0 : lw_At p s m meth c b L xs) : W p l e room_1 s m #[Value.ref b] below meth c s.heap [] 0 0 (lw_Z below #[Value.ref b] s) (entryFrame m ([Value.ref b] : List Value).toArray 19) := by
  obtain ⟨hx, hb, hr, hml, hown, hts, hX, hbl, hlocks, hg⟩ := C0
  obtain ⟨n, d, h', hd, hrun, hn1, hn2⟩ := ok L xs hL
  obtain ⟨l1, l2, l3, -⟩ := law_25
  have hst : l.stackTraces = false := by unfold Launch.stackTraces; rw [hflags]; decide
  have hA : ∀ a : Nat, a < s.heap.size → ¬ pm_A (fun _ => 0) [] s.heap.size a := by
    intro a ha hq
    rcases hq with ⟨r, hr, -⟩ | hq
    · cases hr
    · exact absurd hq (by omega)
  obtain ⟨K, hko, kx1, kl1, ks1, hC⟩ := start_K (A := pm_A (fun _ => 0) [] s.heap.size) hts hg hX hbl hA
  have X : pm_X p s m #[Value.ref b] c K (pm_A (fun _ => 0) [] s.heap.size) 25 := ⟨hx, hb.trans law_mb.symm, hml.trans l2.symm, by rw [l1]; exact hown, fun w hw => ex_sel hts w (List.mem_filter.mp hw).1, hC, fun q hq => Or.inr hq⟩
  have hB : pm_B p l e room_1 s m #[Value.ref b] below meth c (lw_Z below #[Value.ref b] s) K (fun _ => 0) [] 1 0 25 d (.inl (some (.inl 1)), h') := by
    refine ⟨X, hko, fun z => (by rw [l3] at z; cases z), ⟨by show d + 10 ≤ 2048; omega, by show 60 * d + 300 ≤ 84000; omega⟩, ⟨by have q0 : 90000 ≤ room_1.cells := (by decide); show hN h' ≤ 1 + room_1.cells; omega, by have q0 : 7301442 ≤ room_1.slots := (by decide); show hS h' ≤ 0 + room_1.slots; omega⟩, fun cf hs => ?_, ?_⟩
    · obtain ⟨e1, e2, hf⟩ := end_one hs
      obtain ⟨pc, lsv, st, h1⟩ := cf
      dsimp only at e1 e2 hf
      subst e1
      subst e2
      obtain ⟨kk, hdc, hlen⟩ := fetch_ok hf
      obtain rfl := il (n := 1) hlen (by decide)
      intro ρ al H locs cells slots ls iH iS oH ix iN iM iL iV
      have iN : hN h1 = 1 + cells := iN
      have iM : hS h1 = 0 + slots := iM
      refine va_forget (fun q hq => ?_) (W.widen (k := 96868) (n := 8811096) (by omega) (by omega) ?_)
      · rcases iS.2.2 q hq with ⟨r, hr, -⟩ | h9
        · cases hr
        · exact h9
      · exact lw_ret (d0 := s.drawn) (Drawn.sameBut.refl s.drawn lw_cs) hx hb hr hlocks (by rw [← law_mb]; exact hdc)
    · intro pc x h2 hrr
      cases hh : hnd 25 pc x with
      | some k => rw [hnd_none] at hh; cases hh
      | none =>
        rw [hh] at hrr
        cases hrr
  have hcat := pm_ko_cat hko
  have oH : okH K [] (h0 xs) := by
    refine ⟨⟨fun r hr => (nomatch hr), fun i j p q hi => (by simp at hi), (by show 0 < 1; omega)⟩, fun r hr => (nomatch hr), fun a ha k => ?_, fun j => ?_⟩
    · have ha : 1 ≤ a := ha
      refine ⟨?_, rfl, rfl⟩
      show (if a = 0 then xs k else 0) = 0
      rw [if_neg (by omega)]
    · rw [ks1]
      rfl
  have iH : inH K (pm_A (fun _ => 0) [] s.heap.size) (fun _ => 0) [] (h0 xs) s.heap := ⟨fun k q hq => (by simp [pm_w] at hq), fun i j p q hi => (by simp [pm_w] at hi), fun k q hq => (by simp [pm_w] at hq)⟩
  have e9 : entryFrame m ([Value.ref b] : List Value).toArray 19 = F0 m 0 ((lg_sl ([scr L].map (pm_v K (fun _ => 0))) ++ List.replicate (mxl 25 - (lg_sl ([scr L].map (pm_v K (fun _ => 0)))).length) Slot.unset).toArray) [] := by
    have e8 : [scr L].map (pm_v K (fun _ => 0)) = [Value.ref b] := by
      show [pm_r K (fun _ => 0) (45, L, 0)] = _
      rw [pm_r_some (by show 0 < 45; omega) (by show 45 < 46; omega)]
      unfold pm_ad
      rw [if_neg (by show ¬ 45 = 40; omega), if_neg (by show ¬ 45 = 41; omega), if_neg (by show ¬ 45 = 42; omega), if_neg (by show ¬ 45 = 43; omega), if_neg (by show ¬ 45 = 44; omega), if_pos rfl, kx1]
    rw [e8, l2, lg_entry_eq]
  rw [e9]
  exact sim_all hst n hB (0, entL 25 [scr L], [], h0 xs) hrun (fun _ => 0) [] s.heap [] 0 0 _ iH ⟨Nat.le_refl _, fun _ _ _ => rfl, fun _ h => nomatch h⟩ oH (fun r hr => nomatch hr) rfl rfl (entL_rel hcat (by rw [l2]; show 1 ≤ 19; omega) (fun v hv => by
    rw [List.mem_singleton] at hv
    subst hv
    exact Or.inr (Or.inr (Or.inr (Or.inr (Or.inr (Or.inr (Or.inl ⟨rfl, kl1.symm, rfl⟩)))))))) (fun _ h => nomatch h)
