/-! A whole line with a goose. -/
theorem FB_KG {h h2 h3 : PH} {ga : Nat} (f : FB h h2) (g : KGa ga h2 h3) (hga : hN h ≤ ga) : FB h h3 := ⟨Kp_t f.1 (Kp_m g.1 (FB_n f) (fun x hx e => e.elim (fun z => z) (fun z => absurd z (by omega)))), fun k k1 k2 => (g.2.1 k k1).trans (f.2.1 k k1 k2), fun k k4 => (g.2.2 k k4).trans (f.2.2 k k4)⟩
theorem BL_go {h : PH} {L dr tk ln al ga : Nat} {tp : List Int} (b : BKl h L dr tk ln tp) : BKl (go7H h al ga) L dr tk ln tp := by
  obtain ⟨b1, b2, b3, b4, b5, b6, b7, b8⟩ := b
  have k : Kp (hN h) (fun a => a = 83 ∨ a = 86) h (go7H h al ga) := go7H_k b8
  exact ⟨⟨(setR_ne (by omega)).trans b1.1, b1.2⟩, (setI_ne (by decide)).trans b2, (setI_ne (by decide)).trans b3, (setI_ne (by decide)).trans b4, by rw [show (go7H h al ga).2.2.1 83 4 = h.2.2.1 83 4 from setR_ne (by omega)]; exact txR_Kp b5 k (Nat.le_refl _) (fun a ha => by omega), b6, Kp_Z k b7, b8⟩
theorem BL_87 {h : PH} {L dr tk ln al : Nat} {r : VR} {tp : List Int} (b : BKl h L dr tk ln tp) : BKl (setR h 87 al r) L dr tk ln tp := by
  obtain ⟨b1, b2, b3, b4, b5, b6, b7, b8⟩ := b
  have k : Kp (hN h) (fun a => a = 87) h (setR h 87 al r) := Kp_R (fun _ => rfl)
  exact ⟨⟨(setR_ne (by omega)).trans b1.1, b1.2⟩, b2, b3, b4, by rw [show (setR h 87 al r).2.2.1 83 4 = h.2.2.1 83 4 from setR_ne (by omega)]; exact txR_Kp b5 k (Nat.le_refl _) (fun a ha => by omega), b6, Kp_Z k b7, b8⟩
theorem ge_627 {d L dr tk t0 nl mn al ga wk tl : Nat} {w0 n st : Int} {x1 x2 : Option VV} {tp : List Int} {ks kk : List Sg} {c : List Cmd} {s : Sm} {h : PH} {Q : Rs → PH → Prop} (b : BKl h L dr tk t0 tp) (lx : LXs tp (ks ++ ((15, 0, 0) :: (2, 0, 225 + (al : Int)) :: (16, 0, 0) :: (2, 0, 193 + w0) :: (wiK n st wk ++ ((20, 0, 0) :: teK kk tl))))) (bs : BKs ks s nl) (bi : BIs s) (fF : smF s = nmF mn) (fG : smG s = nmG al) (H : HB h (bkO s) mn al) (ha6 : al < 6) (hga : 87 < ga ∧ ga < hN h) (row : h.1 ga 0 = iZ w0 ∧ h.1 ga 1 = iZ n ∧ h.1 ga 2 = iZ (lWin wk st) ∧ h.1 ga 3 = iZ (tl : Int)) (hw0 : 0 ≤ w0 ∧ w0 < mn) (hn : 1 ≤ n ∧ n ≤ 200) (htl : tl < 4) (hwk : (2 ≤ wk → 1 ≤ st ∧ st ≤ n ∧ n / st ≤ 6) ∧ (wk = 1 → st = n) ∧ (wk = 0 → st = 1) ∧ wk ≤ 2) (v : tl ≠ 0 → VPk 6 kk c) (v0 : tl = 0 → c = []) (ev : tl ≠ 0 → ∃ fn, TRr h 87 (hN h) 8 (h.2.2.1 87 al) fn ∧ EVk c fn 9) (hl : tp.length ≤ 6 * tk + 22) (ht : tk ≤ 260) (hk : ks.length + (teK kk tl).length + 10 ≤ tk + 12) (hd : dr ≤ 12 * tk + 100) (k : ∀ h1 tp1 ks1 s1, LSt h1 L dr tk tp1 ks1 s1 (nl + 1) mn (al + 1) → Kp 83 nA h h1 → hN h1 ≤ hN h + 6 → hS h1 ≤ hS h + 5 * (tp.length + 2) + 30 → Ev (d + 6) 161 (673, [some (.inr (.inr (.inr (11, 0, 83)))), x1, x2, some (.inr (.inr (.inr (20, 4, ga))))], [], h1) Q) : Ev (d + 6) 161 (627, [some (.inr (.inr (.inr (11, 0, 83)))), x1, x2, some (.inr (.inr (.inr (20, 4, ga))))], [], h) Q := by
  have h88 := b.2.2.2.2.2.2.2
  refine gt_627 (d := d + 6) H.2.1.2.2.1 ha6 H.2.1.2.2.2.1 ?_
  have m8 := H.1.2.1
  have lW : 0 ≤ lWin wk st ∧ lWin wk st ≤ n ∧ (lWin wk st ≠ 0 → n / lWin wk st ≤ 6) := by
    obtain ⟨k1, k2, k3, k4⟩ := hwk
    unfold lWin
    by_cases z : wk = 0
    · rw [if_pos z]; exact ⟨by omega, by omega, fun y => absurd rfl y⟩
    · rw [if_neg z]
      by_cases z1 : wk = 1
      · rw [k2 z1]; exact ⟨by omega, by omega, fun _ => by rw [Int.ediv_self (by omega)]; omega⟩
      · obtain ⟨a, e, f⟩ := k1 (by omega); exact ⟨by omega, e, fun _ => f⟩
  have H1 := HB_go (G := (w0.toNat, n, lWin wk st, tl, c)) h88 H ha6 hga ⟨by rw [row.1]; show iZ w0 = iZ ((w0.toNat : Nat) : Int); rw [show ((w0.toNat : Nat) : Int) = w0 by omega], row.2.1, row.2.2.1, row.2.2.2⟩ ⟨by show w0.toNat < mn; omega, hn.1, hn.2, lW.1, lW.2.1, lW.2.2, htl⟩ ev
  have b1 := BL_go (al := al) (ga := ga) b
  refine tw_end b1 (by omega) (fun hc bc fc nc mc _ => ?_)
  have e53 : (txC 53).length = 2 := by decide +kernel
  have h8g : 88 ≤ hN (go7H h al ga) := h88
  have Hc := HB_F h8g fc.1 H1
  have lx5 := lx_53 lx
  have k1 := (lk_F ⟨mn, by omega⟩ ⟨al, by omega⟩).2.2.1
  have k2 := (lk_F ⟨al, by omega⟩ ⟨al, by omega⟩).2.2.2
  have k3 := (lk_F ⟨mn, by omega⟩ ⟨w0.toNat, by omega⟩).1
  rw [if_neg (Nat.lt_irrefl _)] at k2
  rw [if_pos (show w0.toNat < mn by omega)] at k3
  have k4 : lk (nmF mn) (193 + w0) = w0 := by
    have e : ((w0.toNat : Nat) : Int) = w0 := by omega
    rw [← e]; exact k3
  have bs1 := BKs_goose (wk := wk) (tl := tl) (w := 225 + (al : Int)) (wf := 193 + w0) (n := n) (st := st) (fi := w0) bs bi htl v v0 (by rw [fF]; exact k1) (by rw [fG]; exact k2) (by rw [fG, nmG_l]; exact ha6) (by rw [fF]; exact k4) hw0.1 hn hwk.1 hwk.2.1 hwk.2.2.1
  have bi1 := sGo_B (w := 225 + (al : Int)) (fi := w0) (gap := 0) (n := n) (st := st) (gp := if wk = 0 then 1 else 0) (tl := tl) (c := c) bi
  have eG : (if (if wk = 0 then 1 else 0) = 1 then (0 : Int) else st) = lWin wk st := by
    unfold lWin
    by_cases z : wk = 0
    · rw [if_pos z, if_pos z, if_pos rfl]
    · rw [if_neg z, if_neg z, if_neg (by decide)]
  rw [eG] at bi1
  refine k hc _ _ _ ⟨⟨_, bc⟩, by simpa only [List.append_assoc, List.cons_append, List.nil_append] using lx5.1, lx5.2, bs1, bi1.1, fF, ?_, by rw [bi1.2]; exact Hc, by rw [List.length_append]; omega, ?_, hd⟩ ?_ ?_ ?_
  · show smG s ++ [225 + (al : Int)] = nmG (al + 1)
    rw [fG, nmG_s]
  · simp only [List.length_append, List.length_cons, List.length_nil]
    have lw : (wiK n st wk).length ≤ 4 := by
      match wk with
      | 0 => exact (by decide : 2 ≤ 4)
      | 1 => exact (by decide : 2 ≤ 4)
      | _ + 2 => exact Nat.le_refl _
    omega
  · exact Kp_t (Kp_m (go7H_k (N := 83) h88) (Nat.le_refl _) (fun x hx e => by omega)) (KL_F h8g fc.1)
  · have : hN (go7H h al ga) = hN h := rfl
    omega
  · have : hS (go7H h al ga) = hS h := rfl
    omega
